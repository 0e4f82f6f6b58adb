def fMo (a : Nat → Nat) (i : IV) : List Value := [.ref (a 0), .ref (a 1), .ref (a 2), .ref (a 3), .ref (a 4), .int (i 5), .int (i 6), .ref (a 7), .int (i 8), .int (i 9), .int (i 10), .int (i 11), .int (i 12), .int (i 13), .ref (a 14), .ref (a 15), .ref (a 16), .ref (a 17), .ref (a 18), .ref (a 19), .ref (a 20), .ref (a 21), .int (i 22), .ref (a 23), .ref (a 24), .ref (a 25), .ref (a 26), .ref (a 27), .int (i 28)]
abbrev oMo (a : Nat → Nat) (i : IV) : va_E := .inr (12, fMo a i)
theorem gMo_0 (a : Nat → Nat) (i : IV) : (fMo a i)[0]? = some (.ref (a 0)) := rfl
theorem gMo_1 (a : Nat → Nat) (i : IV) : (fMo a i)[1]? = some (.ref (a 1)) := rfl
theorem gMo_2 (a : Nat → Nat) (i : IV) : (fMo a i)[2]? = some (.ref (a 2)) := rfl
theorem gMo_3 (a : Nat → Nat) (i : IV) : (fMo a i)[3]? = some (.ref (a 3)) := rfl
theorem gMo_4 (a : Nat → Nat) (i : IV) : (fMo a i)[4]? = some (.ref (a 4)) := rfl
theorem gMo_5 (a : Nat → Nat) (i : IV) : (fMo a i)[5]? = some (.int (i 5)) := rfl
theorem sMo_5 (a : Nat → Nat) (i : IV) (x : Int32) : (fMo a i).set 5 (.int x) = fMo a (upd i 5 x) := rfl
theorem gMo_6 (a : Nat → Nat) (i : IV) : (fMo a i)[6]? = some (.int (i 6)) := rfl
theorem sMo_6 (a : Nat → Nat) (i : IV) (x : Int32) : (fMo a i).set 6 (.int x) = fMo a (upd i 6 x) := rfl
theorem gMo_7 (a : Nat → Nat) (i : IV) : (fMo a i)[7]? = some (.ref (a 7)) := rfl
theorem gMo_8 (a : Nat → Nat) (i : IV) : (fMo a i)[8]? = some (.int (i 8)) := rfl
theorem sMo_8 (a : Nat → Nat) (i : IV) (x : Int32) : (fMo a i).set 8 (.int x) = fMo a (upd i 8 x) := rfl
theorem gMo_9 (a : Nat → Nat) (i : IV) : (fMo a i)[9]? = some (.int (i 9)) := rfl
theorem sMo_9 (a : Nat → Nat) (i : IV) (x : Int32) : (fMo a i).set 9 (.int x) = fMo a (upd i 9 x) := rfl
theorem gMo_10 (a : Nat → Nat) (i : IV) : (fMo a i)[10]? = some (.int (i 10)) := rfl
theorem sMo_10 (a : Nat → Nat) (i : IV) (x : Int32) : (fMo a i).set 10 (.int x) = fMo a (upd i 10 x) := rfl
theorem gMo_11 (a : Nat → Nat) (i : IV) : (fMo a i)[11]? = some (.int (i 11)) := rfl
theorem sMo_11 (a : Nat → Nat) (i : IV) (x : Int32) : (fMo a i).set 11 (.int x) = fMo a (upd i 11 x) := rfl
theorem gMo_12 (a : Nat → Nat) (i : IV) : (fMo a i)[12]? = some (.int (i 12)) := rfl
theorem sMo_12 (a : Nat → Nat) (i : IV) (x : Int32) : (fMo a i).set 12 (.int x) = fMo a (upd i 12 x) := rfl
theorem gMo_13 (a : Nat → Nat) (i : IV) : (fMo a i)[13]? = some (.int (i 13)) := rfl
theorem sMo_13 (a : Nat → Nat) (i : IV) (x : Int32) : (fMo a i).set 13 (.int x) = fMo a (upd i 13 x) := rfl
theorem gMo_14 (a : Nat → Nat) (i : IV) : (fMo a i)[14]? = some (.ref (a 14)) := rfl
theorem gMo_15 (a : Nat → Nat) (i : IV) : (fMo a i)[15]? = some (.ref (a 15)) := rfl
theorem gMo_16 (a : Nat → Nat) (i : IV) : (fMo a i)[16]? = some (.ref (a 16)) := rfl
theorem gMo_17 (a : Nat → Nat) (i : IV) : (fMo a i)[17]? = some (.ref (a 17)) := rfl
theorem gMo_18 (a : Nat → Nat) (i : IV) : (fMo a i)[18]? = some (.ref (a 18)) := rfl
theorem gMo_19 (a : Nat → Nat) (i : IV) : (fMo a i)[19]? = some (.ref (a 19)) := rfl
theorem gMo_20 (a : Nat → Nat) (i : IV) : (fMo a i)[20]? = some (.ref (a 20)) := rfl
theorem gMo_21 (a : Nat → Nat) (i : IV) : (fMo a i)[21]? = some (.ref (a 21)) := rfl
theorem gMo_22 (a : Nat → Nat) (i : IV) : (fMo a i)[22]? = some (.int (i 22)) := rfl
theorem sMo_22 (a : Nat → Nat) (i : IV) (x : Int32) : (fMo a i).set 22 (.int x) = fMo a (upd i 22 x) := rfl
theorem gMo_23 (a : Nat → Nat) (i : IV) : (fMo a i)[23]? = some (.ref (a 23)) := rfl
theorem gMo_24 (a : Nat → Nat) (i : IV) : (fMo a i)[24]? = some (.ref (a 24)) := rfl
theorem gMo_25 (a : Nat → Nat) (i : IV) : (fMo a i)[25]? = some (.ref (a 25)) := rfl
theorem gMo_26 (a : Nat → Nat) (i : IV) : (fMo a i)[26]? = some (.ref (a 26)) := rfl
theorem gMo_27 (a : Nat → Nat) (i : IV) : (fMo a i)[27]? = some (.ref (a 27)) := rfl
theorem gMo_28 (a : Nat → Nat) (i : IV) : (fMo a i)[28]? = some (.int (i 28)) := rfl
theorem sMo_28 (a : Nat → Nat) (i : IV) (x : Int32) : (fMo a i).set 28 (.int x) = fMo a (upd i 28 x) := rfl
theorem fkMo : FKt 12 RX12 TX12 29 tyX12 := ⟨rfl, inX12, tyX12_ok, nmX12⟩
abbrev wMo (g : GX) (mo : Nat) (a : Nat → Nat) (o : IV) (now : LV) (dr : LV) (pa : LV) (sa : LV) (iS : IV) (bu : IV) (tq : IV) (rT : IV) (wT : IV) (sK : IV) (sA : IV) (sB : IV) (sE : IV) (oq : IV) (bS : IV) (bE : IV) (bL : IV) (rp : IV) : va_W := [(mo, oMo a o), ((a 0), aL g 215 now), ((a 1), aL g 215 dr), ((a 2), aL g 1720 pa), ((a 3), aL g 430 sa), ((a 4), aZ g 2 iS), ((a 7), aI g 600 bu), ((a 14), aZ g 6 tq), ((a 15), aZ g 5 rT), ((a 16), aZ g 2 wT), ((a 17), aR g 6 10 (fun j => some (g.2.2.2 (j + 9)))), ((a 18), aI g 30 sK), ((a 19), aI g 30 sA), ((a 20), aI g 30 sB), ((a 21), aI g 30 sE), ((a 23), aI g 2 oq), ((a 24), aI g 2 bS), ((a 25), aI g 2 bE), ((a 26), aI g 2 bL), ((a 27), aB g 2000 rp)]
abbrev rm_Mo_thrown : Room := { frames := 0, cells := 0, slots := 0, locals := 0 }
noncomputable def sp_Mo_thrown (o : IV) : Int32 := o 6
set_option maxRecDepth 100000 in
set_option maxHeartbeats 4000000 in
theorem c_Mo_thrown (l : Launch) (g : GX) (mo : Nat) (a : Nat → Nat) (o : IV) (now : LV) (dr : LV) (pa : LV) (sa : LV) (iS : IV) (bu : IV) (tq : IV) (rT : IV) (wT : IV) (sK : IV) (sA : IV) (sB : IV) (sE : IV) (oq : IV) (bS : IV) (bE : IV) (bL : IV) (rp : IV)  : Met l y_Mo_thrown (wsY y_Mo_thrown b_Mo_thrown 1 (some .int)) rm_Mo_thrown (CP g [.ref mo] (wMo g mo a o now dr pa sa iS bu tq rT wT sK sA sB sE oq bS bE bL rp)) (CI0 g (wMo g mo a o now dr pa sa iS bu tq rT wT sK sA sB sE oq bS bE bL rp) (sp_Mo_thrown o)) 0 0 (inW (wMo g mo a o now dr pa sa iS bu tq rT wT sK sA sB sE oq bS bE bL rp)) := by
  refine Met.ofW (cc := b_Mo_thrown) (maxL := 1) (ret := (some .int)) pn_Mo rfl ?_
  intro p e s m args below meth c s₁ B hml hv
  obtain ⟨rfl, C, hP, hD, hS⟩ := enter "DecadeBridgeModel" rfl B hml hv
  obtain ⟨hx, hb, hr, hml, hown, hlk, hts, hK, hZo, hZ⟩ := id C
  refine entryW (lv := [(0, .ref mo)]) rfl (Nat.le_of_ble_eq_true rfl) (fun ls hl => ?_)
  obtain ⟨z, hz⟩ : ∃ z, z = sp_Mo_thrown o := ⟨_, rfl⟩
  rw [← hz]
  unfold sp_Mo_thrown at hz
  refine lv_aload_n hx hb d_Mo_thrown_0 rfl (lv_at hl 0 rfl) ?_
  refine gf C hP 0 6 fkMo rfl (by decide) rfl qf_Mo_107 (gMo_6 _ _) d_Mo_thrown_1 ?_
  exact endI0 C hz hP hS d_Mo_thrown_4
abbrev rm_Mo_raise : Room := { frames := 0, cells := 0, slots := 0, locals := 0 }
noncomputable def sp_Mo_raise (p1 : Int32) (o : IV) : Int32 × IV := lett (upd o 6 p1) fun (o_1 : IV) => ((0 : Int32), o_1)
set_option maxRecDepth 100000 in
set_option maxHeartbeats 4000000 in
theorem c_Mo_raise (l : Launch) (g : GX) (mo : Nat) (a : Nat → Nat) (o : IV) (now : LV) (dr : LV) (pa : LV) (sa : LV) (iS : IV) (bu : IV) (tq : IV) (rT : IV) (wT : IV) (sK : IV) (sA : IV) (sB : IV) (sE : IV) (oq : IV) (bS : IV) (bE : IV) (bL : IV) (rp : IV) (p1 : Int32) : Met l y_Mo_raise (wsY y_Mo_raise b_Mo_raise 2 (some .int)) rm_Mo_raise (CP g [.ref mo, .int p1] (wMo g mo a o now dr pa sa iS bu tq rT wT sK sA sB sE oq bS bE bL rp)) (CI g (wMo g mo a o now dr pa sa iS bu tq rT wT sK sA sB sE oq bS bE bL rp) (fun u : IV => wMo g mo a u now dr pa sa iS bu tq rT wT sK sA sB sE oq bS bE bL rp) (sp_Mo_raise p1 o)) 0 0 (inW (wMo g mo a o now dr pa sa iS bu tq rT wT sK sA sB sE oq bS bE bL rp)) := by
  refine Met.ofW (cc := b_Mo_raise) (maxL := 2) (ret := (some .int)) pn_Mo rfl ?_
  intro p e s m args below meth c s₁ B hml hv
  obtain ⟨rfl, C, hP, hD, hS⟩ := enter "DecadeBridgeModel" rfl B hml hv
  obtain ⟨hx, hb, hr, hml, hown, hlk, hts, hK, hZo, hZ⟩ := id C
  refine entryW (lv := [(0, .ref mo), (1, .int p1)]) rfl (Nat.le_of_ble_eq_true rfl) (fun ls hl => ?_)
  obtain ⟨z, hz⟩ : ∃ z, z = sp_Mo_raise p1 o := ⟨_, rfl⟩
  rw [← hz]
  unfold sp_Mo_raise at hz
  refine lv_aload_n hx hb d_Mo_raise_0 rfl (lv_at hl 0 rfl) ?_
  refine lv_iload_n hx hb d_Mo_raise_1 rfl (lv_at hl 1 rfl) ?_
  refine pfI C hP hD hS 0 6 fkMo rfl (by decide) rfl qf_Mo_107 rfl rfl rfl (Nat.le_of_ble_eq_true rfl) (ff := fun o => fMo a o) (sMo_6 _ _ _) d_Mo_raise_2 (fun o_1 eo_1 H locs hP hD hS => ?_)
  have hP : va_P g.1 vwCl (wMo g mo a o_1 now dr pa sa iS bu tq rT wT sK sA sB sE oq bS bE bL rp) H := hP
  have hD : va_D (inW (wMo g mo a o now dr pa sa iS bu tq rT wT sK sA sB sE oq bS bE bL rp)) (wMo g mo a o_1 now dr pa sa iS bu tq rT wT sK sA sB sE oq bS bE bL rp) := hD
  have hz := lett_z hz eo_1
  refine lv_iconst (v := 0) hx hb d_Mo_raise_5 (by decide) ?_
  exact endI1 C hz hP hS d_Mo_raise_6
abbrev rm_Mo_in : Room := { frames := 0, cells := 0, slots := 0, locals := 0 }
def HL_Mo_in_17 (p : Program) (l : Launch) (e : Env) (s : State) (m : MethodId) (args : Array Value) (below : List Frame) (meth : Method) (c : Code) (g : GX) (mo : Nat) (a : Nat → Nat) (o : IV) (now : LV) (dr : LV) (pa : LV) (sa : LV) (iS : IV) (bu : IV) (tq : IV) (rT : IV) (wT : IV) (sK : IV) (sA : IV) (sB : IV) (sE : IV) (oq : IV) (bS : IV) (bE : IV) (bL : IV) (rp : IV) (sp : Int32) (ok : Prop) : Prop := ∀ (_ : Unit), ok → ∀ z : Int32, z = sp → ∀ (H : Heap) (locs : List Loc) (ls : Array Slot), va_P g.1 vwCl (wMo g mo a o now dr pa sa iS bu tq rT wT sK sA sB sE oq bS bE bL rp) H → va_D (inW (wMo g mo a o now dr pa sa iS bu tq rT wT sK sA sB sE oq bS bE bL rp)) (wMo g mo a o now dr pa sa iS bu tq rT wT sK sA sB sE oq bS bE bL rp) → va_S (inW (wMo g mo a o now dr pa sa iS bu tq rT wT sK sA sB sE oq bS bE bL rp)) s.heap H locs → lv_has ls 6 [] → W p l e rm_Mo_in s m args below meth c H locs 0 0 (MQ below (CI0 g (wMo g mo a o now dr pa sa iS bu tq rT wT sK sA sB sE oq bS bE bL rp) z) args s 0 0 (inW (wMo g mo a o now dr pa sa iS bu tq rT wT sK sA sB sE oq bS bE bL rp))) (F0 m 17 ls [])
noncomputable def sp_Mo_in_17    : Int32 := (0 : Int32)
def ok_Mo_in_17     : Prop := True
set_option maxRecDepth 100000 in
set_option maxHeartbeats 4000000 in
theorem k_Mo_in_17 {p : Program} {l : Launch} {e : Env} {s : State} {m : MethodId} {args : Array Value} {below : List Frame} {meth : Method} {c : Code} {g : GX} {mo : Nat} {a : Nat → Nat} {o : IV} {now : LV} {dr : LV} {pa : LV} {sa : LV} {iS : IV} {bu : IV} {tq : IV} {rT : IV} {wT : IV} {sK : IV} {sA : IV} {sB : IV} {sE : IV} {oq : IV} {bS : IV} {bE : IV} {bL : IV} {rp : IV}  (C : Cx p s m args meth c (inW (wMo g mo a o now dr pa sa iS bu tq rT wT sK sA sB sE oq bS bE bL rp)) g "DecadeBridgeModel" b_Mo_in (some .boolean) 6)  : HL_Mo_in_17 p l e s m args below meth c g mo a o now dr pa sa iS bu tq rT wT sK sA sB sE oq bS bE bL rp (sp_Mo_in_17  ) (ok_Mo_in_17   ) := by
  intro _ hok z hz H locs ls hP hD hS hl
  obtain ⟨hx, hb, hr, hml, hown, hlk, hts, hK, hZo, hZ⟩ := id C
  unfold sp_Mo_in_17 at hz
  refine lv_iconst (v := 0) hx hb d_Mo_in_17 (by decide) ?_
  exact endZ0 C hz hP hS rfl d_Mo_in_18
noncomputable def sp_Mo_in (p1 : Int64) (p2 : Int64) (p3 : Int64) : Int32 := if p1 < p2 then (sp_Mo_in_17) else (if p3 < p1 then (sp_Mo_in_17) else ((1 : Int32)))
set_option maxRecDepth 100000 in
set_option maxHeartbeats 4000000 in
theorem c_Mo_in (l : Launch) (g : GX) (mo : Nat) (a : Nat → Nat) (o : IV) (now : LV) (dr : LV) (pa : LV) (sa : LV) (iS : IV) (bu : IV) (tq : IV) (rT : IV) (wT : IV) (sK : IV) (sA : IV) (sB : IV) (sE : IV) (oq : IV) (bS : IV) (bE : IV) (bL : IV) (rp : IV) (p1 : Int64) (p2 : Int64) (p3 : Int64) : Met l y_Mo_in (wsY y_Mo_in b_Mo_in 6 (some .boolean)) rm_Mo_in (CP g [.long p1, .long p2, .long p3] (wMo g mo a o now dr pa sa iS bu tq rT wT sK sA sB sE oq bS bE bL rp)) (CI0 g (wMo g mo a o now dr pa sa iS bu tq rT wT sK sA sB sE oq bS bE bL rp) (sp_Mo_in p1 p2 p3)) 0 0 (inW (wMo g mo a o now dr pa sa iS bu tq rT wT sK sA sB sE oq bS bE bL rp)) := by
  refine Met.ofW (cc := b_Mo_in) (maxL := 6) (ret := (some .boolean)) pn_Mo rfl ?_
  intro p e s m args below meth c s₁ B hml hv
  obtain ⟨rfl, C, hP, hD, hS⟩ := enter "DecadeBridgeModel" rfl B hml hv
  obtain ⟨hx, hb, hr, hml, hown, hlk, hts, hK, hZo, hZ⟩ := id C
  refine entryW (lv := [(0, .long p1), (2, .long p2), (4, .long p3)]) rfl (Nat.le_of_ble_eq_true rfl) (fun ls hl => ?_)
  obtain ⟨z, hz⟩ : ∃ z, z = sp_Mo_in p1 p2 p3 := ⟨_, rfl⟩
  rw [← hz]
  unfold sp_Mo_in at hz
  refine lv_lload_n hx hb d_Mo_in_0 rfl (lv_at hl 0 rfl) ?_
  refine lv_lload_n hx hb d_Mo_in_1 rfl (lv_at hl 1 rfl) ?_
  refine lc_lt (tgt := 17) hx hb d_Mo_in_2 d_Mo_in_3 (by decide) (fun c1 => ?_) (fun c1 => ?_)
  · have hz := hz.trans (if_pos c1)
    exact k_Mo_in_17 C () trivial _ hz _ _ ls hP hD hS (lv_sub hl [] rfl)
  · have hz := hz.trans (if_neg c1)
    refine lv_lload_n hx hb d_Mo_in_6 rfl (lv_at hl 0 rfl) ?_
    refine lv_lload hx hb d_Mo_in_7 (lv_at hl 2 rfl) ?_
    refine lc_gt (tgt := 17) hx hb d_Mo_in_9 d_Mo_in_10 (by decide) (fun c2 => ?_) (fun c2 => ?_)
    · have hz := hz.trans (if_pos c2)
      exact k_Mo_in_17 C () trivial _ hz _ _ ls hP hD hS (lv_sub hl [] rfl)
    · have hz := hz.trans (if_neg c2)
      refine lv_iconst (v := 1) hx hb d_Mo_in_13 (by decide) ?_
      refine lv_goto (tgt := 18) hx hb d_Mo_in_14 (by decide) ?_
      exact endZ0 C hz hP hS rfl d_Mo_in_18
abbrev rm_Mo_amount : Room := { frames := 0, cells := 0, slots := 0, locals := 0 }
noncomputable def sp_Mo_amount (p1 : Int64) : Int64 := if (0 : Int64) ≤ p1 then (p1) else (-p1)
set_option maxRecDepth 100000 in
set_option maxHeartbeats 4000000 in
theorem c_Mo_amount (l : Launch) (g : GX) (mo : Nat) (a : Nat → Nat) (o : IV) (now : LV) (dr : LV) (pa : LV) (sa : LV) (iS : IV) (bu : IV) (tq : IV) (rT : IV) (wT : IV) (sK : IV) (sA : IV) (sB : IV) (sE : IV) (oq : IV) (bS : IV) (bE : IV) (bL : IV) (rp : IV) (p1 : Int64) : Met l y_Mo_amount (wsY y_Mo_amount b_Mo_amount 2 (some .long)) rm_Mo_amount (CP g [.long p1] (wMo g mo a o now dr pa sa iS bu tq rT wT sK sA sB sE oq bS bE bL rp)) (CL0 g (wMo g mo a o now dr pa sa iS bu tq rT wT sK sA sB sE oq bS bE bL rp) (sp_Mo_amount p1)) 0 0 (inW (wMo g mo a o now dr pa sa iS bu tq rT wT sK sA sB sE oq bS bE bL rp)) := by
  refine Met.ofW (cc := b_Mo_amount) (maxL := 2) (ret := (some .long)) pn_Mo rfl ?_
  intro p e s m args below meth c s₁ B hml hv
  obtain ⟨rfl, C, hP, hD, hS⟩ := enter "DecadeBridgeModel" rfl B hml hv
  obtain ⟨hx, hb, hr, hml, hown, hlk, hts, hK, hZo, hZ⟩ := id C
  refine entryW (lv := [(0, .long p1)]) rfl (Nat.le_of_ble_eq_true rfl) (fun ls hl => ?_)
  obtain ⟨z, hz⟩ : ∃ z, z = sp_Mo_amount p1 := ⟨_, rfl⟩
  rw [← hz]
  unfold sp_Mo_amount at hz
  refine lv_lload_n hx hb d_Mo_amount_0 rfl (lv_at hl 0 rfl) ?_
  refine lv_lconst (v := 0) hx hb d_Mo_amount_1 (by decide) ?_
  refine lc_ge (tgt := 11) hx hb d_Mo_amount_2 d_Mo_amount_3 (by decide) (fun c1 => ?_) (fun c1 => ?_)
  · have hz := hz.trans (if_pos c1)
    refine lv_lload_n hx hb d_Mo_amount_11 rfl (lv_at hl 0 rfl) ?_
    exact endL0 C hz hP hS d_Mo_amount_12
  · have hz := hz.trans (if_neg c1)
    refine lv_lload_n hx hb d_Mo_amount_6 rfl (lv_at hl 0 rfl) ?_
    refine lv_lneg hx hb d_Mo_amount_7 ?_
    refine lv_goto (tgt := 12) hx hb d_Mo_amount_8 (by decide) ?_
    exact endL0 C hz hP hS d_Mo_amount_12
abbrev rm_Mo_bound : Room := { frames := 0, cells := 0, slots := 0, locals := 0 }
noncomputable def sp_Mo_bound (p1 : Int64) (p2 : Int64) (p3 : Int64) : Int64 := if p2 ≤ p1 then (if p1 ≤ p3 then (p1) else (p3)) else (p2)
set_option maxRecDepth 100000 in
set_option maxHeartbeats 4000000 in
theorem c_Mo_bound (l : Launch) (g : GX) (mo : Nat) (a : Nat → Nat) (o : IV) (now : LV) (dr : LV) (pa : LV) (sa : LV) (iS : IV) (bu : IV) (tq : IV) (rT : IV) (wT : IV) (sK : IV) (sA : IV) (sB : IV) (sE : IV) (oq : IV) (bS : IV) (bE : IV) (bL : IV) (rp : IV) (p1 : Int64) (p2 : Int64) (p3 : Int64) : Met l y_Mo_bound (wsY y_Mo_bound b_Mo_bound 6 (some .long)) rm_Mo_bound (CP g [.long p1, .long p2, .long p3] (wMo g mo a o now dr pa sa iS bu tq rT wT sK sA sB sE oq bS bE bL rp)) (CL0 g (wMo g mo a o now dr pa sa iS bu tq rT wT sK sA sB sE oq bS bE bL rp) (sp_Mo_bound p1 p2 p3)) 0 0 (inW (wMo g mo a o now dr pa sa iS bu tq rT wT sK sA sB sE oq bS bE bL rp)) := by
  refine Met.ofW (cc := b_Mo_bound) (maxL := 6) (ret := (some .long)) pn_Mo rfl ?_
  intro p e s m args below meth c s₁ B hml hv
  obtain ⟨rfl, C, hP, hD, hS⟩ := enter "DecadeBridgeModel" rfl B hml hv
  obtain ⟨hx, hb, hr, hml, hown, hlk, hts, hK, hZo, hZ⟩ := id C
  refine entryW (lv := [(0, .long p1), (2, .long p2), (4, .long p3)]) rfl (Nat.le_of_ble_eq_true rfl) (fun ls hl => ?_)
  obtain ⟨z, hz⟩ : ∃ z, z = sp_Mo_bound p1 p2 p3 := ⟨_, rfl⟩
  rw [← hz]
  unfold sp_Mo_bound at hz
  refine lv_lload_n hx hb d_Mo_bound_0 rfl (lv_at hl 0 rfl) ?_
  refine lv_lload_n hx hb d_Mo_bound_1 rfl (lv_at hl 1 rfl) ?_
  refine lc_ge (tgt := 10) hx hb d_Mo_bound_2 d_Mo_bound_3 (by decide) (fun c1 => ?_) (fun c1 => ?_)
  · have hz := hz.trans (if_pos c1)
    refine lv_lload_n hx hb d_Mo_bound_10 rfl (lv_at hl 0 rfl) ?_
    refine lv_lload hx hb d_Mo_bound_11 (lv_at hl 2 rfl) ?_
    refine lc_le (tgt := 22) hx hb d_Mo_bound_13 d_Mo_bound_14 (by decide) (fun c2 => ?_) (fun c2 => ?_)
    · have hz := hz.trans (if_pos c2)
      refine lv_lload_n hx hb d_Mo_bound_22 rfl (lv_at hl 0 rfl) ?_
      exact endL0 C hz hP hS d_Mo_bound_23
    · have hz := hz.trans (if_neg c2)
      refine lv_lload hx hb d_Mo_bound_17 (lv_at hl 2 rfl) ?_
      refine lv_goto (tgt := 23) hx hb d_Mo_bound_19 (by decide) ?_
      exact endL0 C hz hP hS d_Mo_bound_23
  · have hz := hz.trans (if_neg c1)
    refine lv_lload_n hx hb d_Mo_bound_6 rfl (lv_at hl 1 rfl) ?_
    refine lv_goto (tgt := 23) hx hb d_Mo_bound_7 (by decide) ?_
    exact endL0 C hz hP hS d_Mo_bound_23
abbrev rm_Mo_tenTo : Room := { frames := 0, cells := 0, slots := 0, locals := 0 }
def HL_Mo_tenTo_4 (p : Program) (l : Launch) (e : Env) (s : State) (m : MethodId) (args : Array Value) (below : List Frame) (meth : Method) (c : Code) (g : GX) (mo : Nat) (a : Nat → Nat) (o : IV) (now : LV) (dr : LV) (pa : LV) (sa : LV) (iS : IV) (bu : IV) (tq : IV) (rT : IV) (wT : IV) (sK : IV) (sA : IV) (sB : IV) (sE : IV) (oq : IV) (bS : IV) (bE : IV) (bL : IV) (rp : IV) (p1 : Int32) (sp : Int64 → Int32 → Int64) (ok : Int64 → Int32 → Prop) : Prop := ∀ (x1p4 : Int64) (x3p4 : Int32), ok x1p4 x3p4 → ∀ z : Int64, z = sp x1p4 x3p4 → ∀ (H : Heap) (locs : List Loc) (ls : Array Slot), va_P g.1 vwCl (wMo g mo a o now dr pa sa iS bu tq rT wT sK sA sB sE oq bS bE bL rp) H → va_D (inW (wMo g mo a o now dr pa sa iS bu tq rT wT sK sA sB sE oq bS bE bL rp)) (wMo g mo a o now dr pa sa iS bu tq rT wT sK sA sB sE oq bS bE bL rp) → va_S (inW (wMo g mo a o now dr pa sa iS bu tq rT wT sK sA sB sE oq bS bE bL rp)) s.heap H locs → lv_has ls 4 [(0, .int p1), (1, .long x1p4), (3, .int x3p4)] → W p l e rm_Mo_tenTo s m args below meth c H locs 0 0 (MQ below (CL0 g (wMo g mo a o now dr pa sa iS bu tq rT wT sK sA sB sE oq bS bE bL rp) z) args s 0 0 (inW (wMo g mo a o now dr pa sa iS bu tq rT wT sK sA sB sE oq bS bE bL rp))) (F0 m 4 ls [])
noncomputable def bd_Mo_tenTo_4 (p1 : Int32) (r4 : Int64 → Int32 → Int64) (x1p4 : Int64) (x3p4 : Int32) : Int64 := if p1 ≤ x3p4 then (x1p4) else (lett (x1p4 * (10 : Int64)) fun (v2 : Int64) => lett (x3p4 + (1 : Int32)) fun (v3 : Int32) => r4 v2 v3)
def okb_Mo_tenTo_4 (p1 : Int32) (r4 : Int64 → Int32 → Int64) (q4 : Int64 → Int32 → Prop) (x1p4 : Int64) (x3p4 : Int32) : Prop := ((p1 ≤ x3p4 → True) ∧ (¬ (p1 ≤ x3p4) → lett (x1p4 * (10 : Int64)) fun (v2 : Int64) => lett (x3p4 + (1 : Int32)) fun (v3 : Int32) => q4 v2 v3))
noncomputable def sp_Mo_tenTo_4 (p1 : Int32)  : Nat → Int64 → Int32 → Int64
  | 0 => fun _ _ => default
  | f + 1 => bd_Mo_tenTo_4 p1  (sp_Mo_tenTo_4 p1  f)
def ok_Mo_tenTo_4 (p1 : Int32)   : Nat → Int64 → Int32 → Prop
  | 0 => fun _ _ => False
  | f + 1 => okb_Mo_tenTo_4 p1  (sp_Mo_tenTo_4 p1  f)  (ok_Mo_tenTo_4 p1   f)
set_option maxRecDepth 100000 in
set_option maxHeartbeats 4000000 in
theorem kb_Mo_tenTo_4 {p : Program} {l : Launch} {e : Env} {s : State} {m : MethodId} {args : Array Value} {below : List Frame} {meth : Method} {c : Code} {g : GX} {mo : Nat} {a : Nat → Nat} {o : IV} {now : LV} {dr : LV} {pa : LV} {sa : LV} {iS : IV} {bu : IV} {tq : IV} {rT : IV} {wT : IV} {sK : IV} {sA : IV} {sB : IV} {sE : IV} {oq : IV} {bS : IV} {bE : IV} {bL : IV} {rp : IV} {p1 : Int32}  (C : Cx p s m args meth c (inW (wMo g mo a o now dr pa sa iS bu tq rT wT sK sA sB sE oq bS bE bL rp)) g "DecadeBridgeModel" b_Mo_tenTo (some .long) 4) {r4 : Int64 → Int32 → Int64} {q4 : Int64 → Int32 → Prop}  (ih4 : HL_Mo_tenTo_4 p l e s m args below meth c g mo a o now dr pa sa iS bu tq rT wT sK sA sB sE oq bS bE bL rp p1 r4 q4) : HL_Mo_tenTo_4 p l e s m args below meth c g mo a o now dr pa sa iS bu tq rT wT sK sA sB sE oq bS bE bL rp p1 (bd_Mo_tenTo_4 p1  r4) (okb_Mo_tenTo_4 p1  r4  q4) := by
  intro x1p4 x3p4 hok z hz H locs ls hP hD hS hl
  obtain ⟨hx, hb, hr, hml, hown, hlk, hts, hK, hZo, hZ⟩ := id C
  unfold bd_Mo_tenTo_4 at hz
  unfold okb_Mo_tenTo_4 at hok
  refine lv_iload_n hx hb d_Mo_tenTo_4 rfl (lv_at hl 2 rfl) ?_
  refine lv_iload_n hx hb d_Mo_tenTo_5 rfl (lv_at hl 0 rfl) ?_
  refine lv_icmp_ge (tgt := 21) hx hb d_Mo_tenTo_6 (by decide) (fun c1 => ?_) (fun c1 => ?_)
  · have hz := hz.trans (if_pos c1)
    refine lv_lload_n hx hb d_Mo_tenTo_21 rfl (lv_at hl 1 rfl) ?_
    exact endL0 C hz hP hS d_Mo_tenTo_22
  · have hz := hz.trans (if_neg c1)
    have hok := hok.2 c1
    refine lv_lload_n hx hb d_Mo_tenTo_9 rfl (lv_at hl 1 rfl) ?_
    refine lv_ldc2 hx hb hown (hts _ qk_Mo_110) d_Mo_tenTo_10 ?_
    refine lv_lmul hx hb d_Mo_tenTo_13 ?_
    refine lv_topl (fun v2 ev2 => ?_)
    have hz := lett_z hz ev2
    have hok := lett_o hok ev2
    refine lv_lstore_n (lv' := [(1, .long v2), (0, .int p1), (3, .int x3p4)]) hx hb d_Mo_tenTo_14 rfl hl (by decide) rfl (fun ls hl => ?_)
    obtain ⟨v3, ev3⟩ : ∃ y : Int32, y = x3p4 + (1 : Int32) := ⟨_, rfl⟩
    have hz := lett_z hz ev3
    have hok := lett_o hok ev3
    refine lv_iinc (v := v3) (lv' := [(3, .int v3), (1, .long v2), (0, .int p1)]) hx hb d_Mo_tenTo_15 hl (k := 2) rfl (by rw [ev3]; rfl) (by decide) rfl (fun ls hl => ?_)
    refine lv_goto (tgt := 4) hx hb d_Mo_tenTo_18 (by decide) ?_
    exact ih4 v2 v3 hok _ hz _ _ ls hP hD hS (lv_sub hl [2, 1, 0] rfl)
theorem k_Mo_tenTo_4 {p : Program} {l : Launch} {e : Env} {s : State} {m : MethodId} {args : Array Value} {below : List Frame} {meth : Method} {c : Code} {g : GX} {mo : Nat} {a : Nat → Nat} {o : IV} {now : LV} {dr : LV} {pa : LV} {sa : LV} {iS : IV} {bu : IV} {tq : IV} {rT : IV} {wT : IV} {sK : IV} {sA : IV} {sB : IV} {sE : IV} {oq : IV} {bS : IV} {bE : IV} {bL : IV} {rp : IV} {p1 : Int32}  (C : Cx p s m args meth c (inW (wMo g mo a o now dr pa sa iS bu tq rT wT sK sA sB sE oq bS bE bL rp)) g "DecadeBridgeModel" b_Mo_tenTo (some .long) 4) (f : Nat)  : HL_Mo_tenTo_4 p l e s m args below meth c g mo a o now dr pa sa iS bu tq rT wT sK sA sB sE oq bS bE bL rp p1 (sp_Mo_tenTo_4 p1  f) (ok_Mo_tenTo_4 p1   f) := by
  induction f with
  | zero => intro x1p4 x3p4 hok; exact False.elim hok
  | succ f ih => exact kb_Mo_tenTo_4 C  ih
noncomputable def sp_Mo_tenTo (p1 : Int32) : Int64 := sp_Mo_tenTo_4 p1 big (1 : Int64) (0 : Int32)
def ok_Mo_tenTo (p1 : Int32) : Prop := ok_Mo_tenTo_4 p1 big (1 : Int64) (0 : Int32)
set_option maxRecDepth 100000 in
set_option maxHeartbeats 4000000 in
theorem c_Mo_tenTo (l : Launch) (g : GX) (mo : Nat) (a : Nat → Nat) (o : IV) (now : LV) (dr : LV) (pa : LV) (sa : LV) (iS : IV) (bu : IV) (tq : IV) (rT : IV) (wT : IV) (sK : IV) (sA : IV) (sB : IV) (sE : IV) (oq : IV) (bS : IV) (bE : IV) (bL : IV) (rp : IV) (p1 : Int32) (hok : ok_Mo_tenTo p1) : Met l y_Mo_tenTo (wsY y_Mo_tenTo b_Mo_tenTo 4 (some .long)) rm_Mo_tenTo (CP g [.int p1] (wMo g mo a o now dr pa sa iS bu tq rT wT sK sA sB sE oq bS bE bL rp)) (CL0 g (wMo g mo a o now dr pa sa iS bu tq rT wT sK sA sB sE oq bS bE bL rp) (sp_Mo_tenTo p1)) 0 0 (inW (wMo g mo a o now dr pa sa iS bu tq rT wT sK sA sB sE oq bS bE bL rp)) := by
  refine Met.ofW (cc := b_Mo_tenTo) (maxL := 4) (ret := (some .long)) pn_Mo rfl ?_
  intro p e s m args below meth c s₁ B hml hv
  obtain ⟨rfl, C, hP, hD, hS⟩ := enter "DecadeBridgeModel" rfl B hml hv
  obtain ⟨hx, hb, hr, hml, hown, hlk, hts, hK, hZo, hZ⟩ := id C
  refine entryW (lv := [(0, .int p1)]) rfl (Nat.le_of_ble_eq_true rfl) (fun ls hl => ?_)
  obtain ⟨z, hz⟩ : ∃ z, z = sp_Mo_tenTo p1 := ⟨_, rfl⟩
  rw [← hz]
  unfold sp_Mo_tenTo at hz
  unfold ok_Mo_tenTo at hok
  refine lv_lconst (v := 1) hx hb d_Mo_tenTo_0 (by decide) ?_
  refine lv_lstore_n (lv' := [(1, .long (1 : Int64)), (0, .int p1)]) hx hb d_Mo_tenTo_1 rfl hl (by decide) rfl (fun ls hl => ?_)
  refine lv_iconst (v := 0) hx hb d_Mo_tenTo_2 (by decide) ?_
  refine lv_istore_n (lv' := [(3, .int (0 : Int32)), (1, .long (1 : Int64)), (0, .int p1)]) hx hb d_Mo_tenTo_3 rfl hl (by decide) rfl (fun ls hl => ?_)
  exact k_Mo_tenTo_4 C big (1 : Int64) (0 : Int32) hok _ hz _ _ ls hP hD hS (lv_sub hl [2, 1, 0] rfl)
abbrev rm_Mo_setPlain : Room := { frames := 0, cells := 0, slots := 0, locals := 0 }
def HL_Mo_setPlain_2 (p : Program) (l : Launch) (e : Env) (s : State) (m : MethodId) (args : Array Value) (below : List Frame) (meth : Method) (c : Code) (g : GX) (mo : Nat) (a : Nat → Nat) (ws0 : va_W) (o : IV) (now : LV) (pa : LV) (sa : LV) (iS : IV) (bu : IV) (tq : IV) (rT : IV) (wT : IV) (sK : IV) (sA : IV) (sB : IV) (sE : IV) (oq : IV) (bS : IV) (bE : IV) (bL : IV) (rp : IV) (sp : Int32 → LV → LV) (ok : Int32 → LV → Prop) : Prop := ∀ (x1p2 : Int32) (drp2 : LV), ok x1p2 drp2 → ∀ z : LV, z = sp x1p2 drp2 → ∀ (H : Heap) (locs : List Loc) (ls : Array Slot), va_P g.1 vwCl (wMo g mo a o now drp2 pa sa iS bu tq rT wT sK sA sB sE oq bS bE bL rp) H → va_D (inW ws0) (wMo g mo a o now drp2 pa sa iS bu tq rT wT sK sA sB sE oq bS bE bL rp) → va_S (inW ws0) s.heap H locs → lv_has ls 2 [(0, .ref mo), (1, .int x1p2)] → W p l e rm_Mo_setPlain s m args below meth c H locs 0 0 (MQ below (CV g ws0 (fun u : LV => wMo g mo a o now u pa sa iS bu tq rT wT sK sA sB sE oq bS bE bL rp) z) args s 0 0 (inW ws0)) (F0 m 2 ls [])
def HL_Mo_setPlain_22 (p : Program) (l : Launch) (e : Env) (s : State) (m : MethodId) (args : Array Value) (below : List Frame) (meth : Method) (c : Code) (g : GX) (mo : Nat) (a : Nat → Nat) (ws0 : va_W) (o : IV) (now : LV) (drp2 : LV) (pa : LV) (sa : LV) (iS : IV) (bu : IV) (tq : IV) (rT : IV) (wT : IV) (sK : IV) (sA : IV) (sB : IV) (sE : IV) (oq : IV) (bS : IV) (bE : IV) (bL : IV) (rp : IV) (sp : LV) (ok : Prop) : Prop := ∀ (_ : Unit), ok → ∀ z : LV, z = sp → ∀ (H : Heap) (locs : List Loc) (ls : Array Slot), va_P g.1 vwCl (wMo g mo a o now drp2 pa sa iS bu tq rT wT sK sA sB sE oq bS bE bL rp) H → va_D (inW ws0) (wMo g mo a o now drp2 pa sa iS bu tq rT wT sK sA sB sE oq bS bE bL rp) → va_S (inW ws0) s.heap H locs → lv_has ls 2 [(0, .ref mo)] → W p l e rm_Mo_setPlain s m args below meth c H locs 0 0 (MQ below (CV g ws0 (fun u : LV => wMo g mo a o now u pa sa iS bu tq rT wT sK sA sB sE oq bS bE bL rp) z) args s 0 0 (inW ws0)) (F0 m 22 ls [])
noncomputable def sp_Mo_setPlain_22 (drp2 : LV)   : LV := lett (vp_updL drp2 22 (1000 : Int64)) fun (dr_5 : LV) => lett (vp_updL dr_5 23 (1000000 : Int64)) fun (dr_6 : LV) => lett (vp_updL dr_6 24 (9999999 : Int64)) fun (dr_7 : LV) => lett (vp_updL dr_7 28 (1 : Int64)) fun (dr_8 : LV) => lett (vp_updL dr_8 32 (2 : Int64)) fun (dr_9 : LV) => dr_9
def ok_Mo_setPlain_22 (drp2 : LV)    : Prop := True
set_option maxRecDepth 100000 in
set_option maxHeartbeats 4000000 in
theorem k_Mo_setPlain_22 {p : Program} {l : Launch} {e : Env} {s : State} {m : MethodId} {args : Array Value} {below : List Frame} {meth : Method} {c : Code} {g : GX} {mo : Nat} {a : Nat → Nat} {ws0 : va_W} {o : IV} {now : LV} {drp2 : LV} {pa : LV} {sa : LV} {iS : IV} {bu : IV} {tq : IV} {rT : IV} {wT : IV} {sK : IV} {sA : IV} {sB : IV} {sE : IV} {oq : IV} {bS : IV} {bE : IV} {bL : IV} {rp : IV}  (C : Cx p s m args meth c (inW ws0) g "DecadeBridgeModel" b_Mo_setPlain none 2)  : HL_Mo_setPlain_22 p l e s m args below meth c g mo a ws0 o now drp2 pa sa iS bu tq rT wT sK sA sB sE oq bS bE bL rp (sp_Mo_setPlain_22 drp2 ) (ok_Mo_setPlain_22 drp2  ) := by
  intro _ hok z hz H locs ls hP hD hS hl
  obtain ⟨hx, hb, hr, hml, hown, hlk, hts, hK, hZo, hZ⟩ := id C
  unfold sp_Mo_setPlain_22 at hz
  refine lv_aload_n hx hb d_Mo_setPlain_22 rfl (lv_at hl 0 rfl) ?_
  refine gf C hP 0 1 fkMo rfl (by decide) rfl qf_Mo_13 (gMo_1 _ _) d_Mo_setPlain_23 ?_
  refine lv_bipush (v := 22) hx hb d_Mo_setPlain_26 (by decide) ?_
  refine lv_ldc2 hx hb hown (hts _ qk_Mo_102) d_Mo_setPlain_28 ?_
  refine stL C hP hD hS 2 rfl vi_22_215 cn_22 d_Mo_setPlain_31 (fun dr_5 edr_5 H locs hP hD hS => ?_)
  have hP : va_P g.1 vwCl (wMo g mo a o now dr_5 pa sa iS bu tq rT wT sK sA sB sE oq bS bE bL rp) H := hP
  have hD : va_D (inW ws0) (wMo g mo a o now dr_5 pa sa iS bu tq rT wT sK sA sB sE oq bS bE bL rp) := hD
  have hz := lett_z hz edr_5
  refine lv_aload_n hx hb d_Mo_setPlain_32 rfl (lv_at hl 0 rfl) ?_
  refine gf C hP 0 1 fkMo rfl (by decide) rfl qf_Mo_13 (gMo_1 _ _) d_Mo_setPlain_33 ?_
  refine lv_bipush (v := 23) hx hb d_Mo_setPlain_36 (by decide) ?_
  refine lv_ldc2 hx hb hown (hts _ qk_Mo_112) d_Mo_setPlain_38 ?_
  refine stL C hP hD hS 2 rfl vi_23_215 cn_23 d_Mo_setPlain_41 (fun dr_6 edr_6 H locs hP hD hS => ?_)
  have hP : va_P g.1 vwCl (wMo g mo a o now dr_6 pa sa iS bu tq rT wT sK sA sB sE oq bS bE bL rp) H := hP
  have hD : va_D (inW ws0) (wMo g mo a o now dr_6 pa sa iS bu tq rT wT sK sA sB sE oq bS bE bL rp) := hD
  have hz := lett_z hz edr_6
  refine lv_aload_n hx hb d_Mo_setPlain_42 rfl (lv_at hl 0 rfl) ?_
  refine gf C hP 0 1 fkMo rfl (by decide) rfl qf_Mo_13 (gMo_1 _ _) d_Mo_setPlain_43 ?_
  refine lv_bipush (v := 24) hx hb d_Mo_setPlain_46 (by decide) ?_
  refine lv_ldc2 hx hb hown (hts _ qk_Mo_114) d_Mo_setPlain_48 ?_
  refine stL C hP hD hS 2 rfl vi_24_215 cn_24 d_Mo_setPlain_51 (fun dr_7 edr_7 H locs hP hD hS => ?_)
  have hP : va_P g.1 vwCl (wMo g mo a o now dr_7 pa sa iS bu tq rT wT sK sA sB sE oq bS bE bL rp) H := hP
  have hD : va_D (inW ws0) (wMo g mo a o now dr_7 pa sa iS bu tq rT wT sK sA sB sE oq bS bE bL rp) := hD
  have hz := lett_z hz edr_7
  refine lv_aload_n hx hb d_Mo_setPlain_52 rfl (lv_at hl 0 rfl) ?_
  refine gf C hP 0 1 fkMo rfl (by decide) rfl qf_Mo_13 (gMo_1 _ _) d_Mo_setPlain_53 ?_
  refine lv_bipush (v := 28) hx hb d_Mo_setPlain_56 (by decide) ?_
  refine lv_lconst (v := 1) hx hb d_Mo_setPlain_58 (by decide) ?_
  refine stL C hP hD hS 2 rfl vi_28_215 cn_28 d_Mo_setPlain_59 (fun dr_8 edr_8 H locs hP hD hS => ?_)
  have hP : va_P g.1 vwCl (wMo g mo a o now dr_8 pa sa iS bu tq rT wT sK sA sB sE oq bS bE bL rp) H := hP
  have hD : va_D (inW ws0) (wMo g mo a o now dr_8 pa sa iS bu tq rT wT sK sA sB sE oq bS bE bL rp) := hD
  have hz := lett_z hz edr_8
  refine lv_aload_n hx hb d_Mo_setPlain_60 rfl (lv_at hl 0 rfl) ?_
  refine gf C hP 0 1 fkMo rfl (by decide) rfl qf_Mo_13 (gMo_1 _ _) d_Mo_setPlain_61 ?_
  refine lv_bipush (v := 32) hx hb d_Mo_setPlain_64 (by decide) ?_
  refine lv_ldc2 hx hb hown (hts _ qk_Mo_100) d_Mo_setPlain_66 ?_
  refine stL C hP hD hS 2 rfl vi_32_215 cn_32 d_Mo_setPlain_69 (fun dr_9 edr_9 H locs hP hD hS => ?_)
  have hP : va_P g.1 vwCl (wMo g mo a o now dr_9 pa sa iS bu tq rT wT sK sA sB sE oq bS bE bL rp) H := hP
  have hD : va_D (inW ws0) (wMo g mo a o now dr_9 pa sa iS bu tq rT wT sK sA sB sE oq bS bE bL rp) := hD
  have hz := lett_z hz edr_9
  exact endV C hz hP hS d_Mo_setPlain_70
noncomputable def bd_Mo_setPlain_2  (r2 : Int32 → LV → LV) (x1p2 : Int32) (drp2 : LV) : LV := if (215 : Int32) ≤ x1p2 then (sp_Mo_setPlain_22 drp2) else (lett (vp_updL drp2 x1p2.toNatClampNeg (0 : Int64)) fun (dr_3 : LV) => lett (x1p2 + (1 : Int32)) fun (v4 : Int32) => r2 v4 dr_3)
def okb_Mo_setPlain_2  (r2 : Int32 → LV → LV) (q2 : Int32 → LV → Prop) (x1p2 : Int32) (drp2 : LV) : Prop := (((215 : Int32) ≤ x1p2 → True) ∧ (¬ ((215 : Int32) ≤ x1p2) → (vp_in x1p2 215) ∧ lett (vp_updL drp2 x1p2.toNatClampNeg (0 : Int64)) fun (dr_3 : LV) => lett (x1p2 + (1 : Int32)) fun (v4 : Int32) => q2 v4 dr_3))
noncomputable def sp_Mo_setPlain_2   : Nat → Int32 → LV → LV
  | 0 => fun _ _ => default
  | f + 1 => bd_Mo_setPlain_2   (sp_Mo_setPlain_2   f)
def ok_Mo_setPlain_2    : Nat → Int32 → LV → Prop
  | 0 => fun _ _ => False
  | f + 1 => okb_Mo_setPlain_2   (sp_Mo_setPlain_2   f)  (ok_Mo_setPlain_2    f)
set_option maxRecDepth 100000 in
set_option maxHeartbeats 4000000 in
theorem kb_Mo_setPlain_2 {p : Program} {l : Launch} {e : Env} {s : State} {m : MethodId} {args : Array Value} {below : List Frame} {meth : Method} {c : Code} {g : GX} {mo : Nat} {a : Nat → Nat} {ws0 : va_W} {o : IV} {now : LV} {pa : LV} {sa : LV} {iS : IV} {bu : IV} {tq : IV} {rT : IV} {wT : IV} {sK : IV} {sA : IV} {sB : IV} {sE : IV} {oq : IV} {bS : IV} {bE : IV} {bL : IV} {rp : IV}  (C : Cx p s m args meth c (inW ws0) g "DecadeBridgeModel" b_Mo_setPlain none 2) {r2 : Int32 → LV → LV} {q2 : Int32 → LV → Prop}  (ih2 : HL_Mo_setPlain_2 p l e s m args below meth c g mo a ws0 o now pa sa iS bu tq rT wT sK sA sB sE oq bS bE bL rp r2 q2) : HL_Mo_setPlain_2 p l e s m args below meth c g mo a ws0 o now pa sa iS bu tq rT wT sK sA sB sE oq bS bE bL rp (bd_Mo_setPlain_2   r2) (okb_Mo_setPlain_2   r2  q2) := by
  intro x1p2 drp2 hok z hz H locs ls hP hD hS hl
  obtain ⟨hx, hb, hr, hml, hown, hlk, hts, hK, hZo, hZ⟩ := id C
  unfold bd_Mo_setPlain_2 at hz
  unfold okb_Mo_setPlain_2 at hok
  refine lv_iload_n hx hb d_Mo_setPlain_2 rfl (lv_at hl 1 rfl) ?_
  refine lv_sipush (v := 215) hx hb d_Mo_setPlain_3 (by decide) ?_
  refine lv_icmp_ge (tgt := 22) hx hb d_Mo_setPlain_6 (by decide) (fun c1 => ?_) (fun c1 => ?_)
  · have hz := hz.trans (if_pos c1)
    exact k_Mo_setPlain_22 C () trivial _ hz _ _ ls hP hD hS (lv_sub hl [0] rfl)
  · have hz := hz.trans (if_neg c1)
    have hok := hok.2 c1
    refine lv_aload_n hx hb d_Mo_setPlain_9 rfl (lv_at hl 0 rfl) ?_
    refine gf C hP 0 1 fkMo rfl (by decide) rfl qf_Mo_13 (gMo_1 _ _) d_Mo_setPlain_10 ?_
    refine lv_iload_n hx hb d_Mo_setPlain_13 rfl (lv_at hl 1 rfl) ?_
    refine lv_lconst (v := 0) hx hb d_Mo_setPlain_14 (by decide) ?_
    have hs2 := hok.1
    have hok := hok.2
    refine stL C hP hD hS 2 rfl hs2 rfl d_Mo_setPlain_15 (fun dr_3 edr_3 H locs hP hD hS => ?_)
    have hP : va_P g.1 vwCl (wMo g mo a o now dr_3 pa sa iS bu tq rT wT sK sA sB sE oq bS bE bL rp) H := hP
    have hD : va_D (inW ws0) (wMo g mo a o now dr_3 pa sa iS bu tq rT wT sK sA sB sE oq bS bE bL rp) := hD
    have hz := lett_z hz edr_3
    have hok := lett_o hok edr_3
    obtain ⟨v4, ev4⟩ : ∃ y : Int32, y = x1p2 + (1 : Int32) := ⟨_, rfl⟩
    have hz := lett_z hz ev4
    have hok := lett_o hok ev4
    refine lv_iinc (v := v4) (lv' := [(1, .int v4), (0, .ref mo)]) hx hb d_Mo_setPlain_16 hl (k := 1) rfl (by rw [ev4]; rfl) (by decide) rfl (fun ls hl => ?_)
    refine lv_goto (tgt := 2) hx hb d_Mo_setPlain_19 (by decide) ?_
    exact ih2 v4 dr_3 hok _ hz _ _ ls hP hD hS (lv_sub hl [1, 0] rfl)
theorem k_Mo_setPlain_2 {p : Program} {l : Launch} {e : Env} {s : State} {m : MethodId} {args : Array Value} {below : List Frame} {meth : Method} {c : Code} {g : GX} {mo : Nat} {a : Nat → Nat} {ws0 : va_W} {o : IV} {now : LV} {pa : LV} {sa : LV} {iS : IV} {bu : IV} {tq : IV} {rT : IV} {wT : IV} {sK : IV} {sA : IV} {sB : IV} {sE : IV} {oq : IV} {bS : IV} {bE : IV} {bL : IV} {rp : IV}  (C : Cx p s m args meth c (inW ws0) g "DecadeBridgeModel" b_Mo_setPlain none 2) (f : Nat)  : HL_Mo_setPlain_2 p l e s m args below meth c g mo a ws0 o now pa sa iS bu tq rT wT sK sA sB sE oq bS bE bL rp (sp_Mo_setPlain_2   f) (ok_Mo_setPlain_2    f) := by
  induction f with
  | zero => intro x1p2 drp2 hok; exact False.elim hok
  | succ f ih => exact kb_Mo_setPlain_2 C  ih
noncomputable def sp_Mo_setPlain (dr : LV) : LV := sp_Mo_setPlain_2 big (0 : Int32) dr
def ok_Mo_setPlain (dr : LV) : Prop := ok_Mo_setPlain_2 big (0 : Int32) dr
set_option maxRecDepth 100000 in
set_option maxHeartbeats 4000000 in
theorem c_Mo_setPlain (l : Launch) (g : GX) (mo : Nat) (a : Nat → Nat) (o : IV) (now : LV) (dr : LV) (pa : LV) (sa : LV) (iS : IV) (bu : IV) (tq : IV) (rT : IV) (wT : IV) (sK : IV) (sA : IV) (sB : IV) (sE : IV) (oq : IV) (bS : IV) (bE : IV) (bL : IV) (rp : IV)  (hok : ok_Mo_setPlain dr) : Met l y_Mo_setPlain (wsY y_Mo_setPlain b_Mo_setPlain 2 none) rm_Mo_setPlain (CP g [.ref mo] (wMo g mo a o now dr pa sa iS bu tq rT wT sK sA sB sE oq bS bE bL rp)) (CV g (wMo g mo a o now dr pa sa iS bu tq rT wT sK sA sB sE oq bS bE bL rp) (fun u : LV => wMo g mo a o now u pa sa iS bu tq rT wT sK sA sB sE oq bS bE bL rp) (sp_Mo_setPlain dr)) 0 0 (inW (wMo g mo a o now dr pa sa iS bu tq rT wT sK sA sB sE oq bS bE bL rp)) := by
  refine Met.ofW (cc := b_Mo_setPlain) (maxL := 2) (ret := none) pn_Mo rfl ?_
  intro p e s m args below meth c s₁ B hml hv
  obtain ⟨rfl, C, hP, hD, hS⟩ := enter "DecadeBridgeModel" rfl B hml hv
  obtain ⟨hx, hb, hr, hml, hown, hlk, hts, hK, hZo, hZ⟩ := id C
  refine entryW (lv := [(0, .ref mo)]) rfl (Nat.le_of_ble_eq_true rfl) (fun ls hl => ?_)
  obtain ⟨z, hz⟩ : ∃ z, z = sp_Mo_setPlain dr := ⟨_, rfl⟩
  rw [← hz]
  unfold sp_Mo_setPlain at hz
  unfold ok_Mo_setPlain at hok
  refine lv_iconst (v := 0) hx hb d_Mo_setPlain_0 (by decide) ?_
  refine lv_istore_n (lv' := [(1, .int (0 : Int32)), (0, .ref mo)]) hx hb d_Mo_setPlain_1 rfl hl (by decide) rfl (fun ls hl => ?_)
  exact k_Mo_setPlain_2 C big (0 : Int32) dr hok _ hz _ _ ls hP hD hS (lv_sub hl [1, 0] rfl)
abbrev rm_Mo_takeDraft : Room := { frames := 0, cells := 0, slots := 0, locals := 0 }
def HL_Mo_takeDraft_2 (p : Program) (l : Launch) (e : Env) (s : State) (m : MethodId) (args : Array Value) (below : List Frame) (meth : Method) (c : Code) (g : GX) (mo : Nat) (a : Nat → Nat) (ws0 : va_W) (o : IV) (dr : LV) (pa : LV) (sa : LV) (iS : IV) (bu : IV) (tq : IV) (rT : IV) (wT : IV) (sK : IV) (sA : IV) (sB : IV) (sE : IV) (oq : IV) (bS : IV) (bE : IV) (bL : IV) (rp : IV) (sp : Int32 → LV → LV) (ok : Int32 → LV → Prop) : Prop := ∀ (x1p2 : Int32) (nowp2 : LV), ok x1p2 nowp2 → ∀ z : LV, z = sp x1p2 nowp2 → ∀ (H : Heap) (locs : List Loc) (ls : Array Slot), va_P g.1 vwCl (wMo g mo a o nowp2 dr pa sa iS bu tq rT wT sK sA sB sE oq bS bE bL rp) H → va_D (inW ws0) (wMo g mo a o nowp2 dr pa sa iS bu tq rT wT sK sA sB sE oq bS bE bL rp) → va_S (inW ws0) s.heap H locs → lv_has ls 2 [(0, .ref mo), (1, .int x1p2)] → W p l e rm_Mo_takeDraft s m args below meth c H locs 0 0 (MQ below (CV g ws0 (fun u : LV => wMo g mo a o u dr pa sa iS bu tq rT wT sK sA sB sE oq bS bE bL rp) z) args s 0 0 (inW ws0)) (F0 m 2 ls [])
noncomputable def bd_Mo_takeDraft_2 (dr : LV) (r2 : Int32 → LV → LV) (x1p2 : Int32) (nowp2 : LV) : LV := if (215 : Int32) ≤ x1p2 then (nowp2) else (lett (vp_updL nowp2 x1p2.toNatClampNeg (dr x1p2.toNatClampNeg)) fun (now_3 : LV) => lett (x1p2 + (1 : Int32)) fun (v4 : Int32) => r2 v4 now_3)
def okb_Mo_takeDraft_2 (dr : LV) (r2 : Int32 → LV → LV) (q2 : Int32 → LV → Prop) (x1p2 : Int32) (nowp2 : LV) : Prop := (((215 : Int32) ≤ x1p2 → True) ∧ (¬ ((215 : Int32) ≤ x1p2) → (vp_in x1p2 215) ∧ lett (vp_updL nowp2 x1p2.toNatClampNeg (dr x1p2.toNatClampNeg)) fun (now_3 : LV) => lett (x1p2 + (1 : Int32)) fun (v4 : Int32) => q2 v4 now_3))
noncomputable def sp_Mo_takeDraft_2 (dr : LV)  : Nat → Int32 → LV → LV
  | 0 => fun _ _ => default
  | f + 1 => bd_Mo_takeDraft_2 dr  (sp_Mo_takeDraft_2 dr  f)
def ok_Mo_takeDraft_2 (dr : LV)   : Nat → Int32 → LV → Prop
  | 0 => fun _ _ => False
  | f + 1 => okb_Mo_takeDraft_2 dr  (sp_Mo_takeDraft_2 dr  f)  (ok_Mo_takeDraft_2 dr   f)
set_option maxRecDepth 100000 in
set_option maxHeartbeats 4000000 in
theorem kb_Mo_takeDraft_2 {p : Program} {l : Launch} {e : Env} {s : State} {m : MethodId} {args : Array Value} {below : List Frame} {meth : Method} {c : Code} {g : GX} {mo : Nat} {a : Nat → Nat} {ws0 : va_W} {o : IV} {dr : LV} {pa : LV} {sa : LV} {iS : IV} {bu : IV} {tq : IV} {rT : IV} {wT : IV} {sK : IV} {sA : IV} {sB : IV} {sE : IV} {oq : IV} {bS : IV} {bE : IV} {bL : IV} {rp : IV}  (C : Cx p s m args meth c (inW ws0) g "DecadeBridgeModel" b_Mo_takeDraft none 2) {r2 : Int32 → LV → LV} {q2 : Int32 → LV → Prop}  (ih2 : HL_Mo_takeDraft_2 p l e s m args below meth c g mo a ws0 o dr pa sa iS bu tq rT wT sK sA sB sE oq bS bE bL rp r2 q2) : HL_Mo_takeDraft_2 p l e s m args below meth c g mo a ws0 o dr pa sa iS bu tq rT wT sK sA sB sE oq bS bE bL rp (bd_Mo_takeDraft_2 dr  r2) (okb_Mo_takeDraft_2 dr  r2  q2) := by
  intro x1p2 nowp2 hok z hz H locs ls hP hD hS hl
  obtain ⟨hx, hb, hr, hml, hown, hlk, hts, hK, hZo, hZ⟩ := id C
  unfold bd_Mo_takeDraft_2 at hz
  unfold okb_Mo_takeDraft_2 at hok
  refine lv_iload_n hx hb d_Mo_takeDraft_2 rfl (lv_at hl 1 rfl) ?_
  refine lv_sipush (v := 215) hx hb d_Mo_takeDraft_3 (by decide) ?_
  refine lv_icmp_ge (tgt := 27) hx hb d_Mo_takeDraft_6 (by decide) (fun c1 => ?_) (fun c1 => ?_)
  · have hz := hz.trans (if_pos c1)
    exact endV C hz hP hS d_Mo_takeDraft_27
  · have hz := hz.trans (if_neg c1)
    have hok := hok.2 c1
    refine lv_aload_n hx hb d_Mo_takeDraft_9 rfl (lv_at hl 0 rfl) ?_
    refine gf C hP 0 0 fkMo rfl (by decide) rfl qf_Mo_7 (gMo_0 _ _) d_Mo_takeDraft_10 ?_
    refine lv_iload_n hx hb d_Mo_takeDraft_13 rfl (lv_at hl 1 rfl) ?_
    refine lv_aload_n hx hb d_Mo_takeDraft_14 rfl (lv_at hl 0 rfl) ?_
    refine gf C hP 0 1 fkMo rfl (by decide) rfl qf_Mo_13 (gMo_1 _ _) d_Mo_takeDraft_15 ?_
    refine lv_iload_n hx hb d_Mo_takeDraft_18 rfl (lv_at hl 1 rfl) ?_
    have hs2 := hok.1
    have hok := hok.2
    refine ldL C hP 2 rfl hs2 rfl d_Mo_takeDraft_19 ?_
    refine stL C hP hD hS 1 rfl hs2 rfl d_Mo_takeDraft_20 (fun now_3 enow_3 H locs hP hD hS => ?_)
    have hP : va_P g.1 vwCl (wMo g mo a o now_3 dr pa sa iS bu tq rT wT sK sA sB sE oq bS bE bL rp) H := hP
    have hD : va_D (inW ws0) (wMo g mo a o now_3 dr pa sa iS bu tq rT wT sK sA sB sE oq bS bE bL rp) := hD
    have hz := lett_z hz enow_3
    have hok := lett_o hok enow_3
    obtain ⟨v4, ev4⟩ : ∃ y : Int32, y = x1p2 + (1 : Int32) := ⟨_, rfl⟩
    have hz := lett_z hz ev4
    have hok := lett_o hok ev4
    refine lv_iinc (v := v4) (lv' := [(1, .int v4), (0, .ref mo)]) hx hb d_Mo_takeDraft_21 hl (k := 1) rfl (by rw [ev4]; rfl) (by decide) rfl (fun ls hl => ?_)
    refine lv_goto (tgt := 2) hx hb d_Mo_takeDraft_24 (by decide) ?_
    exact ih2 v4 now_3 hok _ hz _ _ ls hP hD hS (lv_sub hl [1, 0] rfl)
theorem k_Mo_takeDraft_2 {p : Program} {l : Launch} {e : Env} {s : State} {m : MethodId} {args : Array Value} {below : List Frame} {meth : Method} {c : Code} {g : GX} {mo : Nat} {a : Nat → Nat} {ws0 : va_W} {o : IV} {dr : LV} {pa : LV} {sa : LV} {iS : IV} {bu : IV} {tq : IV} {rT : IV} {wT : IV} {sK : IV} {sA : IV} {sB : IV} {sE : IV} {oq : IV} {bS : IV} {bE : IV} {bL : IV} {rp : IV}  (C : Cx p s m args meth c (inW ws0) g "DecadeBridgeModel" b_Mo_takeDraft none 2) (f : Nat)  : HL_Mo_takeDraft_2 p l e s m args below meth c g mo a ws0 o dr pa sa iS bu tq rT wT sK sA sB sE oq bS bE bL rp (sp_Mo_takeDraft_2 dr  f) (ok_Mo_takeDraft_2 dr   f) := by
  induction f with
  | zero => intro x1p2 nowp2 hok; exact False.elim hok
  | succ f ih => exact kb_Mo_takeDraft_2 C  ih
noncomputable def sp_Mo_takeDraft (now : LV) (dr : LV) : LV := sp_Mo_takeDraft_2 dr big (0 : Int32) now
def ok_Mo_takeDraft (now : LV) (dr : LV) : Prop := ok_Mo_takeDraft_2 dr big (0 : Int32) now
set_option maxRecDepth 100000 in
set_option maxHeartbeats 4000000 in
theorem c_Mo_takeDraft (l : Launch) (g : GX) (mo : Nat) (a : Nat → Nat) (o : IV) (now : LV) (dr : LV) (pa : LV) (sa : LV) (iS : IV) (bu : IV) (tq : IV) (rT : IV) (wT : IV) (sK : IV) (sA : IV) (sB : IV) (sE : IV) (oq : IV) (bS : IV) (bE : IV) (bL : IV) (rp : IV)  (hok : ok_Mo_takeDraft now dr) : Met l y_Mo_takeDraft (wsY y_Mo_takeDraft b_Mo_takeDraft 2 none) rm_Mo_takeDraft (CP g [.ref mo] (wMo g mo a o now dr pa sa iS bu tq rT wT sK sA sB sE oq bS bE bL rp)) (CV g (wMo g mo a o now dr pa sa iS bu tq rT wT sK sA sB sE oq bS bE bL rp) (fun u : LV => wMo g mo a o u dr pa sa iS bu tq rT wT sK sA sB sE oq bS bE bL rp) (sp_Mo_takeDraft now dr)) 0 0 (inW (wMo g mo a o now dr pa sa iS bu tq rT wT sK sA sB sE oq bS bE bL rp)) := by
  refine Met.ofW (cc := b_Mo_takeDraft) (maxL := 2) (ret := none) pn_Mo rfl ?_
  intro p e s m args below meth c s₁ B hml hv
  obtain ⟨rfl, C, hP, hD, hS⟩ := enter "DecadeBridgeModel" rfl B hml hv
  obtain ⟨hx, hb, hr, hml, hown, hlk, hts, hK, hZo, hZ⟩ := id C
  refine entryW (lv := [(0, .ref mo)]) rfl (Nat.le_of_ble_eq_true rfl) (fun ls hl => ?_)
  obtain ⟨z, hz⟩ : ∃ z, z = sp_Mo_takeDraft now dr := ⟨_, rfl⟩
  rw [← hz]
  unfold sp_Mo_takeDraft at hz
  unfold ok_Mo_takeDraft at hok
  refine lv_iconst (v := 0) hx hb d_Mo_takeDraft_0 (by decide) ?_
  refine lv_istore_n (lv' := [(1, .int (0 : Int32)), (0, .ref mo)]) hx hb d_Mo_takeDraft_1 rfl hl (by decide) rfl (fun ls hl => ?_)
  exact k_Mo_takeDraft_2 C big (0 : Int32) now hok _ hz _ _ ls hP hD hS (lv_sub hl [1, 0] rfl)
abbrev rm_Mo_isKind : Room := { frames := 1, cells := 0, slots := 0, locals := 25 }
noncomputable def sp_Mo_isKind (p1 : Int64) : Int32 := lett (sp_Mo_in p1 (0 : Int64) (4 : Int64)) fun (y1 : Int32) => y1
def ok_Mo_isKind (p1 : Int64) : Prop := lett (sp_Mo_in p1 (0 : Int64) (4 : Int64)) fun (y1 : Int32) => (isB y1) ∧ True
set_option maxRecDepth 100000 in
set_option maxHeartbeats 4000000 in
theorem c_Mo_isKind (l : Launch) (g : GX) (mo : Nat) (a : Nat → Nat) (o : IV) (now : LV) (dr : LV) (pa : LV) (sa : LV) (iS : IV) (bu : IV) (tq : IV) (rT : IV) (wT : IV) (sK : IV) (sA : IV) (sB : IV) (sE : IV) (oq : IV) (bS : IV) (bE : IV) (bL : IV) (rp : IV) (p1 : Int64) (hok : ok_Mo_isKind p1) : Met l y_Mo_isKind (wsY y_Mo_isKind b_Mo_isKind 2 (some .boolean)) rm_Mo_isKind (CP g [.long p1] (wMo g mo a o now dr pa sa iS bu tq rT wT sK sA sB sE oq bS bE bL rp)) (CI0 g (wMo g mo a o now dr pa sa iS bu tq rT wT sK sA sB sE oq bS bE bL rp) (sp_Mo_isKind p1)) 0 0 (inW (wMo g mo a o now dr pa sa iS bu tq rT wT sK sA sB sE oq bS bE bL rp)) := by
  refine Met.ofW (cc := b_Mo_isKind) (maxL := 2) (ret := (some .boolean)) pn_Mo rfl ?_
  intro p e s m args below meth c s₁ B hml hv
  obtain ⟨rfl, C, hP, hD, hS⟩ := enter "DecadeBridgeModel" rfl B hml hv
  obtain ⟨hx, hb, hr, hml, hown, hlk, hts, hK, hZo, hZ⟩ := id C
  refine entryW (lv := [(0, .long p1)]) rfl (Nat.le_of_ble_eq_true rfl) (fun ls hl => ?_)
  obtain ⟨z, hz⟩ : ∃ z, z = sp_Mo_isKind p1 := ⟨_, rfl⟩
  rw [← hz]
  unfold sp_Mo_isKind at hz
  unfold ok_Mo_isKind at hok
  refine lv_lload_n hx hb d_Mo_isKind_0 rfl (lv_at hl 0 rfl) ?_
  refine lv_lconst (v := 0) hx hb d_Mo_isKind_1 (by decide) ?_
  refine lv_ldc2 hx hb hown (hts _ qk_Mo_116) d_Mo_isKind_2 ?_
  have hB : SubW g (inW (wMo g mo a o now dr pa sa iS bu tq rT wT sK sA sB sE oq bS bE bL rp)) s (wMo g mo a o now dr pa sa iS bu tq rT wT sK sA sB sE oq bS bE bL rp) _ (List.range _) _ _ := (subF hP hD hS)
  refine goI0 hB (run_s C mf_Mo_in qm_Mo_118 (c_Mo_in l g mo a o now dr pa sa iS bu tq rT wT sK sA sB sE oq bS bE bL rp p1 (0 : Int64) (4 : Int64)) rfl rfl ⟨Nat.le_of_ble_eq_true rfl, Nat.le_of_ble_eq_true rfl⟩ ⟨Nat.le_of_ble_eq_true rfl, Nat.le_of_ble_eq_true rfl⟩ hB hl rfl rfl (Nat.le_of_ble_eq_true rfl) d_Mo_isKind_5) (fun y1 ey1 H locs hP hS => ?_)
  have hz := lett_z hz ey1
  have hok := lett_o hok ey1
  have hs2 := hok.1
  have hok := hok.2
  exact endZ0 C hz hP hS (isB_nar hs2) d_Mo_isKind_8
abbrev rm_Mo_nominal : Room := { frames := 1, cells := 0, slots := 0, locals := 23 }
noncomputable def sp_Mo_nominal (p1 : Int64) : Int64 := lett (sp_Mo_tenTo p1.toInt32) fun (y2 : Int64) => (1000 : Int64) * y2
def ok_Mo_nominal (p1 : Int64) : Prop := (ok_Mo_tenTo p1.toInt32) ∧ True
set_option maxRecDepth 100000 in
set_option maxHeartbeats 4000000 in
theorem c_Mo_nominal (l : Launch) (g : GX) (mo : Nat) (a : Nat → Nat) (o : IV) (now : LV) (dr : LV) (pa : LV) (sa : LV) (iS : IV) (bu : IV) (tq : IV) (rT : IV) (wT : IV) (sK : IV) (sA : IV) (sB : IV) (sE : IV) (oq : IV) (bS : IV) (bE : IV) (bL : IV) (rp : IV) (p1 : Int64) (hok : ok_Mo_nominal p1) : Met l y_Mo_nominal (wsY y_Mo_nominal b_Mo_nominal 2 (some .long)) rm_Mo_nominal (CP g [.long p1] (wMo g mo a o now dr pa sa iS bu tq rT wT sK sA sB sE oq bS bE bL rp)) (CL0 g (wMo g mo a o now dr pa sa iS bu tq rT wT sK sA sB sE oq bS bE bL rp) (sp_Mo_nominal p1)) 0 0 (inW (wMo g mo a o now dr pa sa iS bu tq rT wT sK sA sB sE oq bS bE bL rp)) := by
  refine Met.ofW (cc := b_Mo_nominal) (maxL := 2) (ret := (some .long)) pn_Mo rfl ?_
  intro p e s m args below meth c s₁ B hml hv
  obtain ⟨rfl, C, hP, hD, hS⟩ := enter "DecadeBridgeModel" rfl B hml hv
  obtain ⟨hx, hb, hr, hml, hown, hlk, hts, hK, hZo, hZ⟩ := id C
  refine entryW (lv := [(0, .long p1)]) rfl (Nat.le_of_ble_eq_true rfl) (fun ls hl => ?_)
  obtain ⟨z, hz⟩ : ∃ z, z = sp_Mo_nominal p1 := ⟨_, rfl⟩
  rw [← hz]
  unfold sp_Mo_nominal at hz
  unfold ok_Mo_nominal at hok
  refine lv_ldc2 hx hb hown (hts _ qk_Mo_102) d_Mo_nominal_0 ?_
  refine lv_lload_n hx hb d_Mo_nominal_3 rfl (lv_at hl 0 rfl) ?_
  refine lv_l2i hx hb d_Mo_nominal_4 rfl ?_
  have hs1 := hok.1
  have hok := hok.2
  have hB : SubW g (inW (wMo g mo a o now dr pa sa iS bu tq rT wT sK sA sB sE oq bS bE bL rp)) s (wMo g mo a o now dr pa sa iS bu tq rT wT sK sA sB sE oq bS bE bL rp) _ (List.range _) _ _ := (subF hP hD hS)
  refine goL0 hB (run_s C mf_Mo_tenTo qm_Mo_122 (c_Mo_tenTo l g mo a o now dr pa sa iS bu tq rT wT sK sA sB sE oq bS bE bL rp p1.toInt32 hs1) rfl rfl ⟨Nat.le_of_ble_eq_true rfl, Nat.le_of_ble_eq_true rfl⟩ ⟨Nat.le_of_ble_eq_true rfl, Nat.le_of_ble_eq_true rfl⟩ hB hl rfl rfl (Nat.le_of_ble_eq_true rfl) d_Mo_nominal_5) (fun y2 ey2 H locs hP hS => ?_)
  have hz := lett_z hz ey2
  refine lv_lmul hx hb d_Mo_nominal_8 ?_
  exact endL0 C hz hP hS d_Mo_nominal_9
abbrev rm_Mo_ohmsOf : Room := { frames := 2, cells := 0, slots := 0, locals := 44 }
noncomputable def sp_Mo_ohmsOf (p1 : Int64) (now : LV) : Int64 := lett (sp_Mo_nominal p1) fun (y2 : Int64) => lett (sp_Mo_nominal p1) fun (y3 : Int64) => y2 + ((y3 * (now ((7 : Int32) + p1.toInt32).toNatClampNeg)) / (1000000 : Int64))
def ok_Mo_ohmsOf (p1 : Int64) : Prop := (ok_Mo_nominal p1) ∧ lett (sp_Mo_nominal p1) fun (y2 : Int64) => lett (sp_Mo_nominal p1) fun (y3 : Int64) => (vp_in ((7 : Int32) + p1.toInt32) 215) ∧ True
set_option maxRecDepth 100000 in
set_option maxHeartbeats 4000000 in
theorem c_Mo_ohmsOf (l : Launch) (g : GX) (mo : Nat) (a : Nat → Nat) (o : IV) (now : LV) (dr : LV) (pa : LV) (sa : LV) (iS : IV) (bu : IV) (tq : IV) (rT : IV) (wT : IV) (sK : IV) (sA : IV) (sB : IV) (sE : IV) (oq : IV) (bS : IV) (bE : IV) (bL : IV) (rp : IV) (p1 : Int64) (hok : ok_Mo_ohmsOf p1) : Met l y_Mo_ohmsOf (wsY y_Mo_ohmsOf b_Mo_ohmsOf 3 (some .long)) rm_Mo_ohmsOf (CP g [.ref mo, .long p1] (wMo g mo a o now dr pa sa iS bu tq rT wT sK sA sB sE oq bS bE bL rp)) (CL0 g (wMo g mo a o now dr pa sa iS bu tq rT wT sK sA sB sE oq bS bE bL rp) (sp_Mo_ohmsOf p1 now)) 0 0 (inW (wMo g mo a o now dr pa sa iS bu tq rT wT sK sA sB sE oq bS bE bL rp)) := by
  refine Met.ofW (cc := b_Mo_ohmsOf) (maxL := 3) (ret := (some .long)) pn_Mo rfl ?_
  intro p e s m args below meth c s₁ B hml hv
  obtain ⟨rfl, C, hP, hD, hS⟩ := enter "DecadeBridgeModel" rfl B hml hv
  obtain ⟨hx, hb, hr, hml, hown, hlk, hts, hK, hZo, hZ⟩ := id C
  refine entryW (lv := [(0, .ref mo), (1, .long p1)]) rfl (Nat.le_of_ble_eq_true rfl) (fun ls hl => ?_)
  obtain ⟨z, hz⟩ : ∃ z, z = sp_Mo_ohmsOf p1 now := ⟨_, rfl⟩
  rw [← hz]
  unfold sp_Mo_ohmsOf at hz
  unfold ok_Mo_ohmsOf at hok
  refine lv_lload_n hx hb d_Mo_ohmsOf_0 rfl (lv_at hl 1 rfl) ?_
  have hs1 := hok.1
  have hok := hok.2
  have hB : SubW g (inW (wMo g mo a o now dr pa sa iS bu tq rT wT sK sA sB sE oq bS bE bL rp)) s (wMo g mo a o now dr pa sa iS bu tq rT wT sK sA sB sE oq bS bE bL rp) _ (List.range _) _ _ := (subF hP hD hS)
  refine goL0 hB (run_s C mf_Mo_nominal qm_Mo_126 (c_Mo_nominal l g mo a o now dr pa sa iS bu tq rT wT sK sA sB sE oq bS bE bL rp p1 hs1) rfl rfl ⟨Nat.le_of_ble_eq_true rfl, Nat.le_of_ble_eq_true rfl⟩ ⟨Nat.le_of_ble_eq_true rfl, Nat.le_of_ble_eq_true rfl⟩ hB hl rfl rfl (Nat.le_of_ble_eq_true rfl) d_Mo_ohmsOf_1) (fun y2 ey2 H locs hP hS => ?_)
  have hz := lett_z hz ey2
  have hok := lett_o hok ey2
  refine lv_lload_n hx hb d_Mo_ohmsOf_4 rfl (lv_at hl 1 rfl) ?_
  have hB : SubW g (inW (wMo g mo a o now dr pa sa iS bu tq rT wT sK sA sB sE oq bS bE bL rp)) s (wMo g mo a o now dr pa sa iS bu tq rT wT sK sA sB sE oq bS bE bL rp) _ (List.range _) _ _ := (subF hP hD hS)
  refine goL0 hB (run_s C mf_Mo_nominal qm_Mo_126 (c_Mo_nominal l g mo a o now dr pa sa iS bu tq rT wT sK sA sB sE oq bS bE bL rp p1 hs1) rfl rfl ⟨Nat.le_of_ble_eq_true rfl, Nat.le_of_ble_eq_true rfl⟩ ⟨Nat.le_of_ble_eq_true rfl, Nat.le_of_ble_eq_true rfl⟩ hB hl rfl rfl (Nat.le_of_ble_eq_true rfl) d_Mo_ohmsOf_5) (fun y3 ey3 H locs hP hS => ?_)
  have hz := lett_z hz ey3
  have hok := lett_o hok ey3
  refine lv_aload_n hx hb d_Mo_ohmsOf_8 rfl (lv_at hl 0 rfl) ?_
  refine gf C hP 0 0 fkMo rfl (by decide) rfl qf_Mo_7 (gMo_0 _ _) d_Mo_ohmsOf_9 ?_
  refine lv_bipush (v := 7) hx hb d_Mo_ohmsOf_12 (by decide) ?_
  refine lv_lload_n hx hb d_Mo_ohmsOf_14 rfl (lv_at hl 1 rfl) ?_
  refine lv_l2i hx hb d_Mo_ohmsOf_15 rfl ?_
  refine lv_iadd hx hb d_Mo_ohmsOf_16 ?_
  have hs4 := hok.1
  have hok := hok.2
  refine ldL C hP 1 rfl hs4 rfl d_Mo_ohmsOf_17 ?_
  refine lv_lmul hx hb d_Mo_ohmsOf_18 ?_
  refine lv_ldc2 hx hb hown (hts _ qk_Mo_112) d_Mo_ohmsOf_19 ?_
  refine lv_ldiv hx hb d_Mo_ohmsOf_22 (by decide) ?_
  refine lv_ladd hx hb d_Mo_ohmsOf_23 ?_
  exact endL0 C hz hP hS d_Mo_ohmsOf_24
abbrev rm_Mo_decades : Room := { frames := 0, cells := 0, slots := 0, locals := 0 }
noncomputable def sp_Mo_decades (now : LV) : Int32 := (now 0).toInt32
set_option maxRecDepth 100000 in
set_option maxHeartbeats 4000000 in
theorem c_Mo_decades (l : Launch) (g : GX) (mo : Nat) (a : Nat → Nat) (o : IV) (now : LV) (dr : LV) (pa : LV) (sa : LV) (iS : IV) (bu : IV) (tq : IV) (rT : IV) (wT : IV) (sK : IV) (sA : IV) (sB : IV) (sE : IV) (oq : IV) (bS : IV) (bE : IV) (bL : IV) (rp : IV)  : Met l y_Mo_decades (wsY y_Mo_decades b_Mo_decades 1 (some .int)) rm_Mo_decades (CP g [.ref mo] (wMo g mo a o now dr pa sa iS bu tq rT wT sK sA sB sE oq bS bE bL rp)) (CI0 g (wMo g mo a o now dr pa sa iS bu tq rT wT sK sA sB sE oq bS bE bL rp) (sp_Mo_decades now)) 0 0 (inW (wMo g mo a o now dr pa sa iS bu tq rT wT sK sA sB sE oq bS bE bL rp)) := by
  refine Met.ofW (cc := b_Mo_decades) (maxL := 1) (ret := (some .int)) pn_Mo rfl ?_
  intro p e s m args below meth c s₁ B hml hv
  obtain ⟨rfl, C, hP, hD, hS⟩ := enter "DecadeBridgeModel" rfl B hml hv
  obtain ⟨hx, hb, hr, hml, hown, hlk, hts, hK, hZo, hZ⟩ := id C
  refine entryW (lv := [(0, .ref mo)]) rfl (Nat.le_of_ble_eq_true rfl) (fun ls hl => ?_)
  obtain ⟨z, hz⟩ : ∃ z, z = sp_Mo_decades now := ⟨_, rfl⟩
  rw [← hz]
  unfold sp_Mo_decades at hz
  refine lv_aload_n hx hb d_Mo_decades_0 rfl (lv_at hl 0 rfl) ?_
  refine gf C hP 0 0 fkMo rfl (by decide) rfl qf_Mo_7 (gMo_0 _ _) d_Mo_decades_1 ?_
  refine lv_iconst (v := 0) hx hb d_Mo_decades_4 (by decide) ?_
  refine ldL C hP 1 rfl vi_0_215 cn_0 d_Mo_decades_5 ?_
  refine lv_l2i hx hb d_Mo_decades_6 rfl ?_
  exact endI0 C hz hP hS d_Mo_decades_7
abbrev rm_Mo_settings : Room := { frames := 1, cells := 0, slots := 0, locals := 23 }
noncomputable def sp_Mo_settings (now : LV) : Int32 := lett (sp_Mo_decades now) fun (y1 : Int32) => lett (sp_Mo_tenTo y1) fun (y3 : Int64) => y3.toInt32
def ok_Mo_settings (now : LV) : Prop := lett (sp_Mo_decades now) fun (y1 : Int32) => (ok_Mo_tenTo y1) ∧ True
set_option maxRecDepth 100000 in
set_option maxHeartbeats 4000000 in
theorem c_Mo_settings (l : Launch) (g : GX) (mo : Nat) (a : Nat → Nat) (o : IV) (now : LV) (dr : LV) (pa : LV) (sa : LV) (iS : IV) (bu : IV) (tq : IV) (rT : IV) (wT : IV) (sK : IV) (sA : IV) (sB : IV) (sE : IV) (oq : IV) (bS : IV) (bE : IV) (bL : IV) (rp : IV)  (hok : ok_Mo_settings now) : Met l y_Mo_settings (wsY y_Mo_settings b_Mo_settings 1 (some .int)) rm_Mo_settings (CP g [.ref mo] (wMo g mo a o now dr pa sa iS bu tq rT wT sK sA sB sE oq bS bE bL rp)) (CI0 g (wMo g mo a o now dr pa sa iS bu tq rT wT sK sA sB sE oq bS bE bL rp) (sp_Mo_settings now)) 0 0 (inW (wMo g mo a o now dr pa sa iS bu tq rT wT sK sA sB sE oq bS bE bL rp)) := by
  refine Met.ofW (cc := b_Mo_settings) (maxL := 1) (ret := (some .int)) pn_Mo rfl ?_
  intro p e s m args below meth c s₁ B hml hv
  obtain ⟨rfl, C, hP, hD, hS⟩ := enter "DecadeBridgeModel" rfl B hml hv
  obtain ⟨hx, hb, hr, hml, hown, hlk, hts, hK, hZo, hZ⟩ := id C
  refine entryW (lv := [(0, .ref mo)]) rfl (Nat.le_of_ble_eq_true rfl) (fun ls hl => ?_)
  obtain ⟨z, hz⟩ : ∃ z, z = sp_Mo_settings now := ⟨_, rfl⟩
  rw [← hz]
  unfold sp_Mo_settings at hz
  unfold ok_Mo_settings at hok
  refine lv_aload_n hx hb d_Mo_settings_0 rfl (lv_at hl 0 rfl) ?_
  have hB : SubW g (inW (wMo g mo a o now dr pa sa iS bu tq rT wT sK sA sB sE oq bS bE bL rp)) s (wMo g mo a o now dr pa sa iS bu tq rT wT sK sA sB sE oq bS bE bL rp) _ (List.range _) _ _ := (subF hP hD hS)
  refine goI0 hB (run_v C mf_Mo_decades qm_Mo_130 (c_Mo_decades l g mo a o now dr pa sa iS bu tq rT wT sK sA sB sE oq bS bE bL rp) rfl rfl ⟨Nat.le_of_ble_eq_true rfl, Nat.le_of_ble_eq_true rfl⟩ ⟨Nat.le_of_ble_eq_true rfl, Nat.le_of_ble_eq_true rfl⟩ hB rfl rfl hl rfl rfl (Nat.le_of_ble_eq_true rfl) d_Mo_settings_1) (fun y1 ey1 H locs hP hS => ?_)
  have hz := lett_z hz ey1
  have hok := lett_o hok ey1
  have hs2 := hok.1
  have hok := hok.2
  have hB : SubW g (inW (wMo g mo a o now dr pa sa iS bu tq rT wT sK sA sB sE oq bS bE bL rp)) s (wMo g mo a o now dr pa sa iS bu tq rT wT sK sA sB sE oq bS bE bL rp) _ (List.range _) _ _ := (subF hP hD hS)
  refine goL0 hB (run_s C mf_Mo_tenTo qm_Mo_122 (c_Mo_tenTo l g mo a o now dr pa sa iS bu tq rT wT sK sA sB sE oq bS bE bL rp y1 hs2) rfl rfl ⟨Nat.le_of_ble_eq_true rfl, Nat.le_of_ble_eq_true rfl⟩ ⟨Nat.le_of_ble_eq_true rfl, Nat.le_of_ble_eq_true rfl⟩ hB hl rfl rfl (Nat.le_of_ble_eq_true rfl) d_Mo_settings_4) (fun y3 ey3 H locs hP hS => ?_)
  have hz := lett_z hz ey3
  refine lv_l2i hx hb d_Mo_settings_7 rfl ?_
  exact endI0 C hz hP hS d_Mo_settings_8
abbrev rm_Mo_stepOf : Room := { frames := 1, cells := 0, slots := 0, locals := 23 }
noncomputable def sp_Mo_stepOf (p1 : Int32) (now : LV) : Int64 := lett (sp_Mo_decades now) fun (y1 : Int32) => lett (sp_Mo_tenTo ((y1 - (1 : Int32)) - p1)) fun (y3 : Int64) => (now 1) * y3
def ok_Mo_stepOf (p1 : Int32) (now : LV) : Prop := lett (sp_Mo_decades now) fun (y1 : Int32) => (ok_Mo_tenTo ((y1 - (1 : Int32)) - p1)) ∧ True
set_option maxRecDepth 100000 in
set_option maxHeartbeats 4000000 in
theorem c_Mo_stepOf (l : Launch) (g : GX) (mo : Nat) (a : Nat → Nat) (o : IV) (now : LV) (dr : LV) (pa : LV) (sa : LV) (iS : IV) (bu : IV) (tq : IV) (rT : IV) (wT : IV) (sK : IV) (sA : IV) (sB : IV) (sE : IV) (oq : IV) (bS : IV) (bE : IV) (bL : IV) (rp : IV) (p1 : Int32) (hok : ok_Mo_stepOf p1 now) : Met l y_Mo_stepOf (wsY y_Mo_stepOf b_Mo_stepOf 2 (some .long)) rm_Mo_stepOf (CP g [.ref mo, .int p1] (wMo g mo a o now dr pa sa iS bu tq rT wT sK sA sB sE oq bS bE bL rp)) (CL0 g (wMo g mo a o now dr pa sa iS bu tq rT wT sK sA sB sE oq bS bE bL rp) (sp_Mo_stepOf p1 now)) 0 0 (inW (wMo g mo a o now dr pa sa iS bu tq rT wT sK sA sB sE oq bS bE bL rp)) := by
  refine Met.ofW (cc := b_Mo_stepOf) (maxL := 2) (ret := (some .long)) pn_Mo rfl ?_
  intro p e s m args below meth c s₁ B hml hv
  obtain ⟨rfl, C, hP, hD, hS⟩ := enter "DecadeBridgeModel" rfl B hml hv
  obtain ⟨hx, hb, hr, hml, hown, hlk, hts, hK, hZo, hZ⟩ := id C
  refine entryW (lv := [(0, .ref mo), (1, .int p1)]) rfl (Nat.le_of_ble_eq_true rfl) (fun ls hl => ?_)
  obtain ⟨z, hz⟩ : ∃ z, z = sp_Mo_stepOf p1 now := ⟨_, rfl⟩
  rw [← hz]
  unfold sp_Mo_stepOf at hz
  unfold ok_Mo_stepOf at hok
  refine lv_aload_n hx hb d_Mo_stepOf_0 rfl (lv_at hl 0 rfl) ?_
  refine gf C hP 0 0 fkMo rfl (by decide) rfl qf_Mo_7 (gMo_0 _ _) d_Mo_stepOf_1 ?_
  refine lv_iconst (v := 1) hx hb d_Mo_stepOf_4 (by decide) ?_
  refine ldL C hP 1 rfl vi_1_215 cn_1 d_Mo_stepOf_5 ?_
  refine lv_aload_n hx hb d_Mo_stepOf_6 rfl (lv_at hl 0 rfl) ?_
  have hB : SubW g (inW (wMo g mo a o now dr pa sa iS bu tq rT wT sK sA sB sE oq bS bE bL rp)) s (wMo g mo a o now dr pa sa iS bu tq rT wT sK sA sB sE oq bS bE bL rp) _ (List.range _) _ _ := (subF hP hD hS)
  refine goI0 hB (run_v C mf_Mo_decades qm_Mo_130 (c_Mo_decades l g mo a o now dr pa sa iS bu tq rT wT sK sA sB sE oq bS bE bL rp) rfl rfl ⟨Nat.le_of_ble_eq_true rfl, Nat.le_of_ble_eq_true rfl⟩ ⟨Nat.le_of_ble_eq_true rfl, Nat.le_of_ble_eq_true rfl⟩ hB rfl rfl hl rfl rfl (Nat.le_of_ble_eq_true rfl) d_Mo_stepOf_7) (fun y1 ey1 H locs hP hS => ?_)
  have hz := lett_z hz ey1
  have hok := lett_o hok ey1
  refine lv_iconst (v := 1) hx hb d_Mo_stepOf_10 (by decide) ?_
  refine lv_isub hx hb d_Mo_stepOf_11 ?_
  refine lv_iload_n hx hb d_Mo_stepOf_12 rfl (lv_at hl 1 rfl) ?_
  refine lv_isub hx hb d_Mo_stepOf_13 ?_
  have hs2 := hok.1
  have hok := hok.2
  have hB : SubW g (inW (wMo g mo a o now dr pa sa iS bu tq rT wT sK sA sB sE oq bS bE bL rp)) s (wMo g mo a o now dr pa sa iS bu tq rT wT sK sA sB sE oq bS bE bL rp) _ (List.range _) _ _ := (subF hP hD hS)
  refine goL0 hB (run_s C mf_Mo_tenTo qm_Mo_122 (c_Mo_tenTo l g mo a o now dr pa sa iS bu tq rT wT sK sA sB sE oq bS bE bL rp ((y1 - (1 : Int32)) - p1) hs2) rfl rfl ⟨Nat.le_of_ble_eq_true rfl, Nat.le_of_ble_eq_true rfl⟩ ⟨Nat.le_of_ble_eq_true rfl, Nat.le_of_ble_eq_true rfl⟩ hB hl rfl rfl (Nat.le_of_ble_eq_true rfl) d_Mo_stepOf_14) (fun y3 ey3 H locs hP hS => ?_)
  have hz := lett_z hz ey3
  refine lv_lmul hx hb d_Mo_stepOf_17 ?_
  exact endL0 C hz hP hS d_Mo_stepOf_18
abbrev rm_Mo_setting : Room := { frames := 1, cells := 0, slots := 0, locals := 20 }
def HL_Mo_setting_4 (p : Program) (l : Launch) (e : Env) (s : State) (m : MethodId) (args : Array Value) (below : List Frame) (meth : Method) (c : Code) (g : GX) (mo : Nat) (a : Nat → Nat) (o : IV) (now : LV) (dr : LV) (pa : LV) (sa : LV) (iS : IV) (bu : IV) (tq : IV) (rT : IV) (wT : IV) (sK : IV) (sA : IV) (sB : IV) (sE : IV) (oq : IV) (bS : IV) (bE : IV) (bL : IV) (rp : IV) (sp : Int32 → Int32 → Int32) (ok : Int32 → Int32 → Prop) : Prop := ∀ (x1p4 : Int32) (x2p4 : Int32), ok x1p4 x2p4 → ∀ z : Int32, z = sp x1p4 x2p4 → ∀ (H : Heap) (locs : List Loc) (ls : Array Slot), va_P g.1 vwCl (wMo g mo a o now dr pa sa iS bu tq rT wT sK sA sB sE oq bS bE bL rp) H → va_D (inW (wMo g mo a o now dr pa sa iS bu tq rT wT sK sA sB sE oq bS bE bL rp)) (wMo g mo a o now dr pa sa iS bu tq rT wT sK sA sB sE oq bS bE bL rp) → va_S (inW (wMo g mo a o now dr pa sa iS bu tq rT wT sK sA sB sE oq bS bE bL rp)) s.heap H locs → lv_has ls 3 [(0, .ref mo), (1, .int x1p4), (2, .int x2p4)] → W p l e rm_Mo_setting s m args below meth c H locs 0 0 (MQ below (CI0 g (wMo g mo a o now dr pa sa iS bu tq rT wT sK sA sB sE oq bS bE bL rp) z) args s 0 0 (inW (wMo g mo a o now dr pa sa iS bu tq rT wT sK sA sB sE oq bS bE bL rp))) (F0 m 4 ls [])
noncomputable def bd_Mo_setting_4 (now : LV) (r4 : Int32 → Int32 → Int32) (x1p4 : Int32) (x2p4 : Int32) : Int32 := lett (sp_Mo_decades now) fun (y1 : Int32) => if y1 ≤ x2p4 then (x1p4) else (lett (((10 : Int32) * x1p4) + ((now ((33 : Int32) + x2p4).toNatClampNeg).toInt32)) fun (v4 : Int32) => lett (x2p4 + (1 : Int32)) fun (v5 : Int32) => r4 v4 v5)
def okb_Mo_setting_4 (now : LV) (r4 : Int32 → Int32 → Int32) (q4 : Int32 → Int32 → Prop) (x1p4 : Int32) (x2p4 : Int32) : Prop := lett (sp_Mo_decades now) fun (y1 : Int32) => ((y1 ≤ x2p4 → True) ∧ (¬ (y1 ≤ x2p4) → (vp_in ((33 : Int32) + x2p4) 215) ∧ lett (((10 : Int32) * x1p4) + ((now ((33 : Int32) + x2p4).toNatClampNeg).toInt32)) fun (v4 : Int32) => lett (x2p4 + (1 : Int32)) fun (v5 : Int32) => q4 v4 v5))
noncomputable def sp_Mo_setting_4 (now : LV)  : Nat → Int32 → Int32 → Int32
  | 0 => fun _ _ => default
  | f + 1 => bd_Mo_setting_4 now  (sp_Mo_setting_4 now  f)
def ok_Mo_setting_4 (now : LV)   : Nat → Int32 → Int32 → Prop
  | 0 => fun _ _ => False
  | f + 1 => okb_Mo_setting_4 now  (sp_Mo_setting_4 now  f)  (ok_Mo_setting_4 now   f)
set_option maxRecDepth 100000 in
set_option maxHeartbeats 4000000 in
theorem kb_Mo_setting_4 {p : Program} {l : Launch} {e : Env} {s : State} {m : MethodId} {args : Array Value} {below : List Frame} {meth : Method} {c : Code} {g : GX} {mo : Nat} {a : Nat → Nat} {o : IV} {now : LV} {dr : LV} {pa : LV} {sa : LV} {iS : IV} {bu : IV} {tq : IV} {rT : IV} {wT : IV} {sK : IV} {sA : IV} {sB : IV} {sE : IV} {oq : IV} {bS : IV} {bE : IV} {bL : IV} {rp : IV}  (C : Cx p s m args meth c (inW (wMo g mo a o now dr pa sa iS bu tq rT wT sK sA sB sE oq bS bE bL rp)) g "DecadeBridgeModel" b_Mo_setting (some .int) 3) {r4 : Int32 → Int32 → Int32} {q4 : Int32 → Int32 → Prop}  (ih4 : HL_Mo_setting_4 p l e s m args below meth c g mo a o now dr pa sa iS bu tq rT wT sK sA sB sE oq bS bE bL rp r4 q4) : HL_Mo_setting_4 p l e s m args below meth c g mo a o now dr pa sa iS bu tq rT wT sK sA sB sE oq bS bE bL rp (bd_Mo_setting_4 now  r4) (okb_Mo_setting_4 now  r4  q4) := by
  intro x1p4 x2p4 hok z hz H locs ls hP hD hS hl
  obtain ⟨hx, hb, hr, hml, hown, hlk, hts, hK, hZo, hZ⟩ := id C
  unfold bd_Mo_setting_4 at hz
  unfold okb_Mo_setting_4 at hok
  refine lv_iload_n hx hb d_Mo_setting_4 rfl (lv_at hl 2 rfl) ?_
  refine lv_aload_n hx hb d_Mo_setting_5 rfl (lv_at hl 0 rfl) ?_
  have hB : SubW g (inW (wMo g mo a o now dr pa sa iS bu tq rT wT sK sA sB sE oq bS bE bL rp)) s (wMo g mo a o now dr pa sa iS bu tq rT wT sK sA sB sE oq bS bE bL rp) _ (List.range _) _ _ := (subF hP hD hS)
  refine goI0 hB (run_v C mf_Mo_decades qm_Mo_130 (c_Mo_decades l g mo a o now dr pa sa iS bu tq rT wT sK sA sB sE oq bS bE bL rp) rfl rfl ⟨Nat.le_of_ble_eq_true rfl, Nat.le_of_ble_eq_true rfl⟩ ⟨Nat.le_of_ble_eq_true rfl, Nat.le_of_ble_eq_true rfl⟩ hB rfl rfl hl rfl rfl (Nat.le_of_ble_eq_true rfl) d_Mo_setting_6) (fun y1 ey1 H locs hP hS => ?_)
  have hz := lett_z hz ey1
  have hok := lett_o hok ey1
  refine lv_icmp_ge (tgt := 34) hx hb d_Mo_setting_9 (by decide) (fun c2 => ?_) (fun c2 => ?_)
  · have hz := hz.trans (if_pos c2)
    refine lv_iload_n hx hb d_Mo_setting_34 rfl (lv_at hl 1 rfl) ?_
    exact endI0 C hz hP hS d_Mo_setting_35
  · have hz := hz.trans (if_neg c2)
    have hok := hok.2 c2
    refine lv_bipush (v := 10) hx hb d_Mo_setting_12 (by decide) ?_
    refine lv_iload_n hx hb d_Mo_setting_14 rfl (lv_at hl 1 rfl) ?_
    refine lv_imul hx hb d_Mo_setting_15 ?_
    refine lv_aload_n hx hb d_Mo_setting_16 rfl (lv_at hl 0 rfl) ?_
    refine gf C hP 0 0 fkMo rfl (by decide) rfl qf_Mo_7 (gMo_0 _ _) d_Mo_setting_17 ?_
    refine lv_bipush (v := 33) hx hb d_Mo_setting_20 (by decide) ?_
    refine lv_iload_n hx hb d_Mo_setting_22 rfl (lv_at hl 2 rfl) ?_
    refine lv_iadd hx hb d_Mo_setting_23 ?_
    have hs3 := hok.1
    have hok := hok.2
    refine ldL C hP 1 rfl hs3 rfl d_Mo_setting_24 ?_
    refine lv_l2i hx hb d_Mo_setting_25 rfl ?_
    refine lv_iadd hx hb d_Mo_setting_26 ?_
    refine lv_topi (fun v4 ev4 => ?_)
    have hz := lett_z hz ev4
    have hok := lett_o hok ev4
    refine lv_istore_n (lv' := [(1, .int v4), (0, .ref mo), (2, .int x2p4)]) hx hb d_Mo_setting_27 rfl hl (by decide) rfl (fun ls hl => ?_)
    obtain ⟨v5, ev5⟩ : ∃ y : Int32, y = x2p4 + (1 : Int32) := ⟨_, rfl⟩
    have hz := lett_z hz ev5
    have hok := lett_o hok ev5
    refine lv_iinc (v := v5) (lv' := [(2, .int v5), (1, .int v4), (0, .ref mo)]) hx hb d_Mo_setting_28 hl (k := 2) rfl (by rw [ev5]; rfl) (by decide) rfl (fun ls hl => ?_)
    refine lv_goto (tgt := 4) hx hb d_Mo_setting_31 (by decide) ?_
    exact ih4 v4 v5 hok _ hz _ _ ls hP hD hS (lv_sub hl [2, 1, 0] rfl)
theorem k_Mo_setting_4 {p : Program} {l : Launch} {e : Env} {s : State} {m : MethodId} {args : Array Value} {below : List Frame} {meth : Method} {c : Code} {g : GX} {mo : Nat} {a : Nat → Nat} {o : IV} {now : LV} {dr : LV} {pa : LV} {sa : LV} {iS : IV} {bu : IV} {tq : IV} {rT : IV} {wT : IV} {sK : IV} {sA : IV} {sB : IV} {sE : IV} {oq : IV} {bS : IV} {bE : IV} {bL : IV} {rp : IV}  (C : Cx p s m args meth c (inW (wMo g mo a o now dr pa sa iS bu tq rT wT sK sA sB sE oq bS bE bL rp)) g "DecadeBridgeModel" b_Mo_setting (some .int) 3) (f : Nat)  : HL_Mo_setting_4 p l e s m args below meth c g mo a o now dr pa sa iS bu tq rT wT sK sA sB sE oq bS bE bL rp (sp_Mo_setting_4 now  f) (ok_Mo_setting_4 now   f) := by
  induction f with
  | zero => intro x1p4 x2p4 hok; exact False.elim hok
  | succ f ih => exact kb_Mo_setting_4 C  ih
noncomputable def sp_Mo_setting (now : LV) : Int32 := sp_Mo_setting_4 now big (0 : Int32) (0 : Int32)
def ok_Mo_setting (now : LV) : Prop := ok_Mo_setting_4 now big (0 : Int32) (0 : Int32)
set_option maxRecDepth 100000 in
set_option maxHeartbeats 4000000 in
theorem c_Mo_setting (l : Launch) (g : GX) (mo : Nat) (a : Nat → Nat) (o : IV) (now : LV) (dr : LV) (pa : LV) (sa : LV) (iS : IV) (bu : IV) (tq : IV) (rT : IV) (wT : IV) (sK : IV) (sA : IV) (sB : IV) (sE : IV) (oq : IV) (bS : IV) (bE : IV) (bL : IV) (rp : IV)  (hok : ok_Mo_setting now) : Met l y_Mo_setting (wsY y_Mo_setting b_Mo_setting 3 (some .int)) rm_Mo_setting (CP g [.ref mo] (wMo g mo a o now dr pa sa iS bu tq rT wT sK sA sB sE oq bS bE bL rp)) (CI0 g (wMo g mo a o now dr pa sa iS bu tq rT wT sK sA sB sE oq bS bE bL rp) (sp_Mo_setting now)) 0 0 (inW (wMo g mo a o now dr pa sa iS bu tq rT wT sK sA sB sE oq bS bE bL rp)) := by
  refine Met.ofW (cc := b_Mo_setting) (maxL := 3) (ret := (some .int)) pn_Mo rfl ?_
  intro p e s m args below meth c s₁ B hml hv
  obtain ⟨rfl, C, hP, hD, hS⟩ := enter "DecadeBridgeModel" rfl B hml hv
  obtain ⟨hx, hb, hr, hml, hown, hlk, hts, hK, hZo, hZ⟩ := id C
  refine entryW (lv := [(0, .ref mo)]) rfl (Nat.le_of_ble_eq_true rfl) (fun ls hl => ?_)
  obtain ⟨z, hz⟩ : ∃ z, z = sp_Mo_setting now := ⟨_, rfl⟩
  rw [← hz]
  unfold sp_Mo_setting at hz
  unfold ok_Mo_setting at hok
  refine lv_iconst (v := 0) hx hb d_Mo_setting_0 (by decide) ?_
  refine lv_istore_n (lv' := [(1, .int (0 : Int32)), (0, .ref mo)]) hx hb d_Mo_setting_1 rfl hl (by decide) rfl (fun ls hl => ?_)
  refine lv_iconst (v := 0) hx hb d_Mo_setting_2 (by decide) ?_
  refine lv_istore_n (lv' := [(2, .int (0 : Int32)), (1, .int (0 : Int32)), (0, .ref mo)]) hx hb d_Mo_setting_3 rfl hl (by decide) rfl (fun ls hl => ?_)
  exact k_Mo_setting_4 C big (0 : Int32) (0 : Int32) hok _ hz _ _ ls hP hD hS (lv_sub hl [2, 1, 0] rfl)
abbrev rm_Mo_laySetting : Room := { frames := 1, cells := 0, slots := 0, locals := 20 }
def HL_Mo_laySetting_9 (p : Program) (l : Launch) (e : Env) (s : State) (m : MethodId) (args : Array Value) (below : List Frame) (meth : Method) (c : Code) (g : GX) (mo : Nat) (a : Nat → Nat) (ws0 : va_W) (o : IV) (dr : LV) (pa : LV) (sa : LV) (iS : IV) (bu : IV) (tq : IV) (rT : IV) (wT : IV) (sK : IV) (sA : IV) (sB : IV) (sE : IV) (oq : IV) (bS : IV) (bE : IV) (bL : IV) (rp : IV) (sp : Int32 → Int32 → LV → LV) (ok : Int32 → Int32 → LV → Prop) : Prop := ∀ (x2p9 : Int32) (x3p9 : Int32) (nowp9 : LV), ok x2p9 x3p9 nowp9 → ∀ z : LV, z = sp x2p9 x3p9 nowp9 → ∀ (H : Heap) (locs : List Loc) (ls : Array Slot), va_P g.1 vwCl (wMo g mo a o nowp9 dr pa sa iS bu tq rT wT sK sA sB sE oq bS bE bL rp) H → va_D (inW ws0) (wMo g mo a o nowp9 dr pa sa iS bu tq rT wT sK sA sB sE oq bS bE bL rp) → va_S (inW ws0) s.heap H locs → lv_has ls 4 [(0, .ref mo), (2, .int x2p9), (3, .int x3p9)] → W p l e rm_Mo_laySetting s m args below meth c H locs 0 0 (MQ below (CV g ws0 (fun u : LV => wMo g mo a o u dr pa sa iS bu tq rT wT sK sA sB sE oq bS bE bL rp) z) args s 0 0 (inW ws0)) (F0 m 9 ls [])
noncomputable def bd_Mo_laySetting_9  (r9 : Int32 → Int32 → LV → LV) (x2p9 : Int32) (x3p9 : Int32) (nowp9 : LV) : LV := if x3p9 < 0 then (nowp9) else (lett (vp_updL nowp9 ((33 : Int32) + x3p9).toNatClampNeg ((x2p9 - x2p9 / (10 : Int32) * (10 : Int32)).toInt64)) fun (now_5 : LV) => lett (x2p9 / (10 : Int32)) fun (v6 : Int32) => lett (x3p9 + (-1 : Int32)) fun (v7 : Int32) => r9 v6 v7 now_5)
def okb_Mo_laySetting_9  (r9 : Int32 → Int32 → LV → LV) (q9 : Int32 → Int32 → LV → Prop) (x2p9 : Int32) (x3p9 : Int32) (nowp9 : LV) : Prop := ((x3p9 < 0 → True) ∧ (¬ (x3p9 < 0) → (vp_in ((33 : Int32) + x3p9) 215) ∧ lett (vp_updL nowp9 ((33 : Int32) + x3p9).toNatClampNeg ((x2p9 - x2p9 / (10 : Int32) * (10 : Int32)).toInt64)) fun (now_5 : LV) => lett (x2p9 / (10 : Int32)) fun (v6 : Int32) => lett (x3p9 + (-1 : Int32)) fun (v7 : Int32) => q9 v6 v7 now_5))
noncomputable def sp_Mo_laySetting_9   : Nat → Int32 → Int32 → LV → LV
  | 0 => fun _ _ _ => default
  | f + 1 => bd_Mo_laySetting_9   (sp_Mo_laySetting_9   f)
def ok_Mo_laySetting_9    : Nat → Int32 → Int32 → LV → Prop
  | 0 => fun _ _ _ => False
  | f + 1 => okb_Mo_laySetting_9   (sp_Mo_laySetting_9   f)  (ok_Mo_laySetting_9    f)
set_option maxRecDepth 100000 in
set_option maxHeartbeats 4000000 in
theorem kb_Mo_laySetting_9 {p : Program} {l : Launch} {e : Env} {s : State} {m : MethodId} {args : Array Value} {below : List Frame} {meth : Method} {c : Code} {g : GX} {mo : Nat} {a : Nat → Nat} {ws0 : va_W} {o : IV} {dr : LV} {pa : LV} {sa : LV} {iS : IV} {bu : IV} {tq : IV} {rT : IV} {wT : IV} {sK : IV} {sA : IV} {sB : IV} {sE : IV} {oq : IV} {bS : IV} {bE : IV} {bL : IV} {rp : IV}  (C : Cx p s m args meth c (inW ws0) g "DecadeBridgeModel" b_Mo_laySetting none 4) {r9 : Int32 → Int32 → LV → LV} {q9 : Int32 → Int32 → LV → Prop}  (ih9 : HL_Mo_laySetting_9 p l e s m args below meth c g mo a ws0 o dr pa sa iS bu tq rT wT sK sA sB sE oq bS bE bL rp r9 q9) : HL_Mo_laySetting_9 p l e s m args below meth c g mo a ws0 o dr pa sa iS bu tq rT wT sK sA sB sE oq bS bE bL rp (bd_Mo_laySetting_9   r9) (okb_Mo_laySetting_9   r9  q9) := by
  intro x2p9 x3p9 nowp9 hok z hz H locs ls hP hD hS hl
  obtain ⟨hx, hb, hr, hml, hown, hlk, hts, hK, hZo, hZ⟩ := id C
  unfold bd_Mo_laySetting_9 at hz
  unfold okb_Mo_laySetting_9 at hok
  refine lv_iload_n hx hb d_Mo_laySetting_9 rfl (lv_at hl 2 rfl) ?_
  refine lv_if_lt (tgt := 38) hx hb d_Mo_laySetting_10 (by decide) (fun c3 => ?_) (fun c3 => ?_)
  · have hz := hz.trans (if_pos c3)
    exact endV C hz hP hS d_Mo_laySetting_38
  · have hz := hz.trans (if_neg c3)
    have hok := hok.2 c3
    refine lv_aload_n hx hb d_Mo_laySetting_13 rfl (lv_at hl 0 rfl) ?_
    refine gf C hP 0 0 fkMo rfl (by decide) rfl qf_Mo_7 (gMo_0 _ _) d_Mo_laySetting_14 ?_
    refine lv_bipush (v := 33) hx hb d_Mo_laySetting_17 (by decide) ?_
    refine lv_iload_n hx hb d_Mo_laySetting_19 rfl (lv_at hl 2 rfl) ?_
    refine lv_iadd hx hb d_Mo_laySetting_20 ?_
    refine lv_iload_n hx hb d_Mo_laySetting_21 rfl (lv_at hl 1 rfl) ?_
    refine lv_bipush (v := 10) hx hb d_Mo_laySetting_22 (by decide) ?_
    refine lv_irem hx hb d_Mo_laySetting_24 (by decide) ?_
    refine lv_i2l hx hb d_Mo_laySetting_25 rfl ?_
    have hs4 := hok.1
    have hok := hok.2
    refine stL C hP hD hS 1 rfl hs4 rfl d_Mo_laySetting_26 (fun now_5 enow_5 H locs hP hD hS => ?_)
    have hP : va_P g.1 vwCl (wMo g mo a o now_5 dr pa sa iS bu tq rT wT sK sA sB sE oq bS bE bL rp) H := hP
    have hD : va_D (inW ws0) (wMo g mo a o now_5 dr pa sa iS bu tq rT wT sK sA sB sE oq bS bE bL rp) := hD
    have hz := lett_z hz enow_5
    have hok := lett_o hok enow_5
    refine lv_iload_n hx hb d_Mo_laySetting_27 rfl (lv_at hl 1 rfl) ?_
    refine lv_bipush (v := 10) hx hb d_Mo_laySetting_28 (by decide) ?_
    refine lv_idiv hx hb d_Mo_laySetting_30 (by decide) ?_
    refine lv_topi (fun v6 ev6 => ?_)
    have hz := lett_z hz ev6
    have hok := lett_o hok ev6
    refine lv_istore_n (lv' := [(2, .int v6), (0, .ref mo), (3, .int x3p9)]) hx hb d_Mo_laySetting_31 rfl hl (by decide) rfl (fun ls hl => ?_)
    obtain ⟨v7, ev7⟩ : ∃ y : Int32, y = x3p9 + (-1 : Int32) := ⟨_, rfl⟩
    have hz := lett_z hz ev7
    have hok := lett_o hok ev7
    refine lv_iinc (v := v7) (lv' := [(3, .int v7), (2, .int v6), (0, .ref mo)]) hx hb d_Mo_laySetting_32 hl (k := 2) rfl (by rw [ev7]; rfl) (by decide) rfl (fun ls hl => ?_)
    refine lv_goto (tgt := 9) hx hb d_Mo_laySetting_35 (by decide) ?_
    exact ih9 v6 v7 now_5 hok _ hz _ _ ls hP hD hS (lv_sub hl [2, 1, 0] rfl)
theorem k_Mo_laySetting_9 {p : Program} {l : Launch} {e : Env} {s : State} {m : MethodId} {args : Array Value} {below : List Frame} {meth : Method} {c : Code} {g : GX} {mo : Nat} {a : Nat → Nat} {ws0 : va_W} {o : IV} {dr : LV} {pa : LV} {sa : LV} {iS : IV} {bu : IV} {tq : IV} {rT : IV} {wT : IV} {sK : IV} {sA : IV} {sB : IV} {sE : IV} {oq : IV} {bS : IV} {bE : IV} {bL : IV} {rp : IV}  (C : Cx p s m args meth c (inW ws0) g "DecadeBridgeModel" b_Mo_laySetting none 4) (f : Nat)  : HL_Mo_laySetting_9 p l e s m args below meth c g mo a ws0 o dr pa sa iS bu tq rT wT sK sA sB sE oq bS bE bL rp (sp_Mo_laySetting_9   f) (ok_Mo_laySetting_9    f) := by
  induction f with
  | zero => intro x2p9 x3p9 nowp9 hok; exact False.elim hok
  | succ f ih => exact kb_Mo_laySetting_9 C  ih
noncomputable def sp_Mo_laySetting (p1 : Int32) (now : LV) : LV := lett (sp_Mo_decades now) fun (y1 : Int32) => lett (y1 - (1 : Int32)) fun (v2 : Int32) => sp_Mo_laySetting_9 big p1 v2 now
def ok_Mo_laySetting (p1 : Int32) (now : LV) : Prop := lett (sp_Mo_decades now) fun (y1 : Int32) => lett (y1 - (1 : Int32)) fun (v2 : Int32) => ok_Mo_laySetting_9 big p1 v2 now
set_option maxRecDepth 100000 in
set_option maxHeartbeats 4000000 in
theorem c_Mo_laySetting (l : Launch) (g : GX) (mo : Nat) (a : Nat → Nat) (o : IV) (now : LV) (dr : LV) (pa : LV) (sa : LV) (iS : IV) (bu : IV) (tq : IV) (rT : IV) (wT : IV) (sK : IV) (sA : IV) (sB : IV) (sE : IV) (oq : IV) (bS : IV) (bE : IV) (bL : IV) (rp : IV) (p1 : Int32) (hok : ok_Mo_laySetting p1 now) : Met l y_Mo_laySetting (wsY y_Mo_laySetting b_Mo_laySetting 4 none) rm_Mo_laySetting (CP g [.ref mo, .int p1] (wMo g mo a o now dr pa sa iS bu tq rT wT sK sA sB sE oq bS bE bL rp)) (CV g (wMo g mo a o now dr pa sa iS bu tq rT wT sK sA sB sE oq bS bE bL rp) (fun u : LV => wMo g mo a o u dr pa sa iS bu tq rT wT sK sA sB sE oq bS bE bL rp) (sp_Mo_laySetting p1 now)) 0 0 (inW (wMo g mo a o now dr pa sa iS bu tq rT wT sK sA sB sE oq bS bE bL rp)) := by
  refine Met.ofW (cc := b_Mo_laySetting) (maxL := 4) (ret := none) pn_Mo rfl ?_
  intro p e s m args below meth c s₁ B hml hv
  obtain ⟨rfl, C, hP, hD, hS⟩ := enter "DecadeBridgeModel" rfl B hml hv
  obtain ⟨hx, hb, hr, hml, hown, hlk, hts, hK, hZo, hZ⟩ := id C
  refine entryW (lv := [(0, .ref mo), (1, .int p1)]) rfl (Nat.le_of_ble_eq_true rfl) (fun ls hl => ?_)
  obtain ⟨z, hz⟩ : ∃ z, z = sp_Mo_laySetting p1 now := ⟨_, rfl⟩
  rw [← hz]
  unfold sp_Mo_laySetting at hz
  unfold ok_Mo_laySetting at hok
  refine lv_iload_n hx hb d_Mo_laySetting_0 rfl (lv_at hl 1 rfl) ?_
  refine lv_istore_n (lv' := [(2, .int p1), (0, .ref mo), (1, .int p1)]) hx hb d_Mo_laySetting_1 rfl hl (by decide) rfl (fun ls hl => ?_)
  refine lv_aload_n hx hb d_Mo_laySetting_2 rfl (lv_at hl 1 rfl) ?_
  have hB : SubW g (inW (wMo g mo a o now dr pa sa iS bu tq rT wT sK sA sB sE oq bS bE bL rp)) s (wMo g mo a o now dr pa sa iS bu tq rT wT sK sA sB sE oq bS bE bL rp) _ (List.range _) _ _ := (subF hP hD hS)
  refine goI0 hB (run_v C mf_Mo_decades qm_Mo_130 (c_Mo_decades l g mo a o now dr pa sa iS bu tq rT wT sK sA sB sE oq bS bE bL rp) rfl rfl ⟨Nat.le_of_ble_eq_true rfl, Nat.le_of_ble_eq_true rfl⟩ ⟨Nat.le_of_ble_eq_true rfl, Nat.le_of_ble_eq_true rfl⟩ hB rfl rfl hl rfl rfl (Nat.le_of_ble_eq_true rfl) d_Mo_laySetting_3) (fun y1 ey1 H locs hP hS => ?_)
  have hz := lett_z hz ey1
  have hok := lett_o hok ey1
  refine lv_iconst (v := 1) hx hb d_Mo_laySetting_6 (by decide) ?_
  refine lv_isub hx hb d_Mo_laySetting_7 ?_
  refine lv_topi (fun v2 ev2 => ?_)
  have hz := lett_z hz ev2
  have hok := lett_o hok ev2
  refine lv_istore_n (lv' := [(3, .int v2), (2, .int p1), (0, .ref mo), (1, .int p1)]) hx hb d_Mo_laySetting_8 rfl hl (by decide) rfl (fun ls hl => ?_)
  exact k_Mo_laySetting_9 C big p1 v2 now hok _ hz _ _ ls hP hD hS (lv_sub hl [2, 1, 0] rfl)
abbrev rm_Mo_coldBy : Room := { frames := 2, cells := 0, slots := 0, locals := 44 }
def HL_Mo_coldBy_13 (p : Program) (l : Launch) (e : Env) (s : State) (m : MethodId) (args : Array Value) (below : List Frame) (meth : Method) (c : Code) (g : GX) (mo : Nat) (a : Nat → Nat) (o : IV) (now : LV) (dr : LV) (pa : LV) (sa : LV) (iS : IV) (bu : IV) (tq : IV) (rT : IV) (wT : IV) (sK : IV) (sA : IV) (sB : IV) (sE : IV) (oq : IV) (bS : IV) (bE : IV) (bL : IV) (rp : IV) (sp : Int64 → Int32 → Int32 → Int64) (ok : Int64 → Int32 → Int32 → Prop) : Prop := ∀ (x2p13 : Int64) (x4p13 : Int32) (x5p13 : Int32), ok x2p13 x4p13 x5p13 → ∀ z : Int64, z = sp x2p13 x4p13 x5p13 → ∀ (H : Heap) (locs : List Loc) (ls : Array Slot), va_P g.1 vwCl (wMo g mo a o now dr pa sa iS bu tq rT wT sK sA sB sE oq bS bE bL rp) H → va_D (inW (wMo g mo a o now dr pa sa iS bu tq rT wT sK sA sB sE oq bS bE bL rp)) (wMo g mo a o now dr pa sa iS bu tq rT wT sK sA sB sE oq bS bE bL rp) → va_S (inW (wMo g mo a o now dr pa sa iS bu tq rT wT sK sA sB sE oq bS bE bL rp)) s.heap H locs → lv_has ls 6 [(0, .ref mo), (2, .long x2p13), (4, .int x4p13), (5, .int x5p13)] → W p l e rm_Mo_coldBy s m args below meth c H locs 0 0 (MQ below (CL0 g (wMo g mo a o now dr pa sa iS bu tq rT wT sK sA sB sE oq bS bE bL rp) z) args s 0 0 (inW (wMo g mo a o now dr pa sa iS bu tq rT wT sK sA sB sE oq bS bE bL rp))) (F0 m 13 ls [])
def HL_Mo_coldBy_61 (p : Program) (l : Launch) (e : Env) (s : State) (m : MethodId) (args : Array Value) (below : List Frame) (meth : Method) (c : Code) (g : GX) (mo : Nat) (a : Nat → Nat) (o : IV) (now : LV) (dr : LV) (pa : LV) (sa : LV) (iS : IV) (bu : IV) (tq : IV) (rT : IV) (wT : IV) (sK : IV) (sA : IV) (sB : IV) (sE : IV) (oq : IV) (bS : IV) (bE : IV) (bL : IV) (rp : IV) (x2p13 : Int64) (sp : Int64) (ok : Prop) : Prop := ∀ (_ : Unit), ok → ∀ z : Int64, z = sp → ∀ (H : Heap) (locs : List Loc) (ls : Array Slot), va_P g.1 vwCl (wMo g mo a o now dr pa sa iS bu tq rT wT sK sA sB sE oq bS bE bL rp) H → va_D (inW (wMo g mo a o now dr pa sa iS bu tq rT wT sK sA sB sE oq bS bE bL rp)) (wMo g mo a o now dr pa sa iS bu tq rT wT sK sA sB sE oq bS bE bL rp) → va_S (inW (wMo g mo a o now dr pa sa iS bu tq rT wT sK sA sB sE oq bS bE bL rp)) s.heap H locs → lv_has ls 6 [(0, .ref mo), (2, .long x2p13)] → W p l e rm_Mo_coldBy s m args below meth c H locs 0 0 (MQ below (CL0 g (wMo g mo a o now dr pa sa iS bu tq rT wT sK sA sB sE oq bS bE bL rp) z) args s 0 0 (inW (wMo g mo a o now dr pa sa iS bu tq rT wT sK sA sB sE oq bS bE bL rp))) (F0 m 61 ls [])
noncomputable def sp_Mo_coldBy_61 (x2p13 : Int64) (now : LV)   : Int64 := (x2p13 / (1000000 : Int64)) + (now 2)
def ok_Mo_coldBy_61 (x2p13 : Int64) (now : LV)    : Prop := True
set_option maxRecDepth 100000 in
set_option maxHeartbeats 4000000 in
theorem k_Mo_coldBy_61 {p : Program} {l : Launch} {e : Env} {s : State} {m : MethodId} {args : Array Value} {below : List Frame} {meth : Method} {c : Code} {g : GX} {mo : Nat} {a : Nat → Nat} {o : IV} {now : LV} {dr : LV} {pa : LV} {sa : LV} {iS : IV} {bu : IV} {tq : IV} {rT : IV} {wT : IV} {sK : IV} {sA : IV} {sB : IV} {sE : IV} {oq : IV} {bS : IV} {bE : IV} {bL : IV} {rp : IV} {x2p13 : Int64}  (C : Cx p s m args meth c (inW (wMo g mo a o now dr pa sa iS bu tq rT wT sK sA sB sE oq bS bE bL rp)) g "DecadeBridgeModel" b_Mo_coldBy (some .long) 6)  : HL_Mo_coldBy_61 p l e s m args below meth c g mo a o now dr pa sa iS bu tq rT wT sK sA sB sE oq bS bE bL rp x2p13 (sp_Mo_coldBy_61 x2p13 now ) (ok_Mo_coldBy_61 x2p13 now  ) := by
  intro _ hok z hz H locs ls hP hD hS hl
  obtain ⟨hx, hb, hr, hml, hown, hlk, hts, hK, hZo, hZ⟩ := id C
  unfold sp_Mo_coldBy_61 at hz
  refine lv_lload_n hx hb d_Mo_coldBy_61 rfl (lv_at hl 1 rfl) ?_
  refine lv_ldc2 hx hb hown (hts _ qk_Mo_112) d_Mo_coldBy_62 ?_
  refine lv_ldiv hx hb d_Mo_coldBy_65 (by decide) ?_
  refine lv_aload_n hx hb d_Mo_coldBy_66 rfl (lv_at hl 0 rfl) ?_
  refine gf C hP 0 0 fkMo rfl (by decide) rfl qf_Mo_7 (gMo_0 _ _) d_Mo_coldBy_67 ?_
  refine lv_iconst (v := 2) hx hb d_Mo_coldBy_70 (by decide) ?_
  refine ldL C hP 1 rfl vi_2_215 cn_2 d_Mo_coldBy_71 ?_
  refine lv_ladd hx hb d_Mo_coldBy_72 ?_
  exact endL0 C hz hP hS d_Mo_coldBy_73
noncomputable def bd_Mo_coldBy_13 (now : LV) (r13 : Int64 → Int32 → Int32 → Int64) (x2p13 : Int64) (x4p13 : Int32) (x5p13 : Int32) : Int64 := if x5p13 < 0 then (sp_Mo_coldBy_61 x2p13 now) else (lett (sp_Mo_stepOf x5p13 now) fun (y5 : Int64) => lett (x2p13 + ((((x4p13 - x4p13 / (10 : Int32) * (10 : Int32)).toInt64) * y5) * ((1000000 : Int64) + (now ((3 : Int32) + x5p13).toNatClampNeg)))) fun (v7 : Int64) => lett (x4p13 / (10 : Int32)) fun (v8 : Int32) => lett (x5p13 + (-1 : Int32)) fun (v9 : Int32) => r13 v7 v8 v9)
def okb_Mo_coldBy_13 (now : LV) (r13 : Int64 → Int32 → Int32 → Int64) (q13 : Int64 → Int32 → Int32 → Prop) (x2p13 : Int64) (x4p13 : Int32) (x5p13 : Int32) : Prop := ((x5p13 < 0 → True) ∧ (¬ (x5p13 < 0) → (ok_Mo_stepOf x5p13 now) ∧ lett (sp_Mo_stepOf x5p13 now) fun (y5 : Int64) => (vp_in ((3 : Int32) + x5p13) 215) ∧ lett (x2p13 + ((((x4p13 - x4p13 / (10 : Int32) * (10 : Int32)).toInt64) * y5) * ((1000000 : Int64) + (now ((3 : Int32) + x5p13).toNatClampNeg)))) fun (v7 : Int64) => lett (x4p13 / (10 : Int32)) fun (v8 : Int32) => lett (x5p13 + (-1 : Int32)) fun (v9 : Int32) => q13 v7 v8 v9))
noncomputable def sp_Mo_coldBy_13 (now : LV)  : Nat → Int64 → Int32 → Int32 → Int64
  | 0 => fun _ _ _ => default
  | f + 1 => bd_Mo_coldBy_13 now  (sp_Mo_coldBy_13 now  f)
def ok_Mo_coldBy_13 (now : LV)   : Nat → Int64 → Int32 → Int32 → Prop
  | 0 => fun _ _ _ => False
  | f + 1 => okb_Mo_coldBy_13 now  (sp_Mo_coldBy_13 now  f)  (ok_Mo_coldBy_13 now   f)
set_option maxRecDepth 100000 in
set_option maxHeartbeats 4000000 in
theorem kb_Mo_coldBy_13 {p : Program} {l : Launch} {e : Env} {s : State} {m : MethodId} {args : Array Value} {below : List Frame} {meth : Method} {c : Code} {g : GX} {mo : Nat} {a : Nat → Nat} {o : IV} {now : LV} {dr : LV} {pa : LV} {sa : LV} {iS : IV} {bu : IV} {tq : IV} {rT : IV} {wT : IV} {sK : IV} {sA : IV} {sB : IV} {sE : IV} {oq : IV} {bS : IV} {bE : IV} {bL : IV} {rp : IV}  (C : Cx p s m args meth c (inW (wMo g mo a o now dr pa sa iS bu tq rT wT sK sA sB sE oq bS bE bL rp)) g "DecadeBridgeModel" b_Mo_coldBy (some .long) 6) {r13 : Int64 → Int32 → Int32 → Int64} {q13 : Int64 → Int32 → Int32 → Prop}  (ih13 : HL_Mo_coldBy_13 p l e s m args below meth c g mo a o now dr pa sa iS bu tq rT wT sK sA sB sE oq bS bE bL rp r13 q13) : HL_Mo_coldBy_13 p l e s m args below meth c g mo a o now dr pa sa iS bu tq rT wT sK sA sB sE oq bS bE bL rp (bd_Mo_coldBy_13 now  r13) (okb_Mo_coldBy_13 now  r13  q13) := by
  intro x2p13 x4p13 x5p13 hok z hz H locs ls hP hD hS hl
  obtain ⟨hx, hb, hr, hml, hown, hlk, hts, hK, hZo, hZ⟩ := id C
  unfold bd_Mo_coldBy_13 at hz
  unfold okb_Mo_coldBy_13 at hok
  refine lv_iload hx hb d_Mo_coldBy_13 (lv_at hl 3 rfl) ?_
  refine lv_if_lt (tgt := 61) hx hb d_Mo_coldBy_15 (by decide) (fun c3 => ?_) (fun c3 => ?_)
  · have hz := hz.trans (if_pos c3)
    exact k_Mo_coldBy_61 C () trivial _ hz _ _ ls hP hD hS (lv_sub hl [0, 1] rfl)
  · have hz := hz.trans (if_neg c3)
    have hok := hok.2 c3
    refine lv_lload_n hx hb d_Mo_coldBy_18 rfl (lv_at hl 1 rfl) ?_
    refine lv_iload hx hb d_Mo_coldBy_19 (lv_at hl 2 rfl) ?_
    refine lv_bipush (v := 10) hx hb d_Mo_coldBy_21 (by decide) ?_
    refine lv_irem hx hb d_Mo_coldBy_23 (by decide) ?_
    refine lv_i2l hx hb d_Mo_coldBy_24 rfl ?_
    refine lv_aload_n hx hb d_Mo_coldBy_25 rfl (lv_at hl 0 rfl) ?_
    refine lv_iload hx hb d_Mo_coldBy_26 (lv_at hl 3 rfl) ?_
    have hs4 := hok.1
    have hok := hok.2
    have hB : SubW g (inW (wMo g mo a o now dr pa sa iS bu tq rT wT sK sA sB sE oq bS bE bL rp)) s (wMo g mo a o now dr pa sa iS bu tq rT wT sK sA sB sE oq bS bE bL rp) _ (List.range _) _ _ := (subF hP hD hS)
    refine goL0 hB (run_v C mf_Mo_stepOf qm_Mo_134 (c_Mo_stepOf l g mo a o now dr pa sa iS bu tq rT wT sK sA sB sE oq bS bE bL rp x5p13 hs4) rfl rfl ⟨Nat.le_of_ble_eq_true rfl, Nat.le_of_ble_eq_true rfl⟩ ⟨Nat.le_of_ble_eq_true rfl, Nat.le_of_ble_eq_true rfl⟩ hB rfl rfl hl rfl rfl (Nat.le_of_ble_eq_true rfl) d_Mo_coldBy_28) (fun y5 ey5 H locs hP hS => ?_)
    have hz := lett_z hz ey5
    have hok := lett_o hok ey5
    refine lv_lmul hx hb d_Mo_coldBy_31 ?_
    refine lv_ldc2 hx hb hown (hts _ qk_Mo_112) d_Mo_coldBy_32 ?_
    refine lv_aload_n hx hb d_Mo_coldBy_35 rfl (lv_at hl 0 rfl) ?_
    refine gf C hP 0 0 fkMo rfl (by decide) rfl qf_Mo_7 (gMo_0 _ _) d_Mo_coldBy_36 ?_
    refine lv_iconst (v := 3) hx hb d_Mo_coldBy_39 (by decide) ?_
    refine lv_iload hx hb d_Mo_coldBy_40 (lv_at hl 3 rfl) ?_
    refine lv_iadd hx hb d_Mo_coldBy_42 ?_
    have hs6 := hok.1
    have hok := hok.2
    refine ldL C hP 1 rfl hs6 rfl d_Mo_coldBy_43 ?_
    refine lv_ladd hx hb d_Mo_coldBy_44 ?_
    refine lv_lmul hx hb d_Mo_coldBy_45 ?_
    refine lv_ladd hx hb d_Mo_coldBy_46 ?_
    refine lv_topl (fun v7 ev7 => ?_)
    have hz := lett_z hz ev7
    have hok := lett_o hok ev7
    refine lv_lstore_n (lv' := [(2, .long v7), (0, .ref mo), (4, .int x4p13), (5, .int x5p13)]) hx hb d_Mo_coldBy_47 rfl hl (by decide) rfl (fun ls hl => ?_)
    refine lv_iload hx hb d_Mo_coldBy_48 (lv_at hl 2 rfl) ?_
    refine lv_bipush (v := 10) hx hb d_Mo_coldBy_50 (by decide) ?_
    refine lv_idiv hx hb d_Mo_coldBy_52 (by decide) ?_
    refine lv_topi (fun v8 ev8 => ?_)
    have hz := lett_z hz ev8
    have hok := lett_o hok ev8
    refine lv_istore (lv' := [(4, .int v8), (2, .long v7), (0, .ref mo), (5, .int x5p13)]) hx hb d_Mo_coldBy_53 hl (by decide) rfl (fun ls hl => ?_)
    obtain ⟨v9, ev9⟩ : ∃ y : Int32, y = x5p13 + (-1 : Int32) := ⟨_, rfl⟩
    have hz := lett_z hz ev9
    have hok := lett_o hok ev9
    refine lv_iinc (v := v9) (lv' := [(5, .int v9), (4, .int v8), (2, .long v7), (0, .ref mo)]) hx hb d_Mo_coldBy_55 hl (k := 3) rfl (by rw [ev9]; rfl) (by decide) rfl (fun ls hl => ?_)
    refine lv_goto (tgt := 13) hx hb d_Mo_coldBy_58 (by decide) ?_
    exact ih13 v7 v8 v9 hok _ hz _ _ ls hP hD hS (lv_sub hl [3, 2, 1, 0] rfl)
theorem k_Mo_coldBy_13 {p : Program} {l : Launch} {e : Env} {s : State} {m : MethodId} {args : Array Value} {below : List Frame} {meth : Method} {c : Code} {g : GX} {mo : Nat} {a : Nat → Nat} {o : IV} {now : LV} {dr : LV} {pa : LV} {sa : LV} {iS : IV} {bu : IV} {tq : IV} {rT : IV} {wT : IV} {sK : IV} {sA : IV} {sB : IV} {sE : IV} {oq : IV} {bS : IV} {bE : IV} {bL : IV} {rp : IV}  (C : Cx p s m args meth c (inW (wMo g mo a o now dr pa sa iS bu tq rT wT sK sA sB sE oq bS bE bL rp)) g "DecadeBridgeModel" b_Mo_coldBy (some .long) 6) (f : Nat)  : HL_Mo_coldBy_13 p l e s m args below meth c g mo a o now dr pa sa iS bu tq rT wT sK sA sB sE oq bS bE bL rp (sp_Mo_coldBy_13 now  f) (ok_Mo_coldBy_13 now   f) := by
  induction f with
  | zero => intro x2p13 x4p13 x5p13 hok; exact False.elim hok
  | succ f ih => exact kb_Mo_coldBy_13 C  ih
noncomputable def sp_Mo_coldBy (p1 : Int32) (now : LV) : Int64 := lett (sp_Mo_decades now) fun (y1 : Int32) => lett (y1 - (1 : Int32)) fun (v2 : Int32) => sp_Mo_coldBy_13 now big (0 : Int64) p1 v2
def ok_Mo_coldBy (p1 : Int32) (now : LV) : Prop := lett (sp_Mo_decades now) fun (y1 : Int32) => lett (y1 - (1 : Int32)) fun (v2 : Int32) => ok_Mo_coldBy_13 now big (0 : Int64) p1 v2
set_option maxRecDepth 100000 in
set_option maxHeartbeats 4000000 in
theorem c_Mo_coldBy (l : Launch) (g : GX) (mo : Nat) (a : Nat → Nat) (o : IV) (now : LV) (dr : LV) (pa : LV) (sa : LV) (iS : IV) (bu : IV) (tq : IV) (rT : IV) (wT : IV) (sK : IV) (sA : IV) (sB : IV) (sE : IV) (oq : IV) (bS : IV) (bE : IV) (bL : IV) (rp : IV) (p1 : Int32) (hok : ok_Mo_coldBy p1 now) : Met l y_Mo_coldBy (wsY y_Mo_coldBy b_Mo_coldBy 6 (some .long)) rm_Mo_coldBy (CP g [.ref mo, .int p1] (wMo g mo a o now dr pa sa iS bu tq rT wT sK sA sB sE oq bS bE bL rp)) (CL0 g (wMo g mo a o now dr pa sa iS bu tq rT wT sK sA sB sE oq bS bE bL rp) (sp_Mo_coldBy p1 now)) 0 0 (inW (wMo g mo a o now dr pa sa iS bu tq rT wT sK sA sB sE oq bS bE bL rp)) := by
  refine Met.ofW (cc := b_Mo_coldBy) (maxL := 6) (ret := (some .long)) pn_Mo rfl ?_
  intro p e s m args below meth c s₁ B hml hv
  obtain ⟨rfl, C, hP, hD, hS⟩ := enter "DecadeBridgeModel" rfl B hml hv
  obtain ⟨hx, hb, hr, hml, hown, hlk, hts, hK, hZo, hZ⟩ := id C
  refine entryW (lv := [(0, .ref mo), (1, .int p1)]) rfl (Nat.le_of_ble_eq_true rfl) (fun ls hl => ?_)
  obtain ⟨z, hz⟩ : ∃ z, z = sp_Mo_coldBy p1 now := ⟨_, rfl⟩
  rw [← hz]
  unfold sp_Mo_coldBy at hz
  unfold ok_Mo_coldBy at hok
  refine lv_lconst (v := 0) hx hb d_Mo_coldBy_0 (by decide) ?_
  refine lv_lstore_n (lv' := [(2, .long (0 : Int64)), (0, .ref mo), (1, .int p1)]) hx hb d_Mo_coldBy_1 rfl hl (by decide) rfl (fun ls hl => ?_)
  refine lv_iload_n hx hb d_Mo_coldBy_2 rfl (lv_at hl 2 rfl) ?_
  refine lv_istore (lv' := [(4, .int p1), (2, .long (0 : Int64)), (0, .ref mo), (1, .int p1)]) hx hb d_Mo_coldBy_3 hl (by decide) rfl (fun ls hl => ?_)
  refine lv_aload_n hx hb d_Mo_coldBy_5 rfl (lv_at hl 2 rfl) ?_
  have hB : SubW g (inW (wMo g mo a o now dr pa sa iS bu tq rT wT sK sA sB sE oq bS bE bL rp)) s (wMo g mo a o now dr pa sa iS bu tq rT wT sK sA sB sE oq bS bE bL rp) _ (List.range _) _ _ := (subF hP hD hS)
  refine goI0 hB (run_v C mf_Mo_decades qm_Mo_130 (c_Mo_decades l g mo a o now dr pa sa iS bu tq rT wT sK sA sB sE oq bS bE bL rp) rfl rfl ⟨Nat.le_of_ble_eq_true rfl, Nat.le_of_ble_eq_true rfl⟩ ⟨Nat.le_of_ble_eq_true rfl, Nat.le_of_ble_eq_true rfl⟩ hB rfl rfl hl rfl rfl (Nat.le_of_ble_eq_true rfl) d_Mo_coldBy_6) (fun y1 ey1 H locs hP hS => ?_)
  have hz := lett_z hz ey1
  have hok := lett_o hok ey1
  refine lv_iconst (v := 1) hx hb d_Mo_coldBy_9 (by decide) ?_
  refine lv_isub hx hb d_Mo_coldBy_10 ?_
  refine lv_topi (fun v2 ev2 => ?_)
  have hz := lett_z hz ev2
  have hok := lett_o hok ev2
  refine lv_istore (lv' := [(5, .int v2), (4, .int p1), (2, .long (0 : Int64)), (0, .ref mo), (1, .int p1)]) hx hb d_Mo_coldBy_11 hl (by decide) rfl (fun ls hl => ?_)
  exact k_Mo_coldBy_13 C big (0 : Int64) p1 v2 hok _ hz _ _ ls hP hD hS (lv_sub hl [3, 2, 1, 0] rfl)
abbrev rm_Mo_warm : Room := { frames := 0, cells := 0, slots := 0, locals := 0 }
noncomputable def sp_Mo_warm (p1 : Int64) (p2 : Int64) (p3 : Int64) : Int64 := (p1 * ((1000000000 : Int64) + (p2 * p3))) / (1000000000 : Int64)
set_option maxRecDepth 100000 in
set_option maxHeartbeats 4000000 in
theorem c_Mo_warm (l : Launch) (g : GX) (mo : Nat) (a : Nat → Nat) (o : IV) (now : LV) (dr : LV) (pa : LV) (sa : LV) (iS : IV) (bu : IV) (tq : IV) (rT : IV) (wT : IV) (sK : IV) (sA : IV) (sB : IV) (sE : IV) (oq : IV) (bS : IV) (bE : IV) (bL : IV) (rp : IV) (p1 : Int64) (p2 : Int64) (p3 : Int64) : Met l y_Mo_warm (wsY y_Mo_warm b_Mo_warm 6 (some .long)) rm_Mo_warm (CP g [.long p1, .long p2, .long p3] (wMo g mo a o now dr pa sa iS bu tq rT wT sK sA sB sE oq bS bE bL rp)) (CL0 g (wMo g mo a o now dr pa sa iS bu tq rT wT sK sA sB sE oq bS bE bL rp) (sp_Mo_warm p1 p2 p3)) 0 0 (inW (wMo g mo a o now dr pa sa iS bu tq rT wT sK sA sB sE oq bS bE bL rp)) := by
  refine Met.ofW (cc := b_Mo_warm) (maxL := 6) (ret := (some .long)) pn_Mo rfl ?_
  intro p e s m args below meth c s₁ B hml hv
  obtain ⟨rfl, C, hP, hD, hS⟩ := enter "DecadeBridgeModel" rfl B hml hv
  obtain ⟨hx, hb, hr, hml, hown, hlk, hts, hK, hZo, hZ⟩ := id C
  refine entryW (lv := [(0, .long p1), (2, .long p2), (4, .long p3)]) rfl (Nat.le_of_ble_eq_true rfl) (fun ls hl => ?_)
  obtain ⟨z, hz⟩ : ∃ z, z = sp_Mo_warm p1 p2 p3 := ⟨_, rfl⟩
  rw [← hz]
  unfold sp_Mo_warm at hz
  refine lv_lload_n hx hb d_Mo_warm_0 rfl (lv_at hl 0 rfl) ?_
  refine lv_ldc2 hx hb hown (hts _ qk_Mo_137) d_Mo_warm_1 ?_
  refine lv_lload_n hx hb d_Mo_warm_4 rfl (lv_at hl 1 rfl) ?_
  refine lv_lload hx hb d_Mo_warm_5 (lv_at hl 2 rfl) ?_
  refine lv_lmul hx hb d_Mo_warm_7 ?_
  refine lv_ladd hx hb d_Mo_warm_8 ?_
  refine lv_lmul hx hb d_Mo_warm_9 ?_
  refine lv_ldc2 hx hb hown (hts _ qk_Mo_137) d_Mo_warm_10 ?_
  refine lv_ldiv hx hb d_Mo_warm_13 (by decide) ?_
  exact endL0 C hz hP hS d_Mo_warm_14
abbrev rm_Mo_unknownWarm : Room := { frames := 1, cells := 0, slots := 0, locals := 25 }
noncomputable def sp_Mo_unknownWarm (now : LV) : Int64 := lett (sp_Mo_warm (now 12) (now 13) (now 37)) fun (y1 : Int64) => y1
set_option maxRecDepth 100000 in
set_option maxHeartbeats 4000000 in
theorem c_Mo_unknownWarm (l : Launch) (g : GX) (mo : Nat) (a : Nat → Nat) (o : IV) (now : LV) (dr : LV) (pa : LV) (sa : LV) (iS : IV) (bu : IV) (tq : IV) (rT : IV) (wT : IV) (sK : IV) (sA : IV) (sB : IV) (sE : IV) (oq : IV) (bS : IV) (bE : IV) (bL : IV) (rp : IV)  : Met l y_Mo_unknownWarm (wsY y_Mo_unknownWarm b_Mo_unknownWarm 1 (some .long)) rm_Mo_unknownWarm (CP g [.ref mo] (wMo g mo a o now dr pa sa iS bu tq rT wT sK sA sB sE oq bS bE bL rp)) (CL0 g (wMo g mo a o now dr pa sa iS bu tq rT wT sK sA sB sE oq bS bE bL rp) (sp_Mo_unknownWarm now)) 0 0 (inW (wMo g mo a o now dr pa sa iS bu tq rT wT sK sA sB sE oq bS bE bL rp)) := by
  refine Met.ofW (cc := b_Mo_unknownWarm) (maxL := 1) (ret := (some .long)) pn_Mo rfl ?_
  intro p e s m args below meth c s₁ B hml hv
  obtain ⟨rfl, C, hP, hD, hS⟩ := enter "DecadeBridgeModel" rfl B hml hv
  obtain ⟨hx, hb, hr, hml, hown, hlk, hts, hK, hZo, hZ⟩ := id C
  refine entryW (lv := [(0, .ref mo)]) rfl (Nat.le_of_ble_eq_true rfl) (fun ls hl => ?_)
  obtain ⟨z, hz⟩ : ∃ z, z = sp_Mo_unknownWarm now := ⟨_, rfl⟩
  rw [← hz]
  unfold sp_Mo_unknownWarm at hz
  refine lv_aload_n hx hb d_Mo_unknownWarm_0 rfl (lv_at hl 0 rfl) ?_
  refine gf C hP 0 0 fkMo rfl (by decide) rfl qf_Mo_7 (gMo_0 _ _) d_Mo_unknownWarm_1 ?_
  refine lv_bipush (v := 12) hx hb d_Mo_unknownWarm_4 (by decide) ?_
  refine ldL C hP 1 rfl vi_12_215 cn_12 d_Mo_unknownWarm_6 ?_
  refine lv_aload_n hx hb d_Mo_unknownWarm_7 rfl (lv_at hl 0 rfl) ?_
  refine gf C hP 0 0 fkMo rfl (by decide) rfl qf_Mo_7 (gMo_0 _ _) d_Mo_unknownWarm_8 ?_
  refine lv_bipush (v := 13) hx hb d_Mo_unknownWarm_11 (by decide) ?_
  refine ldL C hP 1 rfl vi_13_215 cn_13 d_Mo_unknownWarm_13 ?_
  refine lv_aload_n hx hb d_Mo_unknownWarm_14 rfl (lv_at hl 0 rfl) ?_
  refine gf C hP 0 0 fkMo rfl (by decide) rfl qf_Mo_7 (gMo_0 _ _) d_Mo_unknownWarm_15 ?_
  refine lv_bipush (v := 37) hx hb d_Mo_unknownWarm_18 (by decide) ?_
  refine ldL C hP 1 rfl vi_37_215 cn_37 d_Mo_unknownWarm_20 ?_
  have hB : SubW g (inW (wMo g mo a o now dr pa sa iS bu tq rT wT sK sA sB sE oq bS bE bL rp)) s (wMo g mo a o now dr pa sa iS bu tq rT wT sK sA sB sE oq bS bE bL rp) _ (List.range _) _ _ := (subF hP hD hS)
  refine goL0 hB (run_s C mf_Mo_warm qm_Mo_139 (c_Mo_warm l g mo a o now dr pa sa iS bu tq rT wT sK sA sB sE oq bS bE bL rp (now 12) (now 13) (now 37)) rfl rfl ⟨Nat.le_of_ble_eq_true rfl, Nat.le_of_ble_eq_true rfl⟩ ⟨Nat.le_of_ble_eq_true rfl, Nat.le_of_ble_eq_true rfl⟩ hB hl rfl rfl (Nat.le_of_ble_eq_true rfl) d_Mo_unknownWarm_21) (fun y1 ey1 H locs hP hS => ?_)
  have hz := lett_z hz ey1
  exact endL0 C hz hP hS d_Mo_unknownWarm_24
abbrev rm_Mo_boxWarm : Room := { frames := 3, cells := 0, slots := 0, locals := 69 }
noncomputable def sp_Mo_boxWarm (p1 : Int32) (now : LV) : Int64 := lett (sp_Mo_coldBy p1 now) fun (y2 : Int64) => lett (sp_Mo_warm y2 (now 16) (now 38)) fun (y3 : Int64) => y3
def ok_Mo_boxWarm (p1 : Int32) (now : LV) : Prop := (ok_Mo_coldBy p1 now) ∧ True
set_option maxRecDepth 100000 in
set_option maxHeartbeats 4000000 in
theorem c_Mo_boxWarm (l : Launch) (g : GX) (mo : Nat) (a : Nat → Nat) (o : IV) (now : LV) (dr : LV) (pa : LV) (sa : LV) (iS : IV) (bu : IV) (tq : IV) (rT : IV) (wT : IV) (sK : IV) (sA : IV) (sB : IV) (sE : IV) (oq : IV) (bS : IV) (bE : IV) (bL : IV) (rp : IV) (p1 : Int32) (hok : ok_Mo_boxWarm p1 now) : Met l y_Mo_boxWarm (wsY y_Mo_boxWarm b_Mo_boxWarm 2 (some .long)) rm_Mo_boxWarm (CP g [.ref mo, .int p1] (wMo g mo a o now dr pa sa iS bu tq rT wT sK sA sB sE oq bS bE bL rp)) (CL0 g (wMo g mo a o now dr pa sa iS bu tq rT wT sK sA sB sE oq bS bE bL rp) (sp_Mo_boxWarm p1 now)) 0 0 (inW (wMo g mo a o now dr pa sa iS bu tq rT wT sK sA sB sE oq bS bE bL rp)) := by
  refine Met.ofW (cc := b_Mo_boxWarm) (maxL := 2) (ret := (some .long)) pn_Mo rfl ?_
  intro p e s m args below meth c s₁ B hml hv
  obtain ⟨rfl, C, hP, hD, hS⟩ := enter "DecadeBridgeModel" rfl B hml hv
  obtain ⟨hx, hb, hr, hml, hown, hlk, hts, hK, hZo, hZ⟩ := id C
  refine entryW (lv := [(0, .ref mo), (1, .int p1)]) rfl (Nat.le_of_ble_eq_true rfl) (fun ls hl => ?_)
  obtain ⟨z, hz⟩ : ∃ z, z = sp_Mo_boxWarm p1 now := ⟨_, rfl⟩
  rw [← hz]
  unfold sp_Mo_boxWarm at hz
  unfold ok_Mo_boxWarm at hok
  refine lv_aload_n hx hb d_Mo_boxWarm_0 rfl (lv_at hl 0 rfl) ?_
  refine lv_iload_n hx hb d_Mo_boxWarm_1 rfl (lv_at hl 1 rfl) ?_
  have hs1 := hok.1
  have hok := hok.2
  have hB : SubW g (inW (wMo g mo a o now dr pa sa iS bu tq rT wT sK sA sB sE oq bS bE bL rp)) s (wMo g mo a o now dr pa sa iS bu tq rT wT sK sA sB sE oq bS bE bL rp) _ (List.range _) _ _ := (subF hP hD hS)
  refine goL0 hB (run_v C mf_Mo_coldBy qm_Mo_143 (c_Mo_coldBy l g mo a o now dr pa sa iS bu tq rT wT sK sA sB sE oq bS bE bL rp p1 hs1) rfl rfl ⟨Nat.le_of_ble_eq_true rfl, Nat.le_of_ble_eq_true rfl⟩ ⟨Nat.le_of_ble_eq_true rfl, Nat.le_of_ble_eq_true rfl⟩ hB rfl rfl hl rfl rfl (Nat.le_of_ble_eq_true rfl) d_Mo_boxWarm_2) (fun y2 ey2 H locs hP hS => ?_)
  have hz := lett_z hz ey2
  refine lv_aload_n hx hb d_Mo_boxWarm_5 rfl (lv_at hl 0 rfl) ?_
  refine gf C hP 0 0 fkMo rfl (by decide) rfl qf_Mo_7 (gMo_0 _ _) d_Mo_boxWarm_6 ?_
  refine lv_bipush (v := 16) hx hb d_Mo_boxWarm_9 (by decide) ?_
  refine ldL C hP 1 rfl vi_16_215 cn_16 d_Mo_boxWarm_11 ?_
  refine lv_aload_n hx hb d_Mo_boxWarm_12 rfl (lv_at hl 0 rfl) ?_
  refine gf C hP 0 0 fkMo rfl (by decide) rfl qf_Mo_7 (gMo_0 _ _) d_Mo_boxWarm_13 ?_
  refine lv_bipush (v := 38) hx hb d_Mo_boxWarm_16 (by decide) ?_
  refine ldL C hP 1 rfl vi_38_215 cn_38 d_Mo_boxWarm_18 ?_
  have hB : SubW g (inW (wMo g mo a o now dr pa sa iS bu tq rT wT sK sA sB sE oq bS bE bL rp)) s (wMo g mo a o now dr pa sa iS bu tq rT wT sK sA sB sE oq bS bE bL rp) _ (List.range _) _ _ := (subF hP hD hS)
  refine goL0 hB (run_s C mf_Mo_warm qm_Mo_139 (c_Mo_warm l g mo a o now dr pa sa iS bu tq rT wT sK sA sB sE oq bS bE bL rp y2 (now 16) (now 38)) rfl rfl ⟨Nat.le_of_ble_eq_true rfl, Nat.le_of_ble_eq_true rfl⟩ ⟨Nat.le_of_ble_eq_true rfl, Nat.le_of_ble_eq_true rfl⟩ hB hl rfl rfl (Nat.le_of_ble_eq_true rfl) d_Mo_boxWarm_19) (fun y3 ey3 H locs hP hS => ?_)
  have hz := lett_z hz ey3
  exact endL0 C hz hP hS d_Mo_boxWarm_22
abbrev rm_Mo_unknownSide : Room := { frames := 2, cells := 0, slots := 0, locals := 45 }
def HL_Mo_unknownSide_31 (p : Program) (l : Launch) (e : Env) (s : State) (m : MethodId) (args : Array Value) (below : List Frame) (meth : Method) (c : Code) (g : GX) (mo : Nat) (a : Nat → Nat) (o : IV) (now : LV) (dr : LV) (pa : LV) (sa : LV) (iS : IV) (bu : IV) (tq : IV) (rT : IV) (wT : IV) (sK : IV) (sA : IV) (sB : IV) (sE : IV) (oq : IV) (bS : IV) (bE : IV) (bL : IV) (rp : IV) (y1 : Int64) (sp : Int64 → Int64) (ok : Int64 → Prop) : Prop := ∀ (t1p31 : Int64), ok t1p31 → ∀ z : Int64, z = sp t1p31 → ∀ (H : Heap) (locs : List Loc) (ls : Array Slot), va_P g.1 vwCl (wMo g mo a o now dr pa sa iS bu tq rT wT sK sA sB sE oq bS bE bL rp) H → va_D (inW (wMo g mo a o now dr pa sa iS bu tq rT wT sK sA sB sE oq bS bE bL rp)) (wMo g mo a o now dr pa sa iS bu tq rT wT sK sA sB sE oq bS bE bL rp) → va_S (inW (wMo g mo a o now dr pa sa iS bu tq rT wT sK sA sB sE oq bS bE bL rp)) s.heap H locs → lv_has ls 3 [] → W p l e rm_Mo_unknownSide s m args below meth c H locs 0 0 (MQ below (CL0 g (wMo g mo a o now dr pa sa iS bu tq rT wT sK sA sB sE oq bS bE bL rp) z) args s 0 0 (inW (wMo g mo a o now dr pa sa iS bu tq rT wT sK sA sB sE oq bS bE bL rp))) (F0 m 31 ls [.long t1p31, .long (y1 + (now 19))])
noncomputable def sp_Mo_unknownSide_31 (y1 : Int64) (now : LV)  (t1p31 : Int64) : Int64 := (y1 + (now 19)) + t1p31
def ok_Mo_unknownSide_31 (y1 : Int64) (now : LV)   (t1p31 : Int64) : Prop := True
set_option maxRecDepth 100000 in
set_option maxHeartbeats 4000000 in
theorem k_Mo_unknownSide_31 {p : Program} {l : Launch} {e : Env} {s : State} {m : MethodId} {args : Array Value} {below : List Frame} {meth : Method} {c : Code} {g : GX} {mo : Nat} {a : Nat → Nat} {o : IV} {now : LV} {dr : LV} {pa : LV} {sa : LV} {iS : IV} {bu : IV} {tq : IV} {rT : IV} {wT : IV} {sK : IV} {sA : IV} {sB : IV} {sE : IV} {oq : IV} {bS : IV} {bE : IV} {bL : IV} {rp : IV} {y1 : Int64}  (C : Cx p s m args meth c (inW (wMo g mo a o now dr pa sa iS bu tq rT wT sK sA sB sE oq bS bE bL rp)) g "DecadeBridgeModel" b_Mo_unknownSide (some .long) 3)  : HL_Mo_unknownSide_31 p l e s m args below meth c g mo a o now dr pa sa iS bu tq rT wT sK sA sB sE oq bS bE bL rp y1 (sp_Mo_unknownSide_31 y1 now ) (ok_Mo_unknownSide_31 y1 now  ) := by
  intro t1p31 hok z hz H locs ls hP hD hS hl
  obtain ⟨hx, hb, hr, hml, hown, hlk, hts, hK, hZo, hZ⟩ := id C
  unfold sp_Mo_unknownSide_31 at hz
  refine lv_ladd hx hb d_Mo_unknownSide_31 ?_
  exact endL0 C hz hP hS d_Mo_unknownSide_32
noncomputable def sp_Mo_unknownSide (p1 : Int64) (now : LV) : Int64 := lett (sp_Mo_unknownWarm now) fun (y1 : Int64) => if p1 = (2 : Int64) then (sp_Mo_unknownSide_31 y1 now (now 20)) else (sp_Mo_unknownSide_31 y1 now (0 : Int64))
set_option maxRecDepth 100000 in
set_option maxHeartbeats 4000000 in
theorem c_Mo_unknownSide (l : Launch) (g : GX) (mo : Nat) (a : Nat → Nat) (o : IV) (now : LV) (dr : LV) (pa : LV) (sa : LV) (iS : IV) (bu : IV) (tq : IV) (rT : IV) (wT : IV) (sK : IV) (sA : IV) (sB : IV) (sE : IV) (oq : IV) (bS : IV) (bE : IV) (bL : IV) (rp : IV) (p1 : Int64) : Met l y_Mo_unknownSide (wsY y_Mo_unknownSide b_Mo_unknownSide 3 (some .long)) rm_Mo_unknownSide (CP g [.ref mo, .long p1] (wMo g mo a o now dr pa sa iS bu tq rT wT sK sA sB sE oq bS bE bL rp)) (CL0 g (wMo g mo a o now dr pa sa iS bu tq rT wT sK sA sB sE oq bS bE bL rp) (sp_Mo_unknownSide p1 now)) 0 0 (inW (wMo g mo a o now dr pa sa iS bu tq rT wT sK sA sB sE oq bS bE bL rp)) := by
  refine Met.ofW (cc := b_Mo_unknownSide) (maxL := 3) (ret := (some .long)) pn_Mo rfl ?_
  intro p e s m args below meth c s₁ B hml hv
  obtain ⟨rfl, C, hP, hD, hS⟩ := enter "DecadeBridgeModel" rfl B hml hv
  obtain ⟨hx, hb, hr, hml, hown, hlk, hts, hK, hZo, hZ⟩ := id C
  refine entryW (lv := [(0, .ref mo), (1, .long p1)]) rfl (Nat.le_of_ble_eq_true rfl) (fun ls hl => ?_)
  obtain ⟨z, hz⟩ : ∃ z, z = sp_Mo_unknownSide p1 now := ⟨_, rfl⟩
  rw [← hz]
  unfold sp_Mo_unknownSide at hz
  refine lv_aload_n hx hb d_Mo_unknownSide_0 rfl (lv_at hl 0 rfl) ?_
  have hB : SubW g (inW (wMo g mo a o now dr pa sa iS bu tq rT wT sK sA sB sE oq bS bE bL rp)) s (wMo g mo a o now dr pa sa iS bu tq rT wT sK sA sB sE oq bS bE bL rp) _ (List.range _) _ _ := (subF hP hD hS)
  refine goL0 hB (run_v C mf_Mo_unknownWarm qm_Mo_146 (c_Mo_unknownWarm l g mo a o now dr pa sa iS bu tq rT wT sK sA sB sE oq bS bE bL rp) rfl rfl ⟨Nat.le_of_ble_eq_true rfl, Nat.le_of_ble_eq_true rfl⟩ ⟨Nat.le_of_ble_eq_true rfl, Nat.le_of_ble_eq_true rfl⟩ hB rfl rfl hl rfl rfl (Nat.le_of_ble_eq_true rfl) d_Mo_unknownSide_1) (fun y1 ey1 H locs hP hS => ?_)
  have hz := lett_z hz ey1
  refine lv_aload_n hx hb d_Mo_unknownSide_4 rfl (lv_at hl 0 rfl) ?_
  refine gf C hP 0 0 fkMo rfl (by decide) rfl qf_Mo_7 (gMo_0 _ _) d_Mo_unknownSide_5 ?_
  refine lv_bipush (v := 19) hx hb d_Mo_unknownSide_8 (by decide) ?_
  refine ldL C hP 1 rfl vi_19_215 cn_19 d_Mo_unknownSide_10 ?_
  refine lv_ladd hx hb d_Mo_unknownSide_11 ?_
  refine lv_lload_n hx hb d_Mo_unknownSide_12 rfl (lv_at hl 1 rfl) ?_
  refine lv_ldc2 hx hb hown (hts _ qk_Mo_100) d_Mo_unknownSide_13 ?_
  refine lc_ne (tgt := 30) hx hb d_Mo_unknownSide_16 d_Mo_unknownSide_17 (by decide) (fun c2 => ?_) (fun c2 => ?_)
  · have hz := hz.trans (if_neg c2)
    refine lv_lconst (v := 0) hx hb d_Mo_unknownSide_30 (by decide) ?_
    exact k_Mo_unknownSide_31 C (0 : Int64) trivial _ hz _ _ ls hP hD hS (lv_sub hl [] rfl)
  · have hz := hz.trans (if_pos c2)
    refine lv_aload_n hx hb d_Mo_unknownSide_20 rfl (lv_at hl 0 rfl) ?_
    refine gf C hP 0 0 fkMo rfl (by decide) rfl qf_Mo_7 (gMo_0 _ _) d_Mo_unknownSide_21 ?_
    refine lv_bipush (v := 20) hx hb d_Mo_unknownSide_24 (by decide) ?_
    refine ldL C hP 1 rfl vi_20_215 cn_20 d_Mo_unknownSide_26 ?_
    refine lv_goto (tgt := 31) hx hb d_Mo_unknownSide_27 (by decide) ?_
    exact k_Mo_unknownSide_31 C (now 20) trivial _ hz _ _ ls hP hD hS (lv_sub hl [] rfl)
abbrev rm_Mo_boxSide : Room := { frames := 4, cells := 0, slots := 0, locals := 90 }
def HL_Mo_boxSide_24 (p : Program) (l : Launch) (e : Env) (s : State) (m : MethodId) (args : Array Value) (below : List Frame) (meth : Method) (c : Code) (g : GX) (mo : Nat) (a : Nat → Nat) (o : IV) (now : LV) (dr : LV) (pa : LV) (sa : LV) (iS : IV) (bu : IV) (tq : IV) (rT : IV) (wT : IV) (sK : IV) (sA : IV) (sB : IV) (sE : IV) (oq : IV) (bS : IV) (bE : IV) (bL : IV) (rp : IV) (y2 : Int64) (sp : Int64 → Int64) (ok : Int64 → Prop) : Prop := ∀ (t1p24 : Int64), ok t1p24 → ∀ z : Int64, z = sp t1p24 → ∀ (H : Heap) (locs : List Loc) (ls : Array Slot), va_P g.1 vwCl (wMo g mo a o now dr pa sa iS bu tq rT wT sK sA sB sE oq bS bE bL rp) H → va_D (inW (wMo g mo a o now dr pa sa iS bu tq rT wT sK sA sB sE oq bS bE bL rp)) (wMo g mo a o now dr pa sa iS bu tq rT wT sK sA sB sE oq bS bE bL rp) → va_S (inW (wMo g mo a o now dr pa sa iS bu tq rT wT sK sA sB sE oq bS bE bL rp)) s.heap H locs → lv_has ls 4 [] → W p l e rm_Mo_boxSide s m args below meth c H locs 0 0 (MQ below (CL0 g (wMo g mo a o now dr pa sa iS bu tq rT wT sK sA sB sE oq bS bE bL rp) z) args s 0 0 (inW (wMo g mo a o now dr pa sa iS bu tq rT wT sK sA sB sE oq bS bE bL rp))) (F0 m 24 ls [.long t1p24, .long y2])
noncomputable def sp_Mo_boxSide_24 (y2 : Int64)  (t1p24 : Int64) : Int64 := y2 + t1p24
def ok_Mo_boxSide_24 (y2 : Int64)   (t1p24 : Int64) : Prop := True
set_option maxRecDepth 100000 in
set_option maxHeartbeats 4000000 in
theorem k_Mo_boxSide_24 {p : Program} {l : Launch} {e : Env} {s : State} {m : MethodId} {args : Array Value} {below : List Frame} {meth : Method} {c : Code} {g : GX} {mo : Nat} {a : Nat → Nat} {o : IV} {now : LV} {dr : LV} {pa : LV} {sa : LV} {iS : IV} {bu : IV} {tq : IV} {rT : IV} {wT : IV} {sK : IV} {sA : IV} {sB : IV} {sE : IV} {oq : IV} {bS : IV} {bE : IV} {bL : IV} {rp : IV} {y2 : Int64}  (C : Cx p s m args meth c (inW (wMo g mo a o now dr pa sa iS bu tq rT wT sK sA sB sE oq bS bE bL rp)) g "DecadeBridgeModel" b_Mo_boxSide (some .long) 4)  : HL_Mo_boxSide_24 p l e s m args below meth c g mo a o now dr pa sa iS bu tq rT wT sK sA sB sE oq bS bE bL rp y2 (sp_Mo_boxSide_24 y2 ) (ok_Mo_boxSide_24 y2  ) := by
  intro t1p24 hok z hz H locs ls hP hD hS hl
  obtain ⟨hx, hb, hr, hml, hown, hlk, hts, hK, hZo, hZ⟩ := id C
  unfold sp_Mo_boxSide_24 at hz
  refine lv_ladd hx hb d_Mo_boxSide_24 ?_
  exact endL0 C hz hP hS d_Mo_boxSide_25
noncomputable def sp_Mo_boxSide (p1 : Int32) (p2 : Int64) (now : LV) : Int64 := lett (sp_Mo_boxWarm p1 now) fun (y2 : Int64) => if p2 = (3 : Int64) then (sp_Mo_boxSide_24 y2 (now 20)) else (sp_Mo_boxSide_24 y2 (0 : Int64))
def ok_Mo_boxSide (p1 : Int32) (p2 : Int64) (now : LV) : Prop := (ok_Mo_boxWarm p1 now) ∧ True
set_option maxRecDepth 100000 in
set_option maxHeartbeats 4000000 in
theorem c_Mo_boxSide (l : Launch) (g : GX) (mo : Nat) (a : Nat → Nat) (o : IV) (now : LV) (dr : LV) (pa : LV) (sa : LV) (iS : IV) (bu : IV) (tq : IV) (rT : IV) (wT : IV) (sK : IV) (sA : IV) (sB : IV) (sE : IV) (oq : IV) (bS : IV) (bE : IV) (bL : IV) (rp : IV) (p1 : Int32) (p2 : Int64) (hok : ok_Mo_boxSide p1 p2 now) : Met l y_Mo_boxSide (wsY y_Mo_boxSide b_Mo_boxSide 4 (some .long)) rm_Mo_boxSide (CP g [.ref mo, .int p1, .long p2] (wMo g mo a o now dr pa sa iS bu tq rT wT sK sA sB sE oq bS bE bL rp)) (CL0 g (wMo g mo a o now dr pa sa iS bu tq rT wT sK sA sB sE oq bS bE bL rp) (sp_Mo_boxSide p1 p2 now)) 0 0 (inW (wMo g mo a o now dr pa sa iS bu tq rT wT sK sA sB sE oq bS bE bL rp)) := by
  refine Met.ofW (cc := b_Mo_boxSide) (maxL := 4) (ret := (some .long)) pn_Mo rfl ?_
  intro p e s m args below meth c s₁ B hml hv
  obtain ⟨rfl, C, hP, hD, hS⟩ := enter "DecadeBridgeModel" rfl B hml hv
  obtain ⟨hx, hb, hr, hml, hown, hlk, hts, hK, hZo, hZ⟩ := id C
  refine entryW (lv := [(0, .ref mo), (1, .int p1), (2, .long p2)]) rfl (Nat.le_of_ble_eq_true rfl) (fun ls hl => ?_)
  obtain ⟨z, hz⟩ : ∃ z, z = sp_Mo_boxSide p1 p2 now := ⟨_, rfl⟩
  rw [← hz]
  unfold sp_Mo_boxSide at hz
  unfold ok_Mo_boxSide at hok
  refine lv_aload_n hx hb d_Mo_boxSide_0 rfl (lv_at hl 0 rfl) ?_
  refine lv_iload_n hx hb d_Mo_boxSide_1 rfl (lv_at hl 1 rfl) ?_
  have hs1 := hok.1
  have hok := hok.2
  have hB : SubW g (inW (wMo g mo a o now dr pa sa iS bu tq rT wT sK sA sB sE oq bS bE bL rp)) s (wMo g mo a o now dr pa sa iS bu tq rT wT sK sA sB sE oq bS bE bL rp) _ (List.range _) _ _ := (subF hP hD hS)
  refine goL0 hB (run_v C mf_Mo_boxWarm qm_Mo_150 (c_Mo_boxWarm l g mo a o now dr pa sa iS bu tq rT wT sK sA sB sE oq bS bE bL rp p1 hs1) rfl rfl ⟨Nat.le_of_ble_eq_true rfl, Nat.le_of_ble_eq_true rfl⟩ ⟨Nat.le_of_ble_eq_true rfl, Nat.le_of_ble_eq_true rfl⟩ hB rfl rfl hl rfl rfl (Nat.le_of_ble_eq_true rfl) d_Mo_boxSide_2) (fun y2 ey2 H locs hP hS => ?_)
  have hz := lett_z hz ey2
  refine lv_lload_n hx hb d_Mo_boxSide_5 rfl (lv_at hl 2 rfl) ?_
  refine lv_ldc2 hx hb hown (hts _ qk_Mo_153) d_Mo_boxSide_6 ?_
  refine lc_ne (tgt := 23) hx hb d_Mo_boxSide_9 d_Mo_boxSide_10 (by decide) (fun c3 => ?_) (fun c3 => ?_)
  · have hz := hz.trans (if_neg c3)
    refine lv_lconst (v := 0) hx hb d_Mo_boxSide_23 (by decide) ?_
    exact k_Mo_boxSide_24 C (0 : Int64) trivial _ hz _ _ ls hP hD hS (lv_sub hl [] rfl)
  · have hz := hz.trans (if_pos c3)
    refine lv_aload_n hx hb d_Mo_boxSide_13 rfl (lv_at hl 0 rfl) ?_
    refine gf C hP 0 0 fkMo rfl (by decide) rfl qf_Mo_7 (gMo_0 _ _) d_Mo_boxSide_14 ?_
    refine lv_bipush (v := 20) hx hb d_Mo_boxSide_17 (by decide) ?_
    refine ldL C hP 1 rfl vi_20_215 cn_20 d_Mo_boxSide_19 ?_
    refine lv_goto (tgt := 24) hx hb d_Mo_boxSide_20 (by decide) ?_
    exact k_Mo_boxSide_24 C (now 20) trivial _ hz _ _ ls hP hD hS (lv_sub hl [] rfl)
abbrev rm_Mo_unknownShare : Room := { frames := 5, cells := 0, slots := 0, locals := 113 }
noncomputable def sp_Mo_unknownShare (p1 : Int32) (p2 : Int64) (now : LV) : Int64 := lett (sp_Mo_unknownSide p2 now) fun (y1 : Int64) => lett (sp_Mo_boxSide p1 p2 now) fun (y3 : Int64) => ((1000000000 : Int64) * y1) / (y3 + y1)
def ok_Mo_unknownShare (p1 : Int32) (p2 : Int64) (now : LV) : Prop := lett (sp_Mo_unknownSide p2 now) fun (y1 : Int64) => (ok_Mo_boxSide p1 p2 now) ∧ lett (sp_Mo_boxSide p1 p2 now) fun (y3 : Int64) => (¬ (y3 + y1) = 0) ∧ True
set_option maxRecDepth 100000 in
set_option maxHeartbeats 4000000 in
theorem c_Mo_unknownShare (l : Launch) (g : GX) (mo : Nat) (a : Nat → Nat) (o : IV) (now : LV) (dr : LV) (pa : LV) (sa : LV) (iS : IV) (bu : IV) (tq : IV) (rT : IV) (wT : IV) (sK : IV) (sA : IV) (sB : IV) (sE : IV) (oq : IV) (bS : IV) (bE : IV) (bL : IV) (rp : IV) (p1 : Int32) (p2 : Int64) (hok : ok_Mo_unknownShare p1 p2 now) : Met l y_Mo_unknownShare (wsY y_Mo_unknownShare b_Mo_unknownShare 6 (some .long)) rm_Mo_unknownShare (CP g [.ref mo, .int p1, .long p2] (wMo g mo a o now dr pa sa iS bu tq rT wT sK sA sB sE oq bS bE bL rp)) (CL0 g (wMo g mo a o now dr pa sa iS bu tq rT wT sK sA sB sE oq bS bE bL rp) (sp_Mo_unknownShare p1 p2 now)) 0 0 (inW (wMo g mo a o now dr pa sa iS bu tq rT wT sK sA sB sE oq bS bE bL rp)) := by
  refine Met.ofW (cc := b_Mo_unknownShare) (maxL := 6) (ret := (some .long)) pn_Mo rfl ?_
  intro p e s m args below meth c s₁ B hml hv
  obtain ⟨rfl, C, hP, hD, hS⟩ := enter "DecadeBridgeModel" rfl B hml hv
  obtain ⟨hx, hb, hr, hml, hown, hlk, hts, hK, hZo, hZ⟩ := id C
  refine entryW (lv := [(0, .ref mo), (1, .int p1), (2, .long p2)]) rfl (Nat.le_of_ble_eq_true rfl) (fun ls hl => ?_)
  obtain ⟨z, hz⟩ : ∃ z, z = sp_Mo_unknownShare p1 p2 now := ⟨_, rfl⟩
  rw [← hz]
  unfold sp_Mo_unknownShare at hz
  unfold ok_Mo_unknownShare at hok
  refine lv_aload_n hx hb d_Mo_unknownShare_0 rfl (lv_at hl 0 rfl) ?_
  refine lv_lload_n hx hb d_Mo_unknownShare_1 rfl (lv_at hl 2 rfl) ?_
  have hB : SubW g (inW (wMo g mo a o now dr pa sa iS bu tq rT wT sK sA sB sE oq bS bE bL rp)) s (wMo g mo a o now dr pa sa iS bu tq rT wT sK sA sB sE oq bS bE bL rp) _ (List.range _) _ _ := (subF hP hD hS)
  refine goL0 hB (run_v C mf_Mo_unknownSide qm_Mo_155 (c_Mo_unknownSide l g mo a o now dr pa sa iS bu tq rT wT sK sA sB sE oq bS bE bL rp p2) rfl rfl ⟨Nat.le_of_ble_eq_true rfl, Nat.le_of_ble_eq_true rfl⟩ ⟨Nat.le_of_ble_eq_true rfl, Nat.le_of_ble_eq_true rfl⟩ hB rfl rfl hl rfl rfl (Nat.le_of_ble_eq_true rfl) d_Mo_unknownShare_2) (fun y1 ey1 H locs hP hS => ?_)
  have hz := lett_z hz ey1
  have hok := lett_o hok ey1
  refine lv_lstore (lv' := [(4, .long y1), (0, .ref mo), (1, .int p1), (2, .long p2)]) hx hb d_Mo_unknownShare_5 hl (by decide) rfl (fun ls hl => ?_)
  refine lv_ldc2 hx hb hown (hts _ qk_Mo_137) d_Mo_unknownShare_7 ?_
  refine lv_lload hx hb d_Mo_unknownShare_10 (lv_at hl 0 rfl) ?_
  refine lv_lmul hx hb d_Mo_unknownShare_12 ?_
  refine lv_aload_n hx hb d_Mo_unknownShare_13 rfl (lv_at hl 1 rfl) ?_
  refine lv_iload_n hx hb d_Mo_unknownShare_14 rfl (lv_at hl 2 rfl) ?_
  refine lv_lload_n hx hb d_Mo_unknownShare_15 rfl (lv_at hl 3 rfl) ?_
  have hs2 := hok.1
  have hok := hok.2
  have hB : SubW g (inW (wMo g mo a o now dr pa sa iS bu tq rT wT sK sA sB sE oq bS bE bL rp)) s (wMo g mo a o now dr pa sa iS bu tq rT wT sK sA sB sE oq bS bE bL rp) _ (List.range _) _ _ := (subF hP hD hS)
  refine goL0 hB (run_v C mf_Mo_boxSide qm_Mo_158 (c_Mo_boxSide l g mo a o now dr pa sa iS bu tq rT wT sK sA sB sE oq bS bE bL rp p1 p2 hs2) rfl rfl ⟨Nat.le_of_ble_eq_true rfl, Nat.le_of_ble_eq_true rfl⟩ ⟨Nat.le_of_ble_eq_true rfl, Nat.le_of_ble_eq_true rfl⟩ hB rfl rfl hl rfl rfl (Nat.le_of_ble_eq_true rfl) d_Mo_unknownShare_16) (fun y3 ey3 H locs hP hS => ?_)
  have hz := lett_z hz ey3
  have hok := lett_o hok ey3
  refine lv_lload hx hb d_Mo_unknownShare_19 (lv_at hl 0 rfl) ?_
  refine lv_ladd hx hb d_Mo_unknownShare_21 ?_
  have hs4 := hok.1
  have hok := hok.2
  refine lv_ldiv hx hb d_Mo_unknownShare_22 hs4 ?_
  exact endL0 C hz hP hS d_Mo_unknownShare_23
abbrev rm_Mo_armsShare : Room := { frames := 3, cells := 0, slots := 0, locals := 66 }
noncomputable def sp_Mo_armsShare (p1 : Int64) (p2 : Int64) (now : LV) : Int64 := lett (sp_Mo_ohmsOf p2 now) fun (y2 : Int64) => lett (sp_Mo_ohmsOf p1 now) fun (y4 : Int64) => lett (sp_Mo_ohmsOf p2 now) fun (y5 : Int64) => ((1000000000 : Int64) * y2) / (y4 + y5)
def ok_Mo_armsShare (p1 : Int64) (p2 : Int64) (now : LV) : Prop := (ok_Mo_ohmsOf p2) ∧ lett (sp_Mo_ohmsOf p2 now) fun (y2 : Int64) => (ok_Mo_ohmsOf p1) ∧ lett (sp_Mo_ohmsOf p1 now) fun (y4 : Int64) => lett (sp_Mo_ohmsOf p2 now) fun (y5 : Int64) => (¬ (y4 + y5) = 0) ∧ True
set_option maxRecDepth 100000 in
set_option maxHeartbeats 4000000 in
theorem c_Mo_armsShare (l : Launch) (g : GX) (mo : Nat) (a : Nat → Nat) (o : IV) (now : LV) (dr : LV) (pa : LV) (sa : LV) (iS : IV) (bu : IV) (tq : IV) (rT : IV) (wT : IV) (sK : IV) (sA : IV) (sB : IV) (sE : IV) (oq : IV) (bS : IV) (bE : IV) (bL : IV) (rp : IV) (p1 : Int64) (p2 : Int64) (hok : ok_Mo_armsShare p1 p2 now) : Met l y_Mo_armsShare (wsY y_Mo_armsShare b_Mo_armsShare 5 (some .long)) rm_Mo_armsShare (CP g [.ref mo, .long p1, .long p2] (wMo g mo a o now dr pa sa iS bu tq rT wT sK sA sB sE oq bS bE bL rp)) (CL0 g (wMo g mo a o now dr pa sa iS bu tq rT wT sK sA sB sE oq bS bE bL rp) (sp_Mo_armsShare p1 p2 now)) 0 0 (inW (wMo g mo a o now dr pa sa iS bu tq rT wT sK sA sB sE oq bS bE bL rp)) := by
  refine Met.ofW (cc := b_Mo_armsShare) (maxL := 5) (ret := (some .long)) pn_Mo rfl ?_
  intro p e s m args below meth c s₁ B hml hv
  obtain ⟨rfl, C, hP, hD, hS⟩ := enter "DecadeBridgeModel" rfl B hml hv
  obtain ⟨hx, hb, hr, hml, hown, hlk, hts, hK, hZo, hZ⟩ := id C
  refine entryW (lv := [(0, .ref mo), (1, .long p1), (3, .long p2)]) rfl (Nat.le_of_ble_eq_true rfl) (fun ls hl => ?_)
  obtain ⟨z, hz⟩ : ∃ z, z = sp_Mo_armsShare p1 p2 now := ⟨_, rfl⟩
  rw [← hz]
  unfold sp_Mo_armsShare at hz
  unfold ok_Mo_armsShare at hok
  refine lv_ldc2 hx hb hown (hts _ qk_Mo_137) d_Mo_armsShare_0 ?_
  refine lv_aload_n hx hb d_Mo_armsShare_3 rfl (lv_at hl 0 rfl) ?_
  refine lv_lload_n hx hb d_Mo_armsShare_4 rfl (lv_at hl 2 rfl) ?_
  have hs1 := hok.1
  have hok := hok.2
  have hB : SubW g (inW (wMo g mo a o now dr pa sa iS bu tq rT wT sK sA sB sE oq bS bE bL rp)) s (wMo g mo a o now dr pa sa iS bu tq rT wT sK sA sB sE oq bS bE bL rp) _ (List.range _) _ _ := (subF hP hD hS)
  refine goL0 hB (run_v C mf_Mo_ohmsOf qm_Mo_162 (c_Mo_ohmsOf l g mo a o now dr pa sa iS bu tq rT wT sK sA sB sE oq bS bE bL rp p2 hs1) rfl rfl ⟨Nat.le_of_ble_eq_true rfl, Nat.le_of_ble_eq_true rfl⟩ ⟨Nat.le_of_ble_eq_true rfl, Nat.le_of_ble_eq_true rfl⟩ hB rfl rfl hl rfl rfl (Nat.le_of_ble_eq_true rfl) d_Mo_armsShare_5) (fun y2 ey2 H locs hP hS => ?_)
  have hz := lett_z hz ey2
  have hok := lett_o hok ey2
  refine lv_lmul hx hb d_Mo_armsShare_8 ?_
  refine lv_aload_n hx hb d_Mo_armsShare_9 rfl (lv_at hl 0 rfl) ?_
  refine lv_lload_n hx hb d_Mo_armsShare_10 rfl (lv_at hl 1 rfl) ?_
  have hs3 := hok.1
  have hok := hok.2
  have hB : SubW g (inW (wMo g mo a o now dr pa sa iS bu tq rT wT sK sA sB sE oq bS bE bL rp)) s (wMo g mo a o now dr pa sa iS bu tq rT wT sK sA sB sE oq bS bE bL rp) _ (List.range _) _ _ := (subF hP hD hS)
  refine goL0 hB (run_v C mf_Mo_ohmsOf qm_Mo_162 (c_Mo_ohmsOf l g mo a o now dr pa sa iS bu tq rT wT sK sA sB sE oq bS bE bL rp p1 hs3) rfl rfl ⟨Nat.le_of_ble_eq_true rfl, Nat.le_of_ble_eq_true rfl⟩ ⟨Nat.le_of_ble_eq_true rfl, Nat.le_of_ble_eq_true rfl⟩ hB rfl rfl hl rfl rfl (Nat.le_of_ble_eq_true rfl) d_Mo_armsShare_11) (fun y4 ey4 H locs hP hS => ?_)
  have hz := lett_z hz ey4
  have hok := lett_o hok ey4
  refine lv_aload_n hx hb d_Mo_armsShare_14 rfl (lv_at hl 0 rfl) ?_
  refine lv_lload_n hx hb d_Mo_armsShare_15 rfl (lv_at hl 2 rfl) ?_
  have hB : SubW g (inW (wMo g mo a o now dr pa sa iS bu tq rT wT sK sA sB sE oq bS bE bL rp)) s (wMo g mo a o now dr pa sa iS bu tq rT wT sK sA sB sE oq bS bE bL rp) _ (List.range _) _ _ := (subF hP hD hS)
  refine goL0 hB (run_v C mf_Mo_ohmsOf qm_Mo_162 (c_Mo_ohmsOf l g mo a o now dr pa sa iS bu tq rT wT sK sA sB sE oq bS bE bL rp p2 hs1) rfl rfl ⟨Nat.le_of_ble_eq_true rfl, Nat.le_of_ble_eq_true rfl⟩ ⟨Nat.le_of_ble_eq_true rfl, Nat.le_of_ble_eq_true rfl⟩ hB rfl rfl hl rfl rfl (Nat.le_of_ble_eq_true rfl) d_Mo_armsShare_16) (fun y5 ey5 H locs hP hS => ?_)
  have hz := lett_z hz ey5
  have hok := lett_o hok ey5
  refine lv_ladd hx hb d_Mo_armsShare_19 ?_
  have hs6 := hok.1
  have hok := hok.2
  refine lv_ldiv hx hb d_Mo_armsShare_20 hs6 ?_
  exact endL0 C hz hP hS d_Mo_armsShare_21
abbrev rm_Mo_plainDeflection : Room := { frames := 6, cells := 0, slots := 0, locals := 138 }
noncomputable def sp_Mo_plainDeflection (p1 : Int32) (p2 : Int64) (p3 : Int64) (p4 : Int64) (now : LV) : Int64 := lett (sp_Mo_unknownShare p1 p4 now) fun (y2 : Int64) => lett (sp_Mo_armsShare p2 p3 now) fun (y4 : Int64) => ((now 22) * (y2 - y4)) / (1000 : Int64)
def ok_Mo_plainDeflection (p1 : Int32) (p2 : Int64) (p3 : Int64) (p4 : Int64) (now : LV) : Prop := (ok_Mo_unknownShare p1 p4 now) ∧ lett (sp_Mo_unknownShare p1 p4 now) fun (y2 : Int64) => (ok_Mo_armsShare p2 p3 now) ∧ True
set_option maxRecDepth 100000 in
set_option maxHeartbeats 4000000 in
theorem c_Mo_plainDeflection (l : Launch) (g : GX) (mo : Nat) (a : Nat → Nat) (o : IV) (now : LV) (dr : LV) (pa : LV) (sa : LV) (iS : IV) (bu : IV) (tq : IV) (rT : IV) (wT : IV) (sK : IV) (sA : IV) (sB : IV) (sE : IV) (oq : IV) (bS : IV) (bE : IV) (bL : IV) (rp : IV) (p1 : Int32) (p2 : Int64) (p3 : Int64) (p4 : Int64) (hok : ok_Mo_plainDeflection p1 p2 p3 p4 now) : Met l y_Mo_plainDeflection (wsY y_Mo_plainDeflection b_Mo_plainDeflection 8 (some .long)) rm_Mo_plainDeflection (CP g [.ref mo, .int p1, .long p2, .long p3, .long p4] (wMo g mo a o now dr pa sa iS bu tq rT wT sK sA sB sE oq bS bE bL rp)) (CL0 g (wMo g mo a o now dr pa sa iS bu tq rT wT sK sA sB sE oq bS bE bL rp) (sp_Mo_plainDeflection p1 p2 p3 p4 now)) 0 0 (inW (wMo g mo a o now dr pa sa iS bu tq rT wT sK sA sB sE oq bS bE bL rp)) := by
  refine Met.ofW (cc := b_Mo_plainDeflection) (maxL := 8) (ret := (some .long)) pn_Mo rfl ?_
  intro p e s m args below meth c s₁ B hml hv
  obtain ⟨rfl, C, hP, hD, hS⟩ := enter "DecadeBridgeModel" rfl B hml hv
  obtain ⟨hx, hb, hr, hml, hown, hlk, hts, hK, hZo, hZ⟩ := id C
  refine entryW (lv := [(0, .ref mo), (1, .int p1), (2, .long p2), (4, .long p3), (6, .long p4)]) rfl (Nat.le_of_ble_eq_true rfl) (fun ls hl => ?_)
  obtain ⟨z, hz⟩ : ∃ z, z = sp_Mo_plainDeflection p1 p2 p3 p4 now := ⟨_, rfl⟩
  rw [← hz]
  unfold sp_Mo_plainDeflection at hz
  unfold ok_Mo_plainDeflection at hok
  refine lv_aload_n hx hb d_Mo_plainDeflection_0 rfl (lv_at hl 0 rfl) ?_
  refine gf C hP 0 0 fkMo rfl (by decide) rfl qf_Mo_7 (gMo_0 _ _) d_Mo_plainDeflection_1 ?_
  refine lv_bipush (v := 22) hx hb d_Mo_plainDeflection_4 (by decide) ?_
  refine ldL C hP 1 rfl vi_22_215 cn_22 d_Mo_plainDeflection_6 ?_
  refine lv_aload_n hx hb d_Mo_plainDeflection_7 rfl (lv_at hl 0 rfl) ?_
  refine lv_iload_n hx hb d_Mo_plainDeflection_8 rfl (lv_at hl 1 rfl) ?_
  refine lv_lload hx hb d_Mo_plainDeflection_9 (lv_at hl 4 rfl) ?_
  have hs1 := hok.1
  have hok := hok.2
  have hB : SubW g (inW (wMo g mo a o now dr pa sa iS bu tq rT wT sK sA sB sE oq bS bE bL rp)) s (wMo g mo a o now dr pa sa iS bu tq rT wT sK sA sB sE oq bS bE bL rp) _ (List.range _) _ _ := (subF hP hD hS)
  refine goL0 hB (run_v C mf_Mo_unknownShare qm_Mo_165 (c_Mo_unknownShare l g mo a o now dr pa sa iS bu tq rT wT sK sA sB sE oq bS bE bL rp p1 p4 hs1) rfl rfl ⟨Nat.le_of_ble_eq_true rfl, Nat.le_of_ble_eq_true rfl⟩ ⟨Nat.le_of_ble_eq_true rfl, Nat.le_of_ble_eq_true rfl⟩ hB rfl rfl hl rfl rfl (Nat.le_of_ble_eq_true rfl) d_Mo_plainDeflection_11) (fun y2 ey2 H locs hP hS => ?_)
  have hz := lett_z hz ey2
  have hok := lett_o hok ey2
  refine lv_aload_n hx hb d_Mo_plainDeflection_14 rfl (lv_at hl 0 rfl) ?_
  refine lv_lload_n hx hb d_Mo_plainDeflection_15 rfl (lv_at hl 2 rfl) ?_
  refine lv_lload hx hb d_Mo_plainDeflection_16 (lv_at hl 3 rfl) ?_
  have hs3 := hok.1
  have hok := hok.2
  have hB : SubW g (inW (wMo g mo a o now dr pa sa iS bu tq rT wT sK sA sB sE oq bS bE bL rp)) s (wMo g mo a o now dr pa sa iS bu tq rT wT sK sA sB sE oq bS bE bL rp) _ (List.range _) _ _ := (subF hP hD hS)
  refine goL0 hB (run_v C mf_Mo_armsShare qm_Mo_168 (c_Mo_armsShare l g mo a o now dr pa sa iS bu tq rT wT sK sA sB sE oq bS bE bL rp p2 p3 hs3) rfl rfl ⟨Nat.le_of_ble_eq_true rfl, Nat.le_of_ble_eq_true rfl⟩ ⟨Nat.le_of_ble_eq_true rfl, Nat.le_of_ble_eq_true rfl⟩ hB rfl rfl hl rfl rfl (Nat.le_of_ble_eq_true rfl) d_Mo_plainDeflection_18) (fun y4 ey4 H locs hP hS => ?_)
  have hz := lett_z hz ey4
  refine lv_lsub hx hb d_Mo_plainDeflection_21 ?_
  refine lv_lmul hx hb d_Mo_plainDeflection_22 ?_
  refine lv_ldc2 hx hb hown (hts _ qk_Mo_102) d_Mo_plainDeflection_23 ?_
  refine lv_ldiv hx hb d_Mo_plainDeflection_26 (by decide) ?_
  exact endL0 C hz hP hS d_Mo_plainDeflection_27
abbrev rm_Mo_plainNow : Room := { frames := 7, cells := 0, slots := 0, locals := 165 }
noncomputable def sp_Mo_plainNow (p1 : Int32) (now : LV) : Int64 := lett (sp_Mo_plainDeflection p1 (now 29) (now 30) (now 32) now) fun (y2 : Int64) => y2
def ok_Mo_plainNow (p1 : Int32) (now : LV) : Prop := (ok_Mo_plainDeflection p1 (now 29) (now 30) (now 32) now) ∧ True
set_option maxRecDepth 100000 in
set_option maxHeartbeats 4000000 in
theorem c_Mo_plainNow (l : Launch) (g : GX) (mo : Nat) (a : Nat → Nat) (o : IV) (now : LV) (dr : LV) (pa : LV) (sa : LV) (iS : IV) (bu : IV) (tq : IV) (rT : IV) (wT : IV) (sK : IV) (sA : IV) (sB : IV) (sE : IV) (oq : IV) (bS : IV) (bE : IV) (bL : IV) (rp : IV) (p1 : Int32) (hok : ok_Mo_plainNow p1 now) : Met l y_Mo_plainNow (wsY y_Mo_plainNow b_Mo_plainNow 2 (some .long)) rm_Mo_plainNow (CP g [.ref mo, .int p1] (wMo g mo a o now dr pa sa iS bu tq rT wT sK sA sB sE oq bS bE bL rp)) (CL0 g (wMo g mo a o now dr pa sa iS bu tq rT wT sK sA sB sE oq bS bE bL rp) (sp_Mo_plainNow p1 now)) 0 0 (inW (wMo g mo a o now dr pa sa iS bu tq rT wT sK sA sB sE oq bS bE bL rp)) := by
  refine Met.ofW (cc := b_Mo_plainNow) (maxL := 2) (ret := (some .long)) pn_Mo rfl ?_
  intro p e s m args below meth c s₁ B hml hv
  obtain ⟨rfl, C, hP, hD, hS⟩ := enter "DecadeBridgeModel" rfl B hml hv
  obtain ⟨hx, hb, hr, hml, hown, hlk, hts, hK, hZo, hZ⟩ := id C
  refine entryW (lv := [(0, .ref mo), (1, .int p1)]) rfl (Nat.le_of_ble_eq_true rfl) (fun ls hl => ?_)
  obtain ⟨z, hz⟩ : ∃ z, z = sp_Mo_plainNow p1 now := ⟨_, rfl⟩
  rw [← hz]
  unfold sp_Mo_plainNow at hz
  unfold ok_Mo_plainNow at hok
  refine lv_aload_n hx hb d_Mo_plainNow_0 rfl (lv_at hl 0 rfl) ?_
  refine lv_iload_n hx hb d_Mo_plainNow_1 rfl (lv_at hl 1 rfl) ?_
  refine lv_aload_n hx hb d_Mo_plainNow_2 rfl (lv_at hl 0 rfl) ?_
  refine gf C hP 0 0 fkMo rfl (by decide) rfl qf_Mo_7 (gMo_0 _ _) d_Mo_plainNow_3 ?_
  refine lv_bipush (v := 29) hx hb d_Mo_plainNow_6 (by decide) ?_
  refine ldL C hP 1 rfl vi_29_215 cn_29 d_Mo_plainNow_8 ?_
  refine lv_aload_n hx hb d_Mo_plainNow_9 rfl (lv_at hl 0 rfl) ?_
  refine gf C hP 0 0 fkMo rfl (by decide) rfl qf_Mo_7 (gMo_0 _ _) d_Mo_plainNow_10 ?_
  refine lv_bipush (v := 30) hx hb d_Mo_plainNow_13 (by decide) ?_
  refine ldL C hP 1 rfl vi_30_215 cn_30 d_Mo_plainNow_15 ?_
  refine lv_aload_n hx hb d_Mo_plainNow_16 rfl (lv_at hl 0 rfl) ?_
  refine gf C hP 0 0 fkMo rfl (by decide) rfl qf_Mo_7 (gMo_0 _ _) d_Mo_plainNow_17 ?_
  refine lv_bipush (v := 32) hx hb d_Mo_plainNow_20 (by decide) ?_
  refine ldL C hP 1 rfl vi_32_215 cn_32 d_Mo_plainNow_22 ?_
  have hs1 := hok.1
  have hok := hok.2
  have hB : SubW g (inW (wMo g mo a o now dr pa sa iS bu tq rT wT sK sA sB sE oq bS bE bL rp)) s (wMo g mo a o now dr pa sa iS bu tq rT wT sK sA sB sE oq bS bE bL rp) _ (List.range _) _ _ := (subF hP hD hS)
  refine goL0 hB (run_v C mf_Mo_plainDeflection qm_Mo_172 (c_Mo_plainDeflection l g mo a o now dr pa sa iS bu tq rT wT sK sA sB sE oq bS bE bL rp p1 (now 29) (now 30) (now 32) hs1) rfl rfl ⟨Nat.le_of_ble_eq_true rfl, Nat.le_of_ble_eq_true rfl⟩ ⟨Nat.le_of_ble_eq_true rfl, Nat.le_of_ble_eq_true rfl⟩ hB rfl rfl hl rfl rfl (Nat.le_of_ble_eq_true rfl) d_Mo_plainNow_23) (fun y2 ey2 H locs hP hS => ?_)
  have hz := lett_z hz ey2
  exact endL0 C hz hP hS d_Mo_plainNow_26
abbrev rm_Mo_deflectionNow : Room := { frames := 8, cells := 0, slots := 0, locals := 186 }
noncomputable def sp_Mo_deflectionNow (now : LV) : Int64 := lett (sp_Mo_setting now) fun (y2 : Int32) => lett (sp_Mo_plainNow y2 now) fun (y4 : Int64) => if (now 31) = (1 : Int64) then (-y4) else (y4)
def ok_Mo_deflectionNow (now : LV) : Prop := (ok_Mo_setting now) ∧ lett (sp_Mo_setting now) fun (y2 : Int32) => (ok_Mo_plainNow y2 now) ∧ True
set_option maxRecDepth 100000 in
set_option maxHeartbeats 4000000 in
theorem c_Mo_deflectionNow (l : Launch) (g : GX) (mo : Nat) (a : Nat → Nat) (o : IV) (now : LV) (dr : LV) (pa : LV) (sa : LV) (iS : IV) (bu : IV) (tq : IV) (rT : IV) (wT : IV) (sK : IV) (sA : IV) (sB : IV) (sE : IV) (oq : IV) (bS : IV) (bE : IV) (bL : IV) (rp : IV)  (hok : ok_Mo_deflectionNow now) : Met l y_Mo_deflectionNow (wsY y_Mo_deflectionNow b_Mo_deflectionNow 3 (some .long)) rm_Mo_deflectionNow (CP g [.ref mo] (wMo g mo a o now dr pa sa iS bu tq rT wT sK sA sB sE oq bS bE bL rp)) (CL0 g (wMo g mo a o now dr pa sa iS bu tq rT wT sK sA sB sE oq bS bE bL rp) (sp_Mo_deflectionNow now)) 0 0 (inW (wMo g mo a o now dr pa sa iS bu tq rT wT sK sA sB sE oq bS bE bL rp)) := by
  refine Met.ofW (cc := b_Mo_deflectionNow) (maxL := 3) (ret := (some .long)) pn_Mo rfl ?_
  intro p e s m args below meth c s₁ B hml hv
  obtain ⟨rfl, C, hP, hD, hS⟩ := enter "DecadeBridgeModel" rfl B hml hv
  obtain ⟨hx, hb, hr, hml, hown, hlk, hts, hK, hZo, hZ⟩ := id C
  refine entryW (lv := [(0, .ref mo)]) rfl (Nat.le_of_ble_eq_true rfl) (fun ls hl => ?_)
  obtain ⟨z, hz⟩ : ∃ z, z = sp_Mo_deflectionNow now := ⟨_, rfl⟩
  rw [← hz]
  unfold sp_Mo_deflectionNow at hz
  unfold ok_Mo_deflectionNow at hok
  refine lv_aload_n hx hb d_Mo_deflectionNow_0 rfl (lv_at hl 0 rfl) ?_
  refine lv_aload_n hx hb d_Mo_deflectionNow_1 rfl (lv_at hl 0 rfl) ?_
  have hs1 := hok.1
  have hok := hok.2
  have hB : SubW g (inW (wMo g mo a o now dr pa sa iS bu tq rT wT sK sA sB sE oq bS bE bL rp)) s (wMo g mo a o now dr pa sa iS bu tq rT wT sK sA sB sE oq bS bE bL rp) _ (List.range _) _ _ := (subF hP hD hS)
  refine goI0 hB (run_v C mf_Mo_setting qm_Mo_176 (c_Mo_setting l g mo a o now dr pa sa iS bu tq rT wT sK sA sB sE oq bS bE bL rp hs1) rfl rfl ⟨Nat.le_of_ble_eq_true rfl, Nat.le_of_ble_eq_true rfl⟩ ⟨Nat.le_of_ble_eq_true rfl, Nat.le_of_ble_eq_true rfl⟩ hB rfl rfl hl rfl rfl (Nat.le_of_ble_eq_true rfl) d_Mo_deflectionNow_2) (fun y2 ey2 H locs hP hS => ?_)
  have hz := lett_z hz ey2
  have hok := lett_o hok ey2
  have hs3 := hok.1
  have hok := hok.2
  have hB : SubW g (inW (wMo g mo a o now dr pa sa iS bu tq rT wT sK sA sB sE oq bS bE bL rp)) s (wMo g mo a o now dr pa sa iS bu tq rT wT sK sA sB sE oq bS bE bL rp) _ (List.range _) _ _ := (subF hP hD hS)
  refine goL0 hB (run_v C mf_Mo_plainNow qm_Mo_179 (c_Mo_plainNow l g mo a o now dr pa sa iS bu tq rT wT sK sA sB sE oq bS bE bL rp y2 hs3) rfl rfl ⟨Nat.le_of_ble_eq_true rfl, Nat.le_of_ble_eq_true rfl⟩ ⟨Nat.le_of_ble_eq_true rfl, Nat.le_of_ble_eq_true rfl⟩ hB rfl rfl hl rfl rfl (Nat.le_of_ble_eq_true rfl) d_Mo_deflectionNow_5) (fun y4 ey4 H locs hP hS => ?_)
  have hz := lett_z hz ey4
  refine lv_lstore_n (lv' := [(1, .long y4), (0, .ref mo)]) hx hb d_Mo_deflectionNow_8 rfl hl (by decide) rfl (fun ls hl => ?_)
  refine lv_aload_n hx hb d_Mo_deflectionNow_9 rfl (lv_at hl 1 rfl) ?_
  refine gf C hP 0 0 fkMo rfl (by decide) rfl qf_Mo_7 (gMo_0 _ _) d_Mo_deflectionNow_10 ?_
  refine lv_bipush (v := 31) hx hb d_Mo_deflectionNow_13 (by decide) ?_
  refine ldL C hP 1 rfl vi_31_215 cn_31 d_Mo_deflectionNow_15 ?_
  refine lv_lconst (v := 1) hx hb d_Mo_deflectionNow_16 (by decide) ?_
  refine lc_ne (tgt := 26) hx hb d_Mo_deflectionNow_17 d_Mo_deflectionNow_18 (by decide) (fun c5 => ?_) (fun c5 => ?_)
  · have hz := hz.trans (if_neg c5)
    refine lv_lload_n hx hb d_Mo_deflectionNow_26 rfl (lv_at hl 0 rfl) ?_
    exact endL0 C hz hP hS d_Mo_deflectionNow_27
  · have hz := hz.trans (if_pos c5)
    refine lv_lload_n hx hb d_Mo_deflectionNow_21 rfl (lv_at hl 0 rfl) ?_
    refine lv_lneg hx hb d_Mo_deflectionNow_22 ?_
    refine lv_goto (tgt := 27) hx hb d_Mo_deflectionNow_23 (by decide) ?_
    exact endL0 C hz hP hS d_Mo_deflectionNow_27
abbrev rm_Mo_currentNow : Room := { frames := 5, cells := 0, slots := 0, locals := 113 }
noncomputable def sp_Mo_currentNow (now : LV) : Int64 := lett (sp_Mo_setting now) fun (y2 : Int32) => lett (sp_Mo_boxSide y2 (now 32) now) fun (y4 : Int64) => lett (sp_Mo_unknownSide (now 32) now) fun (y5 : Int64) => ((1000000 : Int64) * (now 22)) / (y4 + y5)
def ok_Mo_currentNow (now : LV) : Prop := (ok_Mo_setting now) ∧ lett (sp_Mo_setting now) fun (y2 : Int32) => (ok_Mo_boxSide y2 (now 32) now) ∧ lett (sp_Mo_boxSide y2 (now 32) now) fun (y4 : Int64) => lett (sp_Mo_unknownSide (now 32) now) fun (y5 : Int64) => (¬ (y4 + y5) = 0) ∧ True
set_option maxRecDepth 100000 in
set_option maxHeartbeats 4000000 in
theorem c_Mo_currentNow (l : Launch) (g : GX) (mo : Nat) (a : Nat → Nat) (o : IV) (now : LV) (dr : LV) (pa : LV) (sa : LV) (iS : IV) (bu : IV) (tq : IV) (rT : IV) (wT : IV) (sK : IV) (sA : IV) (sB : IV) (sE : IV) (oq : IV) (bS : IV) (bE : IV) (bL : IV) (rp : IV)  (hok : ok_Mo_currentNow now) : Met l y_Mo_currentNow (wsY y_Mo_currentNow b_Mo_currentNow 1 (some .long)) rm_Mo_currentNow (CP g [.ref mo] (wMo g mo a o now dr pa sa iS bu tq rT wT sK sA sB sE oq bS bE bL rp)) (CL0 g (wMo g mo a o now dr pa sa iS bu tq rT wT sK sA sB sE oq bS bE bL rp) (sp_Mo_currentNow now)) 0 0 (inW (wMo g mo a o now dr pa sa iS bu tq rT wT sK sA sB sE oq bS bE bL rp)) := by
  refine Met.ofW (cc := b_Mo_currentNow) (maxL := 1) (ret := (some .long)) pn_Mo rfl ?_
  intro p e s m args below meth c s₁ B hml hv
  obtain ⟨rfl, C, hP, hD, hS⟩ := enter "DecadeBridgeModel" rfl B hml hv
  obtain ⟨hx, hb, hr, hml, hown, hlk, hts, hK, hZo, hZ⟩ := id C
  refine entryW (lv := [(0, .ref mo)]) rfl (Nat.le_of_ble_eq_true rfl) (fun ls hl => ?_)
  obtain ⟨z, hz⟩ : ∃ z, z = sp_Mo_currentNow now := ⟨_, rfl⟩
  rw [← hz]
  unfold sp_Mo_currentNow at hz
  unfold ok_Mo_currentNow at hok
  refine lv_ldc2 hx hb hown (hts _ qk_Mo_112) d_Mo_currentNow_0 ?_
  refine lv_aload_n hx hb d_Mo_currentNow_3 rfl (lv_at hl 0 rfl) ?_
  refine gf C hP 0 0 fkMo rfl (by decide) rfl qf_Mo_7 (gMo_0 _ _) d_Mo_currentNow_4 ?_
  refine lv_bipush (v := 22) hx hb d_Mo_currentNow_7 (by decide) ?_
  refine ldL C hP 1 rfl vi_22_215 cn_22 d_Mo_currentNow_9 ?_
  refine lv_lmul hx hb d_Mo_currentNow_10 ?_
  refine lv_aload_n hx hb d_Mo_currentNow_11 rfl (lv_at hl 0 rfl) ?_
  refine lv_aload_n hx hb d_Mo_currentNow_12 rfl (lv_at hl 0 rfl) ?_
  have hs1 := hok.1
  have hok := hok.2
  have hB : SubW g (inW (wMo g mo a o now dr pa sa iS bu tq rT wT sK sA sB sE oq bS bE bL rp)) s (wMo g mo a o now dr pa sa iS bu tq rT wT sK sA sB sE oq bS bE bL rp) _ (List.range _) _ _ := (subF hP hD hS)
  refine goI0 hB (run_v C mf_Mo_setting qm_Mo_176 (c_Mo_setting l g mo a o now dr pa sa iS bu tq rT wT sK sA sB sE oq bS bE bL rp hs1) rfl rfl ⟨Nat.le_of_ble_eq_true rfl, Nat.le_of_ble_eq_true rfl⟩ ⟨Nat.le_of_ble_eq_true rfl, Nat.le_of_ble_eq_true rfl⟩ hB rfl rfl hl rfl rfl (Nat.le_of_ble_eq_true rfl) d_Mo_currentNow_13) (fun y2 ey2 H locs hP hS => ?_)
  have hz := lett_z hz ey2
  have hok := lett_o hok ey2
  refine lv_aload_n hx hb d_Mo_currentNow_16 rfl (lv_at hl 0 rfl) ?_
  refine gf C hP 0 0 fkMo rfl (by decide) rfl qf_Mo_7 (gMo_0 _ _) d_Mo_currentNow_17 ?_
  refine lv_bipush (v := 32) hx hb d_Mo_currentNow_20 (by decide) ?_
  refine ldL C hP 1 rfl vi_32_215 cn_32 d_Mo_currentNow_22 ?_
  have hs3 := hok.1
  have hok := hok.2
  have hB : SubW g (inW (wMo g mo a o now dr pa sa iS bu tq rT wT sK sA sB sE oq bS bE bL rp)) s (wMo g mo a o now dr pa sa iS bu tq rT wT sK sA sB sE oq bS bE bL rp) _ (List.range _) _ _ := (subF hP hD hS)
  refine goL0 hB (run_v C mf_Mo_boxSide qm_Mo_158 (c_Mo_boxSide l g mo a o now dr pa sa iS bu tq rT wT sK sA sB sE oq bS bE bL rp y2 (now 32) hs3) rfl rfl ⟨Nat.le_of_ble_eq_true rfl, Nat.le_of_ble_eq_true rfl⟩ ⟨Nat.le_of_ble_eq_true rfl, Nat.le_of_ble_eq_true rfl⟩ hB rfl rfl hl rfl rfl (Nat.le_of_ble_eq_true rfl) d_Mo_currentNow_23) (fun y4 ey4 H locs hP hS => ?_)
  have hz := lett_z hz ey4
  have hok := lett_o hok ey4
  refine lv_aload_n hx hb d_Mo_currentNow_26 rfl (lv_at hl 0 rfl) ?_
  refine lv_aload_n hx hb d_Mo_currentNow_27 rfl (lv_at hl 0 rfl) ?_
  refine gf C hP 0 0 fkMo rfl (by decide) rfl qf_Mo_7 (gMo_0 _ _) d_Mo_currentNow_28 ?_
  refine lv_bipush (v := 32) hx hb d_Mo_currentNow_31 (by decide) ?_
  refine ldL C hP 1 rfl vi_32_215 cn_32 d_Mo_currentNow_33 ?_
  have hB : SubW g (inW (wMo g mo a o now dr pa sa iS bu tq rT wT sK sA sB sE oq bS bE bL rp)) s (wMo g mo a o now dr pa sa iS bu tq rT wT sK sA sB sE oq bS bE bL rp) _ (List.range _) _ _ := (subF hP hD hS)
  refine goL0 hB (run_v C mf_Mo_unknownSide qm_Mo_155 (c_Mo_unknownSide l g mo a o now dr pa sa iS bu tq rT wT sK sA sB sE oq bS bE bL rp (now 32)) rfl rfl ⟨Nat.le_of_ble_eq_true rfl, Nat.le_of_ble_eq_true rfl⟩ ⟨Nat.le_of_ble_eq_true rfl, Nat.le_of_ble_eq_true rfl⟩ hB rfl rfl hl rfl rfl (Nat.le_of_ble_eq_true rfl) d_Mo_currentNow_34) (fun y5 ey5 H locs hP hS => ?_)
  have hz := lett_z hz ey5
  have hok := lett_o hok ey5
  refine lv_ladd hx hb d_Mo_currentNow_37 ?_
  have hs6 := hok.1
  have hok := hok.2
  refine lv_ldiv hx hb d_Mo_currentNow_38 hs6 ?_
  exact endL0 C hz hP hS d_Mo_currentNow_39
abbrev rm_Mo_powerOf : Room := { frames := 6, cells := 0, slots := 0, locals := 133 }
def HL_Mo_powerOf_37 (p : Program) (l : Launch) (e : Env) (s : State) (m : MethodId) (args : Array Value) (below : List Frame) (meth : Method) (c : Code) (g : GX) (mo : Nat) (a : Nat → Nat) (o : IV) (now : LV) (dr : LV) (pa : LV) (sa : LV) (iS : IV) (bu : IV) (tq : IV) (rT : IV) (wT : IV) (sK : IV) (sA : IV) (sB : IV) (sE : IV) (oq : IV) (bS : IV) (bE : IV) (bL : IV) (rp : IV) (v3 : Int64) (sp : Int64 → Int64) (ok : Int64 → Prop) : Prop := ∀ (t1p37 : Int64), ok t1p37 → ∀ z : Int64, z = sp t1p37 → ∀ (H : Heap) (locs : List Loc) (ls : Array Slot), va_P g.1 vwCl (wMo g mo a o now dr pa sa iS bu tq rT wT sK sA sB sE oq bS bE bL rp) H → va_D (inW (wMo g mo a o now dr pa sa iS bu tq rT wT sK sA sB sE oq bS bE bL rp)) (wMo g mo a o now dr pa sa iS bu tq rT wT sK sA sB sE oq bS bE bL rp) → va_S (inW (wMo g mo a o now dr pa sa iS bu tq rT wT sK sA sB sE oq bS bE bL rp)) s.heap H locs → lv_has ls 4 [] → W p l e rm_Mo_powerOf s m args below meth c H locs 0 0 (MQ below (CL0 g (wMo g mo a o now dr pa sa iS bu tq rT wT sK sA sB sE oq bS bE bL rp) z) args s 0 0 (inW (wMo g mo a o now dr pa sa iS bu tq rT wT sK sA sB sE oq bS bE bL rp))) (F0 m 37 ls [.long t1p37, .long ((v3 * v3) / (1000 : Int64))])
noncomputable def sp_Mo_powerOf_37 (v3 : Int64)  (t1p37 : Int64) : Int64 := (((v3 * v3) / (1000 : Int64)) * t1p37) / (1000000 : Int64)
def ok_Mo_powerOf_37 (v3 : Int64)   (t1p37 : Int64) : Prop := True
set_option maxRecDepth 100000 in
set_option maxHeartbeats 4000000 in
theorem k_Mo_powerOf_37 {p : Program} {l : Launch} {e : Env} {s : State} {m : MethodId} {args : Array Value} {below : List Frame} {meth : Method} {c : Code} {g : GX} {mo : Nat} {a : Nat → Nat} {o : IV} {now : LV} {dr : LV} {pa : LV} {sa : LV} {iS : IV} {bu : IV} {tq : IV} {rT : IV} {wT : IV} {sK : IV} {sA : IV} {sB : IV} {sE : IV} {oq : IV} {bS : IV} {bE : IV} {bL : IV} {rp : IV} {v3 : Int64}  (C : Cx p s m args meth c (inW (wMo g mo a o now dr pa sa iS bu tq rT wT sK sA sB sE oq bS bE bL rp)) g "DecadeBridgeModel" b_Mo_powerOf (some .long) 4)  : HL_Mo_powerOf_37 p l e s m args below meth c g mo a o now dr pa sa iS bu tq rT wT sK sA sB sE oq bS bE bL rp v3 (sp_Mo_powerOf_37 v3 ) (ok_Mo_powerOf_37 v3  ) := by
  intro t1p37 hok z hz H locs ls hP hD hS hl
  obtain ⟨hx, hb, hr, hml, hown, hlk, hts, hK, hZo, hZ⟩ := id C
  unfold sp_Mo_powerOf_37 at hz
  refine lv_lmul hx hb d_Mo_powerOf_37 ?_
  refine lv_ldc2 hx hb hown (hts _ qk_Mo_112) d_Mo_powerOf_38 ?_
  refine lv_ldiv hx hb d_Mo_powerOf_41 (by decide) ?_
  exact endL0 C hz hP hS d_Mo_powerOf_42
noncomputable def sp_Mo_powerOf (p1 : Int32) (now : LV) : Int64 := lett (sp_Mo_currentNow now) fun (y2 : Int64) => lett (if y2 < (1000000 : Int64) then y2 else (1000000 : Int64)) fun (v3 : Int64) => if p1 = 0 then (lett (sp_Mo_unknownWarm now) fun (y5 : Int64) => sp_Mo_powerOf_37 v3 y5) else (lett (sp_Mo_setting now) fun (y7 : Int32) => lett (sp_Mo_boxWarm y7 now) fun (y9 : Int64) => sp_Mo_powerOf_37 v3 y9)
def ok_Mo_powerOf (p1 : Int32) (now : LV) : Prop := (ok_Mo_currentNow now) ∧ lett (sp_Mo_currentNow now) fun (y2 : Int64) => lett (if y2 < (1000000 : Int64) then y2 else (1000000 : Int64)) fun (v3 : Int64) => ((p1 = 0 → True) ∧ (¬ (p1 = 0) → (ok_Mo_setting now) ∧ lett (sp_Mo_setting now) fun (y7 : Int32) => (ok_Mo_boxWarm y7 now) ∧ True))
set_option maxRecDepth 100000 in
set_option maxHeartbeats 4000000 in
theorem c_Mo_powerOf (l : Launch) (g : GX) (mo : Nat) (a : Nat → Nat) (o : IV) (now : LV) (dr : LV) (pa : LV) (sa : LV) (iS : IV) (bu : IV) (tq : IV) (rT : IV) (wT : IV) (sK : IV) (sA : IV) (sB : IV) (sE : IV) (oq : IV) (bS : IV) (bE : IV) (bL : IV) (rp : IV) (p1 : Int32) (hok : ok_Mo_powerOf p1 now) : Met l y_Mo_powerOf (wsY y_Mo_powerOf b_Mo_powerOf 4 (some .long)) rm_Mo_powerOf (CP g [.ref mo, .int p1] (wMo g mo a o now dr pa sa iS bu tq rT wT sK sA sB sE oq bS bE bL rp)) (CL0 g (wMo g mo a o now dr pa sa iS bu tq rT wT sK sA sB sE oq bS bE bL rp) (sp_Mo_powerOf p1 now)) 0 0 (inW (wMo g mo a o now dr pa sa iS bu tq rT wT sK sA sB sE oq bS bE bL rp)) := by
  refine Met.ofW (cc := b_Mo_powerOf) (maxL := 4) (ret := (some .long)) pn_Mo rfl ?_
  intro p e s m args below meth c s₁ B hml hv
  obtain ⟨rfl, C, hP, hD, hS⟩ := enter "DecadeBridgeModel" rfl B hml hv
  obtain ⟨hx, hb, hr, hml, hown, hlk, hts, hK, hZo, hZ⟩ := id C
  refine entryW (lv := [(0, .ref mo), (1, .int p1)]) rfl (Nat.le_of_ble_eq_true rfl) (fun ls hl => ?_)
  obtain ⟨z, hz⟩ : ∃ z, z = sp_Mo_powerOf p1 now := ⟨_, rfl⟩
  rw [← hz]
  unfold sp_Mo_powerOf at hz
  unfold ok_Mo_powerOf at hok
  refine lv_ldc2 hx hb hown (hts _ qk_Mo_112) d_Mo_powerOf_0 ?_
  refine lv_aload_n hx hb d_Mo_powerOf_3 rfl (lv_at hl 0 rfl) ?_
  have hs1 := hok.1
  have hok := hok.2
  have hB : SubW g (inW (wMo g mo a o now dr pa sa iS bu tq rT wT sK sA sB sE oq bS bE bL rp)) s (wMo g mo a o now dr pa sa iS bu tq rT wT sK sA sB sE oq bS bE bL rp) _ (List.range _) _ _ := (subF hP hD hS)
  refine goL0 hB (run_v C mf_Mo_currentNow qm_Mo_182 (c_Mo_currentNow l g mo a o now dr pa sa iS bu tq rT wT sK sA sB sE oq bS bE bL rp hs1) rfl rfl ⟨Nat.le_of_ble_eq_true rfl, Nat.le_of_ble_eq_true rfl⟩ ⟨Nat.le_of_ble_eq_true rfl, Nat.le_of_ble_eq_true rfl⟩ hB rfl rfl hl rfl rfl (Nat.le_of_ble_eq_true rfl) d_Mo_powerOf_4) (fun y2 ey2 H locs hP hS => ?_)
  have hz := lett_z hz ey2
  have hok := lett_o hok ey2
  refine va_mmin_long hx hb (hml.trans hl.1.symm) hown (hts _ qm_Mo_185) (hts _ (mf_JM_min_JJJ).2) (hts _ (mf_JM_min_JJJ).1.2.1) (hts _ (mf_JM_min_JJJ).1.1) (Nat.le_of_ble_eq_true rfl) (Nat.le_of_ble_eq_true rfl) (Nat.le_of_ble_eq_true rfl) (Nat.le_of_ble_eq_true rfl) d_Mo_powerOf_7 ?_
  refine lv_topl (fun v3 ev3 => ?_)
  have hz := lett_z hz ev3
  have hok := lett_o hok ev3
  refine lv_lstore_n (lv' := [(2, .long v3), (0, .ref mo), (1, .int p1)]) hx hb d_Mo_powerOf_10 rfl hl (by decide) rfl (fun ls hl => ?_)
  refine lv_lload_n hx hb d_Mo_powerOf_11 rfl (lv_at hl 0 rfl) ?_
  refine lv_lload_n hx hb d_Mo_powerOf_12 rfl (lv_at hl 0 rfl) ?_
  refine lv_lmul hx hb d_Mo_powerOf_13 ?_
  refine lv_ldc2 hx hb hown (hts _ qk_Mo_102) d_Mo_powerOf_14 ?_
  refine lv_ldiv hx hb d_Mo_powerOf_17 (by decide) ?_
  refine lv_iload_n hx hb d_Mo_powerOf_18 rfl (lv_at hl 2 rfl) ?_
  refine lv_if_eq (tgt := 33) hx hb d_Mo_powerOf_19 (by decide) (fun c4 => ?_) (fun c4 => ?_)
  · have hz := hz.trans (if_pos c4)
    refine lv_aload_n hx hb d_Mo_powerOf_33 rfl (lv_at hl 1 rfl) ?_
    have hB : SubW g (inW (wMo g mo a o now dr pa sa iS bu tq rT wT sK sA sB sE oq bS bE bL rp)) s (wMo g mo a o now dr pa sa iS bu tq rT wT sK sA sB sE oq bS bE bL rp) _ (List.range _) _ _ := (subF hP hD hS)
    refine goL0 hB (run_v C mf_Mo_unknownWarm qm_Mo_146 (c_Mo_unknownWarm l g mo a o now dr pa sa iS bu tq rT wT sK sA sB sE oq bS bE bL rp) rfl rfl ⟨Nat.le_of_ble_eq_true rfl, Nat.le_of_ble_eq_true rfl⟩ ⟨Nat.le_of_ble_eq_true rfl, Nat.le_of_ble_eq_true rfl⟩ hB rfl rfl hl rfl rfl (Nat.le_of_ble_eq_true rfl) d_Mo_powerOf_34) (fun y5 ey5 H locs hP hS => ?_)
    have hz := lett_z hz ey5
    exact k_Mo_powerOf_37 C y5 trivial _ hz _ _ ls hP hD hS (lv_sub hl [] rfl)
  · have hz := hz.trans (if_neg c4)
    have hok := hok.2 c4
    refine lv_aload_n hx hb d_Mo_powerOf_22 rfl (lv_at hl 1 rfl) ?_
    refine lv_aload_n hx hb d_Mo_powerOf_23 rfl (lv_at hl 1 rfl) ?_
    have hs6 := hok.1
    have hok := hok.2
    have hB : SubW g (inW (wMo g mo a o now dr pa sa iS bu tq rT wT sK sA sB sE oq bS bE bL rp)) s (wMo g mo a o now dr pa sa iS bu tq rT wT sK sA sB sE oq bS bE bL rp) _ (List.range _) _ _ := (subF hP hD hS)
    refine goI0 hB (run_v C mf_Mo_setting qm_Mo_176 (c_Mo_setting l g mo a o now dr pa sa iS bu tq rT wT sK sA sB sE oq bS bE bL rp hs6) rfl rfl ⟨Nat.le_of_ble_eq_true rfl, Nat.le_of_ble_eq_true rfl⟩ ⟨Nat.le_of_ble_eq_true rfl, Nat.le_of_ble_eq_true rfl⟩ hB rfl rfl hl rfl rfl (Nat.le_of_ble_eq_true rfl) d_Mo_powerOf_24) (fun y7 ey7 H locs hP hS => ?_)
    have hz := lett_z hz ey7
    have hok := lett_o hok ey7
    have hs8 := hok.1
    have hok := hok.2
    have hB : SubW g (inW (wMo g mo a o now dr pa sa iS bu tq rT wT sK sA sB sE oq bS bE bL rp)) s (wMo g mo a o now dr pa sa iS bu tq rT wT sK sA sB sE oq bS bE bL rp) _ (List.range _) _ _ := (subF hP hD hS)
    refine goL0 hB (run_v C mf_Mo_boxWarm qm_Mo_150 (c_Mo_boxWarm l g mo a o now dr pa sa iS bu tq rT wT sK sA sB sE oq bS bE bL rp y7 hs8) rfl rfl ⟨Nat.le_of_ble_eq_true rfl, Nat.le_of_ble_eq_true rfl⟩ ⟨Nat.le_of_ble_eq_true rfl, Nat.le_of_ble_eq_true rfl⟩ hB rfl rfl hl rfl rfl (Nat.le_of_ble_eq_true rfl) d_Mo_powerOf_27) (fun y9 ey9 H locs hP hS => ?_)
    have hz := lett_z hz ey9
    refine lv_goto (tgt := 37) hx hb d_Mo_powerOf_30 (by decide) ?_
    exact k_Mo_powerOf_37 C y9 trivial _ hz _ _ ls hP hD hS (lv_sub hl [] rfl)
abbrev rm_Mo_draw : Room := { frames := 0, cells := 0, slots := 0, locals := 0 }
noncomputable def sp_Mo_draw (p1 : Int64) (now : LV) : Int64 × LV := lett ((((now 28).toInt32) * (1103515245 : Int32)) + (12345 : Int32)) fun (v1 : Int32) => lett (vp_updL now 28 v1.toInt64) fun (now_2 : LV) => ((((v1.toUInt32 >>> ((16 : Int32).toUInt32 &&& Int32.toUInt32 31)).toInt32).toInt64) - (((v1.toUInt32 >>> ((16 : Int32).toUInt32 &&& Int32.toUInt32 31)).toInt32).toInt64) / p1 * p1, now_2)
def ok_Mo_draw (p1 : Int64) (now : LV) : Prop := lett ((((now 28).toInt32) * (1103515245 : Int32)) + (12345 : Int32)) fun (v1 : Int32) => lett (vp_updL now 28 v1.toInt64) fun (now_2 : LV) => (¬ p1 = 0) ∧ True
set_option maxRecDepth 100000 in
set_option maxHeartbeats 4000000 in
theorem c_Mo_draw (l : Launch) (g : GX) (mo : Nat) (a : Nat → Nat) (o : IV) (now : LV) (dr : LV) (pa : LV) (sa : LV) (iS : IV) (bu : IV) (tq : IV) (rT : IV) (wT : IV) (sK : IV) (sA : IV) (sB : IV) (sE : IV) (oq : IV) (bS : IV) (bE : IV) (bL : IV) (rp : IV) (p1 : Int64) (hok : ok_Mo_draw p1 now) : Met l y_Mo_draw (wsY y_Mo_draw b_Mo_draw 4 (some .long)) rm_Mo_draw (CP g [.ref mo, .long p1] (wMo g mo a o now dr pa sa iS bu tq rT wT sK sA sB sE oq bS bE bL rp)) (CL g (wMo g mo a o now dr pa sa iS bu tq rT wT sK sA sB sE oq bS bE bL rp) (fun u : LV => wMo g mo a o u dr pa sa iS bu tq rT wT sK sA sB sE oq bS bE bL rp) (sp_Mo_draw p1 now)) 0 0 (inW (wMo g mo a o now dr pa sa iS bu tq rT wT sK sA sB sE oq bS bE bL rp)) := by
  refine Met.ofW (cc := b_Mo_draw) (maxL := 4) (ret := (some .long)) pn_Mo rfl ?_
  intro p e s m args below meth c s₁ B hml hv
  obtain ⟨rfl, C, hP, hD, hS⟩ := enter "DecadeBridgeModel" rfl B hml hv
  obtain ⟨hx, hb, hr, hml, hown, hlk, hts, hK, hZo, hZ⟩ := id C
  refine entryW (lv := [(0, .ref mo), (1, .long p1)]) rfl (Nat.le_of_ble_eq_true rfl) (fun ls hl => ?_)
  obtain ⟨z, hz⟩ : ∃ z, z = sp_Mo_draw p1 now := ⟨_, rfl⟩
  rw [← hz]
  unfold sp_Mo_draw at hz
  unfold ok_Mo_draw at hok
  refine lv_aload_n hx hb d_Mo_draw_0 rfl (lv_at hl 0 rfl) ?_
  refine gf C hP 0 0 fkMo rfl (by decide) rfl qf_Mo_7 (gMo_0 _ _) d_Mo_draw_1 ?_
  refine lv_bipush (v := 28) hx hb d_Mo_draw_4 (by decide) ?_
  refine ldL C hP 1 rfl vi_28_215 cn_28 d_Mo_draw_6 ?_
  refine lv_l2i hx hb d_Mo_draw_7 rfl ?_
  refine lv_ldc hx hb hown (hts _ qk_Mo_190) d_Mo_draw_8 ?_
  refine lv_imul hx hb d_Mo_draw_10 ?_
  refine lv_sipush (v := 12345) hx hb d_Mo_draw_11 (by decide) ?_
  refine lv_iadd hx hb d_Mo_draw_14 ?_
  refine lv_topi (fun v1 ev1 => ?_)
  have hz := lett_z hz ev1
  have hok := lett_o hok ev1
  refine lv_istore_n (lv' := [(3, .int v1), (0, .ref mo), (1, .long p1)]) hx hb d_Mo_draw_15 rfl hl (by decide) rfl (fun ls hl => ?_)
  refine lv_aload_n hx hb d_Mo_draw_16 rfl (lv_at hl 1 rfl) ?_
  refine gf C hP 0 0 fkMo rfl (by decide) rfl qf_Mo_7 (gMo_0 _ _) d_Mo_draw_17 ?_
  refine lv_bipush (v := 28) hx hb d_Mo_draw_20 (by decide) ?_
  refine lv_iload_n hx hb d_Mo_draw_22 rfl (lv_at hl 0 rfl) ?_
  refine lv_i2l hx hb d_Mo_draw_23 rfl ?_
  refine stL C hP hD hS 1 rfl vi_28_215 cn_28 d_Mo_draw_24 (fun now_2 enow_2 H locs hP hD hS => ?_)
  have hP : va_P g.1 vwCl (wMo g mo a o now_2 dr pa sa iS bu tq rT wT sK sA sB sE oq bS bE bL rp) H := hP
  have hD : va_D (inW (wMo g mo a o now dr pa sa iS bu tq rT wT sK sA sB sE oq bS bE bL rp)) (wMo g mo a o now_2 dr pa sa iS bu tq rT wT sK sA sB sE oq bS bE bL rp) := hD
  have hz := lett_z hz enow_2
  have hok := lett_o hok enow_2
  refine lv_iload_n hx hb d_Mo_draw_25 rfl (lv_at hl 0 rfl) ?_
  refine lv_bipush (v := 16) hx hb d_Mo_draw_26 (by decide) ?_
  refine lv_iushr hx hb d_Mo_draw_28 rfl ?_
  refine lv_i2l hx hb d_Mo_draw_29 rfl ?_
  refine lv_lload_n hx hb d_Mo_draw_30 rfl (lv_at hl 2 rfl) ?_
  have hs3 := hok.1
  have hok := hok.2
  refine lv_lrem hx hb d_Mo_draw_31 hs3 ?_
  exact endL1 C hz hP hS d_Mo_draw_32
abbrev rm_Mo_heated : Room := { frames := 1, cells := 0, slots := 0, locals := 25 }
noncomputable def sp_Mo_heated (p1 : Int32) (p2 : Int64) (p3 : Int64) (now : LV) : Int64 := lett (sp_Mo_bound ((p2 + ((p3 * (now (p1 + (1 : Int32)).toNatClampNeg)) / (1000 : Int64))) - ((p2 * (now (p1 + (2 : Int32)).toNatClampNeg)) / (100 : Int64))) (0 : Int64) (200000 : Int64)) fun (y3 : Int64) => y3
def ok_Mo_heated (p1 : Int32) (p2 : Int64) (p3 : Int64) : Prop := (vp_in (p1 + (1 : Int32)) 215) ∧ (vp_in (p1 + (2 : Int32)) 215) ∧ True
set_option maxRecDepth 100000 in
set_option maxHeartbeats 4000000 in
theorem c_Mo_heated (l : Launch) (g : GX) (mo : Nat) (a : Nat → Nat) (o : IV) (now : LV) (dr : LV) (pa : LV) (sa : LV) (iS : IV) (bu : IV) (tq : IV) (rT : IV) (wT : IV) (sK : IV) (sA : IV) (sB : IV) (sE : IV) (oq : IV) (bS : IV) (bE : IV) (bL : IV) (rp : IV) (p1 : Int32) (p2 : Int64) (p3 : Int64) (hok : ok_Mo_heated p1 p2 p3) : Met l y_Mo_heated (wsY y_Mo_heated b_Mo_heated 6 (some .long)) rm_Mo_heated (CP g [.ref mo, .int p1, .long p2, .long p3] (wMo g mo a o now dr pa sa iS bu tq rT wT sK sA sB sE oq bS bE bL rp)) (CL0 g (wMo g mo a o now dr pa sa iS bu tq rT wT sK sA sB sE oq bS bE bL rp) (sp_Mo_heated p1 p2 p3 now)) 0 0 (inW (wMo g mo a o now dr pa sa iS bu tq rT wT sK sA sB sE oq bS bE bL rp)) := by
  refine Met.ofW (cc := b_Mo_heated) (maxL := 6) (ret := (some .long)) pn_Mo rfl ?_
  intro p e s m args below meth c s₁ B hml hv
  obtain ⟨rfl, C, hP, hD, hS⟩ := enter "DecadeBridgeModel" rfl B hml hv
  obtain ⟨hx, hb, hr, hml, hown, hlk, hts, hK, hZo, hZ⟩ := id C
  refine entryW (lv := [(0, .ref mo), (1, .int p1), (2, .long p2), (4, .long p3)]) rfl (Nat.le_of_ble_eq_true rfl) (fun ls hl => ?_)
  obtain ⟨z, hz⟩ : ∃ z, z = sp_Mo_heated p1 p2 p3 now := ⟨_, rfl⟩
  rw [← hz]
  unfold sp_Mo_heated at hz
  unfold ok_Mo_heated at hok
  refine lv_lload_n hx hb d_Mo_heated_0 rfl (lv_at hl 2 rfl) ?_
  refine lv_lload hx hb d_Mo_heated_1 (lv_at hl 3 rfl) ?_
  refine lv_aload_n hx hb d_Mo_heated_3 rfl (lv_at hl 0 rfl) ?_
  refine gf C hP 0 0 fkMo rfl (by decide) rfl qf_Mo_7 (gMo_0 _ _) d_Mo_heated_4 ?_
  refine lv_iload_n hx hb d_Mo_heated_7 rfl (lv_at hl 1 rfl) ?_
  refine lv_iconst (v := 1) hx hb d_Mo_heated_8 (by decide) ?_
  refine lv_iadd hx hb d_Mo_heated_9 ?_
  have hs1 := hok.1
  have hok := hok.2
  refine ldL C hP 1 rfl hs1 rfl d_Mo_heated_10 ?_
  refine lv_lmul hx hb d_Mo_heated_11 ?_
  refine lv_ldc2 hx hb hown (hts _ qk_Mo_102) d_Mo_heated_12 ?_
  refine lv_ldiv hx hb d_Mo_heated_15 (by decide) ?_
  refine lv_ladd hx hb d_Mo_heated_16 ?_
  refine lv_lload_n hx hb d_Mo_heated_17 rfl (lv_at hl 2 rfl) ?_
  refine lv_aload_n hx hb d_Mo_heated_18 rfl (lv_at hl 0 rfl) ?_
  refine gf C hP 0 0 fkMo rfl (by decide) rfl qf_Mo_7 (gMo_0 _ _) d_Mo_heated_19 ?_
  refine lv_iload_n hx hb d_Mo_heated_22 rfl (lv_at hl 1 rfl) ?_
  refine lv_iconst (v := 2) hx hb d_Mo_heated_23 (by decide) ?_
  refine lv_iadd hx hb d_Mo_heated_24 ?_
  have hs2 := hok.1
  have hok := hok.2
  refine ldL C hP 1 rfl hs2 rfl d_Mo_heated_25 ?_
  refine lv_lmul hx hb d_Mo_heated_26 ?_
  refine lv_ldc2 hx hb hown (hts _ qk_Mo_191) d_Mo_heated_27 ?_
  refine lv_ldiv hx hb d_Mo_heated_30 (by decide) ?_
  refine lv_lsub hx hb d_Mo_heated_31 ?_
  refine lv_lconst (v := 0) hx hb d_Mo_heated_32 (by decide) ?_
  refine lv_ldc2 hx hb hown (hts _ qk_Mo_193) d_Mo_heated_33 ?_
  have hB : SubW g (inW (wMo g mo a o now dr pa sa iS bu tq rT wT sK sA sB sE oq bS bE bL rp)) s (wMo g mo a o now dr pa sa iS bu tq rT wT sK sA sB sE oq bS bE bL rp) _ (List.range _) _ _ := (subF hP hD hS)
  refine goL0 hB (run_s C mf_Mo_bound qm_Mo_195 (c_Mo_bound l g mo a o now dr pa sa iS bu tq rT wT sK sA sB sE oq bS bE bL rp ((p2 + ((p3 * (now (p1 + (1 : Int32)).toNatClampNeg)) / (1000 : Int64))) - ((p2 * (now (p1 + (2 : Int32)).toNatClampNeg)) / (100 : Int64))) (0 : Int64) (200000 : Int64)) rfl rfl ⟨Nat.le_of_ble_eq_true rfl, Nat.le_of_ble_eq_true rfl⟩ ⟨Nat.le_of_ble_eq_true rfl, Nat.le_of_ble_eq_true rfl⟩ hB hl rfl rfl (Nat.le_of_ble_eq_true rfl) d_Mo_heated_36) (fun y3 ey3 H locs hP hS => ?_)
  have hz := lett_z hz ey3
  exact endL0 C hz hP hS d_Mo_heated_39
abbrev rm_Mo_heats : Room := { frames := 7, cells := 0, slots := 0, locals := 156 }
def HL_Mo_heats_13 (p : Program) (l : Launch) (e : Env) (s : State) (m : MethodId) (args : Array Value) (below : List Frame) (meth : Method) (c : Code) (g : GX) (mo : Nat) (a : Nat → Nat) (ws0 : va_W) (o : IV) (now : LV) (dr : LV) (pa : LV) (sa : LV) (iS : IV) (bu : IV) (tq : IV) (rT : IV) (wT : IV) (sK : IV) (sA : IV) (sB : IV) (sE : IV) (oq : IV) (bS : IV) (bE : IV) (bL : IV) (rp : IV) (p1 : Int32) (sp : Int64 → (Int32 × LV)) (ok : Int64 → Prop) : Prop := ∀ (t0p13 : Int64), ok t0p13 → ∀ z : (Int32 × LV), z = sp t0p13 → ∀ (H : Heap) (locs : List Loc) (ls : Array Slot), va_P g.1 vwCl (wMo g mo a o now dr pa sa iS bu tq rT wT sK sA sB sE oq bS bE bL rp) H → va_D (inW ws0) (wMo g mo a o now dr pa sa iS bu tq rT wT sK sA sB sE oq bS bE bL rp) → va_S (inW ws0) s.heap H locs → lv_has ls 10 [(0, .ref mo), (1, .int p1)] → W p l e rm_Mo_heats s m args below meth c H locs 0 0 (MQ below (CI g ws0 (fun u : LV => wMo g mo a o u dr pa sa iS bu tq rT wT sK sA sB sE oq bS bE bL rp) z) args s 0 0 (inW ws0)) (F0 m 13 ls [.long t0p13])
def HL_Mo_heats_27 (p : Program) (l : Launch) (e : Env) (s : State) (m : MethodId) (args : Array Value) (below : List Frame) (meth : Method) (c : Code) (g : GX) (mo : Nat) (a : Nat → Nat) (ws0 : va_W) (o : IV) (now : LV) (dr : LV) (pa : LV) (sa : LV) (iS : IV) (bu : IV) (tq : IV) (rT : IV) (wT : IV) (sK : IV) (sA : IV) (sB : IV) (sE : IV) (oq : IV) (bS : IV) (bE : IV) (bL : IV) (rp : IV) (t0p13 : Int64) (sp : Int64 → (Int32 × LV)) (ok : Int64 → Prop) : Prop := ∀ (t0p27 : Int64), ok t0p27 → ∀ z : (Int32 × LV), z = sp t0p27 → ∀ (H : Heap) (locs : List Loc) (ls : Array Slot), va_P g.1 vwCl (wMo g mo a o now dr pa sa iS bu tq rT wT sK sA sB sE oq bS bE bL rp) H → va_D (inW ws0) (wMo g mo a o now dr pa sa iS bu tq rT wT sK sA sB sE oq bS bE bL rp) → va_S (inW ws0) s.heap H locs → lv_has ls 10 [(0, .ref mo), (2, .long t0p13)] → W p l e rm_Mo_heats s m args below meth c H locs 0 0 (MQ below (CI g ws0 (fun u : LV => wMo g mo a o u dr pa sa iS bu tq rT wT sK sA sB sE oq bS bE bL rp) z) args s 0 0 (inW ws0)) (F0 m 27 ls [.long t0p27])
def HL_Mo_heats_106 (p : Program) (l : Launch) (e : Env) (s : State) (m : MethodId) (args : Array Value) (below : List Frame) (meth : Method) (c : Code) (g : GX) (mo : Nat) (a : Nat → Nat) (ws0 : va_W) (o : IV) (now_14 : LV) (dr : LV) (pa : LV) (sa : LV) (iS : IV) (bu : IV) (tq : IV) (rT : IV) (wT : IV) (sK : IV) (sA : IV) (sB : IV) (sE : IV) (oq : IV) (bS : IV) (bE : IV) (bL : IV) (rp : IV) (sp : (Int32 × LV)) (ok : Prop) : Prop := ∀ (_ : Unit), ok → ∀ z : (Int32 × LV), z = sp → ∀ (H : Heap) (locs : List Loc) (ls : Array Slot), va_P g.1 vwCl (wMo g mo a o now_14 dr pa sa iS bu tq rT wT sK sA sB sE oq bS bE bL rp) H → va_D (inW ws0) (wMo g mo a o now_14 dr pa sa iS bu tq rT wT sK sA sB sE oq bS bE bL rp) → va_S (inW ws0) s.heap H locs → lv_has ls 10 [] → W p l e rm_Mo_heats s m args below meth c H locs 0 0 (MQ below (CI g ws0 (fun u : LV => wMo g mo a o u dr pa sa iS bu tq rT wT sK sA sB sE oq bS bE bL rp) z) args s 0 0 (inW ws0)) (F0 m 106 ls [])
noncomputable def sp_Mo_heats_106 (now_14 : LV)   : Int32 × LV := ((1 : Int32), now_14)
def ok_Mo_heats_106 (now_14 : LV)    : Prop := True
set_option maxRecDepth 100000 in
set_option maxHeartbeats 4000000 in
theorem k_Mo_heats_106 {p : Program} {l : Launch} {e : Env} {s : State} {m : MethodId} {args : Array Value} {below : List Frame} {meth : Method} {c : Code} {g : GX} {mo : Nat} {a : Nat → Nat} {ws0 : va_W} {o : IV} {now_14 : LV} {dr : LV} {pa : LV} {sa : LV} {iS : IV} {bu : IV} {tq : IV} {rT : IV} {wT : IV} {sK : IV} {sA : IV} {sB : IV} {sE : IV} {oq : IV} {bS : IV} {bE : IV} {bL : IV} {rp : IV}  (C : Cx p s m args meth c (inW ws0) g "DecadeBridgeModel" b_Mo_heats (some .boolean) 10)  : HL_Mo_heats_106 p l e s m args below meth c g mo a ws0 o now_14 dr pa sa iS bu tq rT wT sK sA sB sE oq bS bE bL rp (sp_Mo_heats_106 now_14 ) (ok_Mo_heats_106 now_14  ) := by
  intro _ hok z hz H locs ls hP hD hS hl
  obtain ⟨hx, hb, hr, hml, hown, hlk, hts, hK, hZo, hZ⟩ := id C
  unfold sp_Mo_heats_106 at hz
  refine lv_iconst (v := 1) hx hb d_Mo_heats_106 (by decide) ?_
  refine lv_goto (tgt := 111) hx hb d_Mo_heats_107 (by decide) ?_
  exact endZ1 C hz hP hS rfl d_Mo_heats_111
noncomputable def sp_Mo_heats_27 (now : LV) (t0p13 : Int64)  (t0p27 : Int64) : Int32 × LV := lett (now 37) fun (v7 : Int64) => lett (now 38) fun (v8 : Int64) => lett (sp_Mo_heated (13 : Int32) v7 t0p13 now) fun (y10 : Int64) => lett (vp_updL now 37 y10) fun (now_11 : LV) => lett (sp_Mo_heated (16 : Int32) v8 t0p27 now_11) fun (y13 : Int64) => lett (vp_updL now_11 38 y13) fun (now_14 : LV) => if (now_14 37) = v7 then (if (now_14 38) = v8 then (((0 : Int32), now_14)) else (sp_Mo_heats_106 now_14)) else (sp_Mo_heats_106 now_14)
def ok_Mo_heats_27 (now : LV) (t0p13 : Int64)   (t0p27 : Int64) : Prop := lett (now 37) fun (v7 : Int64) => lett (now 38) fun (v8 : Int64) => (ok_Mo_heated (13 : Int32) v7 t0p13) ∧ lett (sp_Mo_heated (13 : Int32) v7 t0p13 now) fun (y10 : Int64) => lett (vp_updL now 37 y10) fun (now_11 : LV) => (ok_Mo_heated (16 : Int32) v8 t0p27) ∧ True
set_option maxRecDepth 100000 in
set_option maxHeartbeats 4000000 in
theorem k_Mo_heats_27 {p : Program} {l : Launch} {e : Env} {s : State} {m : MethodId} {args : Array Value} {below : List Frame} {meth : Method} {c : Code} {g : GX} {mo : Nat} {a : Nat → Nat} {ws0 : va_W} {o : IV} {now : LV} {dr : LV} {pa : LV} {sa : LV} {iS : IV} {bu : IV} {tq : IV} {rT : IV} {wT : IV} {sK : IV} {sA : IV} {sB : IV} {sE : IV} {oq : IV} {bS : IV} {bE : IV} {bL : IV} {rp : IV} {t0p13 : Int64}  (C : Cx p s m args meth c (inW ws0) g "DecadeBridgeModel" b_Mo_heats (some .boolean) 10)  : HL_Mo_heats_27 p l e s m args below meth c g mo a ws0 o now dr pa sa iS bu tq rT wT sK sA sB sE oq bS bE bL rp t0p13 (sp_Mo_heats_27 now t0p13 ) (ok_Mo_heats_27 now t0p13  ) := by
  intro t0p27 hok z hz H locs ls hP hD hS hl
  obtain ⟨hx, hb, hr, hml, hown, hlk, hts, hK, hZo, hZ⟩ := id C
  unfold sp_Mo_heats_27 at hz
  unfold ok_Mo_heats_27 at hok
  refine lv_lstore (lv' := [(4, .long t0p27), (0, .ref mo), (2, .long t0p13)]) hx hb d_Mo_heats_27 hl (by decide) rfl (fun ls hl => ?_)
  refine lv_aload_n hx hb d_Mo_heats_29 rfl (lv_at hl 1 rfl) ?_
  refine gf C hP 0 0 fkMo rfl (by decide) rfl qf_Mo_7 (gMo_0 _ _) d_Mo_heats_30 ?_
  refine lv_bipush (v := 37) hx hb d_Mo_heats_33 (by decide) ?_
  refine ldL C hP 1 rfl vi_37_215 cn_37 d_Mo_heats_35 ?_
  refine lv_topl (fun v7 ev7 => ?_)
  have hz := lett_z hz ev7
  have hok := lett_o hok ev7
  refine lv_lstore (lv' := [(6, .long v7), (4, .long t0p27), (0, .ref mo), (2, .long t0p13)]) hx hb d_Mo_heats_36 hl (by decide) rfl (fun ls hl => ?_)
  refine lv_aload_n hx hb d_Mo_heats_38 rfl (lv_at hl 2 rfl) ?_
  refine gf C hP 0 0 fkMo rfl (by decide) rfl qf_Mo_7 (gMo_0 _ _) d_Mo_heats_39 ?_
  refine lv_bipush (v := 38) hx hb d_Mo_heats_42 (by decide) ?_
  refine ldL C hP 1 rfl vi_38_215 cn_38 d_Mo_heats_44 ?_
  refine lv_topl (fun v8 ev8 => ?_)
  have hz := lett_z hz ev8
  have hok := lett_o hok ev8
  refine lv_lstore (lv' := [(8, .long v8), (6, .long v7), (4, .long t0p27), (0, .ref mo), (2, .long t0p13)]) hx hb d_Mo_heats_45 hl (by decide) rfl (fun ls hl => ?_)
  refine lv_aload_n hx hb d_Mo_heats_47 rfl (lv_at hl 3 rfl) ?_
  refine gf C hP 0 0 fkMo rfl (by decide) rfl qf_Mo_7 (gMo_0 _ _) d_Mo_heats_48 ?_
  refine lv_bipush (v := 37) hx hb d_Mo_heats_51 (by decide) ?_
  refine lv_aload_n hx hb d_Mo_heats_53 rfl (lv_at hl 3 rfl) ?_
  refine lv_bipush (v := 13) hx hb d_Mo_heats_54 (by decide) ?_
  refine lv_lload hx hb d_Mo_heats_56 (lv_at hl 1 rfl) ?_
  refine lv_lload_n hx hb d_Mo_heats_58 rfl (lv_at hl 4 rfl) ?_
  have hs9 := hok.1
  have hok := hok.2
  have hB : SubW g (inW ws0) s (wMo g mo a o now dr pa sa iS bu tq rT wT sK sA sB sE oq bS bE bL rp) _ (List.range _) _ _ := (subF hP hD hS)
  refine goL0 hB (run_v C mf_Mo_heated qm_Mo_202 (c_Mo_heated l g mo a o now dr pa sa iS bu tq rT wT sK sA sB sE oq bS bE bL rp (13 : Int32) v7 t0p13 hs9) rfl rfl ⟨Nat.le_of_ble_eq_true rfl, Nat.le_of_ble_eq_true rfl⟩ ⟨Nat.le_of_ble_eq_true rfl, Nat.le_of_ble_eq_true rfl⟩ hB rfl rfl hl rfl rfl (Nat.le_of_ble_eq_true rfl) d_Mo_heats_59) (fun y10 ey10 H locs hP hS => ?_)
  have hz := lett_z hz ey10
  have hok := lett_o hok ey10
  refine stL C hP hD hS 1 rfl vi_37_215 cn_37 d_Mo_heats_62 (fun now_11 enow_11 H locs hP hD hS => ?_)
  have hP : va_P g.1 vwCl (wMo g mo a o now_11 dr pa sa iS bu tq rT wT sK sA sB sE oq bS bE bL rp) H := hP
  have hD : va_D (inW ws0) (wMo g mo a o now_11 dr pa sa iS bu tq rT wT sK sA sB sE oq bS bE bL rp) := hD
  have hz := lett_z hz enow_11
  have hok := lett_o hok enow_11
  refine lv_aload_n hx hb d_Mo_heats_63 rfl (lv_at hl 3 rfl) ?_
  refine gf C hP 0 0 fkMo rfl (by decide) rfl qf_Mo_7 (gMo_0 _ _) d_Mo_heats_64 ?_
  refine lv_bipush (v := 38) hx hb d_Mo_heats_67 (by decide) ?_
  refine lv_aload_n hx hb d_Mo_heats_69 rfl (lv_at hl 3 rfl) ?_
  refine lv_bipush (v := 16) hx hb d_Mo_heats_70 (by decide) ?_
  refine lv_lload hx hb d_Mo_heats_72 (lv_at hl 0 rfl) ?_
  refine lv_lload hx hb d_Mo_heats_74 (lv_at hl 2 rfl) ?_
  have hs12 := hok.1
  have hok := hok.2
  have hB : SubW g (inW ws0) s (wMo g mo a o now_11 dr pa sa iS bu tq rT wT sK sA sB sE oq bS bE bL rp) _ (List.range _) _ _ := (subF hP hD hS)
  refine goL0 hB (run_v C mf_Mo_heated qm_Mo_202 (c_Mo_heated l g mo a o now_11 dr pa sa iS bu tq rT wT sK sA sB sE oq bS bE bL rp (16 : Int32) v8 t0p27 hs12) rfl rfl ⟨Nat.le_of_ble_eq_true rfl, Nat.le_of_ble_eq_true rfl⟩ ⟨Nat.le_of_ble_eq_true rfl, Nat.le_of_ble_eq_true rfl⟩ hB rfl rfl hl rfl rfl (Nat.le_of_ble_eq_true rfl) d_Mo_heats_76) (fun y13 ey13 H locs hP hS => ?_)
  have hz := lett_z hz ey13
  refine stL C hP hD hS 1 rfl vi_38_215 cn_38 d_Mo_heats_79 (fun now_14 enow_14 H locs hP hD hS => ?_)
  have hP : va_P g.1 vwCl (wMo g mo a o now_14 dr pa sa iS bu tq rT wT sK sA sB sE oq bS bE bL rp) H := hP
  have hD : va_D (inW ws0) (wMo g mo a o now_14 dr pa sa iS bu tq rT wT sK sA sB sE oq bS bE bL rp) := hD
  have hz := lett_z hz enow_14
  refine lv_aload_n hx hb d_Mo_heats_80 rfl (lv_at hl 3 rfl) ?_
  refine gf C hP 0 0 fkMo rfl (by decide) rfl qf_Mo_7 (gMo_0 _ _) d_Mo_heats_81 ?_
  refine lv_bipush (v := 37) hx hb d_Mo_heats_84 (by decide) ?_
  refine ldL C hP 1 rfl vi_37_215 cn_37 d_Mo_heats_86 ?_
  refine lv_lload hx hb d_Mo_heats_87 (lv_at hl 1 rfl) ?_
  refine lc_ne (tgt := 106) hx hb d_Mo_heats_89 d_Mo_heats_90 (by decide) (fun c15 => ?_) (fun c15 => ?_)
  · have hz := hz.trans (if_neg c15)
    exact k_Mo_heats_106 C () trivial _ hz _ _ ls hP hD hS (lv_sub hl [] rfl)
  · have hz := hz.trans (if_pos c15)
    refine lv_aload_n hx hb d_Mo_heats_93 rfl (lv_at hl 3 rfl) ?_
    refine gf C hP 0 0 fkMo rfl (by decide) rfl qf_Mo_7 (gMo_0 _ _) d_Mo_heats_94 ?_
    refine lv_bipush (v := 38) hx hb d_Mo_heats_97 (by decide) ?_
    refine ldL C hP 1 rfl vi_38_215 cn_38 d_Mo_heats_99 ?_
    refine lv_lload hx hb d_Mo_heats_100 (lv_at hl 0 rfl) ?_
    refine lc_eq (tgt := 110) hx hb d_Mo_heats_102 d_Mo_heats_103 (by decide) (fun c16 => ?_) (fun c16 => ?_)
    · have hz := hz.trans (if_pos c16)
      refine lv_iconst (v := 0) hx hb d_Mo_heats_110 (by decide) ?_
      exact endZ1 C hz hP hS rfl d_Mo_heats_111
    · have hz := hz.trans (if_neg c16)
      exact k_Mo_heats_106 C () trivial _ hz _ _ ls hP hD hS (lv_sub hl [] rfl)
noncomputable def sp_Mo_heats_13 (p1 : Int32) (now : LV)  (t0p13 : Int64) : Int32 × LV := if p1 = 0 then (sp_Mo_heats_27 now t0p13 (0 : Int64)) else (lett (sp_Mo_powerOf (1 : Int32) now) fun (y6 : Int64) => sp_Mo_heats_27 now t0p13 y6)
def ok_Mo_heats_13 (p1 : Int32) (now : LV)   (t0p13 : Int64) : Prop := ((p1 = 0 → ok_Mo_heats_27 now t0p13 (0 : Int64)) ∧ (¬ (p1 = 0) → (ok_Mo_powerOf (1 : Int32) now) ∧ lett (sp_Mo_powerOf (1 : Int32) now) fun (y6 : Int64) => ok_Mo_heats_27 now t0p13 y6))
set_option maxRecDepth 100000 in
set_option maxHeartbeats 4000000 in
theorem k_Mo_heats_13 {p : Program} {l : Launch} {e : Env} {s : State} {m : MethodId} {args : Array Value} {below : List Frame} {meth : Method} {c : Code} {g : GX} {mo : Nat} {a : Nat → Nat} {ws0 : va_W} {o : IV} {now : LV} {dr : LV} {pa : LV} {sa : LV} {iS : IV} {bu : IV} {tq : IV} {rT : IV} {wT : IV} {sK : IV} {sA : IV} {sB : IV} {sE : IV} {oq : IV} {bS : IV} {bE : IV} {bL : IV} {rp : IV} {p1 : Int32}  (C : Cx p s m args meth c (inW ws0) g "DecadeBridgeModel" b_Mo_heats (some .boolean) 10)  : HL_Mo_heats_13 p l e s m args below meth c g mo a ws0 o now dr pa sa iS bu tq rT wT sK sA sB sE oq bS bE bL rp p1 (sp_Mo_heats_13 p1 now ) (ok_Mo_heats_13 p1 now  ) := by
  intro t0p13 hok z hz H locs ls hP hD hS hl
  obtain ⟨hx, hb, hr, hml, hown, hlk, hts, hK, hZo, hZ⟩ := id C
  unfold sp_Mo_heats_13 at hz
  unfold ok_Mo_heats_13 at hok
  refine lv_lstore_n (lv' := [(2, .long t0p13), (0, .ref mo), (1, .int p1)]) hx hb d_Mo_heats_13 rfl hl (by decide) rfl (fun ls hl => ?_)
  refine lv_iload_n hx hb d_Mo_heats_14 rfl (lv_at hl 2 rfl) ?_
  refine lv_if_eq (tgt := 26) hx hb d_Mo_heats_15 (by decide) (fun c4 => ?_) (fun c4 => ?_)
  · have hz := hz.trans (if_pos c4)
    have hok := hok.1 c4
    refine lv_lconst (v := 0) hx hb d_Mo_heats_26 (by decide) ?_
    exact k_Mo_heats_27 C (0 : Int64) hok _ hz _ _ ls hP hD hS (lv_sub hl [1, 0] rfl)
  · have hz := hz.trans (if_neg c4)
    have hok := hok.2 c4
    refine lv_aload_n hx hb d_Mo_heats_18 rfl (lv_at hl 1 rfl) ?_
    refine lv_iconst (v := 1) hx hb d_Mo_heats_19 (by decide) ?_
    have hs5 := hok.1
    have hok := hok.2
    have hB : SubW g (inW ws0) s (wMo g mo a o now dr pa sa iS bu tq rT wT sK sA sB sE oq bS bE bL rp) _ (List.range _) _ _ := (subF hP hD hS)
    refine goL0 hB (run_v C mf_Mo_powerOf qm_Mo_198 (c_Mo_powerOf l g mo a o now dr pa sa iS bu tq rT wT sK sA sB sE oq bS bE bL rp (1 : Int32) hs5) rfl rfl ⟨Nat.le_of_ble_eq_true rfl, Nat.le_of_ble_eq_true rfl⟩ ⟨Nat.le_of_ble_eq_true rfl, Nat.le_of_ble_eq_true rfl⟩ hB rfl rfl hl rfl rfl (Nat.le_of_ble_eq_true rfl) d_Mo_heats_20) (fun y6 ey6 H locs hP hS => ?_)
    have hz := lett_z hz ey6
    have hok := lett_o hok ey6
    refine lv_goto (tgt := 27) hx hb d_Mo_heats_23 (by decide) ?_
    exact k_Mo_heats_27 C y6 hok _ hz _ _ ls hP hD hS (lv_sub hl [1, 0] rfl)
noncomputable def sp_Mo_heats (p1 : Int32) (now : LV) : Int32 × LV := if p1 = 0 then (sp_Mo_heats_13 p1 now (0 : Int64)) else (lett (sp_Mo_powerOf (0 : Int32) now) fun (y3 : Int64) => sp_Mo_heats_13 p1 now y3)
def ok_Mo_heats (p1 : Int32) (now : LV) : Prop := ((p1 = 0 → ok_Mo_heats_13 p1 now (0 : Int64)) ∧ (¬ (p1 = 0) → (ok_Mo_powerOf (0 : Int32) now) ∧ lett (sp_Mo_powerOf (0 : Int32) now) fun (y3 : Int64) => ok_Mo_heats_13 p1 now y3))
set_option maxRecDepth 100000 in
set_option maxHeartbeats 4000000 in
theorem c_Mo_heats (l : Launch) (g : GX) (mo : Nat) (a : Nat → Nat) (o : IV) (now : LV) (dr : LV) (pa : LV) (sa : LV) (iS : IV) (bu : IV) (tq : IV) (rT : IV) (wT : IV) (sK : IV) (sA : IV) (sB : IV) (sE : IV) (oq : IV) (bS : IV) (bE : IV) (bL : IV) (rp : IV) (p1 : Int32) (hok : ok_Mo_heats p1 now) : Met l y_Mo_heats (wsY y_Mo_heats b_Mo_heats 10 (some .boolean)) rm_Mo_heats (CP g [.ref mo, .int p1] (wMo g mo a o now dr pa sa iS bu tq rT wT sK sA sB sE oq bS bE bL rp)) (CI g (wMo g mo a o now dr pa sa iS bu tq rT wT sK sA sB sE oq bS bE bL rp) (fun u : LV => wMo g mo a o u dr pa sa iS bu tq rT wT sK sA sB sE oq bS bE bL rp) (sp_Mo_heats p1 now)) 0 0 (inW (wMo g mo a o now dr pa sa iS bu tq rT wT sK sA sB sE oq bS bE bL rp)) := by
  refine Met.ofW (cc := b_Mo_heats) (maxL := 10) (ret := (some .boolean)) pn_Mo rfl ?_
  intro p e s m args below meth c s₁ B hml hv
  obtain ⟨rfl, C, hP, hD, hS⟩ := enter "DecadeBridgeModel" rfl B hml hv
  obtain ⟨hx, hb, hr, hml, hown, hlk, hts, hK, hZo, hZ⟩ := id C
  refine entryW (lv := [(0, .ref mo), (1, .int p1)]) rfl (Nat.le_of_ble_eq_true rfl) (fun ls hl => ?_)
  obtain ⟨z, hz⟩ : ∃ z, z = sp_Mo_heats p1 now := ⟨_, rfl⟩
  rw [← hz]
  unfold sp_Mo_heats at hz
  unfold ok_Mo_heats at hok
  refine lv_iload_n hx hb d_Mo_heats_0 rfl (lv_at hl 1 rfl) ?_
  refine lv_if_eq (tgt := 12) hx hb d_Mo_heats_1 (by decide) (fun c1 => ?_) (fun c1 => ?_)
  · have hz := hz.trans (if_pos c1)
    have hok := hok.1 c1
    refine lv_lconst (v := 0) hx hb d_Mo_heats_12 (by decide) ?_
    exact k_Mo_heats_13 C (0 : Int64) hok _ hz _ _ ls hP hD hS hl
  · have hz := hz.trans (if_neg c1)
    have hok := hok.2 c1
    refine lv_aload_n hx hb d_Mo_heats_4 rfl (lv_at hl 0 rfl) ?_
    refine lv_iconst (v := 0) hx hb d_Mo_heats_5 (by decide) ?_
    have hs2 := hok.1
    have hok := hok.2
    have hB : SubW g (inW (wMo g mo a o now dr pa sa iS bu tq rT wT sK sA sB sE oq bS bE bL rp)) s (wMo g mo a o now dr pa sa iS bu tq rT wT sK sA sB sE oq bS bE bL rp) _ (List.range _) _ _ := (subF hP hD hS)
    refine goL0 hB (run_v C mf_Mo_powerOf qm_Mo_198 (c_Mo_powerOf l g mo a o now dr pa sa iS bu tq rT wT sK sA sB sE oq bS bE bL rp (0 : Int32) hs2) rfl rfl ⟨Nat.le_of_ble_eq_true rfl, Nat.le_of_ble_eq_true rfl⟩ ⟨Nat.le_of_ble_eq_true rfl, Nat.le_of_ble_eq_true rfl⟩ hB rfl rfl hl rfl rfl (Nat.le_of_ble_eq_true rfl) d_Mo_heats_6) (fun y3 ey3 H locs hP hS => ?_)
    have hz := lett_z hz ey3
    have hok := lett_o hok ey3
    refine lv_goto (tgt := 13) hx hb d_Mo_heats_9 (by decide) ?_
    exact k_Mo_heats_13 C y3 hok _ hz _ _ ls hP hD hS hl
abbrev rm_Mo_tick : Room := { frames := 8, cells := 0, slots := 0, locals := 185 }
def HL_Mo_tick_21 (p : Program) (l : Launch) (e : Env) (s : State) (m : MethodId) (args : Array Value) (below : List Frame) (meth : Method) (c : Code) (g : GX) (mo : Nat) (a : Nat → Nat) (ws0 : va_W) (o : IV) (now : LV) (dr : LV) (pa : LV) (sa : LV) (iS : IV) (bu : IV) (tq : IV) (rT : IV) (wT : IV) (sK : IV) (sA : IV) (sB : IV) (sE : IV) (oq : IV) (bS : IV) (bE : IV) (bL : IV) (rp : IV) (p1 : Int32) (sp : Int64 → LV) (ok : Int64 → Prop) : Prop := ∀ (t3p21 : Int64), ok t3p21 → ∀ z : LV, z = sp t3p21 → ∀ (H : Heap) (locs : List Loc) (ls : Array Slot), va_P g.1 vwCl (wMo g mo a o now dr pa sa iS bu tq rT wT sK sA sB sE oq bS bE bL rp) H → va_D (inW ws0) (wMo g mo a o now dr pa sa iS bu tq rT wT sK sA sB sE oq bS bE bL rp) → va_S (inW ws0) s.heap H locs → lv_has ls 3 [(0, .ref mo), (1, .int p1)] → W p l e rm_Mo_tick s m args below meth c H locs 0 0 (MQ below (CV g ws0 (fun u : LV => wMo g mo a o u dr pa sa iS bu tq rT wT sK sA sB sE oq bS bE bL rp) z) args s 0 0 (inW ws0)) (F0 m 21 ls [.long t3p21, .long (now 40), .int (40 : Int32), .ref (a 0)])
noncomputable def sp_Mo_tick_21 (now : LV) (p1 : Int32)  (t3p21 : Int64) : LV := lett (vp_updL now 40 ((now 40) + t3p21)) fun (now_4 : LV) => lett (sp_Mo_heats p1 now_4) fun (y6 : Int32 × LV) => lett (sp_Mo_draw (((2 : Int64) * (y6.2 26)) + (1 : Int64)) y6.2) fun (y8 : Int64 × LV) => lett (sp_Mo_bound (((y6.2 27) + y8.1) - (y8.2 26)) (-99999 : Int64) (99999 : Int64)) fun (y9 : Int64) => lett (vp_updL y8.2 27 y9) fun (now_10 : LV) => lett (vp_updL now_10 39 ((now_10 39) + (1 : Int64))) fun (now_11 : LV) => now_11
def ok_Mo_tick_21 (now : LV) (p1 : Int32)   (t3p21 : Int64) : Prop := lett (vp_updL now 40 ((now 40) + t3p21)) fun (now_4 : LV) => (ok_Mo_heats p1 now_4) ∧ lett (sp_Mo_heats p1 now_4) fun (y6 : Int32 × LV) => (ok_Mo_draw (((2 : Int64) * (y6.2 26)) + (1 : Int64)) y6.2) ∧ True
set_option maxRecDepth 100000 in
set_option maxHeartbeats 4000000 in
theorem k_Mo_tick_21 {p : Program} {l : Launch} {e : Env} {s : State} {m : MethodId} {args : Array Value} {below : List Frame} {meth : Method} {c : Code} {g : GX} {mo : Nat} {a : Nat → Nat} {ws0 : va_W} {o : IV} {now : LV} {dr : LV} {pa : LV} {sa : LV} {iS : IV} {bu : IV} {tq : IV} {rT : IV} {wT : IV} {sK : IV} {sA : IV} {sB : IV} {sE : IV} {oq : IV} {bS : IV} {bE : IV} {bL : IV} {rp : IV} {p1 : Int32}  (C : Cx p s m args meth c (inW ws0) g "DecadeBridgeModel" b_Mo_tick none 3)  : HL_Mo_tick_21 p l e s m args below meth c g mo a ws0 o now dr pa sa iS bu tq rT wT sK sA sB sE oq bS bE bL rp p1 (sp_Mo_tick_21 now p1 ) (ok_Mo_tick_21 now p1  ) := by
  intro t3p21 hok z hz H locs ls hP hD hS hl
  obtain ⟨hx, hb, hr, hml, hown, hlk, hts, hK, hZo, hZ⟩ := id C
  unfold sp_Mo_tick_21 at hz
  unfold ok_Mo_tick_21 at hok
  refine lv_ladd hx hb d_Mo_tick_21 ?_
  refine stL C hP hD hS 1 rfl vi_40_215 cn_40 d_Mo_tick_22 (fun now_4 enow_4 H locs hP hD hS => ?_)
  have hP : va_P g.1 vwCl (wMo g mo a o now_4 dr pa sa iS bu tq rT wT sK sA sB sE oq bS bE bL rp) H := hP
  have hD : va_D (inW ws0) (wMo g mo a o now_4 dr pa sa iS bu tq rT wT sK sA sB sE oq bS bE bL rp) := hD
  have hz := lett_z hz enow_4
  have hok := lett_o hok enow_4
  refine lv_aload_n hx hb d_Mo_tick_23 rfl (lv_at hl 0 rfl) ?_
  refine lv_iload_n hx hb d_Mo_tick_24 rfl (lv_at hl 1 rfl) ?_
  have hs5 := hok.1
  have hok := hok.2
  have hB : SubW g (inW ws0) s (wMo g mo a o now_4 dr pa sa iS bu tq rT wT sK sA sB sE oq bS bE bL rp) _ (List.range _) _ _ := (subF hP hD hS)
  refine goIF hB (run_v C mf_Mo_heats qm_Mo_206 (c_Mo_heats l g mo a o now_4 dr pa sa iS bu tq rT wT sK sA sB sE oq bS bE bL rp p1 hs5) rfl rfl ⟨Nat.le_of_ble_eq_true rfl, Nat.le_of_ble_eq_true rfl⟩ ⟨Nat.le_of_ble_eq_true rfl, Nat.le_of_ble_eq_true rfl⟩ hB rfl rfl hl rfl rfl (Nat.le_of_ble_eq_true rfl) d_Mo_tick_25) (fun _ => rfl) (fun y6 ey6 H locs hP hD hS => ?_)
  have hP : va_P g.1 vwCl (wMo g mo a o y6.2 dr pa sa iS bu tq rT wT sK sA sB sE oq bS bE bL rp) H := hP
  have hD : va_D (inW ws0) (wMo g mo a o y6.2 dr pa sa iS bu tq rT wT sK sA sB sE oq bS bE bL rp) := hD
  have hz := lett_z hz ey6
  have hok := lett_o hok ey6
  refine lv_istore_n (lv' := [(2, .int y6.1), (0, .ref mo), (1, .int p1)]) hx hb d_Mo_tick_28 rfl hl (by decide) rfl (fun ls hl => ?_)
  refine lv_aload_n hx hb d_Mo_tick_29 rfl (lv_at hl 1 rfl) ?_
  refine gf C hP 0 0 fkMo rfl (by decide) rfl qf_Mo_7 (gMo_0 _ _) d_Mo_tick_30 ?_
  refine lv_bipush (v := 27) hx hb d_Mo_tick_33 (by decide) ?_
  refine lv_aload_n hx hb d_Mo_tick_35 rfl (lv_at hl 1 rfl) ?_
  refine gf C hP 0 0 fkMo rfl (by decide) rfl qf_Mo_7 (gMo_0 _ _) d_Mo_tick_36 ?_
  refine lv_bipush (v := 27) hx hb d_Mo_tick_39 (by decide) ?_
  refine ldL C hP 1 rfl vi_27_215 cn_27 d_Mo_tick_41 ?_
  refine lv_aload_n hx hb d_Mo_tick_42 rfl (lv_at hl 1 rfl) ?_
  refine lv_ldc2 hx hb hown (hts _ qk_Mo_100) d_Mo_tick_43 ?_
  refine lv_aload_n hx hb d_Mo_tick_46 rfl (lv_at hl 1 rfl) ?_
  refine gf C hP 0 0 fkMo rfl (by decide) rfl qf_Mo_7 (gMo_0 _ _) d_Mo_tick_47 ?_
  refine lv_bipush (v := 26) hx hb d_Mo_tick_50 (by decide) ?_
  refine ldL C hP 1 rfl vi_26_215 cn_26 d_Mo_tick_52 ?_
  refine lv_lmul hx hb d_Mo_tick_53 ?_
  refine lv_lconst (v := 1) hx hb d_Mo_tick_54 (by decide) ?_
  refine lv_ladd hx hb d_Mo_tick_55 ?_
  have hs7 := hok.1
  have hok := hok.2
  have hB : SubW g (inW ws0) s (wMo g mo a o y6.2 dr pa sa iS bu tq rT wT sK sA sB sE oq bS bE bL rp) _ (List.range _) _ _ := (subF hP hD hS)
  refine goLF hB (run_v C mf_Mo_draw qm_Mo_210 (c_Mo_draw l g mo a o y6.2 dr pa sa iS bu tq rT wT sK sA sB sE oq bS bE bL rp (((2 : Int64) * (y6.2 26)) + (1 : Int64)) hs7) rfl rfl ⟨Nat.le_of_ble_eq_true rfl, Nat.le_of_ble_eq_true rfl⟩ ⟨Nat.le_of_ble_eq_true rfl, Nat.le_of_ble_eq_true rfl⟩ hB rfl rfl hl rfl rfl (Nat.le_of_ble_eq_true rfl) d_Mo_tick_56) (fun _ => rfl) (fun y8 ey8 H locs hP hD hS => ?_)
  have hP : va_P g.1 vwCl (wMo g mo a o y8.2 dr pa sa iS bu tq rT wT sK sA sB sE oq bS bE bL rp) H := hP
  have hD : va_D (inW ws0) (wMo g mo a o y8.2 dr pa sa iS bu tq rT wT sK sA sB sE oq bS bE bL rp) := hD
  have hz := lett_z hz ey8
  refine lv_ladd hx hb d_Mo_tick_59 ?_
  refine lv_aload_n hx hb d_Mo_tick_60 rfl (lv_at hl 1 rfl) ?_
  refine gf C hP 0 0 fkMo rfl (by decide) rfl qf_Mo_7 (gMo_0 _ _) d_Mo_tick_61 ?_
  refine lv_bipush (v := 26) hx hb d_Mo_tick_64 (by decide) ?_
  refine ldL C hP 1 rfl vi_26_215 cn_26 d_Mo_tick_66 ?_
  refine lv_lsub hx hb d_Mo_tick_67 ?_
  refine lv_ldc2 hx hb hown (hts _ qk_Mo_213) d_Mo_tick_68 ?_
  refine lv_ldc2 hx hb hown (hts _ qk_Mo_215) d_Mo_tick_71 ?_
  have hB : SubW g (inW ws0) s (wMo g mo a o y8.2 dr pa sa iS bu tq rT wT sK sA sB sE oq bS bE bL rp) _ (List.range _) _ _ := (subF hP hD hS)
  refine goL0 hB (run_s C mf_Mo_bound qm_Mo_195 (c_Mo_bound l g mo a o y8.2 dr pa sa iS bu tq rT wT sK sA sB sE oq bS bE bL rp (((y6.2 27) + y8.1) - (y8.2 26)) (-99999 : Int64) (99999 : Int64)) rfl rfl ⟨Nat.le_of_ble_eq_true rfl, Nat.le_of_ble_eq_true rfl⟩ ⟨Nat.le_of_ble_eq_true rfl, Nat.le_of_ble_eq_true rfl⟩ hB hl rfl rfl (Nat.le_of_ble_eq_true rfl) d_Mo_tick_74) (fun y9 ey9 H locs hP hS => ?_)
  have hz := lett_z hz ey9
  refine stL C hP hD hS 1 rfl vi_27_215 cn_27 d_Mo_tick_77 (fun now_10 enow_10 H locs hP hD hS => ?_)
  have hP : va_P g.1 vwCl (wMo g mo a o now_10 dr pa sa iS bu tq rT wT sK sA sB sE oq bS bE bL rp) H := hP
  have hD : va_D (inW ws0) (wMo g mo a o now_10 dr pa sa iS bu tq rT wT sK sA sB sE oq bS bE bL rp) := hD
  have hz := lett_z hz enow_10
  refine lv_aload_n hx hb d_Mo_tick_78 rfl (lv_at hl 1 rfl) ?_
  refine gf C hP 0 0 fkMo rfl (by decide) rfl qf_Mo_7 (gMo_0 _ _) d_Mo_tick_79 ?_
  refine lv_bipush (v := 39) hx hb d_Mo_tick_82 (by decide) ?_
  refine lv_dup2_11 hx hb d_Mo_tick_84 rfl rfl ?_
  refine ldL C hP 1 rfl vi_39_215 cn_39 d_Mo_tick_85 ?_
  refine lv_lconst (v := 1) hx hb d_Mo_tick_86 (by decide) ?_
  refine lv_ladd hx hb d_Mo_tick_87 ?_
  refine stL C hP hD hS 1 rfl vi_39_215 cn_39 d_Mo_tick_88 (fun now_11 enow_11 H locs hP hD hS => ?_)
  have hP : va_P g.1 vwCl (wMo g mo a o now_11 dr pa sa iS bu tq rT wT sK sA sB sE oq bS bE bL rp) H := hP
  have hD : va_D (inW ws0) (wMo g mo a o now_11 dr pa sa iS bu tq rT wT sK sA sB sE oq bS bE bL rp) := hD
  have hz := lett_z hz enow_11
  exact endV C hz hP hS d_Mo_tick_89
noncomputable def sp_Mo_tick (p1 : Int32) (now : LV) : LV := if p1 = 0 then (sp_Mo_tick_21 now p1 (0 : Int64)) else (lett (sp_Mo_powerOf (0 : Int32) now) fun (y3 : Int64) => sp_Mo_tick_21 now p1 y3)
def ok_Mo_tick (p1 : Int32) (now : LV) : Prop := ((p1 = 0 → ok_Mo_tick_21 now p1 (0 : Int64)) ∧ (¬ (p1 = 0) → (ok_Mo_powerOf (0 : Int32) now) ∧ lett (sp_Mo_powerOf (0 : Int32) now) fun (y3 : Int64) => ok_Mo_tick_21 now p1 y3))
set_option maxRecDepth 100000 in
set_option maxHeartbeats 4000000 in
theorem c_Mo_tick (l : Launch) (g : GX) (mo : Nat) (a : Nat → Nat) (o : IV) (now : LV) (dr : LV) (pa : LV) (sa : LV) (iS : IV) (bu : IV) (tq : IV) (rT : IV) (wT : IV) (sK : IV) (sA : IV) (sB : IV) (sE : IV) (oq : IV) (bS : IV) (bE : IV) (bL : IV) (rp : IV) (p1 : Int32) (hok : ok_Mo_tick p1 now) : Met l y_Mo_tick (wsY y_Mo_tick b_Mo_tick 3 none) rm_Mo_tick (CP g [.ref mo, .int p1] (wMo g mo a o now dr pa sa iS bu tq rT wT sK sA sB sE oq bS bE bL rp)) (CV g (wMo g mo a o now dr pa sa iS bu tq rT wT sK sA sB sE oq bS bE bL rp) (fun u : LV => wMo g mo a o u dr pa sa iS bu tq rT wT sK sA sB sE oq bS bE bL rp) (sp_Mo_tick p1 now)) 0 0 (inW (wMo g mo a o now dr pa sa iS bu tq rT wT sK sA sB sE oq bS bE bL rp)) := by
  refine Met.ofW (cc := b_Mo_tick) (maxL := 3) (ret := none) pn_Mo rfl ?_
  intro p e s m args below meth c s₁ B hml hv
  obtain ⟨rfl, C, hP, hD, hS⟩ := enter "DecadeBridgeModel" rfl B hml hv
  obtain ⟨hx, hb, hr, hml, hown, hlk, hts, hK, hZo, hZ⟩ := id C
  refine entryW (lv := [(0, .ref mo), (1, .int p1)]) rfl (Nat.le_of_ble_eq_true rfl) (fun ls hl => ?_)
  obtain ⟨z, hz⟩ : ∃ z, z = sp_Mo_tick p1 now := ⟨_, rfl⟩
  rw [← hz]
  unfold sp_Mo_tick at hz
  unfold ok_Mo_tick at hok
  refine lv_aload_n hx hb d_Mo_tick_0 rfl (lv_at hl 0 rfl) ?_
  refine gf C hP 0 0 fkMo rfl (by decide) rfl qf_Mo_7 (gMo_0 _ _) d_Mo_tick_1 ?_
  refine lv_bipush (v := 40) hx hb d_Mo_tick_4 (by decide) ?_
  refine lv_dup2_11 hx hb d_Mo_tick_6 rfl rfl ?_
  refine ldL C hP 1 rfl vi_40_215 cn_40 d_Mo_tick_7 ?_
  refine lv_iload_n hx hb d_Mo_tick_8 rfl (lv_at hl 1 rfl) ?_
  refine lv_if_eq (tgt := 20) hx hb d_Mo_tick_9 (by decide) (fun c1 => ?_) (fun c1 => ?_)
  · have hz := hz.trans (if_pos c1)
    have hok := hok.1 c1
    refine lv_lconst (v := 0) hx hb d_Mo_tick_20 (by decide) ?_
    exact k_Mo_tick_21 C (0 : Int64) hok _ hz _ _ ls hP hD hS hl
  · have hz := hz.trans (if_neg c1)
    have hok := hok.2 c1
    refine lv_aload_n hx hb d_Mo_tick_12 rfl (lv_at hl 0 rfl) ?_
    refine lv_iconst (v := 0) hx hb d_Mo_tick_13 (by decide) ?_
    have hs2 := hok.1
    have hok := hok.2
    have hB : SubW g (inW (wMo g mo a o now dr pa sa iS bu tq rT wT sK sA sB sE oq bS bE bL rp)) s (wMo g mo a o now dr pa sa iS bu tq rT wT sK sA sB sE oq bS bE bL rp) _ (List.range _) _ _ := (subF hP hD hS)
    refine goL0 hB (run_v C mf_Mo_powerOf qm_Mo_198 (c_Mo_powerOf l g mo a o now dr pa sa iS bu tq rT wT sK sA sB sE oq bS bE bL rp (0 : Int32) hs2) rfl rfl ⟨Nat.le_of_ble_eq_true rfl, Nat.le_of_ble_eq_true rfl⟩ ⟨Nat.le_of_ble_eq_true rfl, Nat.le_of_ble_eq_true rfl⟩ hB rfl rfl hl rfl rfl (Nat.le_of_ble_eq_true rfl) d_Mo_tick_14) (fun y3 ey3 H locs hP hS => ?_)
    have hz := lett_z hz ey3
    have hok := lett_o hok ey3
    refine lv_goto (tgt := 21) hx hb d_Mo_tick_17 (by decide) ?_
    exact k_Mo_tick_21 C y3 hok _ hz _ _ ls hP hD hS hl
abbrev rm_Mo_canRead : Room := { frames := 6, cells := 0, slots := 0, locals := 133 }
def HL_Mo_canRead_31 (p : Program) (l : Launch) (e : Env) (s : State) (m : MethodId) (args : Array Value) (below : List Frame) (meth : Method) (c : Code) (g : GX) (mo : Nat) (a : Nat → Nat) (o : IV) (now : LV) (dr : LV) (pa : LV) (sa : LV) (iS : IV) (bu : IV) (tq : IV) (rT : IV) (wT : IV) (sK : IV) (sA : IV) (sB : IV) (sE : IV) (oq : IV) (bS : IV) (bE : IV) (bL : IV) (rp : IV) (sp : Int32) (ok : Prop) : Prop := ∀ (_ : Unit), ok → ∀ z : Int32, z = sp → ∀ (H : Heap) (locs : List Loc) (ls : Array Slot), va_P g.1 vwCl (wMo g mo a o now dr pa sa iS bu tq rT wT sK sA sB sE oq bS bE bL rp) H → va_D (inW (wMo g mo a o now dr pa sa iS bu tq rT wT sK sA sB sE oq bS bE bL rp)) (wMo g mo a o now dr pa sa iS bu tq rT wT sK sA sB sE oq bS bE bL rp) → va_S (inW (wMo g mo a o now dr pa sa iS bu tq rT wT sK sA sB sE oq bS bE bL rp)) s.heap H locs → lv_has ls 1 [] → W p l e rm_Mo_canRead s m args below meth c H locs 0 0 (MQ below (CI0 g (wMo g mo a o now dr pa sa iS bu tq rT wT sK sA sB sE oq bS bE bL rp) z) args s 0 0 (inW (wMo g mo a o now dr pa sa iS bu tq rT wT sK sA sB sE oq bS bE bL rp))) (F0 m 31 ls [])
noncomputable def sp_Mo_canRead_31    : Int32 := (0 : Int32)
def ok_Mo_canRead_31     : Prop := True
set_option maxRecDepth 100000 in
set_option maxHeartbeats 4000000 in
theorem k_Mo_canRead_31 {p : Program} {l : Launch} {e : Env} {s : State} {m : MethodId} {args : Array Value} {below : List Frame} {meth : Method} {c : Code} {g : GX} {mo : Nat} {a : Nat → Nat} {o : IV} {now : LV} {dr : LV} {pa : LV} {sa : LV} {iS : IV} {bu : IV} {tq : IV} {rT : IV} {wT : IV} {sK : IV} {sA : IV} {sB : IV} {sE : IV} {oq : IV} {bS : IV} {bE : IV} {bL : IV} {rp : IV}  (C : Cx p s m args meth c (inW (wMo g mo a o now dr pa sa iS bu tq rT wT sK sA sB sE oq bS bE bL rp)) g "DecadeBridgeModel" b_Mo_canRead (some .boolean) 1)  : HL_Mo_canRead_31 p l e s m args below meth c g mo a o now dr pa sa iS bu tq rT wT sK sA sB sE oq bS bE bL rp (sp_Mo_canRead_31  ) (ok_Mo_canRead_31   ) := by
  intro _ hok z hz H locs ls hP hD hS hl
  obtain ⟨hx, hb, hr, hml, hown, hlk, hts, hK, hZo, hZ⟩ := id C
  unfold sp_Mo_canRead_31 at hz
  refine lv_iconst (v := 0) hx hb d_Mo_canRead_31 (by decide) ?_
  exact endZ0 C hz hP hS rfl d_Mo_canRead_32
noncomputable def sp_Mo_canRead (now : LV) : Int32 := if (now 22) = (0 : Int64) then (sp_Mo_canRead_31) else (lett (sp_Mo_currentNow now) fun (y3 : Int64) => if (now 23) < y3 then (sp_Mo_canRead_31) else ((1 : Int32)))
def ok_Mo_canRead (now : LV) : Prop := (((now 22) = (0 : Int64) → True) ∧ (¬ ((now 22) = (0 : Int64)) → (ok_Mo_currentNow now) ∧ True))
set_option maxRecDepth 100000 in
set_option maxHeartbeats 4000000 in
theorem c_Mo_canRead (l : Launch) (g : GX) (mo : Nat) (a : Nat → Nat) (o : IV) (now : LV) (dr : LV) (pa : LV) (sa : LV) (iS : IV) (bu : IV) (tq : IV) (rT : IV) (wT : IV) (sK : IV) (sA : IV) (sB : IV) (sE : IV) (oq : IV) (bS : IV) (bE : IV) (bL : IV) (rp : IV)  (hok : ok_Mo_canRead now) : Met l y_Mo_canRead (wsY y_Mo_canRead b_Mo_canRead 1 (some .boolean)) rm_Mo_canRead (CP g [.ref mo] (wMo g mo a o now dr pa sa iS bu tq rT wT sK sA sB sE oq bS bE bL rp)) (CI0 g (wMo g mo a o now dr pa sa iS bu tq rT wT sK sA sB sE oq bS bE bL rp) (sp_Mo_canRead now)) 0 0 (inW (wMo g mo a o now dr pa sa iS bu tq rT wT sK sA sB sE oq bS bE bL rp)) := by
  refine Met.ofW (cc := b_Mo_canRead) (maxL := 1) (ret := (some .boolean)) pn_Mo rfl ?_
  intro p e s m args below meth c s₁ B hml hv
  obtain ⟨rfl, C, hP, hD, hS⟩ := enter "DecadeBridgeModel" rfl B hml hv
  obtain ⟨hx, hb, hr, hml, hown, hlk, hts, hK, hZo, hZ⟩ := id C
  refine entryW (lv := [(0, .ref mo)]) rfl (Nat.le_of_ble_eq_true rfl) (fun ls hl => ?_)
  obtain ⟨z, hz⟩ : ∃ z, z = sp_Mo_canRead now := ⟨_, rfl⟩
  rw [← hz]
  unfold sp_Mo_canRead at hz
  unfold ok_Mo_canRead at hok
  refine lv_aload_n hx hb d_Mo_canRead_0 rfl (lv_at hl 0 rfl) ?_
  refine gf C hP 0 0 fkMo rfl (by decide) rfl qf_Mo_7 (gMo_0 _ _) d_Mo_canRead_1 ?_
  refine lv_bipush (v := 22) hx hb d_Mo_canRead_4 (by decide) ?_
  refine ldL C hP 1 rfl vi_22_215 cn_22 d_Mo_canRead_6 ?_
  refine lv_lconst (v := 0) hx hb d_Mo_canRead_7 (by decide) ?_
  refine lc_eq (tgt := 31) hx hb d_Mo_canRead_8 d_Mo_canRead_9 (by decide) (fun c1 => ?_) (fun c1 => ?_)
  · have hz := hz.trans (if_pos c1)
    exact k_Mo_canRead_31 C () trivial _ hz _ _ ls hP hD hS (lv_sub hl [] rfl)
  · have hz := hz.trans (if_neg c1)
    have hok := hok.2 c1
    refine lv_aload_n hx hb d_Mo_canRead_12 rfl (lv_at hl 0 rfl) ?_
    have hs2 := hok.1
    have hok := hok.2
    have hB : SubW g (inW (wMo g mo a o now dr pa sa iS bu tq rT wT sK sA sB sE oq bS bE bL rp)) s (wMo g mo a o now dr pa sa iS bu tq rT wT sK sA sB sE oq bS bE bL rp) _ (List.range _) _ _ := (subF hP hD hS)
    refine goL0 hB (run_v C mf_Mo_currentNow qm_Mo_182 (c_Mo_currentNow l g mo a o now dr pa sa iS bu tq rT wT sK sA sB sE oq bS bE bL rp hs2) rfl rfl ⟨Nat.le_of_ble_eq_true rfl, Nat.le_of_ble_eq_true rfl⟩ ⟨Nat.le_of_ble_eq_true rfl, Nat.le_of_ble_eq_true rfl⟩ hB rfl rfl hl rfl rfl (Nat.le_of_ble_eq_true rfl) d_Mo_canRead_13) (fun y3 ey3 H locs hP hS => ?_)
    have hz := lett_z hz ey3
    refine lv_aload_n hx hb d_Mo_canRead_16 rfl (lv_at hl 0 rfl) ?_
    refine gf C hP 0 0 fkMo rfl (by decide) rfl qf_Mo_7 (gMo_0 _ _) d_Mo_canRead_17 ?_
    refine lv_bipush (v := 23) hx hb d_Mo_canRead_20 (by decide) ?_
    refine ldL C hP 1 rfl vi_23_215 cn_23 d_Mo_canRead_22 ?_
    refine lc_gt (tgt := 31) hx hb d_Mo_canRead_23 d_Mo_canRead_24 (by decide) (fun c4 => ?_) (fun c4 => ?_)
    · have hz := hz.trans (if_pos c4)
      exact k_Mo_canRead_31 C () trivial _ hz _ _ ls hP hD hS (lv_sub hl [] rfl)
    · have hz := hz.trans (if_neg c4)
      refine lv_iconst (v := 1) hx hb d_Mo_canRead_27 (by decide) ?_
      refine lv_goto (tgt := 32) hx hb d_Mo_canRead_28 (by decide) ?_
      exact endZ0 C hz hP hS rfl d_Mo_canRead_32
abbrev rm_Mo_isNull : Room := { frames := 1, cells := 0, slots := 0, locals := 21 }
noncomputable def sp_Mo_isNull (p1 : Int64) (now : LV) : Int32 := lett (sp_Mo_amount p1) fun (y1 : Int64) => if (now 25) < y1 then ((0 : Int32)) else ((1 : Int32))
set_option maxRecDepth 100000 in
set_option maxHeartbeats 4000000 in
theorem c_Mo_isNull (l : Launch) (g : GX) (mo : Nat) (a : Nat → Nat) (o : IV) (now : LV) (dr : LV) (pa : LV) (sa : LV) (iS : IV) (bu : IV) (tq : IV) (rT : IV) (wT : IV) (sK : IV) (sA : IV) (sB : IV) (sE : IV) (oq : IV) (bS : IV) (bE : IV) (bL : IV) (rp : IV) (p1 : Int64) : Met l y_Mo_isNull (wsY y_Mo_isNull b_Mo_isNull 3 (some .boolean)) rm_Mo_isNull (CP g [.ref mo, .long p1] (wMo g mo a o now dr pa sa iS bu tq rT wT sK sA sB sE oq bS bE bL rp)) (CI0 g (wMo g mo a o now dr pa sa iS bu tq rT wT sK sA sB sE oq bS bE bL rp) (sp_Mo_isNull p1 now)) 0 0 (inW (wMo g mo a o now dr pa sa iS bu tq rT wT sK sA sB sE oq bS bE bL rp)) := by
  refine Met.ofW (cc := b_Mo_isNull) (maxL := 3) (ret := (some .boolean)) pn_Mo rfl ?_
  intro p e s m args below meth c s₁ B hml hv
  obtain ⟨rfl, C, hP, hD, hS⟩ := enter "DecadeBridgeModel" rfl B hml hv
  obtain ⟨hx, hb, hr, hml, hown, hlk, hts, hK, hZo, hZ⟩ := id C
  refine entryW (lv := [(0, .ref mo), (1, .long p1)]) rfl (Nat.le_of_ble_eq_true rfl) (fun ls hl => ?_)
  obtain ⟨z, hz⟩ : ∃ z, z = sp_Mo_isNull p1 now := ⟨_, rfl⟩
  rw [← hz]
  unfold sp_Mo_isNull at hz
  refine lv_lload_n hx hb d_Mo_isNull_0 rfl (lv_at hl 1 rfl) ?_
  have hB : SubW g (inW (wMo g mo a o now dr pa sa iS bu tq rT wT sK sA sB sE oq bS bE bL rp)) s (wMo g mo a o now dr pa sa iS bu tq rT wT sK sA sB sE oq bS bE bL rp) _ (List.range _) _ _ := (subF hP hD hS)
  refine goL0 hB (run_s C mf_Mo_amount qm_Mo_217 (c_Mo_amount l g mo a o now dr pa sa iS bu tq rT wT sK sA sB sE oq bS bE bL rp p1) rfl rfl ⟨Nat.le_of_ble_eq_true rfl, Nat.le_of_ble_eq_true rfl⟩ ⟨Nat.le_of_ble_eq_true rfl, Nat.le_of_ble_eq_true rfl⟩ hB hl rfl rfl (Nat.le_of_ble_eq_true rfl) d_Mo_isNull_1) (fun y1 ey1 H locs hP hS => ?_)
  have hz := lett_z hz ey1
  refine lv_aload_n hx hb d_Mo_isNull_4 rfl (lv_at hl 0 rfl) ?_
  refine gf C hP 0 0 fkMo rfl (by decide) rfl qf_Mo_7 (gMo_0 _ _) d_Mo_isNull_5 ?_
  refine lv_bipush (v := 25) hx hb d_Mo_isNull_8 (by decide) ?_
  refine ldL C hP 1 rfl vi_25_215 cn_25 d_Mo_isNull_10 ?_
  refine lc_gt (tgt := 19) hx hb d_Mo_isNull_11 d_Mo_isNull_12 (by decide) (fun c2 => ?_) (fun c2 => ?_)
  · have hz := hz.trans (if_pos c2)
    refine lv_iconst (v := 0) hx hb d_Mo_isNull_19 (by decide) ?_
    exact endZ0 C hz hP hS rfl d_Mo_isNull_20
  · have hz := hz.trans (if_neg c2)
    refine lv_iconst (v := 1) hx hb d_Mo_isNull_15 (by decide) ?_
    refine lv_goto (tgt := 20) hx hb d_Mo_isNull_16 (by decide) ?_
    exact endZ0 C hz hP hS rfl d_Mo_isNull_20
abbrev rm_Mo_makeReading : Room := { frames := 9, cells := 0, slots := 0, locals := 208 }
def HL_Mo_makeReading_63 (p : Program) (l : Launch) (e : Env) (s : State) (m : MethodId) (args : Array Value) (below : List Frame) (meth : Method) (c : Code) (g : GX) (mo : Nat) (a : Nat → Nat) (ws0 : va_W) (o : IV) (dr : LV) (pa : LV) (sa : LV) (iS : IV) (bu : IV) (tq : IV) (rT : IV) (wT : IV) (sK : IV) (sA : IV) (sB : IV) (sE : IV) (oq : IV) (bS : IV) (bE : IV) (bL : IV) (rp : IV) (y6 : Int64) (sp : Int32 → LV → (Int64 × LV)) (ok : Int32 → LV → Prop) : Prop := ∀ (x5p63 : Int32) (nowp63 : LV), ok x5p63 nowp63 → ∀ z : (Int64 × LV), z = sp x5p63 nowp63 → ∀ (H : Heap) (locs : List Loc) (ls : Array Slot), va_P g.1 vwCl (wMo g mo a o nowp63 dr pa sa iS bu tq rT wT sK sA sB sE oq bS bE bL rp) H → va_D (inW ws0) (wMo g mo a o nowp63 dr pa sa iS bu tq rT wT sK sA sB sE oq bS bE bL rp) → va_S (inW ws0) s.heap H locs → lv_has ls 6 [(0, .ref mo), (3, .long y6), (5, .int x5p63)] → W p l e rm_Mo_makeReading s m args below meth c H locs 0 0 (MQ below (CL g ws0 (fun u : LV => wMo g mo a o u dr pa sa iS bu tq rT wT sK sA sB sE oq bS bE bL rp) z) args s 0 0 (inW ws0)) (F0 m 63 ls [])
def HL_Mo_makeReading_96 (p : Program) (l : Launch) (e : Env) (s : State) (m : MethodId) (args : Array Value) (below : List Frame) (meth : Method) (c : Code) (g : GX) (mo : Nat) (a : Nat → Nat) (ws0 : va_W) (o : IV) (nowp63 : LV) (dr : LV) (pa : LV) (sa : LV) (iS : IV) (bu : IV) (tq : IV) (rT : IV) (wT : IV) (sK : IV) (sA : IV) (sB : IV) (sE : IV) (oq : IV) (bS : IV) (bE : IV) (bL : IV) (rp : IV) (y6 : Int64) (sp : (Int64 × LV)) (ok : Prop) : Prop := ∀ (_ : Unit), ok → ∀ z : (Int64 × LV), z = sp → ∀ (H : Heap) (locs : List Loc) (ls : Array Slot), va_P g.1 vwCl (wMo g mo a o nowp63 dr pa sa iS bu tq rT wT sK sA sB sE oq bS bE bL rp) H → va_D (inW ws0) (wMo g mo a o nowp63 dr pa sa iS bu tq rT wT sK sA sB sE oq bS bE bL rp) → va_S (inW ws0) s.heap H locs → lv_has ls 6 [(0, .ref mo), (3, .long y6)] → W p l e rm_Mo_makeReading s m args below meth c H locs 0 0 (MQ below (CL g ws0 (fun u : LV => wMo g mo a o u dr pa sa iS bu tq rT wT sK sA sB sE oq bS bE bL rp) z) args s 0 0 (inW ws0)) (F0 m 96 ls [])
def HL_Mo_makeReading_158 (p : Program) (l : Launch) (e : Env) (s : State) (m : MethodId) (args : Array Value) (below : List Frame) (meth : Method) (c : Code) (g : GX) (mo : Nat) (a : Nat → Nat) (ws0 : va_W) (o : IV) (now_14 : LV) (dr : LV) (pa : LV) (sa : LV) (iS : IV) (bu : IV) (tq : IV) (rT : IV) (wT : IV) (sK : IV) (sA : IV) (sB : IV) (sE : IV) (oq : IV) (bS : IV) (bE : IV) (bL : IV) (rp : IV) (y6 : Int64) (sp : Int64 → (Int64 × LV)) (ok : Int64 → Prop) : Prop := ∀ (t3p158 : Int64), ok t3p158 → ∀ z : (Int64 × LV), z = sp t3p158 → ∀ (H : Heap) (locs : List Loc) (ls : Array Slot), va_P g.1 vwCl (wMo g mo a o now_14 dr pa sa iS bu tq rT wT sK sA sB sE oq bS bE bL rp) H → va_D (inW ws0) (wMo g mo a o now_14 dr pa sa iS bu tq rT wT sK sA sB sE oq bS bE bL rp) → va_S (inW ws0) s.heap H locs → lv_has ls 6 [(0, .ref mo), (3, .long y6)] → W p l e rm_Mo_makeReading s m args below meth c H locs 0 0 (MQ below (CL g ws0 (fun u : LV => wMo g mo a o u dr pa sa iS bu tq rT wT sK sA sB sE oq bS bE bL rp) z) args s 0 0 (inW ws0)) (F0 m 158 ls [.long t3p158, .long (now_14 42), .int (42 : Int32), .ref (a 0)])
noncomputable def sp_Mo_makeReading_158 (now_14 : LV) (y6 : Int64)  (t3p158 : Int64) : Int64 × LV := lett (vp_updL now_14 42 ((now_14 42) + t3p158)) fun (now_17 : LV) => lett (sp_Mo_tick (1 : Int32) now_17) fun (y19 : LV) => (y6, y19)
def ok_Mo_makeReading_158 (now_14 : LV) (y6 : Int64)   (t3p158 : Int64) : Prop := lett (vp_updL now_14 42 ((now_14 42) + t3p158)) fun (now_17 : LV) => (ok_Mo_tick (1 : Int32) now_17) ∧ True
set_option maxRecDepth 100000 in
set_option maxHeartbeats 4000000 in
theorem k_Mo_makeReading_158 {p : Program} {l : Launch} {e : Env} {s : State} {m : MethodId} {args : Array Value} {below : List Frame} {meth : Method} {c : Code} {g : GX} {mo : Nat} {a : Nat → Nat} {ws0 : va_W} {o : IV} {now_14 : LV} {dr : LV} {pa : LV} {sa : LV} {iS : IV} {bu : IV} {tq : IV} {rT : IV} {wT : IV} {sK : IV} {sA : IV} {sB : IV} {sE : IV} {oq : IV} {bS : IV} {bE : IV} {bL : IV} {rp : IV} {y6 : Int64}  (C : Cx p s m args meth c (inW ws0) g "DecadeBridgeModel" b_Mo_makeReading (some .long) 6)  : HL_Mo_makeReading_158 p l e s m args below meth c g mo a ws0 o now_14 dr pa sa iS bu tq rT wT sK sA sB sE oq bS bE bL rp y6 (sp_Mo_makeReading_158 now_14 y6 ) (ok_Mo_makeReading_158 now_14 y6  ) := by
  intro t3p158 hok z hz H locs ls hP hD hS hl
  obtain ⟨hx, hb, hr, hml, hown, hlk, hts, hK, hZo, hZ⟩ := id C
  unfold sp_Mo_makeReading_158 at hz
  unfold ok_Mo_makeReading_158 at hok
  refine lv_ladd hx hb d_Mo_makeReading_158 ?_
  refine stL C hP hD hS 1 rfl vi_42_215 cn_42 d_Mo_makeReading_159 (fun now_17 enow_17 H locs hP hD hS => ?_)
  have hP : va_P g.1 vwCl (wMo g mo a o now_17 dr pa sa iS bu tq rT wT sK sA sB sE oq bS bE bL rp) H := hP
  have hD : va_D (inW ws0) (wMo g mo a o now_17 dr pa sa iS bu tq rT wT sK sA sB sE oq bS bE bL rp) := hD
  have hz := lett_z hz enow_17
  have hok := lett_o hok enow_17
  refine lv_aload_n hx hb d_Mo_makeReading_160 rfl (lv_at hl 0 rfl) ?_
  refine lv_iconst (v := 1) hx hb d_Mo_makeReading_161 (by decide) ?_
  have hs18 := hok.1
  have hok := hok.2
  have hB : SubW g (inW ws0) s (wMo g mo a o now_17 dr pa sa iS bu tq rT wT sK sA sB sE oq bS bE bL rp) _ (List.range _) _ _ := (subF hP hD hS)
  refine goVF hB (run_v C mf_Mo_tick qm_Mo_227 (c_Mo_tick l g mo a o now_17 dr pa sa iS bu tq rT wT sK sA sB sE oq bS bE bL rp (1 : Int32) hs18) rfl rfl ⟨Nat.le_of_ble_eq_true rfl, Nat.le_of_ble_eq_true rfl⟩ ⟨Nat.le_of_ble_eq_true rfl, Nat.le_of_ble_eq_true rfl⟩ hB rfl rfl hl rfl rfl (Nat.le_of_ble_eq_true rfl) d_Mo_makeReading_162) (fun _ => rfl) (fun y19 ey19 H locs hP hD hS => ?_)
  have hP : va_P g.1 vwCl (wMo g mo a o y19 dr pa sa iS bu tq rT wT sK sA sB sE oq bS bE bL rp) H := hP
  have hD : va_D (inW ws0) (wMo g mo a o y19 dr pa sa iS bu tq rT wT sK sA sB sE oq bS bE bL rp) := hD
  have hz := lett_z hz ey19
  refine lv_lload_n hx hb d_Mo_makeReading_165 rfl (lv_at hl 1 rfl) ?_
  exact endL1 C hz hP hS d_Mo_makeReading_166
noncomputable def sp_Mo_makeReading_96 (nowp63 : LV) (y6 : Int64)   : Int64 × LV := lett (vp_updL nowp63 44 y6) fun (now_12 : LV) => lett (vp_updL now_12 43 (if ((now_12 43) + (1 : Int64)) < (10 : Int64) then ((now_12 43) + (1 : Int64)) else (10 : Int64))) fun (now_13 : LV) => lett (vp_updL now_13 41 ((now_13 41) + (1 : Int64))) fun (now_14 : LV) => lett (sp_Mo_isNull y6 now_14) fun (y15 : Int32) => if y15 = 0 then (sp_Mo_makeReading_158 now_14 y6 (0 : Int64)) else (sp_Mo_makeReading_158 now_14 y6 (1 : Int64))
def ok_Mo_makeReading_96 (nowp63 : LV) (y6 : Int64)    : Prop := lett (vp_updL nowp63 44 y6) fun (now_12 : LV) => lett (vp_updL now_12 43 (if ((now_12 43) + (1 : Int64)) < (10 : Int64) then ((now_12 43) + (1 : Int64)) else (10 : Int64))) fun (now_13 : LV) => lett (vp_updL now_13 41 ((now_13 41) + (1 : Int64))) fun (now_14 : LV) => lett (sp_Mo_isNull y6 now_14) fun (y15 : Int32) => ((y15 = 0 → ok_Mo_makeReading_158 now_14 y6 (0 : Int64)) ∧ (¬ (y15 = 0) → ok_Mo_makeReading_158 now_14 y6 (1 : Int64)))
set_option maxRecDepth 100000 in
set_option maxHeartbeats 4000000 in
theorem k_Mo_makeReading_96 {p : Program} {l : Launch} {e : Env} {s : State} {m : MethodId} {args : Array Value} {below : List Frame} {meth : Method} {c : Code} {g : GX} {mo : Nat} {a : Nat → Nat} {ws0 : va_W} {o : IV} {nowp63 : LV} {dr : LV} {pa : LV} {sa : LV} {iS : IV} {bu : IV} {tq : IV} {rT : IV} {wT : IV} {sK : IV} {sA : IV} {sB : IV} {sE : IV} {oq : IV} {bS : IV} {bE : IV} {bL : IV} {rp : IV} {y6 : Int64}  (C : Cx p s m args meth c (inW ws0) g "DecadeBridgeModel" b_Mo_makeReading (some .long) 6)  : HL_Mo_makeReading_96 p l e s m args below meth c g mo a ws0 o nowp63 dr pa sa iS bu tq rT wT sK sA sB sE oq bS bE bL rp y6 (sp_Mo_makeReading_96 nowp63 y6 ) (ok_Mo_makeReading_96 nowp63 y6  ) := by
  intro _ hok z hz H locs ls hP hD hS hl
  obtain ⟨hx, hb, hr, hml, hown, hlk, hts, hK, hZo, hZ⟩ := id C
  unfold sp_Mo_makeReading_96 at hz
  unfold ok_Mo_makeReading_96 at hok
  refine lv_aload_n hx hb d_Mo_makeReading_96 rfl (lv_at hl 0 rfl) ?_
  refine gf C hP 0 0 fkMo rfl (by decide) rfl qf_Mo_7 (gMo_0 _ _) d_Mo_makeReading_97 ?_
  refine lv_bipush (v := 44) hx hb d_Mo_makeReading_100 (by decide) ?_
  refine lv_lload_n hx hb d_Mo_makeReading_102 rfl (lv_at hl 1 rfl) ?_
  refine stL C hP hD hS 1 rfl vi_44_215 cn_44 d_Mo_makeReading_103 (fun now_12 enow_12 H locs hP hD hS => ?_)
  have hP : va_P g.1 vwCl (wMo g mo a o now_12 dr pa sa iS bu tq rT wT sK sA sB sE oq bS bE bL rp) H := hP
  have hD : va_D (inW ws0) (wMo g mo a o now_12 dr pa sa iS bu tq rT wT sK sA sB sE oq bS bE bL rp) := hD
  have hz := lett_z hz enow_12
  have hok := lett_o hok enow_12
  refine lv_aload_n hx hb d_Mo_makeReading_104 rfl (lv_at hl 0 rfl) ?_
  refine gf C hP 0 0 fkMo rfl (by decide) rfl qf_Mo_7 (gMo_0 _ _) d_Mo_makeReading_105 ?_
  refine lv_bipush (v := 43) hx hb d_Mo_makeReading_108 (by decide) ?_
  refine lv_ldc2 hx hb hown (hts _ qk_Mo_110) d_Mo_makeReading_110 ?_
  refine lv_aload_n hx hb d_Mo_makeReading_113 rfl (lv_at hl 0 rfl) ?_
  refine gf C hP 0 0 fkMo rfl (by decide) rfl qf_Mo_7 (gMo_0 _ _) d_Mo_makeReading_114 ?_
  refine lv_bipush (v := 43) hx hb d_Mo_makeReading_117 (by decide) ?_
  refine ldL C hP 1 rfl vi_43_215 cn_43 d_Mo_makeReading_119 ?_
  refine lv_lconst (v := 1) hx hb d_Mo_makeReading_120 (by decide) ?_
  refine lv_ladd hx hb d_Mo_makeReading_121 ?_
  refine va_mmin_long hx hb (hml.trans hl.1.symm) hown (hts _ qm_Mo_185) (hts _ (mf_JM_min_JJJ).2) (hts _ (mf_JM_min_JJJ).1.2.1) (hts _ (mf_JM_min_JJJ).1.1) (Nat.le_of_ble_eq_true rfl) (Nat.le_of_ble_eq_true rfl) (Nat.le_of_ble_eq_true rfl) (Nat.le_of_ble_eq_true rfl) d_Mo_makeReading_122 ?_
  refine stL C hP hD hS 1 rfl vi_43_215 cn_43 d_Mo_makeReading_125 (fun now_13 enow_13 H locs hP hD hS => ?_)
  have hP : va_P g.1 vwCl (wMo g mo a o now_13 dr pa sa iS bu tq rT wT sK sA sB sE oq bS bE bL rp) H := hP
  have hD : va_D (inW ws0) (wMo g mo a o now_13 dr pa sa iS bu tq rT wT sK sA sB sE oq bS bE bL rp) := hD
  have hz := lett_z hz enow_13
  have hok := lett_o hok enow_13
  refine lv_aload_n hx hb d_Mo_makeReading_126 rfl (lv_at hl 0 rfl) ?_
  refine gf C hP 0 0 fkMo rfl (by decide) rfl qf_Mo_7 (gMo_0 _ _) d_Mo_makeReading_127 ?_
  refine lv_bipush (v := 41) hx hb d_Mo_makeReading_130 (by decide) ?_
  refine lv_dup2_11 hx hb d_Mo_makeReading_132 rfl rfl ?_
  refine ldL C hP 1 rfl vi_41_215 cn_41 d_Mo_makeReading_133 ?_
  refine lv_lconst (v := 1) hx hb d_Mo_makeReading_134 (by decide) ?_
  refine lv_ladd hx hb d_Mo_makeReading_135 ?_
  refine stL C hP hD hS 1 rfl vi_41_215 cn_41 d_Mo_makeReading_136 (fun now_14 enow_14 H locs hP hD hS => ?_)
  have hP : va_P g.1 vwCl (wMo g mo a o now_14 dr pa sa iS bu tq rT wT sK sA sB sE oq bS bE bL rp) H := hP
  have hD : va_D (inW ws0) (wMo g mo a o now_14 dr pa sa iS bu tq rT wT sK sA sB sE oq bS bE bL rp) := hD
  have hz := lett_z hz enow_14
  have hok := lett_o hok enow_14
  refine lv_aload_n hx hb d_Mo_makeReading_137 rfl (lv_at hl 0 rfl) ?_
  refine gf C hP 0 0 fkMo rfl (by decide) rfl qf_Mo_7 (gMo_0 _ _) d_Mo_makeReading_138 ?_
  refine lv_bipush (v := 42) hx hb d_Mo_makeReading_141 (by decide) ?_
  refine lv_dup2_11 hx hb d_Mo_makeReading_143 rfl rfl ?_
  refine ldL C hP 1 rfl vi_42_215 cn_42 d_Mo_makeReading_144 ?_
  refine lv_aload_n hx hb d_Mo_makeReading_145 rfl (lv_at hl 0 rfl) ?_
  refine lv_lload_n hx hb d_Mo_makeReading_146 rfl (lv_at hl 1 rfl) ?_
  have hB : SubW g (inW ws0) s (wMo g mo a o now_14 dr pa sa iS bu tq rT wT sK sA sB sE oq bS bE bL rp) _ (List.range _) _ _ := (subF hP hD hS)
  refine goI0 hB (run_v C mf_Mo_isNull qm_Mo_223 (c_Mo_isNull l g mo a o now_14 dr pa sa iS bu tq rT wT sK sA sB sE oq bS bE bL rp y6) rfl rfl ⟨Nat.le_of_ble_eq_true rfl, Nat.le_of_ble_eq_true rfl⟩ ⟨Nat.le_of_ble_eq_true rfl, Nat.le_of_ble_eq_true rfl⟩ hB rfl rfl hl rfl rfl (Nat.le_of_ble_eq_true rfl) d_Mo_makeReading_147) (fun y15 ey15 H locs hP hS => ?_)
  have hz := lett_z hz ey15
  have hok := lett_o hok ey15
  refine lv_if_eq (tgt := 157) hx hb d_Mo_makeReading_150 (by decide) (fun c16 => ?_) (fun c16 => ?_)
  · have hz := hz.trans (if_pos c16)
    have hok := hok.1 c16
    refine lv_lconst (v := 0) hx hb d_Mo_makeReading_157 (by decide) ?_
    exact k_Mo_makeReading_158 C (0 : Int64) hok _ hz _ _ ls hP hD hS hl
  · have hz := hz.trans (if_neg c16)
    have hok := hok.2 c16
    refine lv_lconst (v := 1) hx hb d_Mo_makeReading_153 (by decide) ?_
    refine lv_goto (tgt := 158) hx hb d_Mo_makeReading_154 (by decide) ?_
    exact k_Mo_makeReading_158 C (1 : Int64) hok _ hz _ _ ls hP hD hS hl
noncomputable def bd_Mo_makeReading_63 (y6 : Int64) (r63 : Int32 → LV → (Int64 × LV)) (x5p63 : Int32) (nowp63 : LV) : Int64 × LV := if x5p63 ≤ 0 then (sp_Mo_makeReading_96 nowp63 y6) else (lett (vp_updL nowp63 ((44 : Int32) + x5p63).toNatClampNeg (nowp63 (((44 : Int32) + x5p63) - (1 : Int32)).toNatClampNeg)) fun (now_10 : LV) => lett (x5p63 + (-1 : Int32)) fun (v11 : Int32) => r63 v11 now_10)
def okb_Mo_makeReading_63 (y6 : Int64) (r63 : Int32 → LV → (Int64 × LV)) (q63 : Int32 → LV → Prop) (x5p63 : Int32) (nowp63 : LV) : Prop := ((x5p63 ≤ 0 → ok_Mo_makeReading_96 nowp63 y6) ∧ (¬ (x5p63 ≤ 0) → (vp_in (((44 : Int32) + x5p63) - (1 : Int32)) 215) ∧ (vp_in ((44 : Int32) + x5p63) 215) ∧ lett (vp_updL nowp63 ((44 : Int32) + x5p63).toNatClampNeg (nowp63 (((44 : Int32) + x5p63) - (1 : Int32)).toNatClampNeg)) fun (now_10 : LV) => lett (x5p63 + (-1 : Int32)) fun (v11 : Int32) => q63 v11 now_10))
noncomputable def sp_Mo_makeReading_63 (y6 : Int64)  : Nat → Int32 → LV → (Int64 × LV)
  | 0 => fun _ _ => default
  | f + 1 => bd_Mo_makeReading_63 y6  (sp_Mo_makeReading_63 y6  f)
def ok_Mo_makeReading_63 (y6 : Int64)   : Nat → Int32 → LV → Prop
  | 0 => fun _ _ => False
  | f + 1 => okb_Mo_makeReading_63 y6  (sp_Mo_makeReading_63 y6  f)  (ok_Mo_makeReading_63 y6   f)
set_option maxRecDepth 100000 in
set_option maxHeartbeats 4000000 in
theorem kb_Mo_makeReading_63 {p : Program} {l : Launch} {e : Env} {s : State} {m : MethodId} {args : Array Value} {below : List Frame} {meth : Method} {c : Code} {g : GX} {mo : Nat} {a : Nat → Nat} {ws0 : va_W} {o : IV} {dr : LV} {pa : LV} {sa : LV} {iS : IV} {bu : IV} {tq : IV} {rT : IV} {wT : IV} {sK : IV} {sA : IV} {sB : IV} {sE : IV} {oq : IV} {bS : IV} {bE : IV} {bL : IV} {rp : IV} {y6 : Int64}  (C : Cx p s m args meth c (inW ws0) g "DecadeBridgeModel" b_Mo_makeReading (some .long) 6) {r63 : Int32 → LV → (Int64 × LV)} {q63 : Int32 → LV → Prop}  (ih63 : HL_Mo_makeReading_63 p l e s m args below meth c g mo a ws0 o dr pa sa iS bu tq rT wT sK sA sB sE oq bS bE bL rp y6 r63 q63) : HL_Mo_makeReading_63 p l e s m args below meth c g mo a ws0 o dr pa sa iS bu tq rT wT sK sA sB sE oq bS bE bL rp y6 (bd_Mo_makeReading_63 y6  r63) (okb_Mo_makeReading_63 y6  r63  q63) := by
  intro x5p63 nowp63 hok z hz H locs ls hP hD hS hl
  obtain ⟨hx, hb, hr, hml, hown, hlk, hts, hK, hZo, hZ⟩ := id C
  unfold bd_Mo_makeReading_63 at hz
  unfold okb_Mo_makeReading_63 at hok
  refine lv_iload hx hb d_Mo_makeReading_63 (lv_at hl 2 rfl) ?_
  refine lv_if_le (tgt := 96) hx hb d_Mo_makeReading_65 (by decide) (fun c7 => ?_) (fun c7 => ?_)
  · have hz := hz.trans (if_pos c7)
    have hok := hok.1 c7
    exact k_Mo_makeReading_96 C () hok _ hz _ _ ls hP hD hS (lv_sub hl [0, 1] rfl)
  · have hz := hz.trans (if_neg c7)
    have hok := hok.2 c7
    refine lv_aload_n hx hb d_Mo_makeReading_68 rfl (lv_at hl 0 rfl) ?_
    refine gf C hP 0 0 fkMo rfl (by decide) rfl qf_Mo_7 (gMo_0 _ _) d_Mo_makeReading_69 ?_
    refine lv_bipush (v := 44) hx hb d_Mo_makeReading_72 (by decide) ?_
    refine lv_iload hx hb d_Mo_makeReading_74 (lv_at hl 2 rfl) ?_
    refine lv_iadd hx hb d_Mo_makeReading_76 ?_
    refine lv_aload_n hx hb d_Mo_makeReading_77 rfl (lv_at hl 0 rfl) ?_
    refine gf C hP 0 0 fkMo rfl (by decide) rfl qf_Mo_7 (gMo_0 _ _) d_Mo_makeReading_78 ?_
    refine lv_bipush (v := 44) hx hb d_Mo_makeReading_81 (by decide) ?_
    refine lv_iload hx hb d_Mo_makeReading_83 (lv_at hl 2 rfl) ?_
    refine lv_iadd hx hb d_Mo_makeReading_85 ?_
    refine lv_iconst (v := 1) hx hb d_Mo_makeReading_86 (by decide) ?_
    refine lv_isub hx hb d_Mo_makeReading_87 ?_
    have hs8 := hok.1
    have hok := hok.2
    refine ldL C hP 1 rfl hs8 rfl d_Mo_makeReading_88 ?_
    have hs9 := hok.1
    have hok := hok.2
    refine stL C hP hD hS 1 rfl hs9 rfl d_Mo_makeReading_89 (fun now_10 enow_10 H locs hP hD hS => ?_)
    have hP : va_P g.1 vwCl (wMo g mo a o now_10 dr pa sa iS bu tq rT wT sK sA sB sE oq bS bE bL rp) H := hP
    have hD : va_D (inW ws0) (wMo g mo a o now_10 dr pa sa iS bu tq rT wT sK sA sB sE oq bS bE bL rp) := hD
    have hz := lett_z hz enow_10
    have hok := lett_o hok enow_10
    obtain ⟨v11, ev11⟩ : ∃ y : Int32, y = x5p63 + (-1 : Int32) := ⟨_, rfl⟩
    have hz := lett_z hz ev11
    have hok := lett_o hok ev11
    refine lv_iinc (v := v11) (lv' := [(5, .int v11), (0, .ref mo), (3, .long y6)]) hx hb d_Mo_makeReading_90 hl (k := 2) rfl (by rw [ev11]; rfl) (by decide) rfl (fun ls hl => ?_)
    refine lv_goto (tgt := 63) hx hb d_Mo_makeReading_93 (by decide) ?_
    exact ih63 v11 now_10 hok _ hz _ _ ls hP hD hS (lv_sub hl [1, 2, 0] rfl)
theorem k_Mo_makeReading_63 {p : Program} {l : Launch} {e : Env} {s : State} {m : MethodId} {args : Array Value} {below : List Frame} {meth : Method} {c : Code} {g : GX} {mo : Nat} {a : Nat → Nat} {ws0 : va_W} {o : IV} {dr : LV} {pa : LV} {sa : LV} {iS : IV} {bu : IV} {tq : IV} {rT : IV} {wT : IV} {sK : IV} {sA : IV} {sB : IV} {sE : IV} {oq : IV} {bS : IV} {bE : IV} {bL : IV} {rp : IV} {y6 : Int64}  (C : Cx p s m args meth c (inW ws0) g "DecadeBridgeModel" b_Mo_makeReading (some .long) 6) (f : Nat)  : HL_Mo_makeReading_63 p l e s m args below meth c g mo a ws0 o dr pa sa iS bu tq rT wT sK sA sB sE oq bS bE bL rp y6 (sp_Mo_makeReading_63 y6  f) (ok_Mo_makeReading_63 y6   f) := by
  induction f with
  | zero => intro x5p63 nowp63 hok; exact False.elim hok
  | succ f ih => exact kb_Mo_makeReading_63 C  ih
noncomputable def sp_Mo_makeReading (now : LV) : Int64 × LV := lett (sp_Mo_deflectionNow now) fun (y2 : Int64) => lett (sp_Mo_draw (((2 : Int64) * (now 25)) + (1 : Int64)) now) fun (y4 : Int64 × LV) => lett (((y2 + (now 27)) + y4.1) - (y4.2 25)) fun (v5 : Int64) => lett (sp_Mo_bound v5 (-(y4.2 24)) (y4.2 24)) fun (y6 : Int64) => sp_Mo_makeReading_63 y6 big (9 : Int32) y4.2
def ok_Mo_makeReading (now : LV) : Prop := (ok_Mo_deflectionNow now) ∧ lett (sp_Mo_deflectionNow now) fun (y2 : Int64) => (ok_Mo_draw (((2 : Int64) * (now 25)) + (1 : Int64)) now) ∧ lett (sp_Mo_draw (((2 : Int64) * (now 25)) + (1 : Int64)) now) fun (y4 : Int64 × LV) => lett (((y2 + (now 27)) + y4.1) - (y4.2 25)) fun (v5 : Int64) => lett (sp_Mo_bound v5 (-(y4.2 24)) (y4.2 24)) fun (y6 : Int64) => ok_Mo_makeReading_63 y6 big (9 : Int32) y4.2
set_option maxRecDepth 100000 in
set_option maxHeartbeats 4000000 in
theorem c_Mo_makeReading (l : Launch) (g : GX) (mo : Nat) (a : Nat → Nat) (o : IV) (now : LV) (dr : LV) (pa : LV) (sa : LV) (iS : IV) (bu : IV) (tq : IV) (rT : IV) (wT : IV) (sK : IV) (sA : IV) (sB : IV) (sE : IV) (oq : IV) (bS : IV) (bE : IV) (bL : IV) (rp : IV)  (hok : ok_Mo_makeReading now) : Met l y_Mo_makeReading (wsY y_Mo_makeReading b_Mo_makeReading 6 (some .long)) rm_Mo_makeReading (CP g [.ref mo] (wMo g mo a o now dr pa sa iS bu tq rT wT sK sA sB sE oq bS bE bL rp)) (CL g (wMo g mo a o now dr pa sa iS bu tq rT wT sK sA sB sE oq bS bE bL rp) (fun u : LV => wMo g mo a o u dr pa sa iS bu tq rT wT sK sA sB sE oq bS bE bL rp) (sp_Mo_makeReading now)) 0 0 (inW (wMo g mo a o now dr pa sa iS bu tq rT wT sK sA sB sE oq bS bE bL rp)) := by
  refine Met.ofW (cc := b_Mo_makeReading) (maxL := 6) (ret := (some .long)) pn_Mo rfl ?_
  intro p e s m args below meth c s₁ B hml hv
  obtain ⟨rfl, C, hP, hD, hS⟩ := enter "DecadeBridgeModel" rfl B hml hv
  obtain ⟨hx, hb, hr, hml, hown, hlk, hts, hK, hZo, hZ⟩ := id C
  refine entryW (lv := [(0, .ref mo)]) rfl (Nat.le_of_ble_eq_true rfl) (fun ls hl => ?_)
  obtain ⟨z, hz⟩ : ∃ z, z = sp_Mo_makeReading now := ⟨_, rfl⟩
  rw [← hz]
  unfold sp_Mo_makeReading at hz
  unfold ok_Mo_makeReading at hok
  refine lv_aload_n hx hb d_Mo_makeReading_0 rfl (lv_at hl 0 rfl) ?_
  have hs1 := hok.1
  have hok := hok.2
  have hB : SubW g (inW (wMo g mo a o now dr pa sa iS bu tq rT wT sK sA sB sE oq bS bE bL rp)) s (wMo g mo a o now dr pa sa iS bu tq rT wT sK sA sB sE oq bS bE bL rp) _ (List.range _) _ _ := (subF hP hD hS)
  refine goL0 hB (run_v C mf_Mo_deflectionNow qm_Mo_220 (c_Mo_deflectionNow l g mo a o now dr pa sa iS bu tq rT wT sK sA sB sE oq bS bE bL rp hs1) rfl rfl ⟨Nat.le_of_ble_eq_true rfl, Nat.le_of_ble_eq_true rfl⟩ ⟨Nat.le_of_ble_eq_true rfl, Nat.le_of_ble_eq_true rfl⟩ hB rfl rfl hl rfl rfl (Nat.le_of_ble_eq_true rfl) d_Mo_makeReading_1) (fun y2 ey2 H locs hP hS => ?_)
  have hz := lett_z hz ey2
  have hok := lett_o hok ey2
  refine lv_aload_n hx hb d_Mo_makeReading_4 rfl (lv_at hl 0 rfl) ?_
  refine gf C hP 0 0 fkMo rfl (by decide) rfl qf_Mo_7 (gMo_0 _ _) d_Mo_makeReading_5 ?_
  refine lv_bipush (v := 27) hx hb d_Mo_makeReading_8 (by decide) ?_
  refine ldL C hP 1 rfl vi_27_215 cn_27 d_Mo_makeReading_10 ?_
  refine lv_ladd hx hb d_Mo_makeReading_11 ?_
  refine lv_aload_n hx hb d_Mo_makeReading_12 rfl (lv_at hl 0 rfl) ?_
  refine lv_ldc2 hx hb hown (hts _ qk_Mo_100) d_Mo_makeReading_13 ?_
  refine lv_aload_n hx hb d_Mo_makeReading_16 rfl (lv_at hl 0 rfl) ?_
  refine gf C hP 0 0 fkMo rfl (by decide) rfl qf_Mo_7 (gMo_0 _ _) d_Mo_makeReading_17 ?_
  refine lv_bipush (v := 25) hx hb d_Mo_makeReading_20 (by decide) ?_
  refine ldL C hP 1 rfl vi_25_215 cn_25 d_Mo_makeReading_22 ?_
  refine lv_lmul hx hb d_Mo_makeReading_23 ?_
  refine lv_lconst (v := 1) hx hb d_Mo_makeReading_24 (by decide) ?_
  refine lv_ladd hx hb d_Mo_makeReading_25 ?_
  have hs3 := hok.1
  have hok := hok.2
  have hB : SubW g (inW (wMo g mo a o now dr pa sa iS bu tq rT wT sK sA sB sE oq bS bE bL rp)) s (wMo g mo a o now dr pa sa iS bu tq rT wT sK sA sB sE oq bS bE bL rp) _ (List.range _) _ _ := (subF hP hD hS)
  refine goLF hB (run_v C mf_Mo_draw qm_Mo_210 (c_Mo_draw l g mo a o now dr pa sa iS bu tq rT wT sK sA sB sE oq bS bE bL rp (((2 : Int64) * (now 25)) + (1 : Int64)) hs3) rfl rfl ⟨Nat.le_of_ble_eq_true rfl, Nat.le_of_ble_eq_true rfl⟩ ⟨Nat.le_of_ble_eq_true rfl, Nat.le_of_ble_eq_true rfl⟩ hB rfl rfl hl rfl rfl (Nat.le_of_ble_eq_true rfl) d_Mo_makeReading_26) (fun _ => rfl) (fun y4 ey4 H locs hP hD hS => ?_)
  have hP : va_P g.1 vwCl (wMo g mo a o y4.2 dr pa sa iS bu tq rT wT sK sA sB sE oq bS bE bL rp) H := hP
  have hD : va_D (inW (wMo g mo a o now dr pa sa iS bu tq rT wT sK sA sB sE oq bS bE bL rp)) (wMo g mo a o y4.2 dr pa sa iS bu tq rT wT sK sA sB sE oq bS bE bL rp) := hD
  have hz := lett_z hz ey4
  have hok := lett_o hok ey4
  refine lv_ladd hx hb d_Mo_makeReading_29 ?_
  refine lv_aload_n hx hb d_Mo_makeReading_30 rfl (lv_at hl 0 rfl) ?_
  refine gf C hP 0 0 fkMo rfl (by decide) rfl qf_Mo_7 (gMo_0 _ _) d_Mo_makeReading_31 ?_
  refine lv_bipush (v := 25) hx hb d_Mo_makeReading_34 (by decide) ?_
  refine ldL C hP 1 rfl vi_25_215 cn_25 d_Mo_makeReading_36 ?_
  refine lv_lsub hx hb d_Mo_makeReading_37 ?_
  refine lv_topl (fun v5 ev5 => ?_)
  have hz := lett_z hz ev5
  have hok := lett_o hok ev5
  refine lv_lstore_n (lv' := [(1, .long v5), (0, .ref mo)]) hx hb d_Mo_makeReading_38 rfl hl (by decide) rfl (fun ls hl => ?_)
  refine lv_lload_n hx hb d_Mo_makeReading_39 rfl (lv_at hl 0 rfl) ?_
  refine lv_aload_n hx hb d_Mo_makeReading_40 rfl (lv_at hl 1 rfl) ?_
  refine gf C hP 0 0 fkMo rfl (by decide) rfl qf_Mo_7 (gMo_0 _ _) d_Mo_makeReading_41 ?_
  refine lv_bipush (v := 24) hx hb d_Mo_makeReading_44 (by decide) ?_
  refine ldL C hP 1 rfl vi_24_215 cn_24 d_Mo_makeReading_46 ?_
  refine lv_lneg hx hb d_Mo_makeReading_47 ?_
  refine lv_aload_n hx hb d_Mo_makeReading_48 rfl (lv_at hl 1 rfl) ?_
  refine gf C hP 0 0 fkMo rfl (by decide) rfl qf_Mo_7 (gMo_0 _ _) d_Mo_makeReading_49 ?_
  refine lv_bipush (v := 24) hx hb d_Mo_makeReading_52 (by decide) ?_
  refine ldL C hP 1 rfl vi_24_215 cn_24 d_Mo_makeReading_54 ?_
  have hB : SubW g (inW (wMo g mo a o now dr pa sa iS bu tq rT wT sK sA sB sE oq bS bE bL rp)) s (wMo g mo a o y4.2 dr pa sa iS bu tq rT wT sK sA sB sE oq bS bE bL rp) _ (List.range _) _ _ := (subF hP hD hS)
  refine goL0 hB (run_s C mf_Mo_bound qm_Mo_195 (c_Mo_bound l g mo a o y4.2 dr pa sa iS bu tq rT wT sK sA sB sE oq bS bE bL rp v5 (-(y4.2 24)) (y4.2 24)) rfl rfl ⟨Nat.le_of_ble_eq_true rfl, Nat.le_of_ble_eq_true rfl⟩ ⟨Nat.le_of_ble_eq_true rfl, Nat.le_of_ble_eq_true rfl⟩ hB hl rfl rfl (Nat.le_of_ble_eq_true rfl) d_Mo_makeReading_55) (fun y6 ey6 H locs hP hS => ?_)
  have hz := lett_z hz ey6
  have hok := lett_o hok ey6
  refine lv_lstore_n (lv' := [(3, .long y6), (1, .long v5), (0, .ref mo)]) hx hb d_Mo_makeReading_58 rfl hl (by decide) rfl (fun ls hl => ?_)
  refine lv_bipush (v := 9) hx hb d_Mo_makeReading_59 (by decide) ?_
  refine lv_istore (lv' := [(5, .int (9 : Int32)), (3, .long y6), (1, .long v5), (0, .ref mo)]) hx hb d_Mo_makeReading_61 hl (by decide) rfl (fun ls hl => ?_)
  exact k_Mo_makeReading_63 C big (9 : Int32) y4.2 hok _ hz _ _ ls hP hD hS (lv_sub hl [3, 1, 0] rfl)
abbrev rm_Mo_look : Room := { frames := 10, cells := 0, slots := 0, locals := 233 }
def HL_Mo_look_48 (p : Program) (l : Launch) (e : Env) (s : State) (m : MethodId) (args : Array Value) (below : List Frame) (meth : Method) (c : Code) (g : GX) (mo : Nat) (a : Nat → Nat) (ws0 : va_W) (o : IV) (dr : LV) (pa : LV) (sa : LV) (iS : IV) (bu : IV) (tq : IV) (rT : IV) (wT : IV) (sK : IV) (sA : IV) (sB : IV) (sE : IV) (oq : IV) (bS : IV) (bE : IV) (bL : IV) (rp : IV) (sp : Int64 → LV → (Int64 × LV)) (ok : Int64 → LV → Prop) : Prop := ∀ (t0p48 : Int64) (nowp48 : LV), ok t0p48 nowp48 → ∀ z : (Int64 × LV), z = sp t0p48 nowp48 → ∀ (H : Heap) (locs : List Loc) (ls : Array Slot), va_P g.1 vwCl (wMo g mo a o nowp48 dr pa sa iS bu tq rT wT sK sA sB sE oq bS bE bL rp) H → va_D (inW ws0) (wMo g mo a o nowp48 dr pa sa iS bu tq rT wT sK sA sB sE oq bS bE bL rp) → va_S (inW ws0) s.heap H locs → lv_has ls 6 [(0, .ref mo)] → W p l e rm_Mo_look s m args below meth c H locs 0 0 (MQ below (CL g ws0 (fun u : LV => wMo g mo a o u dr pa sa iS bu tq rT wT sK sA sB sE oq bS bE bL rp) z) args s 0 0 (inW ws0)) (F0 m 48 ls [.long t0p48])
noncomputable def sp_Mo_look_48   (t0p48 : Int64) (nowp48 : LV) : Int64 × LV := lett (vp_updL nowp48 31 ((1 : Int64) - (nowp48 31))) fun (now_10 : LV) => (t0p48, now_10)
def ok_Mo_look_48    (t0p48 : Int64) (nowp48 : LV) : Prop := True
set_option maxRecDepth 100000 in
set_option maxHeartbeats 4000000 in
theorem k_Mo_look_48 {p : Program} {l : Launch} {e : Env} {s : State} {m : MethodId} {args : Array Value} {below : List Frame} {meth : Method} {c : Code} {g : GX} {mo : Nat} {a : Nat → Nat} {ws0 : va_W} {o : IV} {dr : LV} {pa : LV} {sa : LV} {iS : IV} {bu : IV} {tq : IV} {rT : IV} {wT : IV} {sK : IV} {sA : IV} {sB : IV} {sE : IV} {oq : IV} {bS : IV} {bE : IV} {bL : IV} {rp : IV}  (C : Cx p s m args meth c (inW ws0) g "DecadeBridgeModel" b_Mo_look (some .long) 6)  : HL_Mo_look_48 p l e s m args below meth c g mo a ws0 o dr pa sa iS bu tq rT wT sK sA sB sE oq bS bE bL rp (sp_Mo_look_48  ) (ok_Mo_look_48   ) := by
  intro t0p48 nowp48 hok z hz H locs ls hP hD hS hl
  obtain ⟨hx, hb, hr, hml, hown, hlk, hts, hK, hZo, hZ⟩ := id C
  unfold sp_Mo_look_48 at hz
  refine lv_lstore (lv' := [(4, .long t0p48), (0, .ref mo)]) hx hb d_Mo_look_48 hl (by decide) rfl (fun ls hl => ?_)
  refine lv_aload_n hx hb d_Mo_look_50 rfl (lv_at hl 1 rfl) ?_
  refine gf C hP 0 0 fkMo rfl (by decide) rfl qf_Mo_7 (gMo_0 _ _) d_Mo_look_51 ?_
  refine lv_bipush (v := 31) hx hb d_Mo_look_54 (by decide) ?_
  refine lv_lconst (v := 1) hx hb d_Mo_look_56 (by decide) ?_
  refine lv_aload_n hx hb d_Mo_look_57 rfl (lv_at hl 1 rfl) ?_
  refine gf C hP 0 0 fkMo rfl (by decide) rfl qf_Mo_7 (gMo_0 _ _) d_Mo_look_58 ?_
  refine lv_bipush (v := 31) hx hb d_Mo_look_61 (by decide) ?_
  refine ldL C hP 1 rfl vi_31_215 cn_31 d_Mo_look_63 ?_
  refine lv_lsub hx hb d_Mo_look_64 ?_
  refine stL C hP hD hS 1 rfl vi_31_215 cn_31 d_Mo_look_65 (fun now_10 enow_10 H locs hP hD hS => ?_)
  have hP : va_P g.1 vwCl (wMo g mo a o now_10 dr pa sa iS bu tq rT wT sK sA sB sE oq bS bE bL rp) H := hP
  have hD : va_D (inW ws0) (wMo g mo a o now_10 dr pa sa iS bu tq rT wT sK sA sB sE oq bS bE bL rp) := hD
  have hz := lett_z hz enow_10
  refine lv_lload hx hb d_Mo_look_66 (lv_at hl 0 rfl) ?_
  exact endL1 C hz hP hS d_Mo_look_68
noncomputable def sp_Mo_look (p1 : Int32) (now : LV) : Int64 × LV := lett (sp_Mo_makeReading now) fun (y2 : Int64 × LV) => if p1 = 0 then ((y2.1, y2.2)) else (lett (vp_updL y2.2 31 ((1 : Int64) - (y2.2 31))) fun (now_4 : LV) => lett (sp_Mo_canRead now_4) fun (y6 : Int32) => if y6 = 0 then (sp_Mo_look_48 y2.1 now_4) else (lett (sp_Mo_makeReading now_4) fun (y9 : Int64 × LV) => sp_Mo_look_48 ((y2.1 - y9.1) / (2 : Int64)) y9.2))
def ok_Mo_look (p1 : Int32) (now : LV) : Prop := (ok_Mo_makeReading now) ∧ lett (sp_Mo_makeReading now) fun (y2 : Int64 × LV) => ((p1 = 0 → True) ∧ (¬ (p1 = 0) → lett (vp_updL y2.2 31 ((1 : Int64) - (y2.2 31))) fun (now_4 : LV) => (ok_Mo_canRead now_4) ∧ lett (sp_Mo_canRead now_4) fun (y6 : Int32) => ((y6 = 0 → True) ∧ (¬ (y6 = 0) → (ok_Mo_makeReading now_4) ∧ True))))
set_option maxRecDepth 100000 in
set_option maxHeartbeats 4000000 in
theorem c_Mo_look (l : Launch) (g : GX) (mo : Nat) (a : Nat → Nat) (o : IV) (now : LV) (dr : LV) (pa : LV) (sa : LV) (iS : IV) (bu : IV) (tq : IV) (rT : IV) (wT : IV) (sK : IV) (sA : IV) (sB : IV) (sE : IV) (oq : IV) (bS : IV) (bE : IV) (bL : IV) (rp : IV) (p1 : Int32) (hok : ok_Mo_look p1 now) : Met l y_Mo_look (wsY y_Mo_look b_Mo_look 6 (some .long)) rm_Mo_look (CP g [.ref mo, .int p1] (wMo g mo a o now dr pa sa iS bu tq rT wT sK sA sB sE oq bS bE bL rp)) (CL g (wMo g mo a o now dr pa sa iS bu tq rT wT sK sA sB sE oq bS bE bL rp) (fun u : LV => wMo g mo a o u dr pa sa iS bu tq rT wT sK sA sB sE oq bS bE bL rp) (sp_Mo_look p1 now)) 0 0 (inW (wMo g mo a o now dr pa sa iS bu tq rT wT sK sA sB sE oq bS bE bL rp)) := by
  refine Met.ofW (cc := b_Mo_look) (maxL := 6) (ret := (some .long)) pn_Mo rfl ?_
  intro p e s m args below meth c s₁ B hml hv
  obtain ⟨rfl, C, hP, hD, hS⟩ := enter "DecadeBridgeModel" rfl B hml hv
  obtain ⟨hx, hb, hr, hml, hown, hlk, hts, hK, hZo, hZ⟩ := id C
  refine entryW (lv := [(0, .ref mo), (1, .int p1)]) rfl (Nat.le_of_ble_eq_true rfl) (fun ls hl => ?_)
  obtain ⟨z, hz⟩ : ∃ z, z = sp_Mo_look p1 now := ⟨_, rfl⟩
  rw [← hz]
  unfold sp_Mo_look at hz
  unfold ok_Mo_look at hok
  refine lv_aload_n hx hb d_Mo_look_0 rfl (lv_at hl 0 rfl) ?_
  have hs1 := hok.1
  have hok := hok.2
  have hB : SubW g (inW (wMo g mo a o now dr pa sa iS bu tq rT wT sK sA sB sE oq bS bE bL rp)) s (wMo g mo a o now dr pa sa iS bu tq rT wT sK sA sB sE oq bS bE bL rp) _ (List.range _) _ _ := (subF hP hD hS)
  refine goLF hB (run_v C mf_Mo_makeReading qm_Mo_231 (c_Mo_makeReading l g mo a o now dr pa sa iS bu tq rT wT sK sA sB sE oq bS bE bL rp hs1) rfl rfl ⟨Nat.le_of_ble_eq_true rfl, Nat.le_of_ble_eq_true rfl⟩ ⟨Nat.le_of_ble_eq_true rfl, Nat.le_of_ble_eq_true rfl⟩ hB rfl rfl hl rfl rfl (Nat.le_of_ble_eq_true rfl) d_Mo_look_1) (fun _ => rfl) (fun y2 ey2 H locs hP hD hS => ?_)
  have hP : va_P g.1 vwCl (wMo g mo a o y2.2 dr pa sa iS bu tq rT wT sK sA sB sE oq bS bE bL rp) H := hP
  have hD : va_D (inW (wMo g mo a o now dr pa sa iS bu tq rT wT sK sA sB sE oq bS bE bL rp)) (wMo g mo a o y2.2 dr pa sa iS bu tq rT wT sK sA sB sE oq bS bE bL rp) := hD
  have hz := lett_z hz ey2
  have hok := lett_o hok ey2
  refine lv_lstore_n (lv' := [(2, .long y2.1), (0, .ref mo), (1, .int p1)]) hx hb d_Mo_look_4 rfl hl (by decide) rfl (fun ls hl => ?_)
  refine lv_iload_n hx hb d_Mo_look_5 rfl (lv_at hl 2 rfl) ?_
  refine lv_if_ne (tgt := 11) hx hb d_Mo_look_6 (by decide) (fun c3 => ?_) (fun c3 => ?_)
  · have hz := hz.trans (if_neg c3)
    have hok := hok.2 c3
    refine lv_aload_n hx hb d_Mo_look_11 rfl (lv_at hl 1 rfl) ?_
    refine gf C hP 0 0 fkMo rfl (by decide) rfl qf_Mo_7 (gMo_0 _ _) d_Mo_look_12 ?_
    refine lv_bipush (v := 31) hx hb d_Mo_look_15 (by decide) ?_
    refine lv_lconst (v := 1) hx hb d_Mo_look_17 (by decide) ?_
    refine lv_aload_n hx hb d_Mo_look_18 rfl (lv_at hl 1 rfl) ?_
    refine gf C hP 0 0 fkMo rfl (by decide) rfl qf_Mo_7 (gMo_0 _ _) d_Mo_look_19 ?_
    refine lv_bipush (v := 31) hx hb d_Mo_look_22 (by decide) ?_
    refine ldL C hP 1 rfl vi_31_215 cn_31 d_Mo_look_24 ?_
    refine lv_lsub hx hb d_Mo_look_25 ?_
    refine stL C hP hD hS 1 rfl vi_31_215 cn_31 d_Mo_look_26 (fun now_4 enow_4 H locs hP hD hS => ?_)
    have hP : va_P g.1 vwCl (wMo g mo a o now_4 dr pa sa iS bu tq rT wT sK sA sB sE oq bS bE bL rp) H := hP
    have hD : va_D (inW (wMo g mo a o now dr pa sa iS bu tq rT wT sK sA sB sE oq bS bE bL rp)) (wMo g mo a o now_4 dr pa sa iS bu tq rT wT sK sA sB sE oq bS bE bL rp) := hD
    have hz := lett_z hz enow_4
    have hok := lett_o hok enow_4
    refine lv_aload_n hx hb d_Mo_look_27 rfl (lv_at hl 1 rfl) ?_
    have hs5 := hok.1
    have hok := hok.2
    have hB : SubW g (inW (wMo g mo a o now dr pa sa iS bu tq rT wT sK sA sB sE oq bS bE bL rp)) s (wMo g mo a o now_4 dr pa sa iS bu tq rT wT sK sA sB sE oq bS bE bL rp) _ (List.range _) _ _ := (subF hP hD hS)
    refine goI0 hB (run_v C mf_Mo_canRead qm_Mo_234 (c_Mo_canRead l g mo a o now_4 dr pa sa iS bu tq rT wT sK sA sB sE oq bS bE bL rp hs5) rfl rfl ⟨Nat.le_of_ble_eq_true rfl, Nat.le_of_ble_eq_true rfl⟩ ⟨Nat.le_of_ble_eq_true rfl, Nat.le_of_ble_eq_true rfl⟩ hB rfl rfl hl rfl rfl (Nat.le_of_ble_eq_true rfl) d_Mo_look_28) (fun y6 ey6 H locs hP hS => ?_)
    have hz := lett_z hz ey6
    have hok := lett_o hok ey6
    refine lv_if_eq (tgt := 47) hx hb d_Mo_look_31 (by decide) (fun c7 => ?_) (fun c7 => ?_)
    · have hz := hz.trans (if_pos c7)
      refine lv_lload_n hx hb d_Mo_look_47 rfl (lv_at hl 0 rfl) ?_
      exact k_Mo_look_48 C y2.1 now_4 trivial _ hz _ _ ls hP hD hS (lv_sub hl [1] rfl)
    · have hz := hz.trans (if_neg c7)
      have hok := hok.2 c7
      refine lv_lload_n hx hb d_Mo_look_34 rfl (lv_at hl 0 rfl) ?_
      refine lv_aload_n hx hb d_Mo_look_35 rfl (lv_at hl 1 rfl) ?_
      have hs8 := hok.1
      have hok := hok.2
      have hB : SubW g (inW (wMo g mo a o now dr pa sa iS bu tq rT wT sK sA sB sE oq bS bE bL rp)) s (wMo g mo a o now_4 dr pa sa iS bu tq rT wT sK sA sB sE oq bS bE bL rp) _ (List.range _) _ _ := (subF hP hD hS)
      refine goLF hB (run_v C mf_Mo_makeReading qm_Mo_231 (c_Mo_makeReading l g mo a o now_4 dr pa sa iS bu tq rT wT sK sA sB sE oq bS bE bL rp hs8) rfl rfl ⟨Nat.le_of_ble_eq_true rfl, Nat.le_of_ble_eq_true rfl⟩ ⟨Nat.le_of_ble_eq_true rfl, Nat.le_of_ble_eq_true rfl⟩ hB rfl rfl hl rfl rfl (Nat.le_of_ble_eq_true rfl) d_Mo_look_36) (fun _ => rfl) (fun y9 ey9 H locs hP hD hS => ?_)
      have hP : va_P g.1 vwCl (wMo g mo a o y9.2 dr pa sa iS bu tq rT wT sK sA sB sE oq bS bE bL rp) H := hP
      have hD : va_D (inW (wMo g mo a o now dr pa sa iS bu tq rT wT sK sA sB sE oq bS bE bL rp)) (wMo g mo a o y9.2 dr pa sa iS bu tq rT wT sK sA sB sE oq bS bE bL rp) := hD
      have hz := lett_z hz ey9
      refine lv_lsub hx hb d_Mo_look_39 ?_
      refine lv_ldc2 hx hb hown (hts _ qk_Mo_100) d_Mo_look_40 ?_
      refine lv_ldiv hx hb d_Mo_look_43 (by decide) ?_
      refine lv_goto (tgt := 48) hx hb d_Mo_look_44 (by decide) ?_
      exact k_Mo_look_48 C ((y2.1 - y9.1) / (2 : Int64)) y9.2 trivial _ hz _ _ ls hP hD hS (lv_sub hl [1] rfl)
  · have hz := hz.trans (if_pos c3)
    refine lv_lload_n hx hb d_Mo_look_9 rfl (lv_at hl 0 rfl) ?_
    exact endL1 C hz hP hS d_Mo_look_10
abbrev rm_Mo_balanceDecade : Room := { frames := 11, cells := 0, slots := 0, locals := 258 }
def HL_Mo_balanceDecade_0 (p : Program) (l : Launch) (e : Env) (s : State) (m : MethodId) (args : Array Value) (below : List Frame) (meth : Method) (c : Code) (g : GX) (mo : Nat) (a : Nat → Nat) (ws0 : va_W) (o : IV) (dr : LV) (pa : LV) (sa : LV) (iS : IV) (bu : IV) (tq : IV) (rT : IV) (wT : IV) (sK : IV) (sA : IV) (sB : IV) (sE : IV) (oq : IV) (bS : IV) (bE : IV) (bL : IV) (rp : IV) (p1 : Int32) (p2 : Int32) (sp : LV → (Int32 × LV)) (ok : LV → Prop) : Prop := ∀ (nowp0 : LV), ok nowp0 → ∀ z : (Int32 × LV), z = sp nowp0 → ∀ (H : Heap) (locs : List Loc) (ls : Array Slot), va_P g.1 vwCl (wMo g mo a o nowp0 dr pa sa iS bu tq rT wT sK sA sB sE oq bS bE bL rp) H → va_D (inW ws0) (wMo g mo a o nowp0 dr pa sa iS bu tq rT wT sK sA sB sE oq bS bE bL rp) → va_S (inW ws0) s.heap H locs → lv_has ls 5 [(0, .ref mo), (1, .int p1), (2, .int p2)] → W p l e rm_Mo_balanceDecade s m args below meth c H locs 0 0 (MQ below (CI g ws0 (fun u : LV => wMo g mo a o u dr pa sa iS bu tq rT wT sK sA sB sE oq bS bE bL rp) z) args s 0 0 (inW ws0)) (F0 m 0 ls [])
def HL_Mo_balanceDecade_65 (p : Program) (l : Launch) (e : Env) (s : State) (m : MethodId) (args : Array Value) (below : List Frame) (meth : Method) (c : Code) (g : GX) (mo : Nat) (a : Nat → Nat) (ws0 : va_W) (o : IV) (y8 : Int64 × LV) (dr : LV) (pa : LV) (sa : LV) (iS : IV) (bu : IV) (tq : IV) (rT : IV) (wT : IV) (sK : IV) (sA : IV) (sB : IV) (sE : IV) (oq : IV) (bS : IV) (bE : IV) (bL : IV) (rp : IV) (p1 : Int32) (p2 : Int32) (sp : Int32 → (Int32 × LV)) (ok : Int32 → Prop) : Prop := ∀ (t0p65 : Int32), ok t0p65 → ∀ z : (Int32 × LV), z = sp t0p65 → ∀ (H : Heap) (locs : List Loc) (ls : Array Slot), va_P g.1 vwCl (wMo g mo a o y8.2 dr pa sa iS bu tq rT wT sK sA sB sE oq bS bE bL rp) H → va_D (inW ws0) (wMo g mo a o y8.2 dr pa sa iS bu tq rT wT sK sA sB sE oq bS bE bL rp) → va_S (inW ws0) s.heap H locs → lv_has ls 5 [(0, .ref mo), (1, .int p1), (2, .int p2)] → W p l e rm_Mo_balanceDecade s m args below meth c H locs 0 0 (MQ below (CI g ws0 (fun u : LV => wMo g mo a o u dr pa sa iS bu tq rT wT sK sA sB sE oq bS bE bL rp) z) args s 0 0 (inW ws0)) (F0 m 65 ls [.int t0p65])
def HL_Mo_balanceDecade_82 (p : Program) (l : Launch) (e : Env) (s : State) (m : MethodId) (args : Array Value) (below : List Frame) (meth : Method) (c : Code) (g : GX) (mo : Nat) (a : Nat → Nat) (ws0 : va_W) (o : IV) (y8 : Int64 × LV) (dr : LV) (pa : LV) (sa : LV) (iS : IV) (bu : IV) (tq : IV) (rT : IV) (wT : IV) (sK : IV) (sA : IV) (sB : IV) (sE : IV) (oq : IV) (bS : IV) (bE : IV) (bL : IV) (rp : IV) (p1 : Int32) (p2 : Int32) (t0p65 : Int32) (sp : Int32 → (Int32 × LV)) (ok : Int32 → Prop) : Prop := ∀ (t1p82 : Int32), ok t1p82 → ∀ z : (Int32 × LV), z = sp t1p82 → ∀ (H : Heap) (locs : List Loc) (ls : Array Slot), va_P g.1 vwCl (wMo g mo a o y8.2 dr pa sa iS bu tq rT wT sK sA sB sE oq bS bE bL rp) H → va_D (inW ws0) (wMo g mo a o y8.2 dr pa sa iS bu tq rT wT sK sA sB sE oq bS bE bL rp) → va_S (inW ws0) s.heap H locs → lv_has ls 5 [(0, .ref mo), (1, .int p1), (2, .int p2)] → W p l e rm_Mo_balanceDecade s m args below meth c H locs 0 0 (MQ below (CI g ws0 (fun u : LV => wMo g mo a o u dr pa sa iS bu tq rT wT sK sA sB sE oq bS bE bL rp) z) args s 0 0 (inW ws0)) (F0 m 82 ls [.int t1p82, .int t0p65])
def HL_Mo_balanceDecade_85 (p : Program) (l : Launch) (e : Env) (s : State) (m : MethodId) (args : Array Value) (below : List Frame) (meth : Method) (c : Code) (g : GX) (mo : Nat) (a : Nat → Nat) (ws0 : va_W) (o : IV) (y8 : Int64 × LV) (dr : LV) (pa : LV) (sa : LV) (iS : IV) (bu : IV) (tq : IV) (rT : IV) (wT : IV) (sK : IV) (sA : IV) (sB : IV) (sE : IV) (oq : IV) (bS : IV) (bE : IV) (bL : IV) (rp : IV) (p1 : Int32) (sp : (Int32 × LV)) (ok : Prop) : Prop := ∀ (_ : Unit), ok → ∀ z : (Int32 × LV), z = sp → ∀ (H : Heap) (locs : List Loc) (ls : Array Slot), va_P g.1 vwCl (wMo g mo a o y8.2 dr pa sa iS bu tq rT wT sK sA sB sE oq bS bE bL rp) H → va_D (inW ws0) (wMo g mo a o y8.2 dr pa sa iS bu tq rT wT sK sA sB sE oq bS bE bL rp) → va_S (inW ws0) s.heap H locs → lv_has ls 5 [(0, .ref mo), (1, .int p1)] → W p l e rm_Mo_balanceDecade s m args below meth c H locs 0 0 (MQ below (CI g ws0 (fun u : LV => wMo g mo a o u dr pa sa iS bu tq rT wT sK sA sB sE oq bS bE bL rp) z) args s 0 0 (inW ws0)) (F0 m 85 ls [])
noncomputable def sp_Mo_balanceDecade_85 (y8 : Int64 × LV) (p1 : Int32)   : Int32 × LV := lett (vp_updL y8.2 ((33 : Int32) + p1).toNatClampNeg ((y8.2 ((33 : Int32) + p1).toNatClampNeg) - (1 : Int64))) fun (now_15 : LV) => ((0 : Int32), now_15)
def ok_Mo_balanceDecade_85 (y8 : Int64 × LV) (p1 : Int32)    : Prop := (vp_in ((33 : Int32) + p1) 215) ∧ True
set_option maxRecDepth 100000 in
set_option maxHeartbeats 4000000 in
theorem k_Mo_balanceDecade_85 {p : Program} {l : Launch} {e : Env} {s : State} {m : MethodId} {args : Array Value} {below : List Frame} {meth : Method} {c : Code} {g : GX} {mo : Nat} {a : Nat → Nat} {ws0 : va_W} {o : IV} {y8 : Int64 × LV} {dr : LV} {pa : LV} {sa : LV} {iS : IV} {bu : IV} {tq : IV} {rT : IV} {wT : IV} {sK : IV} {sA : IV} {sB : IV} {sE : IV} {oq : IV} {bS : IV} {bE : IV} {bL : IV} {rp : IV} {p1 : Int32}  (C : Cx p s m args meth c (inW ws0) g "DecadeBridgeModel" b_Mo_balanceDecade (some .int) 5)  : HL_Mo_balanceDecade_85 p l e s m args below meth c g mo a ws0 o y8 dr pa sa iS bu tq rT wT sK sA sB sE oq bS bE bL rp p1 (sp_Mo_balanceDecade_85 y8 p1 ) (ok_Mo_balanceDecade_85 y8 p1  ) := by
  intro _ hok z hz H locs ls hP hD hS hl
  obtain ⟨hx, hb, hr, hml, hown, hlk, hts, hK, hZo, hZ⟩ := id C
  unfold sp_Mo_balanceDecade_85 at hz
  unfold ok_Mo_balanceDecade_85 at hok
  refine lv_aload_n hx hb d_Mo_balanceDecade_85 rfl (lv_at hl 0 rfl) ?_
  refine gf C hP 0 0 fkMo rfl (by decide) rfl qf_Mo_7 (gMo_0 _ _) d_Mo_balanceDecade_86 ?_
  refine lv_bipush (v := 33) hx hb d_Mo_balanceDecade_89 (by decide) ?_
  refine lv_iload_n hx hb d_Mo_balanceDecade_91 rfl (lv_at hl 1 rfl) ?_
  refine lv_iadd hx hb d_Mo_balanceDecade_92 ?_
  refine lv_dup2_11 hx hb d_Mo_balanceDecade_93 rfl rfl ?_
  have hs14 := hok.1
  have hok := hok.2
  refine ldL C hP 1 rfl hs14 rfl d_Mo_balanceDecade_94 ?_
  refine lv_lconst (v := 1) hx hb d_Mo_balanceDecade_95 (by decide) ?_
  refine lv_lsub hx hb d_Mo_balanceDecade_96 ?_
  refine stL C hP hD hS 1 rfl hs14 rfl d_Mo_balanceDecade_97 (fun now_15 enow_15 H locs hP hD hS => ?_)
  have hP : va_P g.1 vwCl (wMo g mo a o now_15 dr pa sa iS bu tq rT wT sK sA sB sE oq bS bE bL rp) H := hP
  have hD : va_D (inW ws0) (wMo g mo a o now_15 dr pa sa iS bu tq rT wT sK sA sB sE oq bS bE bL rp) := hD
  have hz := lett_z hz enow_15
  refine lv_iconst (v := 0) hx hb d_Mo_balanceDecade_98 (by decide) ?_
  exact endI1 C hz hP hS d_Mo_balanceDecade_99
noncomputable def sp_Mo_balanceDecade_82 (t0p65 : Int32) (y8 : Int64 × LV) (p1 : Int32) (r0 : LV → (Int32 × LV)) (t1p82 : Int32) : Int32 × LV := if t0p65 = t1p82 then (sp_Mo_balanceDecade_85 y8 p1) else (r0 y8.2)
def ok_Mo_balanceDecade_82 (t0p65 : Int32) (y8 : Int64 × LV) (p1 : Int32) (r0 : LV → (Int32 × LV)) (q0 : LV → Prop) (t1p82 : Int32) : Prop := ((t0p65 = t1p82 → ok_Mo_balanceDecade_85 y8 p1) ∧ (¬ (t0p65 = t1p82) → q0 y8.2))
set_option maxRecDepth 100000 in
set_option maxHeartbeats 4000000 in
theorem k_Mo_balanceDecade_82 {p : Program} {l : Launch} {e : Env} {s : State} {m : MethodId} {args : Array Value} {below : List Frame} {meth : Method} {c : Code} {g : GX} {mo : Nat} {a : Nat → Nat} {ws0 : va_W} {o : IV} {y8 : Int64 × LV} {dr : LV} {pa : LV} {sa : LV} {iS : IV} {bu : IV} {tq : IV} {rT : IV} {wT : IV} {sK : IV} {sA : IV} {sB : IV} {sE : IV} {oq : IV} {bS : IV} {bE : IV} {bL : IV} {rp : IV} {p1 : Int32} {p2 : Int32} {t0p65 : Int32} {r0 : LV → (Int32 × LV)} {q0 : LV → Prop} (C : Cx p s m args meth c (inW ws0) g "DecadeBridgeModel" b_Mo_balanceDecade (some .int) 5) (ih0 : HL_Mo_balanceDecade_0 p l e s m args below meth c g mo a ws0 o dr pa sa iS bu tq rT wT sK sA sB sE oq bS bE bL rp p1 p2 r0 q0) : HL_Mo_balanceDecade_82 p l e s m args below meth c g mo a ws0 o y8 dr pa sa iS bu tq rT wT sK sA sB sE oq bS bE bL rp p1 p2 t0p65 (sp_Mo_balanceDecade_82 t0p65 y8 p1 r0) (ok_Mo_balanceDecade_82 t0p65 y8 p1 r0 q0) := by
  intro t1p82 hok z hz H locs ls hP hD hS hl
  obtain ⟨hx, hb, hr, hml, hown, hlk, hts, hK, hZo, hZ⟩ := id C
  unfold sp_Mo_balanceDecade_82 at hz
  unfold ok_Mo_balanceDecade_82 at hok
  refine lv_icmp_ne (tgt := 100) hx hb d_Mo_balanceDecade_82 (by decide) (fun c13 => ?_) (fun c13 => ?_)
  · have hz := hz.trans (if_neg c13)
    have hok := hok.2 c13
    refine lv_goto (tgt := 0) hx hb d_Mo_balanceDecade_100 (by decide) ?_
    exact ih0 y8.2 hok _ hz _ _ ls hP hD hS hl
  · have hz := hz.trans (if_pos c13)
    have hok := hok.1 c13
    exact k_Mo_balanceDecade_85 C () hok _ hz _ _ ls hP hD hS (lv_sub hl [0, 1] rfl)
noncomputable def sp_Mo_balanceDecade_65 (y8 : Int64 × LV) (p1 : Int32) (r0 : LV → (Int32 × LV)) (t0p65 : Int32) : Int32 × LV := if (y8.2 31) = (1 : Int64) then (sp_Mo_balanceDecade_82 t0p65 y8 p1 r0 (1 : Int32)) else (sp_Mo_balanceDecade_82 t0p65 y8 p1 r0 (0 : Int32))
def ok_Mo_balanceDecade_65 (y8 : Int64 × LV) (p1 : Int32) (r0 : LV → (Int32 × LV)) (q0 : LV → Prop) (t0p65 : Int32) : Prop := (((y8.2 31) = (1 : Int64) → ok_Mo_balanceDecade_82 t0p65 y8 p1 r0 q0 (1 : Int32)) ∧ (¬ ((y8.2 31) = (1 : Int64)) → ok_Mo_balanceDecade_82 t0p65 y8 p1 r0 q0 (0 : Int32)))
set_option maxRecDepth 100000 in
set_option maxHeartbeats 4000000 in
theorem k_Mo_balanceDecade_65 {p : Program} {l : Launch} {e : Env} {s : State} {m : MethodId} {args : Array Value} {below : List Frame} {meth : Method} {c : Code} {g : GX} {mo : Nat} {a : Nat → Nat} {ws0 : va_W} {o : IV} {y8 : Int64 × LV} {dr : LV} {pa : LV} {sa : LV} {iS : IV} {bu : IV} {tq : IV} {rT : IV} {wT : IV} {sK : IV} {sA : IV} {sB : IV} {sE : IV} {oq : IV} {bS : IV} {bE : IV} {bL : IV} {rp : IV} {p1 : Int32} {p2 : Int32} {r0 : LV → (Int32 × LV)} {q0 : LV → Prop} (C : Cx p s m args meth c (inW ws0) g "DecadeBridgeModel" b_Mo_balanceDecade (some .int) 5) (ih0 : HL_Mo_balanceDecade_0 p l e s m args below meth c g mo a ws0 o dr pa sa iS bu tq rT wT sK sA sB sE oq bS bE bL rp p1 p2 r0 q0) : HL_Mo_balanceDecade_65 p l e s m args below meth c g mo a ws0 o y8 dr pa sa iS bu tq rT wT sK sA sB sE oq bS bE bL rp p1 p2 (sp_Mo_balanceDecade_65 y8 p1 r0) (ok_Mo_balanceDecade_65 y8 p1 r0 q0) := by
  intro t0p65 hok z hz H locs ls hP hD hS hl
  obtain ⟨hx, hb, hr, hml, hown, hlk, hts, hK, hZo, hZ⟩ := id C
  unfold sp_Mo_balanceDecade_65 at hz
  unfold ok_Mo_balanceDecade_65 at hok
  refine lv_aload_n hx hb d_Mo_balanceDecade_65 rfl (lv_at hl 0 rfl) ?_
  refine gf C hP 0 0 fkMo rfl (by decide) rfl qf_Mo_7 (gMo_0 _ _) d_Mo_balanceDecade_66 ?_
  refine lv_bipush (v := 31) hx hb d_Mo_balanceDecade_69 (by decide) ?_
  refine ldL C hP 1 rfl vi_31_215 cn_31 d_Mo_balanceDecade_71 ?_
  refine lv_lconst (v := 1) hx hb d_Mo_balanceDecade_72 (by decide) ?_
  refine lc_ne (tgt := 81) hx hb d_Mo_balanceDecade_73 d_Mo_balanceDecade_74 (by decide) (fun c12 => ?_) (fun c12 => ?_)
  · have hz := hz.trans (if_neg c12)
    have hok := hok.2 c12
    refine lv_iconst (v := 0) hx hb d_Mo_balanceDecade_81 (by decide) ?_
    exact k_Mo_balanceDecade_82 C ih0 (0 : Int32) hok _ hz _ _ ls hP hD hS hl
  · have hz := hz.trans (if_pos c12)
    have hok := hok.1 c12
    refine lv_iconst (v := 1) hx hb d_Mo_balanceDecade_77 (by decide) ?_
    refine lv_goto (tgt := 82) hx hb d_Mo_balanceDecade_78 (by decide) ?_
    exact k_Mo_balanceDecade_82 C ih0 (1 : Int32) hok _ hz _ _ ls hP hD hS hl
noncomputable def bd_Mo_balanceDecade_0 (p1 : Int32) (p2 : Int32) (r0 : LV → (Int32 × LV)) (nowp0 : LV) : Int32 × LV := if (9 : Int64) ≤ (nowp0 ((33 : Int32) + p1).toNatClampNeg) then (((0 : Int32), nowp0)) else (lett (vp_updL nowp0 ((33 : Int32) + p1).toNatClampNeg ((nowp0 ((33 : Int32) + p1).toNatClampNeg) + (1 : Int64))) fun (now_3 : LV) => lett (sp_Mo_canRead now_3) fun (y5 : Int32) => if y5 = 0 then (((5 : Int32), now_3)) else (lett (sp_Mo_look p2 now_3) fun (y8 : Int64 × LV) => lett (sp_Mo_isNull y8.1 y8.2) fun (y9 : Int32) => if y9 = 0 then (if y8.1 ≤ (0 : Int64) then (sp_Mo_balanceDecade_65 y8 p1 r0 (0 : Int32)) else (sp_Mo_balanceDecade_65 y8 p1 r0 (1 : Int32))) else (((1 : Int32), y8.2))))
def okb_Mo_balanceDecade_0 (p1 : Int32) (p2 : Int32) (r0 : LV → (Int32 × LV)) (q0 : LV → Prop) (nowp0 : LV) : Prop := (vp_in ((33 : Int32) + p1) 215) ∧ (((9 : Int64) ≤ (nowp0 ((33 : Int32) + p1).toNatClampNeg) → True) ∧ (¬ ((9 : Int64) ≤ (nowp0 ((33 : Int32) + p1).toNatClampNeg)) → lett (vp_updL nowp0 ((33 : Int32) + p1).toNatClampNeg ((nowp0 ((33 : Int32) + p1).toNatClampNeg) + (1 : Int64))) fun (now_3 : LV) => (ok_Mo_canRead now_3) ∧ lett (sp_Mo_canRead now_3) fun (y5 : Int32) => ((y5 = 0 → True) ∧ (¬ (y5 = 0) → (ok_Mo_look p2 now_3) ∧ lett (sp_Mo_look p2 now_3) fun (y8 : Int64 × LV) => lett (sp_Mo_isNull y8.1 y8.2) fun (y9 : Int32) => ((y9 = 0 → ((y8.1 ≤ (0 : Int64) → ok_Mo_balanceDecade_65 y8 p1 r0 q0 (0 : Int32)) ∧ (¬ (y8.1 ≤ (0 : Int64)) → ok_Mo_balanceDecade_65 y8 p1 r0 q0 (1 : Int32)))) ∧ (¬ (y9 = 0) → True))))))
noncomputable def sp_Mo_balanceDecade_0 (p1 : Int32) (p2 : Int32)  : Nat → LV → (Int32 × LV)
  | 0 => fun _ => default
  | f + 1 => bd_Mo_balanceDecade_0 p1 p2  (sp_Mo_balanceDecade_0 p1 p2  f)
def ok_Mo_balanceDecade_0 (p1 : Int32) (p2 : Int32)   : Nat → LV → Prop
  | 0 => fun _ => False
  | f + 1 => okb_Mo_balanceDecade_0 p1 p2  (sp_Mo_balanceDecade_0 p1 p2  f)  (ok_Mo_balanceDecade_0 p1 p2   f)
set_option maxRecDepth 100000 in
set_option maxHeartbeats 4000000 in
theorem kb_Mo_balanceDecade_0 {p : Program} {l : Launch} {e : Env} {s : State} {m : MethodId} {args : Array Value} {below : List Frame} {meth : Method} {c : Code} {g : GX} {mo : Nat} {a : Nat → Nat} {ws0 : va_W} {o : IV} {dr : LV} {pa : LV} {sa : LV} {iS : IV} {bu : IV} {tq : IV} {rT : IV} {wT : IV} {sK : IV} {sA : IV} {sB : IV} {sE : IV} {oq : IV} {bS : IV} {bE : IV} {bL : IV} {rp : IV} {p1 : Int32} {p2 : Int32}  (C : Cx p s m args meth c (inW ws0) g "DecadeBridgeModel" b_Mo_balanceDecade (some .int) 5) {r0 : LV → (Int32 × LV)} {q0 : LV → Prop}  (ih0 : HL_Mo_balanceDecade_0 p l e s m args below meth c g mo a ws0 o dr pa sa iS bu tq rT wT sK sA sB sE oq bS bE bL rp p1 p2 r0 q0) : HL_Mo_balanceDecade_0 p l e s m args below meth c g mo a ws0 o dr pa sa iS bu tq rT wT sK sA sB sE oq bS bE bL rp p1 p2 (bd_Mo_balanceDecade_0 p1 p2  r0) (okb_Mo_balanceDecade_0 p1 p2  r0  q0) := by
  intro nowp0 hok z hz H locs ls hP hD hS hl
  obtain ⟨hx, hb, hr, hml, hown, hlk, hts, hK, hZo, hZ⟩ := id C
  unfold bd_Mo_balanceDecade_0 at hz
  unfold okb_Mo_balanceDecade_0 at hok
  refine lv_aload_n hx hb d_Mo_balanceDecade_0 rfl (lv_at hl 0 rfl) ?_
  refine gf C hP 0 0 fkMo rfl (by decide) rfl qf_Mo_7 (gMo_0 _ _) d_Mo_balanceDecade_1 ?_
  refine lv_bipush (v := 33) hx hb d_Mo_balanceDecade_4 (by decide) ?_
  refine lv_iload_n hx hb d_Mo_balanceDecade_6 rfl (lv_at hl 1 rfl) ?_
  refine lv_iadd hx hb d_Mo_balanceDecade_7 ?_
  have hs1 := hok.1
  have hok := hok.2
  refine ldL C hP 1 rfl hs1 rfl d_Mo_balanceDecade_8 ?_
  refine lv_ldc2 hx hb hown (hts _ qk_Mo_238) d_Mo_balanceDecade_9 ?_
  refine lc_ge (tgt := 103) hx hb d_Mo_balanceDecade_12 d_Mo_balanceDecade_13 (by decide) (fun c2 => ?_) (fun c2 => ?_)
  · have hz := hz.trans (if_pos c2)
    refine lv_iconst (v := 0) hx hb d_Mo_balanceDecade_103 (by decide) ?_
    exact endI1 C hz hP hS d_Mo_balanceDecade_104
  · have hz := hz.trans (if_neg c2)
    have hok := hok.2 c2
    refine lv_aload_n hx hb d_Mo_balanceDecade_16 rfl (lv_at hl 0 rfl) ?_
    refine gf C hP 0 0 fkMo rfl (by decide) rfl qf_Mo_7 (gMo_0 _ _) d_Mo_balanceDecade_17 ?_
    refine lv_bipush (v := 33) hx hb d_Mo_balanceDecade_20 (by decide) ?_
    refine lv_iload_n hx hb d_Mo_balanceDecade_22 rfl (lv_at hl 1 rfl) ?_
    refine lv_iadd hx hb d_Mo_balanceDecade_23 ?_
    refine lv_dup2_11 hx hb d_Mo_balanceDecade_24 rfl rfl ?_
    refine ldL C hP 1 rfl hs1 rfl d_Mo_balanceDecade_25 ?_
    refine lv_lconst (v := 1) hx hb d_Mo_balanceDecade_26 (by decide) ?_
    refine lv_ladd hx hb d_Mo_balanceDecade_27 ?_
    refine stL C hP hD hS 1 rfl hs1 rfl d_Mo_balanceDecade_28 (fun now_3 enow_3 H locs hP hD hS => ?_)
    have hP : va_P g.1 vwCl (wMo g mo a o now_3 dr pa sa iS bu tq rT wT sK sA sB sE oq bS bE bL rp) H := hP
    have hD : va_D (inW ws0) (wMo g mo a o now_3 dr pa sa iS bu tq rT wT sK sA sB sE oq bS bE bL rp) := hD
    have hz := lett_z hz enow_3
    have hok := lett_o hok enow_3
    refine lv_aload_n hx hb d_Mo_balanceDecade_29 rfl (lv_at hl 0 rfl) ?_
    have hs4 := hok.1
    have hok := hok.2
    have hB : SubW g (inW ws0) s (wMo g mo a o now_3 dr pa sa iS bu tq rT wT sK sA sB sE oq bS bE bL rp) _ (List.range _) _ _ := (subF hP hD hS)
    refine goI0 hB (run_v C mf_Mo_canRead qm_Mo_234 (c_Mo_canRead l g mo a o now_3 dr pa sa iS bu tq rT wT sK sA sB sE oq bS bE bL rp hs4) rfl rfl ⟨Nat.le_of_ble_eq_true rfl, Nat.le_of_ble_eq_true rfl⟩ ⟨Nat.le_of_ble_eq_true rfl, Nat.le_of_ble_eq_true rfl⟩ hB rfl rfl hl rfl rfl (Nat.le_of_ble_eq_true rfl) d_Mo_balanceDecade_30) (fun y5 ey5 H locs hP hS => ?_)
    have hz := lett_z hz ey5
    have hok := lett_o hok ey5
    refine lv_if_ne (tgt := 38) hx hb d_Mo_balanceDecade_33 (by decide) (fun c6 => ?_) (fun c6 => ?_)
    · have hz := hz.trans (if_neg c6)
      have hok := hok.2 c6
      refine lv_aload_n hx hb d_Mo_balanceDecade_38 rfl (lv_at hl 0 rfl) ?_
      refine lv_iload_n hx hb d_Mo_balanceDecade_39 rfl (lv_at hl 2 rfl) ?_
      have hs7 := hok.1
      have hok := hok.2
      have hB : SubW g (inW ws0) s (wMo g mo a o now_3 dr pa sa iS bu tq rT wT sK sA sB sE oq bS bE bL rp) _ (List.range _) _ _ := (subF hP hD hS)
      refine goLF hB (run_v C mf_Mo_look qm_Mo_240 (c_Mo_look l g mo a o now_3 dr pa sa iS bu tq rT wT sK sA sB sE oq bS bE bL rp p2 hs7) rfl rfl ⟨Nat.le_of_ble_eq_true rfl, Nat.le_of_ble_eq_true rfl⟩ ⟨Nat.le_of_ble_eq_true rfl, Nat.le_of_ble_eq_true rfl⟩ hB rfl rfl hl rfl rfl (Nat.le_of_ble_eq_true rfl) d_Mo_balanceDecade_40) (fun _ => rfl) (fun y8 ey8 H locs hP hD hS => ?_)
      have hP : va_P g.1 vwCl (wMo g mo a o y8.2 dr pa sa iS bu tq rT wT sK sA sB sE oq bS bE bL rp) H := hP
      have hD : va_D (inW ws0) (wMo g mo a o y8.2 dr pa sa iS bu tq rT wT sK sA sB sE oq bS bE bL rp) := hD
      have hz := lett_z hz ey8
      have hok := lett_o hok ey8
      refine lv_lstore_n (lv' := [(3, .long y8.1), (0, .ref mo), (1, .int p1), (2, .int p2)]) hx hb d_Mo_balanceDecade_43 rfl hl (by decide) rfl (fun ls hl => ?_)
      refine lv_aload_n hx hb d_Mo_balanceDecade_44 rfl (lv_at hl 1 rfl) ?_
      refine lv_lload_n hx hb d_Mo_balanceDecade_45 rfl (lv_at hl 0 rfl) ?_
      have hB : SubW g (inW ws0) s (wMo g mo a o y8.2 dr pa sa iS bu tq rT wT sK sA sB sE oq bS bE bL rp) _ (List.range _) _ _ := (subF hP hD hS)
      refine goI0 hB (run_v C mf_Mo_isNull qm_Mo_223 (c_Mo_isNull l g mo a o y8.2 dr pa sa iS bu tq rT wT sK sA sB sE oq bS bE bL rp y8.1) rfl rfl ⟨Nat.le_of_ble_eq_true rfl, Nat.le_of_ble_eq_true rfl⟩ ⟨Nat.le_of_ble_eq_true rfl, Nat.le_of_ble_eq_true rfl⟩ hB rfl rfl hl rfl rfl (Nat.le_of_ble_eq_true rfl) d_Mo_balanceDecade_46) (fun y9 ey9 H locs hP hS => ?_)
      have hz := lett_z hz ey9
      have hok := lett_o hok ey9
      refine lv_if_eq (tgt := 54) hx hb d_Mo_balanceDecade_49 (by decide) (fun c10 => ?_) (fun c10 => ?_)
      · have hz := hz.trans (if_pos c10)
        have hok := hok.1 c10
        refine lv_lload_n hx hb d_Mo_balanceDecade_54 rfl (lv_at hl 0 rfl) ?_
        refine lv_lconst (v := 0) hx hb d_Mo_balanceDecade_55 (by decide) ?_
        refine lc_le (tgt := 64) hx hb d_Mo_balanceDecade_56 d_Mo_balanceDecade_57 (by decide) (fun c11 => ?_) (fun c11 => ?_)
        · have hz := hz.trans (if_pos c11)
          have hok := hok.1 c11
          refine lv_iconst (v := 0) hx hb d_Mo_balanceDecade_64 (by decide) ?_
          exact k_Mo_balanceDecade_65 C ih0 (0 : Int32) hok _ hz _ _ ls hP hD hS (lv_sub hl [1, 2, 3] rfl)
        · have hz := hz.trans (if_neg c11)
          have hok := hok.2 c11
          refine lv_iconst (v := 1) hx hb d_Mo_balanceDecade_60 (by decide) ?_
          refine lv_goto (tgt := 65) hx hb d_Mo_balanceDecade_61 (by decide) ?_
          exact k_Mo_balanceDecade_65 C ih0 (1 : Int32) hok _ hz _ _ ls hP hD hS (lv_sub hl [1, 2, 3] rfl)
      · have hz := hz.trans (if_neg c10)
        refine lv_iconst (v := 1) hx hb d_Mo_balanceDecade_52 (by decide) ?_
        exact endI1 C hz hP hS d_Mo_balanceDecade_53
    · have hz := hz.trans (if_pos c6)
      refine lv_iconst (v := 5) hx hb d_Mo_balanceDecade_36 (by decide) ?_
      exact endI1 C hz hP hS d_Mo_balanceDecade_37
theorem k_Mo_balanceDecade_0 {p : Program} {l : Launch} {e : Env} {s : State} {m : MethodId} {args : Array Value} {below : List Frame} {meth : Method} {c : Code} {g : GX} {mo : Nat} {a : Nat → Nat} {ws0 : va_W} {o : IV} {dr : LV} {pa : LV} {sa : LV} {iS : IV} {bu : IV} {tq : IV} {rT : IV} {wT : IV} {sK : IV} {sA : IV} {sB : IV} {sE : IV} {oq : IV} {bS : IV} {bE : IV} {bL : IV} {rp : IV} {p1 : Int32} {p2 : Int32}  (C : Cx p s m args meth c (inW ws0) g "DecadeBridgeModel" b_Mo_balanceDecade (some .int) 5) (f : Nat)  : HL_Mo_balanceDecade_0 p l e s m args below meth c g mo a ws0 o dr pa sa iS bu tq rT wT sK sA sB sE oq bS bE bL rp p1 p2 (sp_Mo_balanceDecade_0 p1 p2  f) (ok_Mo_balanceDecade_0 p1 p2   f) := by
  induction f with
  | zero => intro nowp0 hok; exact False.elim hok
  | succ f ih => exact kb_Mo_balanceDecade_0 C  ih
noncomputable def sp_Mo_balanceDecade (p1 : Int32) (p2 : Int32) (now : LV) : Int32 × LV := sp_Mo_balanceDecade_0 p1 p2 big now
def ok_Mo_balanceDecade (p1 : Int32) (p2 : Int32) (now : LV) : Prop := ok_Mo_balanceDecade_0 p1 p2 big now
set_option maxRecDepth 100000 in
set_option maxHeartbeats 4000000 in
theorem c_Mo_balanceDecade (l : Launch) (g : GX) (mo : Nat) (a : Nat → Nat) (o : IV) (now : LV) (dr : LV) (pa : LV) (sa : LV) (iS : IV) (bu : IV) (tq : IV) (rT : IV) (wT : IV) (sK : IV) (sA : IV) (sB : IV) (sE : IV) (oq : IV) (bS : IV) (bE : IV) (bL : IV) (rp : IV) (p1 : Int32) (p2 : Int32) (hok : ok_Mo_balanceDecade p1 p2 now) : Met l y_Mo_balanceDecade (wsY y_Mo_balanceDecade b_Mo_balanceDecade 5 (some .int)) rm_Mo_balanceDecade (CP g [.ref mo, .int p1, .int p2] (wMo g mo a o now dr pa sa iS bu tq rT wT sK sA sB sE oq bS bE bL rp)) (CI g (wMo g mo a o now dr pa sa iS bu tq rT wT sK sA sB sE oq bS bE bL rp) (fun u : LV => wMo g mo a o u dr pa sa iS bu tq rT wT sK sA sB sE oq bS bE bL rp) (sp_Mo_balanceDecade p1 p2 now)) 0 0 (inW (wMo g mo a o now dr pa sa iS bu tq rT wT sK sA sB sE oq bS bE bL rp)) := by
  refine Met.ofW (cc := b_Mo_balanceDecade) (maxL := 5) (ret := (some .int)) pn_Mo rfl ?_
  intro p e s m args below meth c s₁ B hml hv
  obtain ⟨rfl, C, hP, hD, hS⟩ := enter "DecadeBridgeModel" rfl B hml hv
  obtain ⟨hx, hb, hr, hml, hown, hlk, hts, hK, hZo, hZ⟩ := id C
  refine entryW (lv := [(0, .ref mo), (1, .int p1), (2, .int p2)]) rfl (Nat.le_of_ble_eq_true rfl) (fun ls hl => ?_)
  obtain ⟨z, hz⟩ : ∃ z, z = sp_Mo_balanceDecade p1 p2 now := ⟨_, rfl⟩
  rw [← hz]
  unfold sp_Mo_balanceDecade at hz
  unfold ok_Mo_balanceDecade at hok
  exact k_Mo_balanceDecade_0 C big now hok _ hz _ _ ls hP hD hS hl
abbrev rm_Mo_correctedBy : Room := { frames := 3, cells := 0, slots := 0, locals := 69 }
def HL_Mo_correctedBy_25 (p : Program) (l : Launch) (e : Env) (s : State) (m : MethodId) (args : Array Value) (below : List Frame) (meth : Method) (c : Code) (g : GX) (mo : Nat) (a : Nat → Nat) (o : IV) (now : LV) (dr : LV) (pa : LV) (sa : LV) (iS : IV) (bu : IV) (tq : IV) (rT : IV) (wT : IV) (sK : IV) (sA : IV) (sB : IV) (sE : IV) (oq : IV) (bS : IV) (bE : IV) (bL : IV) (rp : IV) (p2 : Int64) (p3 : Int64) (p4 : Int64) (y2 : Int64) (sp : Int64 → Int64) (ok : Int64 → Prop) : Prop := ∀ (t1p25 : Int64), ok t1p25 → ∀ z : Int64, z = sp t1p25 → ∀ (H : Heap) (locs : List Loc) (ls : Array Slot), va_P g.1 vwCl (wMo g mo a o now dr pa sa iS bu tq rT wT sK sA sB sE oq bS bE bL rp) H → va_D (inW (wMo g mo a o now dr pa sa iS bu tq rT wT sK sA sB sE oq bS bE bL rp)) (wMo g mo a o now dr pa sa iS bu tq rT wT sK sA sB sE oq bS bE bL rp) → va_S (inW (wMo g mo a o now dr pa sa iS bu tq rT wT sK sA sB sE oq bS bE bL rp)) s.heap H locs → lv_has ls 10 [(0, .ref mo), (2, .long p2), (4, .long p3), (6, .long p4)] → W p l e rm_Mo_correctedBy s m args below meth c H locs 0 0 (MQ below (CL0 g (wMo g mo a o now dr pa sa iS bu tq rT wT sK sA sB sE oq bS bE bL rp) z) args s 0 0 (inW (wMo g mo a o now dr pa sa iS bu tq rT wT sK sA sB sE oq bS bE bL rp))) (F0 m 25 ls [.long t1p25, .long y2])
def HL_Mo_correctedBy_71 (p : Program) (l : Launch) (e : Env) (s : State) (m : MethodId) (args : Array Value) (below : List Frame) (meth : Method) (c : Code) (g : GX) (mo : Nat) (a : Nat → Nat) (o : IV) (now : LV) (dr : LV) (pa : LV) (sa : LV) (iS : IV) (bu : IV) (tq : IV) (rT : IV) (wT : IV) (sK : IV) (sA : IV) (sB : IV) (sE : IV) (oq : IV) (bS : IV) (bE : IV) (bL : IV) (rp : IV) (v4 : Int64) (y6 : Int64) (y8 : Int64) (sp : Int64 → Int64) (ok : Int64 → Prop) : Prop := ∀ (t1p71 : Int64), ok t1p71 → ∀ z : Int64, z = sp t1p71 → ∀ (H : Heap) (locs : List Loc) (ls : Array Slot), va_P g.1 vwCl (wMo g mo a o now dr pa sa iS bu tq rT wT sK sA sB sE oq bS bE bL rp) H → va_D (inW (wMo g mo a o now dr pa sa iS bu tq rT wT sK sA sB sE oq bS bE bL rp)) (wMo g mo a o now dr pa sa iS bu tq rT wT sK sA sB sE oq bS bE bL rp) → va_S (inW (wMo g mo a o now dr pa sa iS bu tq rT wT sK sA sB sE oq bS bE bL rp)) s.heap H locs → lv_has ls 10 [] → W p l e rm_Mo_correctedBy s m args below meth c H locs 0 0 (MQ below (CL0 g (wMo g mo a o now dr pa sa iS bu tq rT wT sK sA sB sE oq bS bE bL rp) z) args s 0 0 (inW (wMo g mo a o now dr pa sa iS bu tq rT wT sK sA sB sE oq bS bE bL rp))) (F0 m 71 ls [.long t1p71, .long (((v4 * y6) / y8) - (now 19))])
noncomputable def sp_Mo_correctedBy_71 (v4 : Int64) (y6 : Int64) (y8 : Int64) (now : LV)  (t1p71 : Int64) : Int64 := (((v4 * y6) / y8) - (now 19)) - t1p71
def ok_Mo_correctedBy_71 (v4 : Int64) (y6 : Int64) (y8 : Int64) (now : LV)   (t1p71 : Int64) : Prop := True
set_option maxRecDepth 100000 in
set_option maxHeartbeats 4000000 in
theorem k_Mo_correctedBy_71 {p : Program} {l : Launch} {e : Env} {s : State} {m : MethodId} {args : Array Value} {below : List Frame} {meth : Method} {c : Code} {g : GX} {mo : Nat} {a : Nat → Nat} {o : IV} {now : LV} {dr : LV} {pa : LV} {sa : LV} {iS : IV} {bu : IV} {tq : IV} {rT : IV} {wT : IV} {sK : IV} {sA : IV} {sB : IV} {sE : IV} {oq : IV} {bS : IV} {bE : IV} {bL : IV} {rp : IV} {v4 : Int64} {y6 : Int64} {y8 : Int64}  (C : Cx p s m args meth c (inW (wMo g mo a o now dr pa sa iS bu tq rT wT sK sA sB sE oq bS bE bL rp)) g "DecadeBridgeModel" b_Mo_correctedBy (some .long) 10)  : HL_Mo_correctedBy_71 p l e s m args below meth c g mo a o now dr pa sa iS bu tq rT wT sK sA sB sE oq bS bE bL rp v4 y6 y8 (sp_Mo_correctedBy_71 v4 y6 y8 now ) (ok_Mo_correctedBy_71 v4 y6 y8 now  ) := by
  intro t1p71 hok z hz H locs ls hP hD hS hl
  obtain ⟨hx, hb, hr, hml, hown, hlk, hts, hK, hZo, hZ⟩ := id C
  unfold sp_Mo_correctedBy_71 at hz
  refine lv_lsub hx hb d_Mo_correctedBy_71 ?_
  exact endL0 C hz hP hS d_Mo_correctedBy_72
noncomputable def sp_Mo_correctedBy_25 (y2 : Int64) (p3 : Int64) (now : LV) (p2 : Int64) (p4 : Int64)  (t1p25 : Int64) : Int64 := lett (y2 + t1p25) fun (v4 : Int64) => lett (sp_Mo_ohmsOf p3 now) fun (y6 : Int64) => lett (sp_Mo_ohmsOf p2 now) fun (y8 : Int64) => if p4 = (2 : Int64) then (sp_Mo_correctedBy_71 v4 y6 y8 now (now 20)) else (sp_Mo_correctedBy_71 v4 y6 y8 now (0 : Int64))
def ok_Mo_correctedBy_25 (y2 : Int64) (p3 : Int64) (now : LV) (p2 : Int64) (p4 : Int64)   (t1p25 : Int64) : Prop := lett (y2 + t1p25) fun (v4 : Int64) => (ok_Mo_ohmsOf p3) ∧ lett (sp_Mo_ohmsOf p3 now) fun (y6 : Int64) => (ok_Mo_ohmsOf p2) ∧ lett (sp_Mo_ohmsOf p2 now) fun (y8 : Int64) => (¬ y8 = 0) ∧ True
set_option maxRecDepth 100000 in
set_option maxHeartbeats 4000000 in
theorem k_Mo_correctedBy_25 {p : Program} {l : Launch} {e : Env} {s : State} {m : MethodId} {args : Array Value} {below : List Frame} {meth : Method} {c : Code} {g : GX} {mo : Nat} {a : Nat → Nat} {o : IV} {now : LV} {dr : LV} {pa : LV} {sa : LV} {iS : IV} {bu : IV} {tq : IV} {rT : IV} {wT : IV} {sK : IV} {sA : IV} {sB : IV} {sE : IV} {oq : IV} {bS : IV} {bE : IV} {bL : IV} {rp : IV} {p2 : Int64} {p3 : Int64} {p4 : Int64} {y2 : Int64}  (C : Cx p s m args meth c (inW (wMo g mo a o now dr pa sa iS bu tq rT wT sK sA sB sE oq bS bE bL rp)) g "DecadeBridgeModel" b_Mo_correctedBy (some .long) 10)  : HL_Mo_correctedBy_25 p l e s m args below meth c g mo a o now dr pa sa iS bu tq rT wT sK sA sB sE oq bS bE bL rp p2 p3 p4 y2 (sp_Mo_correctedBy_25 y2 p3 now p2 p4 ) (ok_Mo_correctedBy_25 y2 p3 now p2 p4  ) := by
  intro t1p25 hok z hz H locs ls hP hD hS hl
  obtain ⟨hx, hb, hr, hml, hown, hlk, hts, hK, hZo, hZ⟩ := id C
  unfold sp_Mo_correctedBy_25 at hz
  unfold ok_Mo_correctedBy_25 at hok
  refine lv_ladd hx hb d_Mo_correctedBy_25 ?_
  refine lv_topl (fun v4 ev4 => ?_)
  have hz := lett_z hz ev4
  have hok := lett_o hok ev4
  refine lv_lstore (lv' := [(8, .long v4), (0, .ref mo), (2, .long p2), (4, .long p3), (6, .long p4)]) hx hb d_Mo_correctedBy_26 hl (by decide) rfl (fun ls hl => ?_)
  refine lv_lload hx hb d_Mo_correctedBy_28 (lv_at hl 0 rfl) ?_
  refine lv_aload_n hx hb d_Mo_correctedBy_30 rfl (lv_at hl 1 rfl) ?_
  refine lv_lload hx hb d_Mo_correctedBy_31 (lv_at hl 3 rfl) ?_
  have hs5 := hok.1
  have hok := hok.2
  have hB : SubW g (inW (wMo g mo a o now dr pa sa iS bu tq rT wT sK sA sB sE oq bS bE bL rp)) s (wMo g mo a o now dr pa sa iS bu tq rT wT sK sA sB sE oq bS bE bL rp) _ (List.range _) _ _ := (subF hP hD hS)
  refine goL0 hB (run_v C mf_Mo_ohmsOf qm_Mo_162 (c_Mo_ohmsOf l g mo a o now dr pa sa iS bu tq rT wT sK sA sB sE oq bS bE bL rp p3 hs5) rfl rfl ⟨Nat.le_of_ble_eq_true rfl, Nat.le_of_ble_eq_true rfl⟩ ⟨Nat.le_of_ble_eq_true rfl, Nat.le_of_ble_eq_true rfl⟩ hB rfl rfl hl rfl rfl (Nat.le_of_ble_eq_true rfl) d_Mo_correctedBy_33) (fun y6 ey6 H locs hP hS => ?_)
  have hz := lett_z hz ey6
  have hok := lett_o hok ey6
  refine lv_lmul hx hb d_Mo_correctedBy_36 ?_
  refine lv_aload_n hx hb d_Mo_correctedBy_37 rfl (lv_at hl 1 rfl) ?_
  refine lv_lload_n hx hb d_Mo_correctedBy_38 rfl (lv_at hl 2 rfl) ?_
  have hs7 := hok.1
  have hok := hok.2
  have hB : SubW g (inW (wMo g mo a o now dr pa sa iS bu tq rT wT sK sA sB sE oq bS bE bL rp)) s (wMo g mo a o now dr pa sa iS bu tq rT wT sK sA sB sE oq bS bE bL rp) _ (List.range _) _ _ := (subF hP hD hS)
  refine goL0 hB (run_v C mf_Mo_ohmsOf qm_Mo_162 (c_Mo_ohmsOf l g mo a o now dr pa sa iS bu tq rT wT sK sA sB sE oq bS bE bL rp p2 hs7) rfl rfl ⟨Nat.le_of_ble_eq_true rfl, Nat.le_of_ble_eq_true rfl⟩ ⟨Nat.le_of_ble_eq_true rfl, Nat.le_of_ble_eq_true rfl⟩ hB rfl rfl hl rfl rfl (Nat.le_of_ble_eq_true rfl) d_Mo_correctedBy_39) (fun y8 ey8 H locs hP hS => ?_)
  have hz := lett_z hz ey8
  have hok := lett_o hok ey8
  have hs9 := hok.1
  have hok := hok.2
  refine lv_ldiv hx hb d_Mo_correctedBy_42 hs9 ?_
  refine lv_aload_n hx hb d_Mo_correctedBy_43 rfl (lv_at hl 1 rfl) ?_
  refine gf C hP 0 0 fkMo rfl (by decide) rfl qf_Mo_7 (gMo_0 _ _) d_Mo_correctedBy_44 ?_
  refine lv_bipush (v := 19) hx hb d_Mo_correctedBy_47 (by decide) ?_
  refine ldL C hP 1 rfl vi_19_215 cn_19 d_Mo_correctedBy_49 ?_
  refine lv_lsub hx hb d_Mo_correctedBy_50 ?_
  refine lv_lload hx hb d_Mo_correctedBy_51 (lv_at hl 4 rfl) ?_
  refine lv_ldc2 hx hb hown (hts _ qk_Mo_100) d_Mo_correctedBy_53 ?_
  refine lc_ne (tgt := 70) hx hb d_Mo_correctedBy_56 d_Mo_correctedBy_57 (by decide) (fun c10 => ?_) (fun c10 => ?_)
  · have hz := hz.trans (if_neg c10)
    refine lv_lconst (v := 0) hx hb d_Mo_correctedBy_70 (by decide) ?_
    exact k_Mo_correctedBy_71 C (0 : Int64) trivial _ hz _ _ ls hP hD hS (lv_sub hl [] rfl)
  · have hz := hz.trans (if_pos c10)
    refine lv_aload_n hx hb d_Mo_correctedBy_60 rfl (lv_at hl 1 rfl) ?_
    refine gf C hP 0 0 fkMo rfl (by decide) rfl qf_Mo_7 (gMo_0 _ _) d_Mo_correctedBy_61 ?_
    refine lv_bipush (v := 20) hx hb d_Mo_correctedBy_64 (by decide) ?_
    refine ldL C hP 1 rfl vi_20_215 cn_20 d_Mo_correctedBy_66 ?_
    refine lv_goto (tgt := 71) hx hb d_Mo_correctedBy_67 (by decide) ?_
    exact k_Mo_correctedBy_71 C (now 20) trivial _ hz _ _ ls hP hD hS (lv_sub hl [] rfl)
noncomputable def sp_Mo_correctedBy (p1 : Int32) (p2 : Int64) (p3 : Int64) (p4 : Int64) (now : LV) : Int64 := lett (sp_Mo_coldBy p1 now) fun (y2 : Int64) => if p4 = (3 : Int64) then (sp_Mo_correctedBy_25 y2 p3 now p2 p4 (now 20)) else (sp_Mo_correctedBy_25 y2 p3 now p2 p4 (0 : Int64))
def ok_Mo_correctedBy (p1 : Int32) (p2 : Int64) (p3 : Int64) (p4 : Int64) (now : LV) : Prop := (ok_Mo_coldBy p1 now) ∧ lett (sp_Mo_coldBy p1 now) fun (y2 : Int64) => ((p4 = (3 : Int64) → ok_Mo_correctedBy_25 y2 p3 now p2 p4 (now 20)) ∧ (¬ (p4 = (3 : Int64)) → ok_Mo_correctedBy_25 y2 p3 now p2 p4 (0 : Int64)))
set_option maxRecDepth 100000 in
set_option maxHeartbeats 4000000 in
theorem c_Mo_correctedBy (l : Launch) (g : GX) (mo : Nat) (a : Nat → Nat) (o : IV) (now : LV) (dr : LV) (pa : LV) (sa : LV) (iS : IV) (bu : IV) (tq : IV) (rT : IV) (wT : IV) (sK : IV) (sA : IV) (sB : IV) (sE : IV) (oq : IV) (bS : IV) (bE : IV) (bL : IV) (rp : IV) (p1 : Int32) (p2 : Int64) (p3 : Int64) (p4 : Int64) (hok : ok_Mo_correctedBy p1 p2 p3 p4 now) : Met l y_Mo_correctedBy (wsY y_Mo_correctedBy b_Mo_correctedBy 10 (some .long)) rm_Mo_correctedBy (CP g [.ref mo, .int p1, .long p2, .long p3, .long p4] (wMo g mo a o now dr pa sa iS bu tq rT wT sK sA sB sE oq bS bE bL rp)) (CL0 g (wMo g mo a o now dr pa sa iS bu tq rT wT sK sA sB sE oq bS bE bL rp) (sp_Mo_correctedBy p1 p2 p3 p4 now)) 0 0 (inW (wMo g mo a o now dr pa sa iS bu tq rT wT sK sA sB sE oq bS bE bL rp)) := by
  refine Met.ofW (cc := b_Mo_correctedBy) (maxL := 10) (ret := (some .long)) pn_Mo rfl ?_
  intro p e s m args below meth c s₁ B hml hv
  obtain ⟨rfl, C, hP, hD, hS⟩ := enter "DecadeBridgeModel" rfl B hml hv
  obtain ⟨hx, hb, hr, hml, hown, hlk, hts, hK, hZo, hZ⟩ := id C
  refine entryW (lv := [(0, .ref mo), (1, .int p1), (2, .long p2), (4, .long p3), (6, .long p4)]) rfl (Nat.le_of_ble_eq_true rfl) (fun ls hl => ?_)
  obtain ⟨z, hz⟩ : ∃ z, z = sp_Mo_correctedBy p1 p2 p3 p4 now := ⟨_, rfl⟩
  rw [← hz]
  unfold sp_Mo_correctedBy at hz
  unfold ok_Mo_correctedBy at hok
  refine lv_aload_n hx hb d_Mo_correctedBy_0 rfl (lv_at hl 0 rfl) ?_
  refine lv_iload_n hx hb d_Mo_correctedBy_1 rfl (lv_at hl 1 rfl) ?_
  have hs1 := hok.1
  have hok := hok.2
  have hB : SubW g (inW (wMo g mo a o now dr pa sa iS bu tq rT wT sK sA sB sE oq bS bE bL rp)) s (wMo g mo a o now dr pa sa iS bu tq rT wT sK sA sB sE oq bS bE bL rp) _ (List.range _) _ _ := (subF hP hD hS)
  refine goL0 hB (run_v C mf_Mo_coldBy qm_Mo_143 (c_Mo_coldBy l g mo a o now dr pa sa iS bu tq rT wT sK sA sB sE oq bS bE bL rp p1 hs1) rfl rfl ⟨Nat.le_of_ble_eq_true rfl, Nat.le_of_ble_eq_true rfl⟩ ⟨Nat.le_of_ble_eq_true rfl, Nat.le_of_ble_eq_true rfl⟩ hB rfl rfl hl rfl rfl (Nat.le_of_ble_eq_true rfl) d_Mo_correctedBy_2) (fun y2 ey2 H locs hP hS => ?_)
  have hz := lett_z hz ey2
  have hok := lett_o hok ey2
  refine lv_lload hx hb d_Mo_correctedBy_5 (lv_at hl 4 rfl) ?_
  refine lv_ldc2 hx hb hown (hts _ qk_Mo_153) d_Mo_correctedBy_7 ?_
  refine lc_ne (tgt := 24) hx hb d_Mo_correctedBy_10 d_Mo_correctedBy_11 (by decide) (fun c3 => ?_) (fun c3 => ?_)
  · have hz := hz.trans (if_neg c3)
    have hok := hok.2 c3
    refine lv_lconst (v := 0) hx hb d_Mo_correctedBy_24 (by decide) ?_
    exact k_Mo_correctedBy_25 C (0 : Int64) hok _ hz _ _ ls hP hD hS (lv_sub hl [0, 2, 3, 4] rfl)
  · have hz := hz.trans (if_pos c3)
    have hok := hok.1 c3
    refine lv_aload_n hx hb d_Mo_correctedBy_14 rfl (lv_at hl 0 rfl) ?_
    refine gf C hP 0 0 fkMo rfl (by decide) rfl qf_Mo_7 (gMo_0 _ _) d_Mo_correctedBy_15 ?_
    refine lv_bipush (v := 20) hx hb d_Mo_correctedBy_18 (by decide) ?_
    refine ldL C hP 1 rfl vi_20_215 cn_20 d_Mo_correctedBy_20 ?_
    refine lv_goto (tgt := 25) hx hb d_Mo_correctedBy_21 (by decide) ?_
    exact k_Mo_correctedBy_25 C (now 20) hok _ hz _ _ ls hP hD hS (lv_sub hl [0, 2, 3, 4] rfl)
abbrev rm_Mo_ofResult : Room := { frames := 0, cells := 0, slots := 0, locals := 0 }
noncomputable def sp_Mo_ofResult (p1 : Int32) (p2 : Int32) (now : LV) : Int64 := now (((55 : Int32) + ((8 : Int32) * p1)) + p2).toNatClampNeg
def ok_Mo_ofResult (p1 : Int32) (p2 : Int32) : Prop := (vp_in (((55 : Int32) + ((8 : Int32) * p1)) + p2) 215) ∧ True
set_option maxRecDepth 100000 in
set_option maxHeartbeats 4000000 in
theorem c_Mo_ofResult (l : Launch) (g : GX) (mo : Nat) (a : Nat → Nat) (o : IV) (now : LV) (dr : LV) (pa : LV) (sa : LV) (iS : IV) (bu : IV) (tq : IV) (rT : IV) (wT : IV) (sK : IV) (sA : IV) (sB : IV) (sE : IV) (oq : IV) (bS : IV) (bE : IV) (bL : IV) (rp : IV) (p1 : Int32) (p2 : Int32) (hok : ok_Mo_ofResult p1 p2) : Met l y_Mo_ofResult (wsY y_Mo_ofResult b_Mo_ofResult 3 (some .long)) rm_Mo_ofResult (CP g [.ref mo, .int p1, .int p2] (wMo g mo a o now dr pa sa iS bu tq rT wT sK sA sB sE oq bS bE bL rp)) (CL0 g (wMo g mo a o now dr pa sa iS bu tq rT wT sK sA sB sE oq bS bE bL rp) (sp_Mo_ofResult p1 p2 now)) 0 0 (inW (wMo g mo a o now dr pa sa iS bu tq rT wT sK sA sB sE oq bS bE bL rp)) := by
  refine Met.ofW (cc := b_Mo_ofResult) (maxL := 3) (ret := (some .long)) pn_Mo rfl ?_
  intro p e s m args below meth c s₁ B hml hv
  obtain ⟨rfl, C, hP, hD, hS⟩ := enter "DecadeBridgeModel" rfl B hml hv
  obtain ⟨hx, hb, hr, hml, hown, hlk, hts, hK, hZo, hZ⟩ := id C
  refine entryW (lv := [(0, .ref mo), (1, .int p1), (2, .int p2)]) rfl (Nat.le_of_ble_eq_true rfl) (fun ls hl => ?_)
  obtain ⟨z, hz⟩ : ∃ z, z = sp_Mo_ofResult p1 p2 now := ⟨_, rfl⟩
  rw [← hz]
  unfold sp_Mo_ofResult at hz
  unfold ok_Mo_ofResult at hok
  refine lv_aload_n hx hb d_Mo_ofResult_0 rfl (lv_at hl 0 rfl) ?_
  refine gf C hP 0 0 fkMo rfl (by decide) rfl qf_Mo_7 (gMo_0 _ _) d_Mo_ofResult_1 ?_
  refine lv_bipush (v := 55) hx hb d_Mo_ofResult_4 (by decide) ?_
  refine lv_bipush (v := 8) hx hb d_Mo_ofResult_6 (by decide) ?_
  refine lv_iload_n hx hb d_Mo_ofResult_8 rfl (lv_at hl 1 rfl) ?_
  refine lv_imul hx hb d_Mo_ofResult_9 ?_
  refine lv_iadd hx hb d_Mo_ofResult_10 ?_
  refine lv_iload_n hx hb d_Mo_ofResult_11 rfl (lv_at hl 2 rfl) ?_
  refine lv_iadd hx hb d_Mo_ofResult_12 ?_
  have hs1 := hok.1
  have hok := hok.2
  refine ldL C hP 1 rfl hs1 rfl d_Mo_ofResult_13 ?_
  exact endL0 C hz hP hS d_Mo_ofResult_14
