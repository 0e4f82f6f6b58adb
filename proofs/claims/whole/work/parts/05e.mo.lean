abbrev rm_Mo_current : Room := { frames := 6, cells := 0, slots := 0, locals := 133 }
noncomputable def sp_Mo_current (o : IV) (now : LV) : Int64 × IV := lett (upd o 6 (0 : Int32)) fun (o_1 : IV) => lett (sp_Mo_currentNow now) fun (y3 : Int64) => (y3, o_1)
def ok_Mo_current (o : IV) (now : LV) : Prop := lett (upd o 6 (0 : Int32)) fun (o_1 : IV) => (ok_Mo_currentNow now) ∧ True
set_option maxRecDepth 100000 in
set_option maxHeartbeats 4000000 in
theorem c_Mo_current (l : Launch) (g : GX) (mo : Nat) (a : Nat → Nat) (o : IV) (now : LV) (dr : LV) (pa : LV) (sa : LV) (iS : IV) (bu : IV) (tq : IV) (rT : IV) (wT : IV) (wo : Nat → Option Nat) (sK : IV) (sA : IV) (sB : IV) (sE : IV) (oq : IV) (bS : IV) (bE : IV) (bL : IV) (rp : IV)  (hok : ok_Mo_current o now) : Met l y_Mo_current (wsY y_Mo_current b_Mo_current 1 (some .long)) rm_Mo_current (CP g [.ref mo] (wMo g mo a o now dr pa sa iS bu tq rT wT wo sK sA sB sE oq bS bE bL rp)) (CL g (wMo g mo a o now dr pa sa iS bu tq rT wT wo sK sA sB sE oq bS bE bL rp) (fun u : IV => wMo g mo a u now dr pa sa iS bu tq rT wT wo sK sA sB sE oq bS bE bL rp) (sp_Mo_current o now)) 0 0 (inW (wMo g mo a o now dr pa sa iS bu tq rT wT wo sK sA sB sE oq bS bE bL rp)) := by
  refine Met.ofW (cc := b_Mo_current) (maxL := 1) (ret := (some .long)) pn_Mo rfl ?_
  intro p e s m args below meth c s₁ B hml hv
  obtain ⟨rfl, C, hP, hD, hS⟩ := enter "DecadeBridgeModel" rfl B hml hv
  obtain ⟨hx, hb, hr, hml, hown, hlk, hts, hK, hZo, hZ⟩ := id C
  refine entryW (lv := [(0, .ref mo)]) rfl (Nat.le_of_ble_eq_true rfl) (fun ls hl => ?_)
  obtain ⟨z, hz⟩ : ∃ z, z = sp_Mo_current o now := ⟨_, rfl⟩
  rw [← hz]
  unfold sp_Mo_current at hz
  unfold ok_Mo_current at hok
  refine lv_aload_n hx hb d_Mo_current_0 rfl (lv_at hl 0 rfl) ?_
  refine lv_iconst (v := 0) hx hb d_Mo_current_1 (by decide) ?_
  refine pfI C hP hD hS 0 6 fkMo rfl (by decide) rfl qf_Mo_107 rfl rfl rfl (Nat.le_of_ble_eq_true rfl) (ff := fun o => fMo a o) (sMo_6 _ _ _) d_Mo_current_2 (fun o_1 eo_1 H locs hP hD hS => ?_)
  have hP : va_P g.1 vwCl (wMo g mo a o_1 now dr pa sa iS bu tq rT wT wo sK sA sB sE oq bS bE bL rp) H := hP
  have hD : va_D (inW (wMo g mo a o now dr pa sa iS bu tq rT wT wo sK sA sB sE oq bS bE bL rp)) (wMo g mo a o_1 now dr pa sa iS bu tq rT wT wo sK sA sB sE oq bS bE bL rp) := hD
  have hz := lett_z hz eo_1
  have hok := lett_o hok eo_1
  refine lv_aload_n hx hb d_Mo_current_5 rfl (lv_at hl 0 rfl) ?_
  have hs2 := hok.1
  have hok := hok.2
  have hB : SubW g (inW (wMo g mo a o now dr pa sa iS bu tq rT wT wo sK sA sB sE oq bS bE bL rp)) s (wMo g mo a o_1 now dr pa sa iS bu tq rT wT wo sK sA sB sE oq bS bE bL rp) _ (List.range _) _ _ := (subF hP hD hS)
  refine goL0 hB (run_v C mf_Mo_currentNow qm_Mo_182 (c_Mo_currentNow l g mo a o_1 now dr pa sa iS bu tq rT wT wo sK sA sB sE oq bS bE bL rp hs2) rfl rfl ⟨Nat.le_of_ble_eq_true rfl, Nat.le_of_ble_eq_true rfl⟩ ⟨Nat.le_of_ble_eq_true rfl, Nat.le_of_ble_eq_true rfl⟩ hB rfl rfl hl rfl rfl (Nat.le_of_ble_eq_true rfl) d_Mo_current_6) (fun y3 ey3 H locs hP hS => ?_)
  have hz := lett_z hz ey3
  exact endL1 C hz hP hS d_Mo_current_9
abbrev rm_Mo_power : Room := { frames := 7, cells := 0, slots := 0, locals := 156 }
noncomputable def sp_Mo_power (p1 : Int32) (o : IV) (now : LV) : Int64 × IV := lett (upd o 6 (0 : Int32)) fun (o_1 : IV) => lett (sp_Mo_powerOf p1 now) fun (y3 : Int64) => (y3, o_1)
def ok_Mo_power (p1 : Int32) (o : IV) (now : LV) : Prop := lett (upd o 6 (0 : Int32)) fun (o_1 : IV) => (ok_Mo_powerOf p1 now) ∧ True
set_option maxRecDepth 100000 in
set_option maxHeartbeats 4000000 in
theorem c_Mo_power (l : Launch) (g : GX) (mo : Nat) (a : Nat → Nat) (o : IV) (now : LV) (dr : LV) (pa : LV) (sa : LV) (iS : IV) (bu : IV) (tq : IV) (rT : IV) (wT : IV) (wo : Nat → Option Nat) (sK : IV) (sA : IV) (sB : IV) (sE : IV) (oq : IV) (bS : IV) (bE : IV) (bL : IV) (rp : IV) (p1 : Int32) (hok : ok_Mo_power p1 o now) : Met l y_Mo_power (wsY y_Mo_power b_Mo_power 2 (some .long)) rm_Mo_power (CP g [.ref mo, .int p1] (wMo g mo a o now dr pa sa iS bu tq rT wT wo sK sA sB sE oq bS bE bL rp)) (CL g (wMo g mo a o now dr pa sa iS bu tq rT wT wo sK sA sB sE oq bS bE bL rp) (fun u : IV => wMo g mo a u now dr pa sa iS bu tq rT wT wo sK sA sB sE oq bS bE bL rp) (sp_Mo_power p1 o now)) 0 0 (inW (wMo g mo a o now dr pa sa iS bu tq rT wT wo sK sA sB sE oq bS bE bL rp)) := by
  refine Met.ofW (cc := b_Mo_power) (maxL := 2) (ret := (some .long)) pn_Mo rfl ?_
  intro p e s m args below meth c s₁ B hml hv
  obtain ⟨rfl, C, hP, hD, hS⟩ := enter "DecadeBridgeModel" rfl B hml hv
  obtain ⟨hx, hb, hr, hml, hown, hlk, hts, hK, hZo, hZ⟩ := id C
  refine entryW (lv := [(0, .ref mo), (1, .int p1)]) rfl (Nat.le_of_ble_eq_true rfl) (fun ls hl => ?_)
  obtain ⟨z, hz⟩ : ∃ z, z = sp_Mo_power p1 o now := ⟨_, rfl⟩
  rw [← hz]
  unfold sp_Mo_power at hz
  unfold ok_Mo_power at hok
  refine lv_aload_n hx hb d_Mo_power_0 rfl (lv_at hl 0 rfl) ?_
  refine lv_iconst (v := 0) hx hb d_Mo_power_1 (by decide) ?_
  refine pfI C hP hD hS 0 6 fkMo rfl (by decide) rfl qf_Mo_107 rfl rfl rfl (Nat.le_of_ble_eq_true rfl) (ff := fun o => fMo a o) (sMo_6 _ _ _) d_Mo_power_2 (fun o_1 eo_1 H locs hP hD hS => ?_)
  have hP : va_P g.1 vwCl (wMo g mo a o_1 now dr pa sa iS bu tq rT wT wo sK sA sB sE oq bS bE bL rp) H := hP
  have hD : va_D (inW (wMo g mo a o now dr pa sa iS bu tq rT wT wo sK sA sB sE oq bS bE bL rp)) (wMo g mo a o_1 now dr pa sa iS bu tq rT wT wo sK sA sB sE oq bS bE bL rp) := hD
  have hz := lett_z hz eo_1
  have hok := lett_o hok eo_1
  refine lv_aload_n hx hb d_Mo_power_5 rfl (lv_at hl 0 rfl) ?_
  refine lv_iload_n hx hb d_Mo_power_6 rfl (lv_at hl 1 rfl) ?_
  have hs2 := hok.1
  have hok := hok.2
  have hB : SubW g (inW (wMo g mo a o now dr pa sa iS bu tq rT wT wo sK sA sB sE oq bS bE bL rp)) s (wMo g mo a o_1 now dr pa sa iS bu tq rT wT wo sK sA sB sE oq bS bE bL rp) _ (List.range _) _ _ := (subF hP hD hS)
  refine goL0 hB (run_v C mf_Mo_powerOf qm_Mo_198 (c_Mo_powerOf l g mo a o_1 now dr pa sa iS bu tq rT wT wo sK sA sB sE oq bS bE bL rp p1 hs2) rfl rfl ⟨Nat.le_of_ble_eq_true rfl, Nat.le_of_ble_eq_true rfl⟩ ⟨Nat.le_of_ble_eq_true rfl, Nat.le_of_ble_eq_true rfl⟩ hB rfl rfl hl rfl rfl (Nat.le_of_ble_eq_true rfl) d_Mo_power_7) (fun y3 ey3 H locs hP hS => ?_)
  have hz := lett_z hz ey3
  exact endL1 C hz hP hS d_Mo_power_10
abbrev rm_Mo_whyNot : Room := { frames := 7, cells := 0, slots := 0, locals := 153 }
noncomputable def sp_Mo_whyNot (o : IV) (now : LV) : Int32 × IV := lett (upd o 6 (0 : Int32)) fun (o_1 : IV) => if (now 22) = (0 : Int64) then (((1 : Int32), o_1)) else (lett (sp_Mo_canRead now) fun (y4 : Int32) => if y4 = 0 then (((2 : Int32), o_1)) else (((0 : Int32), o_1)))
def ok_Mo_whyNot (o : IV) (now : LV) : Prop := lett (upd o 6 (0 : Int32)) fun (o_1 : IV) => (((now 22) = (0 : Int64) → True) ∧ (¬ ((now 22) = (0 : Int64)) → (ok_Mo_canRead now) ∧ True))
set_option maxRecDepth 100000 in
set_option maxHeartbeats 4000000 in
theorem c_Mo_whyNot (l : Launch) (g : GX) (mo : Nat) (a : Nat → Nat) (o : IV) (now : LV) (dr : LV) (pa : LV) (sa : LV) (iS : IV) (bu : IV) (tq : IV) (rT : IV) (wT : IV) (wo : Nat → Option Nat) (sK : IV) (sA : IV) (sB : IV) (sE : IV) (oq : IV) (bS : IV) (bE : IV) (bL : IV) (rp : IV)  (hok : ok_Mo_whyNot o now) : Met l y_Mo_whyNot (wsY y_Mo_whyNot b_Mo_whyNot 1 (some .int)) rm_Mo_whyNot (CP g [.ref mo] (wMo g mo a o now dr pa sa iS bu tq rT wT wo sK sA sB sE oq bS bE bL rp)) (CI g (wMo g mo a o now dr pa sa iS bu tq rT wT wo sK sA sB sE oq bS bE bL rp) (fun u : IV => wMo g mo a u now dr pa sa iS bu tq rT wT wo sK sA sB sE oq bS bE bL rp) (sp_Mo_whyNot o now)) 0 0 (inW (wMo g mo a o now dr pa sa iS bu tq rT wT wo sK sA sB sE oq bS bE bL rp)) := by
  refine Met.ofW (cc := b_Mo_whyNot) (maxL := 1) (ret := (some .int)) pn_Mo rfl ?_
  intro p e s m args below meth c s₁ B hml hv
  obtain ⟨rfl, C, hP, hD, hS⟩ := enter "DecadeBridgeModel" rfl B hml hv
  obtain ⟨hx, hb, hr, hml, hown, hlk, hts, hK, hZo, hZ⟩ := id C
  refine entryW (lv := [(0, .ref mo)]) rfl (Nat.le_of_ble_eq_true rfl) (fun ls hl => ?_)
  obtain ⟨z, hz⟩ : ∃ z, z = sp_Mo_whyNot o now := ⟨_, rfl⟩
  rw [← hz]
  unfold sp_Mo_whyNot at hz
  unfold ok_Mo_whyNot at hok
  refine lv_aload_n hx hb d_Mo_whyNot_0 rfl (lv_at hl 0 rfl) ?_
  refine lv_iconst (v := 0) hx hb d_Mo_whyNot_1 (by decide) ?_
  refine pfI C hP hD hS 0 6 fkMo rfl (by decide) rfl qf_Mo_107 rfl rfl rfl (Nat.le_of_ble_eq_true rfl) (ff := fun o => fMo a o) (sMo_6 _ _ _) d_Mo_whyNot_2 (fun o_1 eo_1 H locs hP hD hS => ?_)
  have hP : va_P g.1 vwCl (wMo g mo a o_1 now dr pa sa iS bu tq rT wT wo sK sA sB sE oq bS bE bL rp) H := hP
  have hD : va_D (inW (wMo g mo a o now dr pa sa iS bu tq rT wT wo sK sA sB sE oq bS bE bL rp)) (wMo g mo a o_1 now dr pa sa iS bu tq rT wT wo sK sA sB sE oq bS bE bL rp) := hD
  have hz := lett_z hz eo_1
  have hok := lett_o hok eo_1
  refine lv_aload_n hx hb d_Mo_whyNot_5 rfl (lv_at hl 0 rfl) ?_
  refine gf C hP 0 0 fkMo rfl (by decide) rfl qf_Mo_7 (gMo_0 _ _) d_Mo_whyNot_6 ?_
  refine lv_bipush (v := 22) hx hb d_Mo_whyNot_9 (by decide) ?_
  refine ldL C hP 1 rfl vi_22_215 cn_22 d_Mo_whyNot_11 ?_
  refine lv_lconst (v := 0) hx hb d_Mo_whyNot_12 (by decide) ?_
  refine lc_ne (tgt := 21) hx hb d_Mo_whyNot_13 d_Mo_whyNot_14 (by decide) (fun c2 => ?_) (fun c2 => ?_)
  · have hz := hz.trans (if_neg c2)
    have hok := hok.2 c2
    refine lv_aload_n hx hb d_Mo_whyNot_21 rfl (lv_at hl 0 rfl) ?_
    have hs3 := hok.1
    have hok := hok.2
    have hB : SubW g (inW (wMo g mo a o now dr pa sa iS bu tq rT wT wo sK sA sB sE oq bS bE bL rp)) s (wMo g mo a o_1 now dr pa sa iS bu tq rT wT wo sK sA sB sE oq bS bE bL rp) _ (List.range _) _ _ := (subF hP hD hS)
    refine goI0 hB (run_v C mf_Mo_canRead qm_Mo_234 (c_Mo_canRead l g mo a o_1 now dr pa sa iS bu tq rT wT wo sK sA sB sE oq bS bE bL rp hs3) rfl rfl ⟨Nat.le_of_ble_eq_true rfl, Nat.le_of_ble_eq_true rfl⟩ ⟨Nat.le_of_ble_eq_true rfl, Nat.le_of_ble_eq_true rfl⟩ hB rfl rfl hl rfl rfl (Nat.le_of_ble_eq_true rfl) d_Mo_whyNot_22) (fun y4 ey4 H locs hP hS => ?_)
    have hz := lett_z hz ey4
    refine lv_if_eq (tgt := 32) hx hb d_Mo_whyNot_25 (by decide) (fun c5 => ?_) (fun c5 => ?_)
    · have hz := hz.trans (if_pos c5)
      refine lv_iconst (v := 2) hx hb d_Mo_whyNot_32 (by decide) ?_
      exact endI1 C hz hP hS d_Mo_whyNot_33
    · have hz := hz.trans (if_neg c5)
      refine lv_iconst (v := 0) hx hb d_Mo_whyNot_28 (by decide) ?_
      refine lv_goto (tgt := 33) hx hb d_Mo_whyNot_29 (by decide) ?_
      exact endI1 C hz hP hS d_Mo_whyNot_33
  · have hz := hz.trans (if_pos c2)
    refine lv_iconst (v := 1) hx hb d_Mo_whyNot_17 (by decide) ?_
    refine lv_goto (tgt := 33) hx hb d_Mo_whyNot_18 (by decide) ?_
    exact endI1 C hz hP hS d_Mo_whyNot_33
abbrev rm_Mo_energy : Room := { frames := 0, cells := 0, slots := 0, locals := 0 }
noncomputable def sp_Mo_energy (o : IV) (now : LV) : Int64 × IV := lett (upd o 6 (0 : Int32)) fun (o_1 : IV) => (now 40, o_1)
set_option maxRecDepth 100000 in
set_option maxHeartbeats 4000000 in
theorem c_Mo_energy (l : Launch) (g : GX) (mo : Nat) (a : Nat → Nat) (o : IV) (now : LV) (dr : LV) (pa : LV) (sa : LV) (iS : IV) (bu : IV) (tq : IV) (rT : IV) (wT : IV) (wo : Nat → Option Nat) (sK : IV) (sA : IV) (sB : IV) (sE : IV) (oq : IV) (bS : IV) (bE : IV) (bL : IV) (rp : IV)  : Met l y_Mo_energy (wsY y_Mo_energy b_Mo_energy 1 (some .long)) rm_Mo_energy (CP g [.ref mo] (wMo g mo a o now dr pa sa iS bu tq rT wT wo sK sA sB sE oq bS bE bL rp)) (CL g (wMo g mo a o now dr pa sa iS bu tq rT wT wo sK sA sB sE oq bS bE bL rp) (fun u : IV => wMo g mo a u now dr pa sa iS bu tq rT wT wo sK sA sB sE oq bS bE bL rp) (sp_Mo_energy o now)) 0 0 (inW (wMo g mo a o now dr pa sa iS bu tq rT wT wo sK sA sB sE oq bS bE bL rp)) := by
  refine Met.ofW (cc := b_Mo_energy) (maxL := 1) (ret := (some .long)) pn_Mo rfl ?_
  intro p e s m args below meth c s₁ B hml hv
  obtain ⟨rfl, C, hP, hD, hS⟩ := enter "DecadeBridgeModel" rfl B hml hv
  obtain ⟨hx, hb, hr, hml, hown, hlk, hts, hK, hZo, hZ⟩ := id C
  refine entryW (lv := [(0, .ref mo)]) rfl (Nat.le_of_ble_eq_true rfl) (fun ls hl => ?_)
  obtain ⟨z, hz⟩ : ∃ z, z = sp_Mo_energy o now := ⟨_, rfl⟩
  rw [← hz]
  unfold sp_Mo_energy at hz
  refine lv_aload_n hx hb d_Mo_energy_0 rfl (lv_at hl 0 rfl) ?_
  refine lv_iconst (v := 0) hx hb d_Mo_energy_1 (by decide) ?_
  refine pfI C hP hD hS 0 6 fkMo rfl (by decide) rfl qf_Mo_107 rfl rfl rfl (Nat.le_of_ble_eq_true rfl) (ff := fun o => fMo a o) (sMo_6 _ _ _) d_Mo_energy_2 (fun o_1 eo_1 H locs hP hD hS => ?_)
  have hP : va_P g.1 vwCl (wMo g mo a o_1 now dr pa sa iS bu tq rT wT wo sK sA sB sE oq bS bE bL rp) H := hP
  have hD : va_D (inW (wMo g mo a o now dr pa sa iS bu tq rT wT wo sK sA sB sE oq bS bE bL rp)) (wMo g mo a o_1 now dr pa sa iS bu tq rT wT wo sK sA sB sE oq bS bE bL rp) := hD
  have hz := lett_z hz eo_1
  refine lv_aload_n hx hb d_Mo_energy_5 rfl (lv_at hl 0 rfl) ?_
  refine gf C hP 0 0 fkMo rfl (by decide) rfl qf_Mo_7 (gMo_0 _ _) d_Mo_energy_6 ?_
  refine lv_bipush (v := 40) hx hb d_Mo_energy_9 (by decide) ?_
  refine ldL C hP 1 rfl vi_40_215 cn_40 d_Mo_energy_11 ?_
  exact endL1 C hz hP hS d_Mo_energy_12
abbrev rm_Mo_reading : Room := { frames := 1, cells := 0, slots := 0, locals := 25 }
noncomputable def sp_Mo_reading (p1 : Int32) (o : IV) (now : LV) : Int32 × IV := lett (upd o 6 (0 : Int32)) fun (o_1 : IV) => lett (sp_Mo_in p1.toInt64 (0 : Int64) ((now 43) - (1 : Int64))) fun (y2 : Int32) => if y2 = 0 then (((-1000000000 : Int32), o_1)) else (((now ((44 : Int32) + p1).toNatClampNeg).toInt32, o_1))
def ok_Mo_reading (p1 : Int32) (o : IV) (now : LV) : Prop := lett (upd o 6 (0 : Int32)) fun (o_1 : IV) => lett (sp_Mo_in p1.toInt64 (0 : Int64) ((now 43) - (1 : Int64))) fun (y2 : Int32) => ((y2 = 0 → True) ∧ (¬ (y2 = 0) → (vp_in ((44 : Int32) + p1) 215) ∧ True))
set_option maxRecDepth 100000 in
set_option maxHeartbeats 4000000 in
theorem c_Mo_reading (l : Launch) (g : GX) (mo : Nat) (a : Nat → Nat) (o : IV) (now : LV) (dr : LV) (pa : LV) (sa : LV) (iS : IV) (bu : IV) (tq : IV) (rT : IV) (wT : IV) (wo : Nat → Option Nat) (sK : IV) (sA : IV) (sB : IV) (sE : IV) (oq : IV) (bS : IV) (bE : IV) (bL : IV) (rp : IV) (p1 : Int32) (hok : ok_Mo_reading p1 o now) : Met l y_Mo_reading (wsY y_Mo_reading b_Mo_reading 2 (some .int)) rm_Mo_reading (CP g [.ref mo, .int p1] (wMo g mo a o now dr pa sa iS bu tq rT wT wo sK sA sB sE oq bS bE bL rp)) (CI g (wMo g mo a o now dr pa sa iS bu tq rT wT wo sK sA sB sE oq bS bE bL rp) (fun u : IV => wMo g mo a u now dr pa sa iS bu tq rT wT wo sK sA sB sE oq bS bE bL rp) (sp_Mo_reading p1 o now)) 0 0 (inW (wMo g mo a o now dr pa sa iS bu tq rT wT wo sK sA sB sE oq bS bE bL rp)) := by
  refine Met.ofW (cc := b_Mo_reading) (maxL := 2) (ret := (some .int)) pn_Mo rfl ?_
  intro p e s m args below meth c s₁ B hml hv
  obtain ⟨rfl, C, hP, hD, hS⟩ := enter "DecadeBridgeModel" rfl B hml hv
  obtain ⟨hx, hb, hr, hml, hown, hlk, hts, hK, hZo, hZ⟩ := id C
  refine entryW (lv := [(0, .ref mo), (1, .int p1)]) rfl (Nat.le_of_ble_eq_true rfl) (fun ls hl => ?_)
  obtain ⟨z, hz⟩ : ∃ z, z = sp_Mo_reading p1 o now := ⟨_, rfl⟩
  rw [← hz]
  unfold sp_Mo_reading at hz
  unfold ok_Mo_reading at hok
  refine lv_aload_n hx hb d_Mo_reading_0 rfl (lv_at hl 0 rfl) ?_
  refine lv_iconst (v := 0) hx hb d_Mo_reading_1 (by decide) ?_
  refine pfI C hP hD hS 0 6 fkMo rfl (by decide) rfl qf_Mo_107 rfl rfl rfl (Nat.le_of_ble_eq_true rfl) (ff := fun o => fMo a o) (sMo_6 _ _ _) d_Mo_reading_2 (fun o_1 eo_1 H locs hP hD hS => ?_)
  have hP : va_P g.1 vwCl (wMo g mo a o_1 now dr pa sa iS bu tq rT wT wo sK sA sB sE oq bS bE bL rp) H := hP
  have hD : va_D (inW (wMo g mo a o now dr pa sa iS bu tq rT wT wo sK sA sB sE oq bS bE bL rp)) (wMo g mo a o_1 now dr pa sa iS bu tq rT wT wo sK sA sB sE oq bS bE bL rp) := hD
  have hz := lett_z hz eo_1
  have hok := lett_o hok eo_1
  refine lv_iload_n hx hb d_Mo_reading_5 rfl (lv_at hl 1 rfl) ?_
  refine lv_i2l hx hb d_Mo_reading_6 rfl ?_
  refine lv_lconst (v := 0) hx hb d_Mo_reading_7 (by decide) ?_
  refine lv_aload_n hx hb d_Mo_reading_8 rfl (lv_at hl 0 rfl) ?_
  refine gf C hP 0 0 fkMo rfl (by decide) rfl qf_Mo_7 (gMo_0 _ _) d_Mo_reading_9 ?_
  refine lv_bipush (v := 43) hx hb d_Mo_reading_12 (by decide) ?_
  refine ldL C hP 1 rfl vi_43_215 cn_43 d_Mo_reading_14 ?_
  refine lv_lconst (v := 1) hx hb d_Mo_reading_15 (by decide) ?_
  refine lv_lsub hx hb d_Mo_reading_16 ?_
  have hB : SubW g (inW (wMo g mo a o now dr pa sa iS bu tq rT wT wo sK sA sB sE oq bS bE bL rp)) s (wMo g mo a o_1 now dr pa sa iS bu tq rT wT wo sK sA sB sE oq bS bE bL rp) _ (List.range _) _ _ := (subF hP hD hS)
  refine goI0 hB (run_s C mf_Mo_in qm_Mo_118 (c_Mo_in l g mo a o_1 now dr pa sa iS bu tq rT wT wo sK sA sB sE oq bS bE bL rp p1.toInt64 (0 : Int64) ((now 43) - (1 : Int64))) rfl rfl ⟨Nat.le_of_ble_eq_true rfl, Nat.le_of_ble_eq_true rfl⟩ ⟨Nat.le_of_ble_eq_true rfl, Nat.le_of_ble_eq_true rfl⟩ hB hl rfl rfl (Nat.le_of_ble_eq_true rfl) d_Mo_reading_17) (fun y2 ey2 H locs hP hS => ?_)
  have hz := lett_z hz ey2
  have hok := lett_o hok ey2
  refine lv_if_eq (tgt := 36) hx hb d_Mo_reading_20 (by decide) (fun c3 => ?_) (fun c3 => ?_)
  · have hz := hz.trans (if_pos c3)
    refine lv_ldcw hx hb hown (hts _ qk_Mo_429) d_Mo_reading_36 ?_
    exact endI1 C hz hP hS d_Mo_reading_39
  · have hz := hz.trans (if_neg c3)
    have hok := hok.2 c3
    refine lv_aload_n hx hb d_Mo_reading_23 rfl (lv_at hl 0 rfl) ?_
    refine gf C hP 0 0 fkMo rfl (by decide) rfl qf_Mo_7 (gMo_0 _ _) d_Mo_reading_24 ?_
    refine lv_bipush (v := 44) hx hb d_Mo_reading_27 (by decide) ?_
    refine lv_iload_n hx hb d_Mo_reading_29 rfl (lv_at hl 1 rfl) ?_
    refine lv_iadd hx hb d_Mo_reading_30 ?_
    have hs4 := hok.1
    have hok := hok.2
    refine ldL C hP 1 rfl hs4 rfl d_Mo_reading_31 ?_
    refine lv_l2i hx hb d_Mo_reading_32 rfl ?_
    refine lv_goto (tgt := 39) hx hb d_Mo_reading_33 (by decide) ?_
    exact endI1 C hz hP hS d_Mo_reading_39
abbrev rm_Mo_isResult : Room := { frames := 1, cells := 0, slots := 0, locals := 25 }
noncomputable def sp_Mo_isResult (p1 : Int32) (now : LV) : Int32 := lett (sp_Mo_in p1.toInt64 (0 : Int64) ((now 54) - (1 : Int64))) fun (y1 : Int32) => y1
def ok_Mo_isResult (p1 : Int32) (now : LV) : Prop := lett (sp_Mo_in p1.toInt64 (0 : Int64) ((now 54) - (1 : Int64))) fun (y1 : Int32) => (isB y1) ∧ True
set_option maxRecDepth 100000 in
set_option maxHeartbeats 4000000 in
theorem c_Mo_isResult (l : Launch) (g : GX) (mo : Nat) (a : Nat → Nat) (o : IV) (now : LV) (dr : LV) (pa : LV) (sa : LV) (iS : IV) (bu : IV) (tq : IV) (rT : IV) (wT : IV) (wo : Nat → Option Nat) (sK : IV) (sA : IV) (sB : IV) (sE : IV) (oq : IV) (bS : IV) (bE : IV) (bL : IV) (rp : IV) (p1 : Int32) (hok : ok_Mo_isResult p1 now) : Met l y_Mo_isResult (wsY y_Mo_isResult b_Mo_isResult 2 (some .boolean)) rm_Mo_isResult (CP g [.ref mo, .int p1] (wMo g mo a o now dr pa sa iS bu tq rT wT wo sK sA sB sE oq bS bE bL rp)) (CI0 g (wMo g mo a o now dr pa sa iS bu tq rT wT wo sK sA sB sE oq bS bE bL rp) (sp_Mo_isResult p1 now)) 0 0 (inW (wMo g mo a o now dr pa sa iS bu tq rT wT wo sK sA sB sE oq bS bE bL rp)) := by
  refine Met.ofW (cc := b_Mo_isResult) (maxL := 2) (ret := (some .boolean)) pn_Mo rfl ?_
  intro p e s m args below meth c s₁ B hml hv
  obtain ⟨rfl, C, hP, hD, hS⟩ := enter "DecadeBridgeModel" rfl B hml hv
  obtain ⟨hx, hb, hr, hml, hown, hlk, hts, hK, hZo, hZ⟩ := id C
  refine entryW (lv := [(0, .ref mo), (1, .int p1)]) rfl (Nat.le_of_ble_eq_true rfl) (fun ls hl => ?_)
  obtain ⟨z, hz⟩ : ∃ z, z = sp_Mo_isResult p1 now := ⟨_, rfl⟩
  rw [← hz]
  unfold sp_Mo_isResult at hz
  unfold ok_Mo_isResult at hok
  refine lv_iload_n hx hb d_Mo_isResult_0 rfl (lv_at hl 1 rfl) ?_
  refine lv_i2l hx hb d_Mo_isResult_1 rfl ?_
  refine lv_lconst (v := 0) hx hb d_Mo_isResult_2 (by decide) ?_
  refine lv_aload_n hx hb d_Mo_isResult_3 rfl (lv_at hl 0 rfl) ?_
  refine gf C hP 0 0 fkMo rfl (by decide) rfl qf_Mo_7 (gMo_0 _ _) d_Mo_isResult_4 ?_
  refine lv_bipush (v := 54) hx hb d_Mo_isResult_7 (by decide) ?_
  refine ldL C hP 1 rfl vi_54_215 cn_54 d_Mo_isResult_9 ?_
  refine lv_lconst (v := 1) hx hb d_Mo_isResult_10 (by decide) ?_
  refine lv_lsub hx hb d_Mo_isResult_11 ?_
  have hB : SubW g (inW (wMo g mo a o now dr pa sa iS bu tq rT wT wo sK sA sB sE oq bS bE bL rp)) s (wMo g mo a o now dr pa sa iS bu tq rT wT wo sK sA sB sE oq bS bE bL rp) _ (List.range _) _ _ := (subF hP hD hS)
  refine goI0 hB (run_s C mf_Mo_in qm_Mo_118 (c_Mo_in l g mo a o now dr pa sa iS bu tq rT wT wo sK sA sB sE oq bS bE bL rp p1.toInt64 (0 : Int64) ((now 54) - (1 : Int64))) rfl rfl ⟨Nat.le_of_ble_eq_true rfl, Nat.le_of_ble_eq_true rfl⟩ ⟨Nat.le_of_ble_eq_true rfl, Nat.le_of_ble_eq_true rfl⟩ hB hl rfl rfl (Nat.le_of_ble_eq_true rfl) d_Mo_isResult_12) (fun y1 ey1 H locs hP hS => ?_)
  have hz := lett_z hz ey1
  have hok := lett_o hok ey1
  have hs2 := hok.1
  have hok := hok.2
  exact endZ0 C hz hP hS (isB_nar hs2) d_Mo_isResult_15
abbrev rm_Mo_result : Room := { frames := 5, cells := 0, slots := 0, locals := 110 }
def HL_Mo_result_30 (p : Program) (l : Launch) (e : Env) (s : State) (m : MethodId) (args : Array Value) (below : List Frame) (meth : Method) (c : Code) (g : GX) (mo : Nat) (a : Nat → Nat) (ws0 : va_W) (o : IV) (now : LV) (dr : LV) (pa : LV) (sa : LV) (iS : IV) (bu : IV) (tq : IV) (rT : IV) (wT : IV) (wo : Nat → Option Nat) (sK : IV) (sA : IV) (sB : IV) (sE : IV) (oq : IV) (bS : IV) (bE : IV) (bL : IV) (rp : IV) (p1 : Int32) (p2 : Int32) (sp : Int32 → (Int32 × IV)) (ok : Int32 → Prop) : Prop := ∀ (t1p30 : Int32), ok t1p30 → ∀ z : (Int32 × IV), z = sp t1p30 → ∀ (H : Heap) (locs : List Loc) (ls : Array Slot), va_P g.1 vwCl (wMo g mo a o now dr pa sa iS bu tq rT wT wo sK sA sB sE oq bS bE bL rp) H → va_D (inW ws0) (wMo g mo a o now dr pa sa iS bu tq rT wT wo sK sA sB sE oq bS bE bL rp) → va_S (inW ws0) s.heap H locs → lv_has ls 3 [(0, .ref mo), (1, .int p1), (2, .int p2)] → W p l e rm_Mo_result s m args below meth c H locs 0 0 (MQ below (CI g ws0 (fun u : IV => wMo g mo a u now dr pa sa iS bu tq rT wT wo sK sA sB sE oq bS bE bL rp) z) args s 0 0 (inW ws0)) (F0 m 30 ls [.int t1p30, .ref mo])
noncomputable def sp_Mo_result_30 (o : IV) (p2 : Int32) (p1 : Int32) (now : LV)  (t1p30 : Int32) : Int32 × IV := lett (upd o 6 t1p30) fun (o_6 : IV) => if (o_6 6) ≤ 0 then (if p2 = (6 : Int32) then (lett (sp_Mo_mannerOf p1 now) fun (y12 : Int32) => (y12, o_6)) else (lett (sp_Mo_ofResult p1 p2 now) fun (y10 : Int64) => (y10.toInt32, o_6))) else (((0 : Int32), o_6))
def ok_Mo_result_30 (o : IV) (p2 : Int32) (p1 : Int32) (now : LV)   (t1p30 : Int32) : Prop := lett (upd o 6 t1p30) fun (o_6 : IV) => (((o_6 6) ≤ 0 → ((p2 = (6 : Int32) → (ok_Mo_mannerOf p1 now) ∧ True) ∧ (¬ (p2 = (6 : Int32)) → (ok_Mo_ofResult p1 p2) ∧ True))) ∧ (¬ ((o_6 6) ≤ 0) → True))
set_option maxRecDepth 100000 in
set_option maxHeartbeats 4000000 in
theorem k_Mo_result_30 {p : Program} {l : Launch} {e : Env} {s : State} {m : MethodId} {args : Array Value} {below : List Frame} {meth : Method} {c : Code} {g : GX} {mo : Nat} {a : Nat → Nat} {ws0 : va_W} {o : IV} {now : LV} {dr : LV} {pa : LV} {sa : LV} {iS : IV} {bu : IV} {tq : IV} {rT : IV} {wT : IV} {wo : Nat → Option Nat} {sK : IV} {sA : IV} {sB : IV} {sE : IV} {oq : IV} {bS : IV} {bE : IV} {bL : IV} {rp : IV} {p1 : Int32} {p2 : Int32}  (C : Cx p s m args meth c (inW ws0) g "DecadeBridgeModel" b_Mo_result (some .int) 3)  : HL_Mo_result_30 p l e s m args below meth c g mo a ws0 o now dr pa sa iS bu tq rT wT wo sK sA sB sE oq bS bE bL rp p1 p2 (sp_Mo_result_30 o p2 p1 now ) (ok_Mo_result_30 o p2 p1 now  ) := by
  intro t1p30 hok z hz H locs ls hP hD hS hl
  obtain ⟨hx, hb, hr, hml, hown, hlk, hts, hK, hZo, hZ⟩ := id C
  unfold sp_Mo_result_30 at hz
  unfold ok_Mo_result_30 at hok
  refine pfI C hP hD hS 0 6 fkMo rfl (by decide) rfl qf_Mo_107 rfl rfl rfl (Nat.le_of_ble_eq_true rfl) (ff := fun o => fMo a o) (sMo_6 _ _ _) d_Mo_result_30 (fun o_6 eo_6 H locs hP hD hS => ?_)
  have hP : va_P g.1 vwCl (wMo g mo a o_6 now dr pa sa iS bu tq rT wT wo sK sA sB sE oq bS bE bL rp) H := hP
  have hD : va_D (inW ws0) (wMo g mo a o_6 now dr pa sa iS bu tq rT wT wo sK sA sB sE oq bS bE bL rp) := hD
  have hz := lett_z hz eo_6
  have hok := lett_o hok eo_6
  refine lv_aload_n hx hb d_Mo_result_33 rfl (lv_at hl 0 rfl) ?_
  refine gf C hP 0 6 fkMo rfl (by decide) rfl qf_Mo_107 (gMo_6 _ _) d_Mo_result_34 ?_
  refine lv_if_le (tgt := 42) hx hb d_Mo_result_37 (by decide) (fun c7 => ?_) (fun c7 => ?_)
  · have hz := hz.trans (if_pos c7)
    have hok := hok.1 c7
    refine lv_iload_n hx hb d_Mo_result_42 rfl (lv_at hl 2 rfl) ?_
    refine lv_bipush (v := 6) hx hb d_Mo_result_43 (by decide) ?_
    refine lv_icmp_ne (tgt := 56) hx hb d_Mo_result_45 (by decide) (fun c8 => ?_) (fun c8 => ?_)
    · have hz := hz.trans (if_neg c8)
      have hok := hok.2 c8
      refine lv_aload_n hx hb d_Mo_result_56 rfl (lv_at hl 0 rfl) ?_
      refine lv_iload_n hx hb d_Mo_result_57 rfl (lv_at hl 1 rfl) ?_
      refine lv_iload_n hx hb d_Mo_result_58 rfl (lv_at hl 2 rfl) ?_
      have hs9 := hok.1
      have hok := hok.2
      have hB : SubW g (inW ws0) s (wMo g mo a o_6 now dr pa sa iS bu tq rT wT wo sK sA sB sE oq bS bE bL rp) _ (List.range _) _ _ := (subF hP hD hS)
      refine goL0 hB (run_v C mf_Mo_ofResult qm_Mo_406 (c_Mo_ofResult l g mo a o_6 now dr pa sa iS bu tq rT wT wo sK sA sB sE oq bS bE bL rp p1 p2 hs9) rfl rfl ⟨Nat.le_of_ble_eq_true rfl, Nat.le_of_ble_eq_true rfl⟩ ⟨Nat.le_of_ble_eq_true rfl, Nat.le_of_ble_eq_true rfl⟩ hB rfl rfl hl rfl rfl (Nat.le_of_ble_eq_true rfl) d_Mo_result_59) (fun y10 ey10 H locs hP hS => ?_)
      have hz := lett_z hz ey10
      refine lv_l2i hx hb d_Mo_result_62 rfl ?_
      exact endI1 C hz hP hS d_Mo_result_63
    · have hz := hz.trans (if_pos c8)
      have hok := hok.1 c8
      refine lv_aload_n hx hb d_Mo_result_48 rfl (lv_at hl 0 rfl) ?_
      refine lv_iload_n hx hb d_Mo_result_49 rfl (lv_at hl 1 rfl) ?_
      have hs11 := hok.1
      have hok := hok.2
      have hB : SubW g (inW ws0) s (wMo g mo a o_6 now dr pa sa iS bu tq rT wT wo sK sA sB sE oq bS bE bL rp) _ (List.range _) _ _ := (subF hP hD hS)
      refine goI0 hB (run_v C mf_Mo_mannerOf qm_Mo_438 (c_Mo_mannerOf l g mo a o_6 now dr pa sa iS bu tq rT wT wo sK sA sB sE oq bS bE bL rp p1 hs11) rfl rfl ⟨Nat.le_of_ble_eq_true rfl, Nat.le_of_ble_eq_true rfl⟩ ⟨Nat.le_of_ble_eq_true rfl, Nat.le_of_ble_eq_true rfl⟩ hB rfl rfl hl rfl rfl (Nat.le_of_ble_eq_true rfl) d_Mo_result_50) (fun y12 ey12 H locs hP hS => ?_)
      have hz := lett_z hz ey12
      refine lv_goto (tgt := 63) hx hb d_Mo_result_53 (by decide) ?_
      exact endI1 C hz hP hS d_Mo_result_63
  · have hz := hz.trans (if_neg c7)
    refine lv_iconst (v := 0) hx hb d_Mo_result_40 (by decide) ?_
    exact endI1 C hz hP hS d_Mo_result_41
noncomputable def sp_Mo_result (p1 : Int32) (p2 : Int32) (o : IV) (now : LV) : Int32 × IV := lett (sp_Mo_isResult p1 now) fun (y2 : Int32) => if y2 = 0 then (sp_Mo_result_30 o p2 p1 now (1 : Int32)) else (lett (sp_Mo_in p2.toInt64 (0 : Int64) (6 : Int64)) fun (y4 : Int32) => if y4 = 0 then (sp_Mo_result_30 o p2 p1 now (2 : Int32)) else (sp_Mo_result_30 o p2 p1 now (0 : Int32)))
def ok_Mo_result (p1 : Int32) (p2 : Int32) (o : IV) (now : LV) : Prop := (ok_Mo_isResult p1 now) ∧ lett (sp_Mo_isResult p1 now) fun (y2 : Int32) => ((y2 = 0 → ok_Mo_result_30 o p2 p1 now (1 : Int32)) ∧ (¬ (y2 = 0) → lett (sp_Mo_in p2.toInt64 (0 : Int64) (6 : Int64)) fun (y4 : Int32) => ((y4 = 0 → ok_Mo_result_30 o p2 p1 now (2 : Int32)) ∧ (¬ (y4 = 0) → ok_Mo_result_30 o p2 p1 now (0 : Int32)))))
set_option maxRecDepth 100000 in
set_option maxHeartbeats 4000000 in
theorem c_Mo_result (l : Launch) (g : GX) (mo : Nat) (a : Nat → Nat) (o : IV) (now : LV) (dr : LV) (pa : LV) (sa : LV) (iS : IV) (bu : IV) (tq : IV) (rT : IV) (wT : IV) (wo : Nat → Option Nat) (sK : IV) (sA : IV) (sB : IV) (sE : IV) (oq : IV) (bS : IV) (bE : IV) (bL : IV) (rp : IV) (p1 : Int32) (p2 : Int32) (hok : ok_Mo_result p1 p2 o now) : Met l y_Mo_result (wsY y_Mo_result b_Mo_result 3 (some .int)) rm_Mo_result (CP g [.ref mo, .int p1, .int p2] (wMo g mo a o now dr pa sa iS bu tq rT wT wo sK sA sB sE oq bS bE bL rp)) (CI g (wMo g mo a o now dr pa sa iS bu tq rT wT wo sK sA sB sE oq bS bE bL rp) (fun u : IV => wMo g mo a u now dr pa sa iS bu tq rT wT wo sK sA sB sE oq bS bE bL rp) (sp_Mo_result p1 p2 o now)) 0 0 (inW (wMo g mo a o now dr pa sa iS bu tq rT wT wo sK sA sB sE oq bS bE bL rp)) := by
  refine Met.ofW (cc := b_Mo_result) (maxL := 3) (ret := (some .int)) pn_Mo rfl ?_
  intro p e s m args below meth c s₁ B hml hv
  obtain ⟨rfl, C, hP, hD, hS⟩ := enter "DecadeBridgeModel" rfl B hml hv
  obtain ⟨hx, hb, hr, hml, hown, hlk, hts, hK, hZo, hZ⟩ := id C
  refine entryW (lv := [(0, .ref mo), (1, .int p1), (2, .int p2)]) rfl (Nat.le_of_ble_eq_true rfl) (fun ls hl => ?_)
  obtain ⟨z, hz⟩ : ∃ z, z = sp_Mo_result p1 p2 o now := ⟨_, rfl⟩
  rw [← hz]
  unfold sp_Mo_result at hz
  unfold ok_Mo_result at hok
  refine lv_aload_n hx hb d_Mo_result_0 rfl (lv_at hl 0 rfl) ?_
  refine lv_aload_n hx hb d_Mo_result_1 rfl (lv_at hl 0 rfl) ?_
  refine lv_iload_n hx hb d_Mo_result_2 rfl (lv_at hl 1 rfl) ?_
  have hs1 := hok.1
  have hok := hok.2
  have hB : SubW g (inW (wMo g mo a o now dr pa sa iS bu tq rT wT wo sK sA sB sE oq bS bE bL rp)) s (wMo g mo a o now dr pa sa iS bu tq rT wT wo sK sA sB sE oq bS bE bL rp) _ (List.range _) _ _ := (subF hP hD hS)
  refine goI0 hB (run_v C mf_Mo_isResult qm_Mo_433 (c_Mo_isResult l g mo a o now dr pa sa iS bu tq rT wT wo sK sA sB sE oq bS bE bL rp p1 hs1) rfl rfl ⟨Nat.le_of_ble_eq_true rfl, Nat.le_of_ble_eq_true rfl⟩ ⟨Nat.le_of_ble_eq_true rfl, Nat.le_of_ble_eq_true rfl⟩ hB rfl rfl hl rfl rfl (Nat.le_of_ble_eq_true rfl) d_Mo_result_3) (fun y2 ey2 H locs hP hS => ?_)
  have hz := lett_z hz ey2
  have hok := lett_o hok ey2
  refine lv_if_ne (tgt := 13) hx hb d_Mo_result_6 (by decide) (fun c3 => ?_) (fun c3 => ?_)
  · have hz := hz.trans (if_neg c3)
    have hok := hok.2 c3
    refine lv_iload_n hx hb d_Mo_result_13 rfl (lv_at hl 2 rfl) ?_
    refine lv_i2l hx hb d_Mo_result_14 rfl ?_
    refine lv_lconst (v := 0) hx hb d_Mo_result_15 (by decide) ?_
    refine lv_ldc2 hx hb hown (hts _ qk_Mo_436) d_Mo_result_16 ?_
    have hB : SubW g (inW (wMo g mo a o now dr pa sa iS bu tq rT wT wo sK sA sB sE oq bS bE bL rp)) s (wMo g mo a o now dr pa sa iS bu tq rT wT wo sK sA sB sE oq bS bE bL rp) _ (List.range _) _ _ := (subF hP hD hS)
    refine goI0 hB (run_s C mf_Mo_in qm_Mo_118 (c_Mo_in l g mo a o now dr pa sa iS bu tq rT wT wo sK sA sB sE oq bS bE bL rp p2.toInt64 (0 : Int64) (6 : Int64)) rfl rfl ⟨Nat.le_of_ble_eq_true rfl, Nat.le_of_ble_eq_true rfl⟩ ⟨Nat.le_of_ble_eq_true rfl, Nat.le_of_ble_eq_true rfl⟩ hB hl rfl rfl (Nat.le_of_ble_eq_true rfl) d_Mo_result_19) (fun y4 ey4 H locs hP hS => ?_)
    have hz := lett_z hz ey4
    have hok := lett_o hok ey4
    refine lv_if_eq (tgt := 29) hx hb d_Mo_result_22 (by decide) (fun c5 => ?_) (fun c5 => ?_)
    · have hz := hz.trans (if_pos c5)
      have hok := hok.1 c5
      refine lv_iconst (v := 2) hx hb d_Mo_result_29 (by decide) ?_
      exact k_Mo_result_30 C (2 : Int32) hok _ hz _ _ ls hP hD hS hl
    · have hz := hz.trans (if_neg c5)
      have hok := hok.2 c5
      refine lv_iconst (v := 0) hx hb d_Mo_result_25 (by decide) ?_
      refine lv_goto (tgt := 30) hx hb d_Mo_result_26 (by decide) ?_
      exact k_Mo_result_30 C (0 : Int32) hok _ hz _ _ ls hP hD hS hl
  · have hz := hz.trans (if_pos c3)
    have hok := hok.1 c3
    refine lv_iconst (v := 1) hx hb d_Mo_result_9 (by decide) ?_
    refine lv_goto (tgt := 30) hx hb d_Mo_result_10 (by decide) ?_
    exact k_Mo_result_30 C (1 : Int32) hok _ hz _ _ ls hP hD hS hl
abbrev rm_Mo_valueOf : Room := { frames := 2, cells := 0, slots := 0, locals := 46 }
def HL_Mo_valueOf_14 (p : Program) (l : Launch) (e : Env) (s : State) (m : MethodId) (args : Array Value) (below : List Frame) (meth : Method) (c : Code) (g : GX) (mo : Nat) (a : Nat → Nat) (ws0 : va_W) (o : IV) (now : LV) (dr : LV) (pa : LV) (sa : LV) (iS : IV) (bu : IV) (tq : IV) (rT : IV) (wT : IV) (wo : Nat → Option Nat) (sK : IV) (sA : IV) (sB : IV) (sE : IV) (oq : IV) (bS : IV) (bE : IV) (bL : IV) (rp : IV) (p1 : Int32) (p2 : Int32) (sp : Int32 → (Int64 × IV)) (ok : Int32 → Prop) : Prop := ∀ (t1p14 : Int32), ok t1p14 → ∀ z : (Int64 × IV), z = sp t1p14 → ∀ (H : Heap) (locs : List Loc) (ls : Array Slot), va_P g.1 vwCl (wMo g mo a o now dr pa sa iS bu tq rT wT wo sK sA sB sE oq bS bE bL rp) H → va_D (inW ws0) (wMo g mo a o now dr pa sa iS bu tq rT wT wo sK sA sB sE oq bS bE bL rp) → va_S (inW ws0) s.heap H locs → lv_has ls 3 [(0, .ref mo), (1, .int p1), (2, .int p2)] → W p l e rm_Mo_valueOf s m args below meth c H locs 0 0 (MQ below (CL g ws0 (fun u : IV => wMo g mo a u now dr pa sa iS bu tq rT wT wo sK sA sB sE oq bS bE bL rp) z) args s 0 0 (inW ws0)) (F0 m 14 ls [.int t1p14, .ref mo])
def HL_Mo_valueOf_41 (p : Program) (l : Launch) (e : Env) (s : State) (m : MethodId) (args : Array Value) (below : List Frame) (meth : Method) (c : Code) (g : GX) (mo : Nat) (a : Nat → Nat) (ws0 : va_W) (o_4 : IV) (now : LV) (dr : LV) (pa : LV) (sa : LV) (iS : IV) (bu : IV) (tq : IV) (rT : IV) (wT : IV) (wo : Nat → Option Nat) (sK : IV) (sA : IV) (sB : IV) (sE : IV) (oq : IV) (bS : IV) (bE : IV) (bL : IV) (rp : IV) (p1 : Int32) (sp : Int32 → (Int64 × IV)) (ok : Int32 → Prop) : Prop := ∀ (t2p41 : Int32), ok t2p41 → ∀ z : (Int64 × IV), z = sp t2p41 → ∀ (H : Heap) (locs : List Loc) (ls : Array Slot), va_P g.1 vwCl (wMo g mo a o_4 now dr pa sa iS bu tq rT wT wo sK sA sB sE oq bS bE bL rp) H → va_D (inW ws0) (wMo g mo a o_4 now dr pa sa iS bu tq rT wT wo sK sA sB sE oq bS bE bL rp) → va_S (inW ws0) s.heap H locs → lv_has ls 3 [] → W p l e rm_Mo_valueOf s m args below meth c H locs 0 0 (MQ below (CL g ws0 (fun u : IV => wMo g mo a u now dr pa sa iS bu tq rT wT wo sK sA sB sE oq bS bE bL rp) z) args s 0 0 (inW ws0)) (F0 m 41 ls [.int t2p41, .int p1, .ref mo])
noncomputable def sp_Mo_valueOf_41 (p1 : Int32) (now : LV) (o_4 : IV)  (t2p41 : Int32) : Int64 × IV := lett (sp_Mo_ofResult p1 t2p41 now) fun (y8 : Int64) => (y8, o_4)
def ok_Mo_valueOf_41 (p1 : Int32) (now : LV) (o_4 : IV)   (t2p41 : Int32) : Prop := (ok_Mo_ofResult p1 t2p41) ∧ True
set_option maxRecDepth 100000 in
set_option maxHeartbeats 4000000 in
theorem k_Mo_valueOf_41 {p : Program} {l : Launch} {e : Env} {s : State} {m : MethodId} {args : Array Value} {below : List Frame} {meth : Method} {c : Code} {g : GX} {mo : Nat} {a : Nat → Nat} {ws0 : va_W} {o_4 : IV} {now : LV} {dr : LV} {pa : LV} {sa : LV} {iS : IV} {bu : IV} {tq : IV} {rT : IV} {wT : IV} {wo : Nat → Option Nat} {sK : IV} {sA : IV} {sB : IV} {sE : IV} {oq : IV} {bS : IV} {bE : IV} {bL : IV} {rp : IV} {p1 : Int32}  (C : Cx p s m args meth c (inW ws0) g "DecadeBridgeModel" b_Mo_valueOf (some .long) 3)  : HL_Mo_valueOf_41 p l e s m args below meth c g mo a ws0 o_4 now dr pa sa iS bu tq rT wT wo sK sA sB sE oq bS bE bL rp p1 (sp_Mo_valueOf_41 p1 now o_4 ) (ok_Mo_valueOf_41 p1 now o_4  ) := by
  intro t2p41 hok z hz H locs ls hP hD hS hl
  obtain ⟨hx, hb, hr, hml, hown, hlk, hts, hK, hZo, hZ⟩ := id C
  unfold sp_Mo_valueOf_41 at hz
  unfold ok_Mo_valueOf_41 at hok
  have hs7 := hok.1
  have hok := hok.2
  have hB : SubW g (inW ws0) s (wMo g mo a o_4 now dr pa sa iS bu tq rT wT wo sK sA sB sE oq bS bE bL rp) _ (List.range _) _ _ := (subF hP hD hS)
  refine goL0 hB (run_v C mf_Mo_ofResult qm_Mo_406 (c_Mo_ofResult l g mo a o_4 now dr pa sa iS bu tq rT wT wo sK sA sB sE oq bS bE bL rp p1 t2p41 hs7) rfl rfl ⟨Nat.le_of_ble_eq_true rfl, Nat.le_of_ble_eq_true rfl⟩ ⟨Nat.le_of_ble_eq_true rfl, Nat.le_of_ble_eq_true rfl⟩ hB rfl rfl hl rfl rfl (Nat.le_of_ble_eq_true rfl) d_Mo_valueOf_41) (fun y8 ey8 H locs hP hS => ?_)
  have hz := lett_z hz ey8
  exact endL1 C hz hP hS d_Mo_valueOf_44
noncomputable def sp_Mo_valueOf_14 (o : IV) (p2 : Int32) (p1 : Int32) (now : LV)  (t1p14 : Int32) : Int64 × IV := lett (upd o 6 t1p14) fun (o_4 : IV) => if (o_4 6) ≤ 0 then (if p2 = 0 then (sp_Mo_valueOf_41 p1 now o_4 (6 : Int32)) else (sp_Mo_valueOf_41 p1 now o_4 (7 : Int32))) else (((0 : Int64), o_4))
def ok_Mo_valueOf_14 (o : IV) (p2 : Int32) (p1 : Int32) (now : LV)   (t1p14 : Int32) : Prop := lett (upd o 6 t1p14) fun (o_4 : IV) => (((o_4 6) ≤ 0 → ((p2 = 0 → ok_Mo_valueOf_41 p1 now o_4 (6 : Int32)) ∧ (¬ (p2 = 0) → ok_Mo_valueOf_41 p1 now o_4 (7 : Int32)))) ∧ (¬ ((o_4 6) ≤ 0) → True))
set_option maxRecDepth 100000 in
set_option maxHeartbeats 4000000 in
theorem k_Mo_valueOf_14 {p : Program} {l : Launch} {e : Env} {s : State} {m : MethodId} {args : Array Value} {below : List Frame} {meth : Method} {c : Code} {g : GX} {mo : Nat} {a : Nat → Nat} {ws0 : va_W} {o : IV} {now : LV} {dr : LV} {pa : LV} {sa : LV} {iS : IV} {bu : IV} {tq : IV} {rT : IV} {wT : IV} {wo : Nat → Option Nat} {sK : IV} {sA : IV} {sB : IV} {sE : IV} {oq : IV} {bS : IV} {bE : IV} {bL : IV} {rp : IV} {p1 : Int32} {p2 : Int32}  (C : Cx p s m args meth c (inW ws0) g "DecadeBridgeModel" b_Mo_valueOf (some .long) 3)  : HL_Mo_valueOf_14 p l e s m args below meth c g mo a ws0 o now dr pa sa iS bu tq rT wT wo sK sA sB sE oq bS bE bL rp p1 p2 (sp_Mo_valueOf_14 o p2 p1 now ) (ok_Mo_valueOf_14 o p2 p1 now  ) := by
  intro t1p14 hok z hz H locs ls hP hD hS hl
  obtain ⟨hx, hb, hr, hml, hown, hlk, hts, hK, hZo, hZ⟩ := id C
  unfold sp_Mo_valueOf_14 at hz
  unfold ok_Mo_valueOf_14 at hok
  refine pfI C hP hD hS 0 6 fkMo rfl (by decide) rfl qf_Mo_107 rfl rfl rfl (Nat.le_of_ble_eq_true rfl) (ff := fun o => fMo a o) (sMo_6 _ _ _) d_Mo_valueOf_14 (fun o_4 eo_4 H locs hP hD hS => ?_)
  have hP : va_P g.1 vwCl (wMo g mo a o_4 now dr pa sa iS bu tq rT wT wo sK sA sB sE oq bS bE bL rp) H := hP
  have hD : va_D (inW ws0) (wMo g mo a o_4 now dr pa sa iS bu tq rT wT wo sK sA sB sE oq bS bE bL rp) := hD
  have hz := lett_z hz eo_4
  have hok := lett_o hok eo_4
  refine lv_aload_n hx hb d_Mo_valueOf_17 rfl (lv_at hl 0 rfl) ?_
  refine gf C hP 0 6 fkMo rfl (by decide) rfl qf_Mo_107 (gMo_6 _ _) d_Mo_valueOf_18 ?_
  refine lv_if_le (tgt := 28) hx hb d_Mo_valueOf_21 (by decide) (fun c5 => ?_) (fun c5 => ?_)
  · have hz := hz.trans (if_pos c5)
    have hok := hok.1 c5
    refine lv_aload_n hx hb d_Mo_valueOf_28 rfl (lv_at hl 0 rfl) ?_
    refine lv_iload_n hx hb d_Mo_valueOf_29 rfl (lv_at hl 1 rfl) ?_
    refine lv_iload_n hx hb d_Mo_valueOf_30 rfl (lv_at hl 2 rfl) ?_
    refine lv_if_eq (tgt := 39) hx hb d_Mo_valueOf_31 (by decide) (fun c6 => ?_) (fun c6 => ?_)
    · have hz := hz.trans (if_pos c6)
      have hok := hok.1 c6
      refine lv_bipush (v := 6) hx hb d_Mo_valueOf_39 (by decide) ?_
      exact k_Mo_valueOf_41 C (6 : Int32) hok _ hz _ _ ls hP hD hS (lv_sub hl [] rfl)
    · have hz := hz.trans (if_neg c6)
      have hok := hok.2 c6
      refine lv_bipush (v := 7) hx hb d_Mo_valueOf_34 (by decide) ?_
      refine lv_goto (tgt := 41) hx hb d_Mo_valueOf_36 (by decide) ?_
      exact k_Mo_valueOf_41 C (7 : Int32) hok _ hz _ _ ls hP hD hS (lv_sub hl [] rfl)
  · have hz := hz.trans (if_neg c5)
    refine lv_lconst (v := 0) hx hb d_Mo_valueOf_24 (by decide) ?_
    refine lv_goto (tgt := 44) hx hb d_Mo_valueOf_25 (by decide) ?_
    exact endL1 C hz hP hS d_Mo_valueOf_44
noncomputable def sp_Mo_valueOf (p1 : Int32) (p2 : Int32) (o : IV) (now : LV) : Int64 × IV := lett (sp_Mo_isResult p1 now) fun (y2 : Int32) => if y2 = 0 then (sp_Mo_valueOf_14 o p2 p1 now (1 : Int32)) else (sp_Mo_valueOf_14 o p2 p1 now (0 : Int32))
def ok_Mo_valueOf (p1 : Int32) (p2 : Int32) (o : IV) (now : LV) : Prop := (ok_Mo_isResult p1 now) ∧ lett (sp_Mo_isResult p1 now) fun (y2 : Int32) => ((y2 = 0 → ok_Mo_valueOf_14 o p2 p1 now (1 : Int32)) ∧ (¬ (y2 = 0) → ok_Mo_valueOf_14 o p2 p1 now (0 : Int32)))
set_option maxRecDepth 100000 in
set_option maxHeartbeats 4000000 in
theorem c_Mo_valueOf (l : Launch) (g : GX) (mo : Nat) (a : Nat → Nat) (o : IV) (now : LV) (dr : LV) (pa : LV) (sa : LV) (iS : IV) (bu : IV) (tq : IV) (rT : IV) (wT : IV) (wo : Nat → Option Nat) (sK : IV) (sA : IV) (sB : IV) (sE : IV) (oq : IV) (bS : IV) (bE : IV) (bL : IV) (rp : IV) (p1 : Int32) (p2 : Int32) (hok : ok_Mo_valueOf p1 p2 o now) : Met l y_Mo_valueOf (wsY y_Mo_valueOf b_Mo_valueOf 3 (some .long)) rm_Mo_valueOf (CP g [.ref mo, .int p1, .int p2] (wMo g mo a o now dr pa sa iS bu tq rT wT wo sK sA sB sE oq bS bE bL rp)) (CL g (wMo g mo a o now dr pa sa iS bu tq rT wT wo sK sA sB sE oq bS bE bL rp) (fun u : IV => wMo g mo a u now dr pa sa iS bu tq rT wT wo sK sA sB sE oq bS bE bL rp) (sp_Mo_valueOf p1 p2 o now)) 0 0 (inW (wMo g mo a o now dr pa sa iS bu tq rT wT wo sK sA sB sE oq bS bE bL rp)) := by
  refine Met.ofW (cc := b_Mo_valueOf) (maxL := 3) (ret := (some .long)) pn_Mo rfl ?_
  intro p e s m args below meth c s₁ B hml hv
  obtain ⟨rfl, C, hP, hD, hS⟩ := enter "DecadeBridgeModel" rfl B hml hv
  obtain ⟨hx, hb, hr, hml, hown, hlk, hts, hK, hZo, hZ⟩ := id C
  refine entryW (lv := [(0, .ref mo), (1, .int p1), (2, .int p2)]) rfl (Nat.le_of_ble_eq_true rfl) (fun ls hl => ?_)
  obtain ⟨z, hz⟩ : ∃ z, z = sp_Mo_valueOf p1 p2 o now := ⟨_, rfl⟩
  rw [← hz]
  unfold sp_Mo_valueOf at hz
  unfold ok_Mo_valueOf at hok
  refine lv_aload_n hx hb d_Mo_valueOf_0 rfl (lv_at hl 0 rfl) ?_
  refine lv_aload_n hx hb d_Mo_valueOf_1 rfl (lv_at hl 0 rfl) ?_
  refine lv_iload_n hx hb d_Mo_valueOf_2 rfl (lv_at hl 1 rfl) ?_
  have hs1 := hok.1
  have hok := hok.2
  have hB : SubW g (inW (wMo g mo a o now dr pa sa iS bu tq rT wT wo sK sA sB sE oq bS bE bL rp)) s (wMo g mo a o now dr pa sa iS bu tq rT wT wo sK sA sB sE oq bS bE bL rp) _ (List.range _) _ _ := (subF hP hD hS)
  refine goI0 hB (run_v C mf_Mo_isResult qm_Mo_433 (c_Mo_isResult l g mo a o now dr pa sa iS bu tq rT wT wo sK sA sB sE oq bS bE bL rp p1 hs1) rfl rfl ⟨Nat.le_of_ble_eq_true rfl, Nat.le_of_ble_eq_true rfl⟩ ⟨Nat.le_of_ble_eq_true rfl, Nat.le_of_ble_eq_true rfl⟩ hB rfl rfl hl rfl rfl (Nat.le_of_ble_eq_true rfl) d_Mo_valueOf_3) (fun y2 ey2 H locs hP hS => ?_)
  have hz := lett_z hz ey2
  have hok := lett_o hok ey2
  refine lv_if_eq (tgt := 13) hx hb d_Mo_valueOf_6 (by decide) (fun c3 => ?_) (fun c3 => ?_)
  · have hz := hz.trans (if_pos c3)
    have hok := hok.1 c3
    refine lv_iconst (v := 1) hx hb d_Mo_valueOf_13 (by decide) ?_
    exact k_Mo_valueOf_14 C (1 : Int32) hok _ hz _ _ ls hP hD hS hl
  · have hz := hz.trans (if_neg c3)
    have hok := hok.2 c3
    refine lv_iconst (v := 0) hx hb d_Mo_valueOf_9 (by decide) ?_
    refine lv_goto (tgt := 14) hx hb d_Mo_valueOf_10 (by decide) ?_
    exact k_Mo_valueOf_14 C (0 : Int32) hok _ hz _ _ ls hP hD hS hl
abbrev rm_Mo_resultsOf : Room := { frames := 2, cells := 0, slots := 0, locals := 44 }
def HL_Mo_resultsOf_4 (p : Program) (l : Launch) (e : Env) (s : State) (m : MethodId) (args : Array Value) (below : List Frame) (meth : Method) (c : Code) (g : GX) (mo : Nat) (a : Nat → Nat) (o : IV) (now : LV) (dr : LV) (pa : LV) (sa : LV) (iS : IV) (bu : IV) (tq : IV) (rT : IV) (wT : IV) (wo : Nat → Option Nat) (sK : IV) (sA : IV) (sB : IV) (sE : IV) (oq : IV) (bS : IV) (bE : IV) (bL : IV) (rp : IV) (p1 : Int32) (sp : Int32 → Int32 → Int32) (ok : Int32 → Int32 → Prop) : Prop := ∀ (x2p4 : Int32) (x3p4 : Int32), ok x2p4 x3p4 → ∀ z : Int32, z = sp x2p4 x3p4 → ∀ (H : Heap) (locs : List Loc) (ls : Array Slot), va_P g.1 vwCl (wMo g mo a o now dr pa sa iS bu tq rT wT wo sK sA sB sE oq bS bE bL rp) H → va_D (inW (wMo g mo a o now dr pa sa iS bu tq rT wT wo sK sA sB sE oq bS bE bL rp)) (wMo g mo a o now dr pa sa iS bu tq rT wT wo sK sA sB sE oq bS bE bL rp) → va_S (inW (wMo g mo a o now dr pa sa iS bu tq rT wT wo sK sA sB sE oq bS bE bL rp)) s.heap H locs → lv_has ls 4 [(0, .ref mo), (1, .int p1), (2, .int x2p4), (3, .int x3p4)] → W p l e rm_Mo_resultsOf s m args below meth c H locs 0 0 (MQ below (CI0 g (wMo g mo a o now dr pa sa iS bu tq rT wT wo sK sA sB sE oq bS bE bL rp) z) args s 0 0 (inW (wMo g mo a o now dr pa sa iS bu tq rT wT wo sK sA sB sE oq bS bE bL rp))) (F0 m 4 ls [])
def HL_Mo_resultsOf_32 (p : Program) (l : Launch) (e : Env) (s : State) (m : MethodId) (args : Array Value) (below : List Frame) (meth : Method) (c : Code) (g : GX) (mo : Nat) (a : Nat → Nat) (o : IV) (now : LV) (dr : LV) (pa : LV) (sa : LV) (iS : IV) (bu : IV) (tq : IV) (rT : IV) (wT : IV) (wo : Nat → Option Nat) (sK : IV) (sA : IV) (sB : IV) (sE : IV) (oq : IV) (bS : IV) (bE : IV) (bL : IV) (rp : IV) (p1 : Int32) (x3p4 : Int32) (x2p4 : Int32) (sp : Int32 → Int32) (ok : Int32 → Prop) : Prop := ∀ (t1p32 : Int32), ok t1p32 → ∀ z : Int32, z = sp t1p32 → ∀ (H : Heap) (locs : List Loc) (ls : Array Slot), va_P g.1 vwCl (wMo g mo a o now dr pa sa iS bu tq rT wT wo sK sA sB sE oq bS bE bL rp) H → va_D (inW (wMo g mo a o now dr pa sa iS bu tq rT wT wo sK sA sB sE oq bS bE bL rp)) (wMo g mo a o now dr pa sa iS bu tq rT wT wo sK sA sB sE oq bS bE bL rp) → va_S (inW (wMo g mo a o now dr pa sa iS bu tq rT wT wo sK sA sB sE oq bS bE bL rp)) s.heap H locs → lv_has ls 4 [(0, .ref mo), (1, .int p1), (3, .int x3p4)] → W p l e rm_Mo_resultsOf s m args below meth c H locs 0 0 (MQ below (CI0 g (wMo g mo a o now dr pa sa iS bu tq rT wT wo sK sA sB sE oq bS bE bL rp) z) args s 0 0 (inW (wMo g mo a o now dr pa sa iS bu tq rT wT wo sK sA sB sE oq bS bE bL rp))) (F0 m 32 ls [.int t1p32, .int x2p4])
noncomputable def sp_Mo_resultsOf_32 (x2p4 : Int32) (x3p4 : Int32) (r4 : Int32 → Int32 → Int32) (t1p32 : Int32) : Int32 := lett (x2p4 + t1p32) fun (v5 : Int32) => lett (x3p4 + (1 : Int32)) fun (v6 : Int32) => r4 v5 v6
def ok_Mo_resultsOf_32 (x2p4 : Int32) (x3p4 : Int32) (r4 : Int32 → Int32 → Int32) (q4 : Int32 → Int32 → Prop) (t1p32 : Int32) : Prop := lett (x2p4 + t1p32) fun (v5 : Int32) => lett (x3p4 + (1 : Int32)) fun (v6 : Int32) => q4 v5 v6
set_option maxRecDepth 100000 in
set_option maxHeartbeats 4000000 in
theorem k_Mo_resultsOf_32 {p : Program} {l : Launch} {e : Env} {s : State} {m : MethodId} {args : Array Value} {below : List Frame} {meth : Method} {c : Code} {g : GX} {mo : Nat} {a : Nat → Nat} {o : IV} {now : LV} {dr : LV} {pa : LV} {sa : LV} {iS : IV} {bu : IV} {tq : IV} {rT : IV} {wT : IV} {wo : Nat → Option Nat} {sK : IV} {sA : IV} {sB : IV} {sE : IV} {oq : IV} {bS : IV} {bE : IV} {bL : IV} {rp : IV} {p1 : Int32} {x3p4 : Int32} {x2p4 : Int32} {r4 : Int32 → Int32 → Int32} {q4 : Int32 → Int32 → Prop} (C : Cx p s m args meth c (inW (wMo g mo a o now dr pa sa iS bu tq rT wT wo sK sA sB sE oq bS bE bL rp)) g "DecadeBridgeModel" b_Mo_resultsOf (some .int) 4) (ih4 : HL_Mo_resultsOf_4 p l e s m args below meth c g mo a o now dr pa sa iS bu tq rT wT wo sK sA sB sE oq bS bE bL rp p1 r4 q4) : HL_Mo_resultsOf_32 p l e s m args below meth c g mo a o now dr pa sa iS bu tq rT wT wo sK sA sB sE oq bS bE bL rp p1 x3p4 x2p4 (sp_Mo_resultsOf_32 x2p4 x3p4 r4) (ok_Mo_resultsOf_32 x2p4 x3p4 r4 q4) := by
  intro t1p32 hok z hz H locs ls hP hD hS hl
  obtain ⟨hx, hb, hr, hml, hown, hlk, hts, hK, hZo, hZ⟩ := id C
  unfold sp_Mo_resultsOf_32 at hz
  unfold ok_Mo_resultsOf_32 at hok
  refine lv_iadd hx hb d_Mo_resultsOf_32 ?_
  refine lv_topi (fun v5 ev5 => ?_)
  have hz := lett_z hz ev5
  have hok := lett_o hok ev5
  refine lv_istore_n (lv' := [(2, .int v5), (0, .ref mo), (1, .int p1), (3, .int x3p4)]) hx hb d_Mo_resultsOf_33 rfl hl (by decide) rfl (fun ls hl => ?_)
  obtain ⟨v6, ev6⟩ : ∃ y : Int32, y = x3p4 + (1 : Int32) := ⟨_, rfl⟩
  have hz := lett_z hz ev6
  have hok := lett_o hok ev6
  refine lv_iinc (v := v6) (lv' := [(3, .int v6), (2, .int v5), (0, .ref mo), (1, .int p1)]) hx hb d_Mo_resultsOf_34 hl (k := 3) rfl (by rw [ev6]; rfl) (by decide) rfl (fun ls hl => ?_)
  refine lv_goto (tgt := 4) hx hb d_Mo_resultsOf_37 (by decide) ?_
  exact ih4 v5 v6 hok _ hz _ _ ls hP hD hS (lv_sub hl [2, 3, 1, 0] rfl)
noncomputable def bd_Mo_resultsOf_4 (now : LV) (p1 : Int32) (r4 : Int32 → Int32 → Int32) (x2p4 : Int32) (x3p4 : Int32) : Int32 := if (now 54) ≤ x3p4.toInt64 then (x2p4) else (lett (sp_Mo_isAlike p1 x3p4 now) fun (y3 : Int32) => if y3 = 0 then (sp_Mo_resultsOf_32 x2p4 x3p4 r4 (0 : Int32)) else (sp_Mo_resultsOf_32 x2p4 x3p4 r4 (1 : Int32)))
def okb_Mo_resultsOf_4 (now : LV) (p1 : Int32) (r4 : Int32 → Int32 → Int32) (q4 : Int32 → Int32 → Prop) (x2p4 : Int32) (x3p4 : Int32) : Prop := (((now 54) ≤ x3p4.toInt64 → True) ∧ (¬ ((now 54) ≤ x3p4.toInt64) → (ok_Mo_isAlike p1 x3p4 now) ∧ lett (sp_Mo_isAlike p1 x3p4 now) fun (y3 : Int32) => ((y3 = 0 → ok_Mo_resultsOf_32 x2p4 x3p4 r4 q4 (0 : Int32)) ∧ (¬ (y3 = 0) → ok_Mo_resultsOf_32 x2p4 x3p4 r4 q4 (1 : Int32)))))
noncomputable def sp_Mo_resultsOf_4 (now : LV) (p1 : Int32)  : Nat → Int32 → Int32 → Int32
  | 0 => fun _ _ => default
  | f + 1 => bd_Mo_resultsOf_4 now p1  (sp_Mo_resultsOf_4 now p1  f)
def ok_Mo_resultsOf_4 (now : LV) (p1 : Int32)   : Nat → Int32 → Int32 → Prop
  | 0 => fun _ _ => False
  | f + 1 => okb_Mo_resultsOf_4 now p1  (sp_Mo_resultsOf_4 now p1  f)  (ok_Mo_resultsOf_4 now p1   f)
set_option maxRecDepth 100000 in
set_option maxHeartbeats 4000000 in
theorem kb_Mo_resultsOf_4 {p : Program} {l : Launch} {e : Env} {s : State} {m : MethodId} {args : Array Value} {below : List Frame} {meth : Method} {c : Code} {g : GX} {mo : Nat} {a : Nat → Nat} {o : IV} {now : LV} {dr : LV} {pa : LV} {sa : LV} {iS : IV} {bu : IV} {tq : IV} {rT : IV} {wT : IV} {wo : Nat → Option Nat} {sK : IV} {sA : IV} {sB : IV} {sE : IV} {oq : IV} {bS : IV} {bE : IV} {bL : IV} {rp : IV} {p1 : Int32}  (C : Cx p s m args meth c (inW (wMo g mo a o now dr pa sa iS bu tq rT wT wo sK sA sB sE oq bS bE bL rp)) g "DecadeBridgeModel" b_Mo_resultsOf (some .int) 4) {r4 : Int32 → Int32 → Int32} {q4 : Int32 → Int32 → Prop}  (ih4 : HL_Mo_resultsOf_4 p l e s m args below meth c g mo a o now dr pa sa iS bu tq rT wT wo sK sA sB sE oq bS bE bL rp p1 r4 q4) : HL_Mo_resultsOf_4 p l e s m args below meth c g mo a o now dr pa sa iS bu tq rT wT wo sK sA sB sE oq bS bE bL rp p1 (bd_Mo_resultsOf_4 now p1  r4) (okb_Mo_resultsOf_4 now p1  r4  q4) := by
  intro x2p4 x3p4 hok z hz H locs ls hP hD hS hl
  obtain ⟨hx, hb, hr, hml, hown, hlk, hts, hK, hZo, hZ⟩ := id C
  unfold bd_Mo_resultsOf_4 at hz
  unfold okb_Mo_resultsOf_4 at hok
  refine lv_iload_n hx hb d_Mo_resultsOf_4 rfl (lv_at hl 3 rfl) ?_
  refine lv_i2l hx hb d_Mo_resultsOf_5 rfl ?_
  refine lv_aload_n hx hb d_Mo_resultsOf_6 rfl (lv_at hl 0 rfl) ?_
  refine gf C hP 0 0 fkMo rfl (by decide) rfl qf_Mo_7 (gMo_0 _ _) d_Mo_resultsOf_7 ?_
  refine lv_bipush (v := 54) hx hb d_Mo_resultsOf_10 (by decide) ?_
  refine ldL C hP 1 rfl vi_54_215 cn_54 d_Mo_resultsOf_12 ?_
  refine lc_ge (tgt := 40) hx hb d_Mo_resultsOf_13 d_Mo_resultsOf_14 (by decide) (fun c1 => ?_) (fun c1 => ?_)
  · have hz := hz.trans (if_pos c1)
    refine lv_iload_n hx hb d_Mo_resultsOf_40 rfl (lv_at hl 2 rfl) ?_
    exact endI0 C hz hP hS d_Mo_resultsOf_41
  · have hz := hz.trans (if_neg c1)
    have hok := hok.2 c1
    refine lv_iload_n hx hb d_Mo_resultsOf_17 rfl (lv_at hl 2 rfl) ?_
    refine lv_aload_n hx hb d_Mo_resultsOf_18 rfl (lv_at hl 0 rfl) ?_
    refine lv_iload_n hx hb d_Mo_resultsOf_19 rfl (lv_at hl 1 rfl) ?_
    refine lv_iload_n hx hb d_Mo_resultsOf_20 rfl (lv_at hl 3 rfl) ?_
    have hs2 := hok.1
    have hok := hok.2
    have hB : SubW g (inW (wMo g mo a o now dr pa sa iS bu tq rT wT wo sK sA sB sE oq bS bE bL rp)) s (wMo g mo a o now dr pa sa iS bu tq rT wT wo sK sA sB sE oq bS bE bL rp) _ (List.range _) _ _ := (subF hP hD hS)
    refine goI0 hB (run_v C mf_Mo_isAlike qm_Mo_410 (c_Mo_isAlike l g mo a o now dr pa sa iS bu tq rT wT wo sK sA sB sE oq bS bE bL rp p1 x3p4 hs2) rfl rfl ⟨Nat.le_of_ble_eq_true rfl, Nat.le_of_ble_eq_true rfl⟩ ⟨Nat.le_of_ble_eq_true rfl, Nat.le_of_ble_eq_true rfl⟩ hB rfl rfl hl rfl rfl (Nat.le_of_ble_eq_true rfl) d_Mo_resultsOf_21) (fun y3 ey3 H locs hP hS => ?_)
    have hz := lett_z hz ey3
    have hok := lett_o hok ey3
    refine lv_if_eq (tgt := 31) hx hb d_Mo_resultsOf_24 (by decide) (fun c4 => ?_) (fun c4 => ?_)
    · have hz := hz.trans (if_pos c4)
      have hok := hok.1 c4
      refine lv_iconst (v := 0) hx hb d_Mo_resultsOf_31 (by decide) ?_
      exact k_Mo_resultsOf_32 C ih4 (0 : Int32) hok _ hz _ _ ls hP hD hS (lv_sub hl [0, 1, 3] rfl)
    · have hz := hz.trans (if_neg c4)
      have hok := hok.2 c4
      refine lv_iconst (v := 1) hx hb d_Mo_resultsOf_27 (by decide) ?_
      refine lv_goto (tgt := 32) hx hb d_Mo_resultsOf_28 (by decide) ?_
      exact k_Mo_resultsOf_32 C ih4 (1 : Int32) hok _ hz _ _ ls hP hD hS (lv_sub hl [0, 1, 3] rfl)
theorem k_Mo_resultsOf_4 {p : Program} {l : Launch} {e : Env} {s : State} {m : MethodId} {args : Array Value} {below : List Frame} {meth : Method} {c : Code} {g : GX} {mo : Nat} {a : Nat → Nat} {o : IV} {now : LV} {dr : LV} {pa : LV} {sa : LV} {iS : IV} {bu : IV} {tq : IV} {rT : IV} {wT : IV} {wo : Nat → Option Nat} {sK : IV} {sA : IV} {sB : IV} {sE : IV} {oq : IV} {bS : IV} {bE : IV} {bL : IV} {rp : IV} {p1 : Int32}  (C : Cx p s m args meth c (inW (wMo g mo a o now dr pa sa iS bu tq rT wT wo sK sA sB sE oq bS bE bL rp)) g "DecadeBridgeModel" b_Mo_resultsOf (some .int) 4) (f : Nat)  : HL_Mo_resultsOf_4 p l e s m args below meth c g mo a o now dr pa sa iS bu tq rT wT wo sK sA sB sE oq bS bE bL rp p1 (sp_Mo_resultsOf_4 now p1  f) (ok_Mo_resultsOf_4 now p1   f) := by
  induction f with
  | zero => intro x2p4 x3p4 hok; exact False.elim hok
  | succ f ih => exact kb_Mo_resultsOf_4 C  ih
noncomputable def sp_Mo_resultsOf (p1 : Int32) (now : LV) : Int32 := sp_Mo_resultsOf_4 now p1 big (0 : Int32) p1
def ok_Mo_resultsOf (p1 : Int32) (now : LV) : Prop := ok_Mo_resultsOf_4 now p1 big (0 : Int32) p1
set_option maxRecDepth 100000 in
set_option maxHeartbeats 4000000 in
theorem c_Mo_resultsOf (l : Launch) (g : GX) (mo : Nat) (a : Nat → Nat) (o : IV) (now : LV) (dr : LV) (pa : LV) (sa : LV) (iS : IV) (bu : IV) (tq : IV) (rT : IV) (wT : IV) (wo : Nat → Option Nat) (sK : IV) (sA : IV) (sB : IV) (sE : IV) (oq : IV) (bS : IV) (bE : IV) (bL : IV) (rp : IV) (p1 : Int32) (hok : ok_Mo_resultsOf p1 now) : Met l y_Mo_resultsOf (wsY y_Mo_resultsOf b_Mo_resultsOf 4 (some .int)) rm_Mo_resultsOf (CP g [.ref mo, .int p1] (wMo g mo a o now dr pa sa iS bu tq rT wT wo sK sA sB sE oq bS bE bL rp)) (CI0 g (wMo g mo a o now dr pa sa iS bu tq rT wT wo sK sA sB sE oq bS bE bL rp) (sp_Mo_resultsOf p1 now)) 0 0 (inW (wMo g mo a o now dr pa sa iS bu tq rT wT wo sK sA sB sE oq bS bE bL rp)) := by
  refine Met.ofW (cc := b_Mo_resultsOf) (maxL := 4) (ret := (some .int)) pn_Mo rfl ?_
  intro p e s m args below meth c s₁ B hml hv
  obtain ⟨rfl, C, hP, hD, hS⟩ := enter "DecadeBridgeModel" rfl B hml hv
  obtain ⟨hx, hb, hr, hml, hown, hlk, hts, hK, hZo, hZ⟩ := id C
  refine entryW (lv := [(0, .ref mo), (1, .int p1)]) rfl (Nat.le_of_ble_eq_true rfl) (fun ls hl => ?_)
  obtain ⟨z, hz⟩ : ∃ z, z = sp_Mo_resultsOf p1 now := ⟨_, rfl⟩
  rw [← hz]
  unfold sp_Mo_resultsOf at hz
  unfold ok_Mo_resultsOf at hok
  refine lv_iconst (v := 0) hx hb d_Mo_resultsOf_0 (by decide) ?_
  refine lv_istore_n (lv' := [(2, .int (0 : Int32)), (0, .ref mo), (1, .int p1)]) hx hb d_Mo_resultsOf_1 rfl hl (by decide) rfl (fun ls hl => ?_)
  refine lv_iload_n hx hb d_Mo_resultsOf_2 rfl (lv_at hl 2 rfl) ?_
  refine lv_istore_n (lv' := [(3, .int p1), (2, .int (0 : Int32)), (0, .ref mo), (1, .int p1)]) hx hb d_Mo_resultsOf_3 rfl hl (by decide) rfl (fun ls hl => ?_)
  exact k_Mo_resultsOf_4 C big (0 : Int32) p1 hok _ hz _ _ ls hP hD hS (lv_sub hl [2, 3, 1, 0] rfl)
abbrev rm_Mo_latest : Room := { frames := 2, cells := 0, slots := 0, locals := 44 }
def HL_Mo_latest_11 (p : Program) (l : Launch) (e : Env) (s : State) (m : MethodId) (args : Array Value) (below : List Frame) (meth : Method) (c : Code) (g : GX) (mo : Nat) (a : Nat → Nat) (o : IV) (now : LV) (dr : LV) (pa : LV) (sa : LV) (iS : IV) (bu : IV) (tq : IV) (rT : IV) (wT : IV) (wo : Nat → Option Nat) (sK : IV) (sA : IV) (sB : IV) (sE : IV) (oq : IV) (bS : IV) (bE : IV) (bL : IV) (rp : IV) (p1 : Int32) (sp : Int32 → Int32) (ok : Int32 → Prop) : Prop := ∀ (x2p11 : Int32), ok x2p11 → ∀ z : Int32, z = sp x2p11 → ∀ (H : Heap) (locs : List Loc) (ls : Array Slot), va_P g.1 vwCl (wMo g mo a o now dr pa sa iS bu tq rT wT wo sK sA sB sE oq bS bE bL rp) H → va_D (inW (wMo g mo a o now dr pa sa iS bu tq rT wT wo sK sA sB sE oq bS bE bL rp)) (wMo g mo a o now dr pa sa iS bu tq rT wT wo sK sA sB sE oq bS bE bL rp) → va_S (inW (wMo g mo a o now dr pa sa iS bu tq rT wT wo sK sA sB sE oq bS bE bL rp)) s.heap H locs → lv_has ls 3 [(0, .ref mo), (1, .int p1), (2, .int x2p11)] → W p l e rm_Mo_latest s m args below meth c H locs 0 0 (MQ below (CI0 g (wMo g mo a o now dr pa sa iS bu tq rT wT wo sK sA sB sE oq bS bE bL rp) z) args s 0 0 (inW (wMo g mo a o now dr pa sa iS bu tq rT wT wo sK sA sB sE oq bS bE bL rp))) (F0 m 11 ls [])
noncomputable def bd_Mo_latest_11 (p1 : Int32) (now : LV) (r11 : Int32 → Int32) (x2p11 : Int32) : Int32 := lett (sp_Mo_isAlike p1 x2p11 now) fun (y3 : Int32) => if y3 = 0 then (lett (x2p11 + (-1 : Int32)) fun (v5 : Int32) => r11 v5) else (x2p11)
def okb_Mo_latest_11 (p1 : Int32) (now : LV) (r11 : Int32 → Int32) (q11 : Int32 → Prop) (x2p11 : Int32) : Prop := (ok_Mo_isAlike p1 x2p11 now) ∧ lett (sp_Mo_isAlike p1 x2p11 now) fun (y3 : Int32) => ((y3 = 0 → lett (x2p11 + (-1 : Int32)) fun (v5 : Int32) => q11 v5) ∧ (¬ (y3 = 0) → True))
noncomputable def sp_Mo_latest_11 (p1 : Int32) (now : LV)  : Nat → Int32 → Int32
  | 0 => fun _ => default
  | f + 1 => bd_Mo_latest_11 p1 now  (sp_Mo_latest_11 p1 now  f)
def ok_Mo_latest_11 (p1 : Int32) (now : LV)   : Nat → Int32 → Prop
  | 0 => fun _ => False
  | f + 1 => okb_Mo_latest_11 p1 now  (sp_Mo_latest_11 p1 now  f)  (ok_Mo_latest_11 p1 now   f)
set_option maxRecDepth 100000 in
set_option maxHeartbeats 4000000 in
theorem kb_Mo_latest_11 {p : Program} {l : Launch} {e : Env} {s : State} {m : MethodId} {args : Array Value} {below : List Frame} {meth : Method} {c : Code} {g : GX} {mo : Nat} {a : Nat → Nat} {o : IV} {now : LV} {dr : LV} {pa : LV} {sa : LV} {iS : IV} {bu : IV} {tq : IV} {rT : IV} {wT : IV} {wo : Nat → Option Nat} {sK : IV} {sA : IV} {sB : IV} {sE : IV} {oq : IV} {bS : IV} {bE : IV} {bL : IV} {rp : IV} {p1 : Int32}  (C : Cx p s m args meth c (inW (wMo g mo a o now dr pa sa iS bu tq rT wT wo sK sA sB sE oq bS bE bL rp)) g "DecadeBridgeModel" b_Mo_latest (some .int) 3) {r11 : Int32 → Int32} {q11 : Int32 → Prop}  (ih11 : HL_Mo_latest_11 p l e s m args below meth c g mo a o now dr pa sa iS bu tq rT wT wo sK sA sB sE oq bS bE bL rp p1 r11 q11) : HL_Mo_latest_11 p l e s m args below meth c g mo a o now dr pa sa iS bu tq rT wT wo sK sA sB sE oq bS bE bL rp p1 (bd_Mo_latest_11 p1 now  r11) (okb_Mo_latest_11 p1 now  r11  q11) := by
  intro x2p11 hok z hz H locs ls hP hD hS hl
  obtain ⟨hx, hb, hr, hml, hown, hlk, hts, hK, hZo, hZ⟩ := id C
  unfold bd_Mo_latest_11 at hz
  unfold okb_Mo_latest_11 at hok
  refine lv_aload_n hx hb d_Mo_latest_11 rfl (lv_at hl 0 rfl) ?_
  refine lv_iload_n hx hb d_Mo_latest_12 rfl (lv_at hl 1 rfl) ?_
  refine lv_iload_n hx hb d_Mo_latest_13 rfl (lv_at hl 2 rfl) ?_
  have hs2 := hok.1
  have hok := hok.2
  have hB : SubW g (inW (wMo g mo a o now dr pa sa iS bu tq rT wT wo sK sA sB sE oq bS bE bL rp)) s (wMo g mo a o now dr pa sa iS bu tq rT wT wo sK sA sB sE oq bS bE bL rp) _ (List.range _) _ _ := (subF hP hD hS)
  refine goI0 hB (run_v C mf_Mo_isAlike qm_Mo_410 (c_Mo_isAlike l g mo a o now dr pa sa iS bu tq rT wT wo sK sA sB sE oq bS bE bL rp p1 x2p11 hs2) rfl rfl ⟨Nat.le_of_ble_eq_true rfl, Nat.le_of_ble_eq_true rfl⟩ ⟨Nat.le_of_ble_eq_true rfl, Nat.le_of_ble_eq_true rfl⟩ hB rfl rfl hl rfl rfl (Nat.le_of_ble_eq_true rfl) d_Mo_latest_14) (fun y3 ey3 H locs hP hS => ?_)
  have hz := lett_z hz ey3
  have hok := lett_o hok ey3
  refine lv_if_ne (tgt := 26) hx hb d_Mo_latest_17 (by decide) (fun c4 => ?_) (fun c4 => ?_)
  · have hz := hz.trans (if_neg c4)
    refine lv_iload_n hx hb d_Mo_latest_26 rfl (lv_at hl 2 rfl) ?_
    exact endI0 C hz hP hS d_Mo_latest_27
  · have hz := hz.trans (if_pos c4)
    have hok := hok.1 c4
    obtain ⟨v5, ev5⟩ : ∃ y : Int32, y = x2p11 + (-1 : Int32) := ⟨_, rfl⟩
    have hz := lett_z hz ev5
    have hok := lett_o hok ev5
    refine lv_iinc (v := v5) (lv' := [(2, .int v5), (0, .ref mo), (1, .int p1)]) hx hb d_Mo_latest_20 hl (k := 2) rfl (by rw [ev5]; rfl) (by decide) rfl (fun ls hl => ?_)
    refine lv_goto (tgt := 11) hx hb d_Mo_latest_23 (by decide) ?_
    exact ih11 v5 hok _ hz _ _ ls hP hD hS (lv_sub hl [1, 2, 0] rfl)
theorem k_Mo_latest_11 {p : Program} {l : Launch} {e : Env} {s : State} {m : MethodId} {args : Array Value} {below : List Frame} {meth : Method} {c : Code} {g : GX} {mo : Nat} {a : Nat → Nat} {o : IV} {now : LV} {dr : LV} {pa : LV} {sa : LV} {iS : IV} {bu : IV} {tq : IV} {rT : IV} {wT : IV} {wo : Nat → Option Nat} {sK : IV} {sA : IV} {sB : IV} {sE : IV} {oq : IV} {bS : IV} {bE : IV} {bL : IV} {rp : IV} {p1 : Int32}  (C : Cx p s m args meth c (inW (wMo g mo a o now dr pa sa iS bu tq rT wT wo sK sA sB sE oq bS bE bL rp)) g "DecadeBridgeModel" b_Mo_latest (some .int) 3) (f : Nat)  : HL_Mo_latest_11 p l e s m args below meth c g mo a o now dr pa sa iS bu tq rT wT wo sK sA sB sE oq bS bE bL rp p1 (sp_Mo_latest_11 p1 now  f) (ok_Mo_latest_11 p1 now   f) := by
  induction f with
  | zero => intro x2p11 hok; exact False.elim hok
  | succ f ih => exact kb_Mo_latest_11 C  ih
noncomputable def sp_Mo_latest (p1 : Int32) (now : LV) : Int32 := lett (((now 54).toInt32) - (1 : Int32)) fun (v1 : Int32) => sp_Mo_latest_11 p1 now big v1
def ok_Mo_latest (p1 : Int32) (now : LV) : Prop := lett (((now 54).toInt32) - (1 : Int32)) fun (v1 : Int32) => ok_Mo_latest_11 p1 now big v1
set_option maxRecDepth 100000 in
set_option maxHeartbeats 4000000 in
theorem c_Mo_latest (l : Launch) (g : GX) (mo : Nat) (a : Nat → Nat) (o : IV) (now : LV) (dr : LV) (pa : LV) (sa : LV) (iS : IV) (bu : IV) (tq : IV) (rT : IV) (wT : IV) (wo : Nat → Option Nat) (sK : IV) (sA : IV) (sB : IV) (sE : IV) (oq : IV) (bS : IV) (bE : IV) (bL : IV) (rp : IV) (p1 : Int32) (hok : ok_Mo_latest p1 now) : Met l y_Mo_latest (wsY y_Mo_latest b_Mo_latest 3 (some .int)) rm_Mo_latest (CP g [.ref mo, .int p1] (wMo g mo a o now dr pa sa iS bu tq rT wT wo sK sA sB sE oq bS bE bL rp)) (CI0 g (wMo g mo a o now dr pa sa iS bu tq rT wT wo sK sA sB sE oq bS bE bL rp) (sp_Mo_latest p1 now)) 0 0 (inW (wMo g mo a o now dr pa sa iS bu tq rT wT wo sK sA sB sE oq bS bE bL rp)) := by
  refine Met.ofW (cc := b_Mo_latest) (maxL := 3) (ret := (some .int)) pn_Mo rfl ?_
  intro p e s m args below meth c s₁ B hml hv
  obtain ⟨rfl, C, hP, hD, hS⟩ := enter "DecadeBridgeModel" rfl B hml hv
  obtain ⟨hx, hb, hr, hml, hown, hlk, hts, hK, hZo, hZ⟩ := id C
  refine entryW (lv := [(0, .ref mo), (1, .int p1)]) rfl (Nat.le_of_ble_eq_true rfl) (fun ls hl => ?_)
  obtain ⟨z, hz⟩ : ∃ z, z = sp_Mo_latest p1 now := ⟨_, rfl⟩
  rw [← hz]
  unfold sp_Mo_latest at hz
  unfold ok_Mo_latest at hok
  refine lv_aload_n hx hb d_Mo_latest_0 rfl (lv_at hl 0 rfl) ?_
  refine gf C hP 0 0 fkMo rfl (by decide) rfl qf_Mo_7 (gMo_0 _ _) d_Mo_latest_1 ?_
  refine lv_bipush (v := 54) hx hb d_Mo_latest_4 (by decide) ?_
  refine ldL C hP 1 rfl vi_54_215 cn_54 d_Mo_latest_6 ?_
  refine lv_l2i hx hb d_Mo_latest_7 rfl ?_
  refine lv_iconst (v := 1) hx hb d_Mo_latest_8 (by decide) ?_
  refine lv_isub hx hb d_Mo_latest_9 ?_
  refine lv_topi (fun v1 ev1 => ?_)
  have hz := lett_z hz ev1
  have hok := lett_o hok ev1
  refine lv_istore_n (lv' := [(2, .int v1), (0, .ref mo), (1, .int p1)]) hx hb d_Mo_latest_10 rfl hl (by decide) rfl (fun ls hl => ?_)
  exact k_Mo_latest_11 C big v1 hok _ hz _ _ ls hP hD hS (lv_sub hl [1, 2, 0] rfl)
abbrev rm_Mo_spreadFrom : Room := { frames := 2, cells := 0, slots := 0, locals := 44 }
def HL_Mo_spreadFrom_14 (p : Program) (l : Launch) (e : Env) (s : State) (m : MethodId) (args : Array Value) (below : List Frame) (meth : Method) (c : Code) (g : GX) (mo : Nat) (a : Nat → Nat) (o : IV) (now : LV) (dr : LV) (pa : LV) (sa : LV) (iS : IV) (bu : IV) (tq : IV) (rT : IV) (wT : IV) (wo : Nat → Option Nat) (sK : IV) (sA : IV) (sB : IV) (sE : IV) (oq : IV) (bS : IV) (bE : IV) (bL : IV) (rp : IV) (p1 : Int32) (sp : Int64 → Int64 → Int32 → Int64) (ok : Int64 → Int64 → Int32 → Prop) : Prop := ∀ (x2p14 : Int64) (x4p14 : Int64) (x6p14 : Int32), ok x2p14 x4p14 x6p14 → ∀ z : Int64, z = sp x2p14 x4p14 x6p14 → ∀ (H : Heap) (locs : List Loc) (ls : Array Slot), va_P g.1 vwCl (wMo g mo a o now dr pa sa iS bu tq rT wT wo sK sA sB sE oq bS bE bL rp) H → va_D (inW (wMo g mo a o now dr pa sa iS bu tq rT wT wo sK sA sB sE oq bS bE bL rp)) (wMo g mo a o now dr pa sa iS bu tq rT wT wo sK sA sB sE oq bS bE bL rp) → va_S (inW (wMo g mo a o now dr pa sa iS bu tq rT wT wo sK sA sB sE oq bS bE bL rp)) s.heap H locs → lv_has ls 7 [(0, .ref mo), (1, .int p1), (2, .long x2p14), (4, .long x4p14), (6, .int x6p14)] → W p l e rm_Mo_spreadFrom s m args below meth c H locs 0 0 (MQ below (CL0 g (wMo g mo a o now dr pa sa iS bu tq rT wT wo sK sA sB sE oq bS bE bL rp) z) args s 0 0 (inW (wMo g mo a o now dr pa sa iS bu tq rT wT wo sK sA sB sE oq bS bE bL rp))) (F0 m 14 ls [])
def HL_Mo_spreadFrom_66 (p : Program) (l : Launch) (e : Env) (s : State) (m : MethodId) (args : Array Value) (below : List Frame) (meth : Method) (c : Code) (g : GX) (mo : Nat) (a : Nat → Nat) (o : IV) (now : LV) (dr : LV) (pa : LV) (sa : LV) (iS : IV) (bu : IV) (tq : IV) (rT : IV) (wT : IV) (wo : Nat → Option Nat) (sK : IV) (sA : IV) (sB : IV) (sE : IV) (oq : IV) (bS : IV) (bE : IV) (bL : IV) (rp : IV) (p1 : Int32) (x6p14 : Int32) (sp : Int64 → Int64 → Int64) (ok : Int64 → Int64 → Prop) : Prop := ∀ (x2p66 : Int64) (x4p66 : Int64), ok x2p66 x4p66 → ∀ z : Int64, z = sp x2p66 x4p66 → ∀ (H : Heap) (locs : List Loc) (ls : Array Slot), va_P g.1 vwCl (wMo g mo a o now dr pa sa iS bu tq rT wT wo sK sA sB sE oq bS bE bL rp) H → va_D (inW (wMo g mo a o now dr pa sa iS bu tq rT wT wo sK sA sB sE oq bS bE bL rp)) (wMo g mo a o now dr pa sa iS bu tq rT wT wo sK sA sB sE oq bS bE bL rp) → va_S (inW (wMo g mo a o now dr pa sa iS bu tq rT wT wo sK sA sB sE oq bS bE bL rp)) s.heap H locs → lv_has ls 7 [(0, .ref mo), (1, .int p1), (2, .long x2p66), (4, .long x4p66), (6, .int x6p14)] → W p l e rm_Mo_spreadFrom s m args below meth c H locs 0 0 (MQ below (CL0 g (wMo g mo a o now dr pa sa iS bu tq rT wT wo sK sA sB sE oq bS bE bL rp) z) args s 0 0 (inW (wMo g mo a o now dr pa sa iS bu tq rT wT wo sK sA sB sE oq bS bE bL rp))) (F0 m 66 ls [])
def HL_Mo_spreadFrom_72 (p : Program) (l : Launch) (e : Env) (s : State) (m : MethodId) (args : Array Value) (below : List Frame) (meth : Method) (c : Code) (g : GX) (mo : Nat) (a : Nat → Nat) (o : IV) (now : LV) (dr : LV) (pa : LV) (sa : LV) (iS : IV) (bu : IV) (tq : IV) (rT : IV) (wT : IV) (wo : Nat → Option Nat) (sK : IV) (sA : IV) (sB : IV) (sE : IV) (oq : IV) (bS : IV) (bE : IV) (bL : IV) (rp : IV) (x2p14 : Int64) (x4p14 : Int64) (sp : Int64) (ok : Prop) : Prop := ∀ (_ : Unit), ok → ∀ z : Int64, z = sp → ∀ (H : Heap) (locs : List Loc) (ls : Array Slot), va_P g.1 vwCl (wMo g mo a o now dr pa sa iS bu tq rT wT wo sK sA sB sE oq bS bE bL rp) H → va_D (inW (wMo g mo a o now dr pa sa iS bu tq rT wT wo sK sA sB sE oq bS bE bL rp)) (wMo g mo a o now dr pa sa iS bu tq rT wT wo sK sA sB sE oq bS bE bL rp) → va_S (inW (wMo g mo a o now dr pa sa iS bu tq rT wT wo sK sA sB sE oq bS bE bL rp)) s.heap H locs → lv_has ls 7 [(2, .long x2p14), (4, .long x4p14)] → W p l e rm_Mo_spreadFrom s m args below meth c H locs 0 0 (MQ below (CL0 g (wMo g mo a o now dr pa sa iS bu tq rT wT wo sK sA sB sE oq bS bE bL rp) z) args s 0 0 (inW (wMo g mo a o now dr pa sa iS bu tq rT wT wo sK sA sB sE oq bS bE bL rp))) (F0 m 72 ls [])
noncomputable def sp_Mo_spreadFrom_72 (x2p14 : Int64) (x4p14 : Int64)   : Int64 := x2p14 - x4p14
def ok_Mo_spreadFrom_72 (x2p14 : Int64) (x4p14 : Int64)    : Prop := True
set_option maxRecDepth 100000 in
set_option maxHeartbeats 4000000 in
theorem k_Mo_spreadFrom_72 {p : Program} {l : Launch} {e : Env} {s : State} {m : MethodId} {args : Array Value} {below : List Frame} {meth : Method} {c : Code} {g : GX} {mo : Nat} {a : Nat → Nat} {o : IV} {now : LV} {dr : LV} {pa : LV} {sa : LV} {iS : IV} {bu : IV} {tq : IV} {rT : IV} {wT : IV} {wo : Nat → Option Nat} {sK : IV} {sA : IV} {sB : IV} {sE : IV} {oq : IV} {bS : IV} {bE : IV} {bL : IV} {rp : IV} {x2p14 : Int64} {x4p14 : Int64}  (C : Cx p s m args meth c (inW (wMo g mo a o now dr pa sa iS bu tq rT wT wo sK sA sB sE oq bS bE bL rp)) g "DecadeBridgeModel" b_Mo_spreadFrom (some .long) 7)  : HL_Mo_spreadFrom_72 p l e s m args below meth c g mo a o now dr pa sa iS bu tq rT wT wo sK sA sB sE oq bS bE bL rp x2p14 x4p14 (sp_Mo_spreadFrom_72 x2p14 x4p14 ) (ok_Mo_spreadFrom_72 x2p14 x4p14  ) := by
  intro _ hok z hz H locs ls hP hD hS hl
  obtain ⟨hx, hb, hr, hml, hown, hlk, hts, hK, hZo, hZ⟩ := id C
  unfold sp_Mo_spreadFrom_72 at hz
  refine lv_lload_n hx hb d_Mo_spreadFrom_72 rfl (lv_at hl 0 rfl) ?_
  refine lv_lload hx hb d_Mo_spreadFrom_73 (lv_at hl 1 rfl) ?_
  refine lv_lsub hx hb d_Mo_spreadFrom_75 ?_
  exact endL0 C hz hP hS d_Mo_spreadFrom_76
noncomputable def sp_Mo_spreadFrom_66 (x6p14 : Int32) (r14 : Int64 → Int64 → Int32 → Int64) (x2p66 : Int64) (x4p66 : Int64) : Int64 := lett (x6p14 + (1 : Int32)) fun (v12 : Int32) => r14 x2p66 x4p66 v12
def ok_Mo_spreadFrom_66 (x6p14 : Int32) (r14 : Int64 → Int64 → Int32 → Int64) (q14 : Int64 → Int64 → Int32 → Prop) (x2p66 : Int64) (x4p66 : Int64) : Prop := lett (x6p14 + (1 : Int32)) fun (v12 : Int32) => q14 x2p66 x4p66 v12
set_option maxRecDepth 100000 in
set_option maxHeartbeats 4000000 in
theorem k_Mo_spreadFrom_66 {p : Program} {l : Launch} {e : Env} {s : State} {m : MethodId} {args : Array Value} {below : List Frame} {meth : Method} {c : Code} {g : GX} {mo : Nat} {a : Nat → Nat} {o : IV} {now : LV} {dr : LV} {pa : LV} {sa : LV} {iS : IV} {bu : IV} {tq : IV} {rT : IV} {wT : IV} {wo : Nat → Option Nat} {sK : IV} {sA : IV} {sB : IV} {sE : IV} {oq : IV} {bS : IV} {bE : IV} {bL : IV} {rp : IV} {p1 : Int32} {x6p14 : Int32} {r14 : Int64 → Int64 → Int32 → Int64} {q14 : Int64 → Int64 → Int32 → Prop} (C : Cx p s m args meth c (inW (wMo g mo a o now dr pa sa iS bu tq rT wT wo sK sA sB sE oq bS bE bL rp)) g "DecadeBridgeModel" b_Mo_spreadFrom (some .long) 7) (ih14 : HL_Mo_spreadFrom_14 p l e s m args below meth c g mo a o now dr pa sa iS bu tq rT wT wo sK sA sB sE oq bS bE bL rp p1 r14 q14) : HL_Mo_spreadFrom_66 p l e s m args below meth c g mo a o now dr pa sa iS bu tq rT wT wo sK sA sB sE oq bS bE bL rp p1 x6p14 (sp_Mo_spreadFrom_66 x6p14 r14) (ok_Mo_spreadFrom_66 x6p14 r14 q14) := by
  intro x2p66 x4p66 hok z hz H locs ls hP hD hS hl
  obtain ⟨hx, hb, hr, hml, hown, hlk, hts, hK, hZo, hZ⟩ := id C
  unfold sp_Mo_spreadFrom_66 at hz
  unfold ok_Mo_spreadFrom_66 at hok
  obtain ⟨v12, ev12⟩ : ∃ y : Int32, y = x6p14 + (1 : Int32) := ⟨_, rfl⟩
  have hz := lett_z hz ev12
  have hok := lett_o hok ev12
  refine lv_iinc (v := v12) (lv' := [(6, .int v12), (0, .ref mo), (1, .int p1), (2, .long x2p66), (4, .long x4p66)]) hx hb d_Mo_spreadFrom_66 hl (k := 4) rfl (by rw [ev12]; rfl) (by decide) rfl (fun ls hl => ?_)
  refine lv_goto (tgt := 14) hx hb d_Mo_spreadFrom_69 (by decide) ?_
  exact ih14 x2p66 x4p66 v12 hok _ hz _ _ ls hP hD hS (lv_sub hl [1, 2, 3, 4, 0] rfl)
noncomputable def bd_Mo_spreadFrom_14 (now : LV) (p1 : Int32) (r14 : Int64 → Int64 → Int32 → Int64) (x2p14 : Int64) (x4p14 : Int64) (x6p14 : Int32) : Int64 := if (now 54) ≤ x6p14.toInt64 then (sp_Mo_spreadFrom_72 x2p14 x4p14) else (lett (sp_Mo_isAlike p1 x6p14 now) fun (y5 : Int32) => if y5 = 0 then (sp_Mo_spreadFrom_66 x6p14 r14 x2p14 x4p14) else (lett (sp_Mo_ofResult x6p14 (7 : Int32) now) fun (y8 : Int64) => lett (if y8 < x2p14 then x2p14 else y8) fun (v9 : Int64) => lett (sp_Mo_ofResult x6p14 (7 : Int32) now) fun (y10 : Int64) => lett (if y10 < x4p14 then y10 else x4p14) fun (v11 : Int64) => sp_Mo_spreadFrom_66 x6p14 r14 v9 v11))
def okb_Mo_spreadFrom_14 (now : LV) (p1 : Int32) (r14 : Int64 → Int64 → Int32 → Int64) (q14 : Int64 → Int64 → Int32 → Prop) (x2p14 : Int64) (x4p14 : Int64) (x6p14 : Int32) : Prop := (((now 54) ≤ x6p14.toInt64 → True) ∧ (¬ ((now 54) ≤ x6p14.toInt64) → (ok_Mo_isAlike p1 x6p14 now) ∧ lett (sp_Mo_isAlike p1 x6p14 now) fun (y5 : Int32) => ((y5 = 0 → ok_Mo_spreadFrom_66 x6p14 r14 q14 x2p14 x4p14) ∧ (¬ (y5 = 0) → (ok_Mo_ofResult x6p14 (7 : Int32)) ∧ lett (sp_Mo_ofResult x6p14 (7 : Int32) now) fun (y8 : Int64) => lett (if y8 < x2p14 then x2p14 else y8) fun (v9 : Int64) => lett (sp_Mo_ofResult x6p14 (7 : Int32) now) fun (y10 : Int64) => lett (if y10 < x4p14 then y10 else x4p14) fun (v11 : Int64) => ok_Mo_spreadFrom_66 x6p14 r14 q14 v9 v11))))
noncomputable def sp_Mo_spreadFrom_14 (now : LV) (p1 : Int32)  : Nat → Int64 → Int64 → Int32 → Int64
  | 0 => fun _ _ _ => default
  | f + 1 => bd_Mo_spreadFrom_14 now p1  (sp_Mo_spreadFrom_14 now p1  f)
def ok_Mo_spreadFrom_14 (now : LV) (p1 : Int32)   : Nat → Int64 → Int64 → Int32 → Prop
  | 0 => fun _ _ _ => False
  | f + 1 => okb_Mo_spreadFrom_14 now p1  (sp_Mo_spreadFrom_14 now p1  f)  (ok_Mo_spreadFrom_14 now p1   f)
set_option maxRecDepth 100000 in
set_option maxHeartbeats 4000000 in
theorem kb_Mo_spreadFrom_14 {p : Program} {l : Launch} {e : Env} {s : State} {m : MethodId} {args : Array Value} {below : List Frame} {meth : Method} {c : Code} {g : GX} {mo : Nat} {a : Nat → Nat} {o : IV} {now : LV} {dr : LV} {pa : LV} {sa : LV} {iS : IV} {bu : IV} {tq : IV} {rT : IV} {wT : IV} {wo : Nat → Option Nat} {sK : IV} {sA : IV} {sB : IV} {sE : IV} {oq : IV} {bS : IV} {bE : IV} {bL : IV} {rp : IV} {p1 : Int32}  (C : Cx p s m args meth c (inW (wMo g mo a o now dr pa sa iS bu tq rT wT wo sK sA sB sE oq bS bE bL rp)) g "DecadeBridgeModel" b_Mo_spreadFrom (some .long) 7) {r14 : Int64 → Int64 → Int32 → Int64} {q14 : Int64 → Int64 → Int32 → Prop}  (ih14 : HL_Mo_spreadFrom_14 p l e s m args below meth c g mo a o now dr pa sa iS bu tq rT wT wo sK sA sB sE oq bS bE bL rp p1 r14 q14) : HL_Mo_spreadFrom_14 p l e s m args below meth c g mo a o now dr pa sa iS bu tq rT wT wo sK sA sB sE oq bS bE bL rp p1 (bd_Mo_spreadFrom_14 now p1  r14) (okb_Mo_spreadFrom_14 now p1  r14  q14) := by
  intro x2p14 x4p14 x6p14 hok z hz H locs ls hP hD hS hl
  obtain ⟨hx, hb, hr, hml, hown, hlk, hts, hK, hZo, hZ⟩ := id C
  unfold bd_Mo_spreadFrom_14 at hz
  unfold okb_Mo_spreadFrom_14 at hok
  refine lv_iload hx hb d_Mo_spreadFrom_14 (lv_at hl 4 rfl) ?_
  refine lv_i2l hx hb d_Mo_spreadFrom_16 rfl ?_
  refine lv_aload_n hx hb d_Mo_spreadFrom_17 rfl (lv_at hl 0 rfl) ?_
  refine gf C hP 0 0 fkMo rfl (by decide) rfl qf_Mo_7 (gMo_0 _ _) d_Mo_spreadFrom_18 ?_
  refine lv_bipush (v := 54) hx hb d_Mo_spreadFrom_21 (by decide) ?_
  refine ldL C hP 1 rfl vi_54_215 cn_54 d_Mo_spreadFrom_23 ?_
  refine lc_ge (tgt := 72) hx hb d_Mo_spreadFrom_24 d_Mo_spreadFrom_25 (by decide) (fun c3 => ?_) (fun c3 => ?_)
  · have hz := hz.trans (if_pos c3)
    exact k_Mo_spreadFrom_72 C () trivial _ hz _ _ ls hP hD hS (lv_sub hl [2, 3] rfl)
  · have hz := hz.trans (if_neg c3)
    have hok := hok.2 c3
    refine lv_aload_n hx hb d_Mo_spreadFrom_28 rfl (lv_at hl 0 rfl) ?_
    refine lv_iload_n hx hb d_Mo_spreadFrom_29 rfl (lv_at hl 1 rfl) ?_
    refine lv_iload hx hb d_Mo_spreadFrom_30 (lv_at hl 4 rfl) ?_
    have hs4 := hok.1
    have hok := hok.2
    have hB : SubW g (inW (wMo g mo a o now dr pa sa iS bu tq rT wT wo sK sA sB sE oq bS bE bL rp)) s (wMo g mo a o now dr pa sa iS bu tq rT wT wo sK sA sB sE oq bS bE bL rp) _ (List.range _) _ _ := (subF hP hD hS)
    refine goI0 hB (run_v C mf_Mo_isAlike qm_Mo_410 (c_Mo_isAlike l g mo a o now dr pa sa iS bu tq rT wT wo sK sA sB sE oq bS bE bL rp p1 x6p14 hs4) rfl rfl ⟨Nat.le_of_ble_eq_true rfl, Nat.le_of_ble_eq_true rfl⟩ ⟨Nat.le_of_ble_eq_true rfl, Nat.le_of_ble_eq_true rfl⟩ hB rfl rfl hl rfl rfl (Nat.le_of_ble_eq_true rfl) d_Mo_spreadFrom_32) (fun y5 ey5 H locs hP hS => ?_)
    have hz := lett_z hz ey5
    have hok := lett_o hok ey5
    refine lv_if_eq (tgt := 66) hx hb d_Mo_spreadFrom_35 (by decide) (fun c6 => ?_) (fun c6 => ?_)
    · have hz := hz.trans (if_pos c6)
      have hok := hok.1 c6
      exact k_Mo_spreadFrom_66 C ih14 x2p14 x4p14 hok _ hz _ _ ls hP hD hS hl
    · have hz := hz.trans (if_neg c6)
      have hok := hok.2 c6
      refine lv_lload_n hx hb d_Mo_spreadFrom_38 rfl (lv_at hl 2 rfl) ?_
      refine lv_aload_n hx hb d_Mo_spreadFrom_39 rfl (lv_at hl 0 rfl) ?_
      refine lv_iload hx hb d_Mo_spreadFrom_40 (lv_at hl 4 rfl) ?_
      refine lv_bipush (v := 7) hx hb d_Mo_spreadFrom_42 (by decide) ?_
      have hs7 := hok.1
      have hok := hok.2
      have hB : SubW g (inW (wMo g mo a o now dr pa sa iS bu tq rT wT wo sK sA sB sE oq bS bE bL rp)) s (wMo g mo a o now dr pa sa iS bu tq rT wT wo sK sA sB sE oq bS bE bL rp) _ (List.range _) _ _ := (subF hP hD hS)
      refine goL0 hB (run_v C mf_Mo_ofResult qm_Mo_406 (c_Mo_ofResult l g mo a o now dr pa sa iS bu tq rT wT wo sK sA sB sE oq bS bE bL rp x6p14 (7 : Int32) hs7) rfl rfl ⟨Nat.le_of_ble_eq_true rfl, Nat.le_of_ble_eq_true rfl⟩ ⟨Nat.le_of_ble_eq_true rfl, Nat.le_of_ble_eq_true rfl⟩ hB rfl rfl hl rfl rfl (Nat.le_of_ble_eq_true rfl) d_Mo_spreadFrom_44) (fun y8 ey8 H locs hP hS => ?_)
      have hz := lett_z hz ey8
      have hok := lett_o hok ey8
      refine va_mmax_long hx hb (hml.trans hl.1.symm) hown (hts _ qm_Mo_430) (hts _ (mf_JM_max_JJJ).2) (hts _ (mf_JM_max_JJJ).1.2.1) (hts _ (mf_JM_max_JJJ).1.1) (Nat.le_of_ble_eq_true rfl) (Nat.le_of_ble_eq_true rfl) (Nat.le_of_ble_eq_true rfl) (Nat.le_of_ble_eq_true rfl) d_Mo_spreadFrom_47 ?_
      refine lv_topl (fun v9 ev9 => ?_)
      have hz := lett_z hz ev9
      have hok := lett_o hok ev9
      refine lv_lstore_n (lv' := [(2, .long v9), (0, .ref mo), (1, .int p1), (4, .long x4p14), (6, .int x6p14)]) hx hb d_Mo_spreadFrom_50 rfl hl (by decide) rfl (fun ls hl => ?_)
      refine lv_lload hx hb d_Mo_spreadFrom_51 (lv_at hl 3 rfl) ?_
      refine lv_aload_n hx hb d_Mo_spreadFrom_53 rfl (lv_at hl 1 rfl) ?_
      refine lv_iload hx hb d_Mo_spreadFrom_54 (lv_at hl 4 rfl) ?_
      refine lv_bipush (v := 7) hx hb d_Mo_spreadFrom_56 (by decide) ?_
      have hB : SubW g (inW (wMo g mo a o now dr pa sa iS bu tq rT wT wo sK sA sB sE oq bS bE bL rp)) s (wMo g mo a o now dr pa sa iS bu tq rT wT wo sK sA sB sE oq bS bE bL rp) _ (List.range _) _ _ := (subF hP hD hS)
      refine goL0 hB (run_v C mf_Mo_ofResult qm_Mo_406 (c_Mo_ofResult l g mo a o now dr pa sa iS bu tq rT wT wo sK sA sB sE oq bS bE bL rp x6p14 (7 : Int32) hs7) rfl rfl ⟨Nat.le_of_ble_eq_true rfl, Nat.le_of_ble_eq_true rfl⟩ ⟨Nat.le_of_ble_eq_true rfl, Nat.le_of_ble_eq_true rfl⟩ hB rfl rfl hl rfl rfl (Nat.le_of_ble_eq_true rfl) d_Mo_spreadFrom_58) (fun y10 ey10 H locs hP hS => ?_)
      have hz := lett_z hz ey10
      have hok := lett_o hok ey10
      refine va_mmin_long hx hb (hml.trans hl.1.symm) hown (hts _ qm_Mo_185) (hts _ (mf_JM_min_JJJ).2) (hts _ (mf_JM_min_JJJ).1.2.1) (hts _ (mf_JM_min_JJJ).1.1) (Nat.le_of_ble_eq_true rfl) (Nat.le_of_ble_eq_true rfl) (Nat.le_of_ble_eq_true rfl) (Nat.le_of_ble_eq_true rfl) d_Mo_spreadFrom_61 ?_
      refine lv_topl (fun v11 ev11 => ?_)
      have hz := lett_z hz ev11
      have hok := lett_o hok ev11
      refine lv_lstore (lv' := [(4, .long v11), (2, .long v9), (0, .ref mo), (1, .int p1), (6, .int x6p14)]) hx hb d_Mo_spreadFrom_64 hl (by decide) rfl (fun ls hl => ?_)
      exact k_Mo_spreadFrom_66 C ih14 v9 v11 hok _ hz _ _ ls hP hD hS (lv_sub hl [2, 3, 1, 0, 4] rfl)
theorem k_Mo_spreadFrom_14 {p : Program} {l : Launch} {e : Env} {s : State} {m : MethodId} {args : Array Value} {below : List Frame} {meth : Method} {c : Code} {g : GX} {mo : Nat} {a : Nat → Nat} {o : IV} {now : LV} {dr : LV} {pa : LV} {sa : LV} {iS : IV} {bu : IV} {tq : IV} {rT : IV} {wT : IV} {wo : Nat → Option Nat} {sK : IV} {sA : IV} {sB : IV} {sE : IV} {oq : IV} {bS : IV} {bE : IV} {bL : IV} {rp : IV} {p1 : Int32}  (C : Cx p s m args meth c (inW (wMo g mo a o now dr pa sa iS bu tq rT wT wo sK sA sB sE oq bS bE bL rp)) g "DecadeBridgeModel" b_Mo_spreadFrom (some .long) 7) (f : Nat)  : HL_Mo_spreadFrom_14 p l e s m args below meth c g mo a o now dr pa sa iS bu tq rT wT wo sK sA sB sE oq bS bE bL rp p1 (sp_Mo_spreadFrom_14 now p1  f) (ok_Mo_spreadFrom_14 now p1   f) := by
  induction f with
  | zero => intro x2p14 x4p14 x6p14 hok; exact False.elim hok
  | succ f ih => exact kb_Mo_spreadFrom_14 C  ih
noncomputable def sp_Mo_spreadFrom (p1 : Int32) (now : LV) : Int64 := lett (sp_Mo_ofResult p1 (7 : Int32) now) fun (y2 : Int64) => sp_Mo_spreadFrom_14 now p1 big y2 y2 p1
def ok_Mo_spreadFrom (p1 : Int32) (now : LV) : Prop := (ok_Mo_ofResult p1 (7 : Int32)) ∧ lett (sp_Mo_ofResult p1 (7 : Int32) now) fun (y2 : Int64) => ok_Mo_spreadFrom_14 now p1 big y2 y2 p1
set_option maxRecDepth 100000 in
set_option maxHeartbeats 4000000 in
theorem c_Mo_spreadFrom (l : Launch) (g : GX) (mo : Nat) (a : Nat → Nat) (o : IV) (now : LV) (dr : LV) (pa : LV) (sa : LV) (iS : IV) (bu : IV) (tq : IV) (rT : IV) (wT : IV) (wo : Nat → Option Nat) (sK : IV) (sA : IV) (sB : IV) (sE : IV) (oq : IV) (bS : IV) (bE : IV) (bL : IV) (rp : IV) (p1 : Int32) (hok : ok_Mo_spreadFrom p1 now) : Met l y_Mo_spreadFrom (wsY y_Mo_spreadFrom b_Mo_spreadFrom 7 (some .long)) rm_Mo_spreadFrom (CP g [.ref mo, .int p1] (wMo g mo a o now dr pa sa iS bu tq rT wT wo sK sA sB sE oq bS bE bL rp)) (CL0 g (wMo g mo a o now dr pa sa iS bu tq rT wT wo sK sA sB sE oq bS bE bL rp) (sp_Mo_spreadFrom p1 now)) 0 0 (inW (wMo g mo a o now dr pa sa iS bu tq rT wT wo sK sA sB sE oq bS bE bL rp)) := by
  refine Met.ofW (cc := b_Mo_spreadFrom) (maxL := 7) (ret := (some .long)) pn_Mo rfl ?_
  intro p e s m args below meth c s₁ B hml hv
  obtain ⟨rfl, C, hP, hD, hS⟩ := enter "DecadeBridgeModel" rfl B hml hv
  obtain ⟨hx, hb, hr, hml, hown, hlk, hts, hK, hZo, hZ⟩ := id C
  refine entryW (lv := [(0, .ref mo), (1, .int p1)]) rfl (Nat.le_of_ble_eq_true rfl) (fun ls hl => ?_)
  obtain ⟨z, hz⟩ : ∃ z, z = sp_Mo_spreadFrom p1 now := ⟨_, rfl⟩
  rw [← hz]
  unfold sp_Mo_spreadFrom at hz
  unfold ok_Mo_spreadFrom at hok
  refine lv_aload_n hx hb d_Mo_spreadFrom_0 rfl (lv_at hl 0 rfl) ?_
  refine lv_iload_n hx hb d_Mo_spreadFrom_1 rfl (lv_at hl 1 rfl) ?_
  refine lv_bipush (v := 7) hx hb d_Mo_spreadFrom_2 (by decide) ?_
  have hs1 := hok.1
  have hok := hok.2
  have hB : SubW g (inW (wMo g mo a o now dr pa sa iS bu tq rT wT wo sK sA sB sE oq bS bE bL rp)) s (wMo g mo a o now dr pa sa iS bu tq rT wT wo sK sA sB sE oq bS bE bL rp) _ (List.range _) _ _ := (subF hP hD hS)
  refine goL0 hB (run_v C mf_Mo_ofResult qm_Mo_406 (c_Mo_ofResult l g mo a o now dr pa sa iS bu tq rT wT wo sK sA sB sE oq bS bE bL rp p1 (7 : Int32) hs1) rfl rfl ⟨Nat.le_of_ble_eq_true rfl, Nat.le_of_ble_eq_true rfl⟩ ⟨Nat.le_of_ble_eq_true rfl, Nat.le_of_ble_eq_true rfl⟩ hB rfl rfl hl rfl rfl (Nat.le_of_ble_eq_true rfl) d_Mo_spreadFrom_4) (fun y2 ey2 H locs hP hS => ?_)
  have hz := lett_z hz ey2
  have hok := lett_o hok ey2
  refine lv_lstore_n (lv' := [(2, .long y2), (0, .ref mo), (1, .int p1)]) hx hb d_Mo_spreadFrom_7 rfl hl (by decide) rfl (fun ls hl => ?_)
  refine lv_lload_n hx hb d_Mo_spreadFrom_8 rfl (lv_at hl 0 rfl) ?_
  refine lv_lstore (lv' := [(4, .long y2), (2, .long y2), (0, .ref mo), (1, .int p1)]) hx hb d_Mo_spreadFrom_9 hl (by decide) rfl (fun ls hl => ?_)
  refine lv_iload_n hx hb d_Mo_spreadFrom_11 rfl (lv_at hl 3 rfl) ?_
  refine lv_istore (lv' := [(6, .int p1), (4, .long y2), (2, .long y2), (0, .ref mo), (1, .int p1)]) hx hb d_Mo_spreadFrom_12 hl (by decide) rfl (fun ls hl => ?_)
  exact k_Mo_spreadFrom_14 C big y2 y2 p1 hok _ hz _ _ ls hP hD hS (lv_sub hl [3, 4, 2, 1, 0] rfl)
abbrev rm_Mo_bestOf : Room := { frames := 7, cells := 0, slots := 0, locals := 165 }
def HL_Mo_bestOf_20 (p : Program) (l : Launch) (e : Env) (s : State) (m : MethodId) (args : Array Value) (below : List Frame) (meth : Method) (c : Code) (g : GX) (mo : Nat) (a : Nat → Nat) (o : IV) (now : LV) (dr : LV) (pa : LV) (sa : LV) (iS : IV) (bu : IV) (tq : IV) (rT : IV) (wT : IV) (wo : Nat → Option Nat) (sK : IV) (sA : IV) (sB : IV) (sE : IV) (oq : IV) (bS : IV) (bE : IV) (bL : IV) (rp : IV) (p1 : Int64) (p2 : Int64) (p3 : Int64) (sp : Int32 → Int64 → Int32 → Int32) (ok : Int32 → Int64 → Int32 → Prop) : Prop := ∀ (x7p20 : Int32) (x8p20 : Int64) (x10p20 : Int32), ok x7p20 x8p20 x10p20 → ∀ z : Int32, z = sp x7p20 x8p20 x10p20 → ∀ (H : Heap) (locs : List Loc) (ls : Array Slot), va_P g.1 vwCl (wMo g mo a o now dr pa sa iS bu tq rT wT wo sK sA sB sE oq bS bE bL rp) H → va_D (inW (wMo g mo a o now dr pa sa iS bu tq rT wT wo sK sA sB sE oq bS bE bL rp)) (wMo g mo a o now dr pa sa iS bu tq rT wT wo sK sA sB sE oq bS bE bL rp) → va_S (inW (wMo g mo a o now dr pa sa iS bu tq rT wT wo sK sA sB sE oq bS bE bL rp)) s.heap H locs → lv_has ls 13 [(0, .ref mo), (1, .long p1), (3, .long p2), (5, .long p3), (7, .int x7p20), (8, .long x8p20), (10, .int x10p20)] → W p l e rm_Mo_bestOf s m args below meth c H locs 0 0 (MQ below (CI0 g (wMo g mo a o now dr pa sa iS bu tq rT wT wo sK sA sB sE oq bS bE bL rp) z) args s 0 0 (inW (wMo g mo a o now dr pa sa iS bu tq rT wT wo sK sA sB sE oq bS bE bL rp))) (F0 m 20 ls [])
def HL_Mo_bestOf_59 (p : Program) (l : Launch) (e : Env) (s : State) (m : MethodId) (args : Array Value) (below : List Frame) (meth : Method) (c : Code) (g : GX) (mo : Nat) (a : Nat → Nat) (o : IV) (now : LV) (dr : LV) (pa : LV) (sa : LV) (iS : IV) (bu : IV) (tq : IV) (rT : IV) (wT : IV) (wo : Nat → Option Nat) (sK : IV) (sA : IV) (sB : IV) (sE : IV) (oq : IV) (bS : IV) (bE : IV) (bL : IV) (rp : IV) (p1 : Int64) (p2 : Int64) (p3 : Int64) (x8p20 : Int64) (x10p20 : Int32) (y9 : Int64) (sp : Int32 → Int32) (ok : Int32 → Prop) : Prop := ∀ (t0p59 : Int32), ok t0p59 → ∀ z : Int32, z = sp t0p59 → ∀ (H : Heap) (locs : List Loc) (ls : Array Slot), va_P g.1 vwCl (wMo g mo a o now dr pa sa iS bu tq rT wT wo sK sA sB sE oq bS bE bL rp) H → va_D (inW (wMo g mo a o now dr pa sa iS bu tq rT wT wo sK sA sB sE oq bS bE bL rp)) (wMo g mo a o now dr pa sa iS bu tq rT wT wo sK sA sB sE oq bS bE bL rp) → va_S (inW (wMo g mo a o now dr pa sa iS bu tq rT wT wo sK sA sB sE oq bS bE bL rp)) s.heap H locs → lv_has ls 13 [(0, .ref mo), (1, .long p1), (3, .long p2), (5, .long p3), (8, .long x8p20), (10, .int x10p20), (11, .long y9)] → W p l e rm_Mo_bestOf s m args below meth c H locs 0 0 (MQ below (CI0 g (wMo g mo a o now dr pa sa iS bu tq rT wT wo sK sA sB sE oq bS bE bL rp) z) args s 0 0 (inW (wMo g mo a o now dr pa sa iS bu tq rT wT wo sK sA sB sE oq bS bE bL rp))) (F0 m 59 ls [.int t0p59])
noncomputable def sp_Mo_bestOf_59 (y9 : Int64) (x8p20 : Int64) (x10p20 : Int32) (r20 : Int32 → Int64 → Int32 → Int32) (t0p59 : Int32) : Int32 := lett (if y9 < x8p20 then y9 else x8p20) fun (v11 : Int64) => lett (x10p20 + (1 : Int32)) fun (v12 : Int32) => r20 t0p59 v11 v12
def ok_Mo_bestOf_59 (y9 : Int64) (x8p20 : Int64) (x10p20 : Int32) (r20 : Int32 → Int64 → Int32 → Int32) (q20 : Int32 → Int64 → Int32 → Prop) (t0p59 : Int32) : Prop := lett (if y9 < x8p20 then y9 else x8p20) fun (v11 : Int64) => lett (x10p20 + (1 : Int32)) fun (v12 : Int32) => q20 t0p59 v11 v12
set_option maxRecDepth 100000 in
set_option maxHeartbeats 4000000 in
theorem k_Mo_bestOf_59 {p : Program} {l : Launch} {e : Env} {s : State} {m : MethodId} {args : Array Value} {below : List Frame} {meth : Method} {c : Code} {g : GX} {mo : Nat} {a : Nat → Nat} {o : IV} {now : LV} {dr : LV} {pa : LV} {sa : LV} {iS : IV} {bu : IV} {tq : IV} {rT : IV} {wT : IV} {wo : Nat → Option Nat} {sK : IV} {sA : IV} {sB : IV} {sE : IV} {oq : IV} {bS : IV} {bE : IV} {bL : IV} {rp : IV} {p1 : Int64} {p2 : Int64} {p3 : Int64} {x8p20 : Int64} {x10p20 : Int32} {y9 : Int64} {r20 : Int32 → Int64 → Int32 → Int32} {q20 : Int32 → Int64 → Int32 → Prop} (C : Cx p s m args meth c (inW (wMo g mo a o now dr pa sa iS bu tq rT wT wo sK sA sB sE oq bS bE bL rp)) g "DecadeBridgeModel" b_Mo_bestOf (some .int) 13) (ih20 : HL_Mo_bestOf_20 p l e s m args below meth c g mo a o now dr pa sa iS bu tq rT wT wo sK sA sB sE oq bS bE bL rp p1 p2 p3 r20 q20) : HL_Mo_bestOf_59 p l e s m args below meth c g mo a o now dr pa sa iS bu tq rT wT wo sK sA sB sE oq bS bE bL rp p1 p2 p3 x8p20 x10p20 y9 (sp_Mo_bestOf_59 y9 x8p20 x10p20 r20) (ok_Mo_bestOf_59 y9 x8p20 x10p20 r20 q20) := by
  intro t0p59 hok z hz H locs ls hP hD hS hl
  obtain ⟨hx, hb, hr, hml, hown, hlk, hts, hK, hZo, hZ⟩ := id C
  unfold sp_Mo_bestOf_59 at hz
  unfold ok_Mo_bestOf_59 at hok
  refine lv_istore (lv' := [(7, .int t0p59), (0, .ref mo), (1, .long p1), (3, .long p2), (5, .long p3), (8, .long x8p20), (10, .int x10p20), (11, .long y9)]) hx hb d_Mo_bestOf_59 hl (by decide) rfl (fun ls hl => ?_)
  refine lv_lload hx hb d_Mo_bestOf_61 (lv_at hl 5 rfl) ?_
  refine lv_lload hx hb d_Mo_bestOf_63 (lv_at hl 7 rfl) ?_
  refine va_mmin_long hx hb (hml.trans hl.1.symm) hown (hts _ qm_Mo_185) (hts _ (mf_JM_min_JJJ).2) (hts _ (mf_JM_min_JJJ).1.2.1) (hts _ (mf_JM_min_JJJ).1.1) (Nat.le_of_ble_eq_true rfl) (Nat.le_of_ble_eq_true rfl) (Nat.le_of_ble_eq_true rfl) (Nat.le_of_ble_eq_true rfl) d_Mo_bestOf_65 ?_
  refine lv_topl (fun v11 ev11 => ?_)
  have hz := lett_z hz ev11
  have hok := lett_o hok ev11
  refine lv_lstore (lv' := [(8, .long v11), (7, .int t0p59), (0, .ref mo), (1, .long p1), (3, .long p2), (5, .long p3), (10, .int x10p20), (11, .long y9)]) hx hb d_Mo_bestOf_68 hl (by decide) rfl (fun ls hl => ?_)
  obtain ⟨v12, ev12⟩ : ∃ y : Int32, y = x10p20 + (1 : Int32) := ⟨_, rfl⟩
  have hz := lett_z hz ev12
  have hok := lett_o hok ev12
  refine lv_iinc (v := v12) (lv' := [(10, .int v12), (8, .long v11), (7, .int t0p59), (0, .ref mo), (1, .long p1), (3, .long p2), (5, .long p3), (11, .long y9)]) hx hb d_Mo_bestOf_70 hl (k := 6) rfl (by rw [ev12]; rfl) (by decide) rfl (fun ls hl => ?_)
  refine lv_goto (tgt := 20) hx hb d_Mo_bestOf_73 (by decide) ?_
  exact ih20 t0p59 v11 v12 hok _ hz _ _ ls hP hD hS (lv_sub hl [3, 4, 5, 6, 2, 1, 0] rfl)
noncomputable def bd_Mo_bestOf_20 (now : LV) (p1 : Int64) (p2 : Int64) (p3 : Int64) (r20 : Int32 → Int64 → Int32 → Int32) (x7p20 : Int32) (x8p20 : Int64) (x10p20 : Int32) : Int32 := lett (sp_Mo_settings now) fun (y5 : Int32) => if y5 ≤ x10p20 then (x7p20) else (lett (sp_Mo_plainDeflection x10p20 p1 p2 p3 now) fun (y8 : Int64) => lett (sp_Mo_amount y8) fun (y9 : Int64) => if x8p20 ≤ y9 then (sp_Mo_bestOf_59 y9 x8p20 x10p20 r20 x7p20) else (sp_Mo_bestOf_59 y9 x8p20 x10p20 r20 x10p20))
def okb_Mo_bestOf_20 (now : LV) (p1 : Int64) (p2 : Int64) (p3 : Int64) (r20 : Int32 → Int64 → Int32 → Int32) (q20 : Int32 → Int64 → Int32 → Prop) (x7p20 : Int32) (x8p20 : Int64) (x10p20 : Int32) : Prop := (ok_Mo_settings now) ∧ lett (sp_Mo_settings now) fun (y5 : Int32) => ((y5 ≤ x10p20 → True) ∧ (¬ (y5 ≤ x10p20) → (ok_Mo_plainDeflection x10p20 p1 p2 p3 now) ∧ lett (sp_Mo_plainDeflection x10p20 p1 p2 p3 now) fun (y8 : Int64) => lett (sp_Mo_amount y8) fun (y9 : Int64) => ((x8p20 ≤ y9 → ok_Mo_bestOf_59 y9 x8p20 x10p20 r20 q20 x7p20) ∧ (¬ (x8p20 ≤ y9) → ok_Mo_bestOf_59 y9 x8p20 x10p20 r20 q20 x10p20))))
noncomputable def sp_Mo_bestOf_20 (now : LV) (p1 : Int64) (p2 : Int64) (p3 : Int64)  : Nat → Int32 → Int64 → Int32 → Int32
  | 0 => fun _ _ _ => default
  | f + 1 => bd_Mo_bestOf_20 now p1 p2 p3  (sp_Mo_bestOf_20 now p1 p2 p3  f)
def ok_Mo_bestOf_20 (now : LV) (p1 : Int64) (p2 : Int64) (p3 : Int64)   : Nat → Int32 → Int64 → Int32 → Prop
  | 0 => fun _ _ _ => False
  | f + 1 => okb_Mo_bestOf_20 now p1 p2 p3  (sp_Mo_bestOf_20 now p1 p2 p3  f)  (ok_Mo_bestOf_20 now p1 p2 p3   f)
set_option maxRecDepth 100000 in
set_option maxHeartbeats 4000000 in
theorem kb_Mo_bestOf_20 {p : Program} {l : Launch} {e : Env} {s : State} {m : MethodId} {args : Array Value} {below : List Frame} {meth : Method} {c : Code} {g : GX} {mo : Nat} {a : Nat → Nat} {o : IV} {now : LV} {dr : LV} {pa : LV} {sa : LV} {iS : IV} {bu : IV} {tq : IV} {rT : IV} {wT : IV} {wo : Nat → Option Nat} {sK : IV} {sA : IV} {sB : IV} {sE : IV} {oq : IV} {bS : IV} {bE : IV} {bL : IV} {rp : IV} {p1 : Int64} {p2 : Int64} {p3 : Int64}  (C : Cx p s m args meth c (inW (wMo g mo a o now dr pa sa iS bu tq rT wT wo sK sA sB sE oq bS bE bL rp)) g "DecadeBridgeModel" b_Mo_bestOf (some .int) 13) {r20 : Int32 → Int64 → Int32 → Int32} {q20 : Int32 → Int64 → Int32 → Prop}  (ih20 : HL_Mo_bestOf_20 p l e s m args below meth c g mo a o now dr pa sa iS bu tq rT wT wo sK sA sB sE oq bS bE bL rp p1 p2 p3 r20 q20) : HL_Mo_bestOf_20 p l e s m args below meth c g mo a o now dr pa sa iS bu tq rT wT wo sK sA sB sE oq bS bE bL rp p1 p2 p3 (bd_Mo_bestOf_20 now p1 p2 p3  r20) (okb_Mo_bestOf_20 now p1 p2 p3  r20  q20) := by
  intro x7p20 x8p20 x10p20 hok z hz H locs ls hP hD hS hl
  obtain ⟨hx, hb, hr, hml, hown, hlk, hts, hK, hZo, hZ⟩ := id C
  unfold bd_Mo_bestOf_20 at hz
  unfold okb_Mo_bestOf_20 at hok
  refine lv_iload hx hb d_Mo_bestOf_20 (lv_at hl 6 rfl) ?_
  refine lv_aload_n hx hb d_Mo_bestOf_22 rfl (lv_at hl 0 rfl) ?_
  have hs4 := hok.1
  have hok := hok.2
  have hB : SubW g (inW (wMo g mo a o now dr pa sa iS bu tq rT wT wo sK sA sB sE oq bS bE bL rp)) s (wMo g mo a o now dr pa sa iS bu tq rT wT wo sK sA sB sE oq bS bE bL rp) _ (List.range _) _ _ := (subF hP hD hS)
  refine goI0 hB (run_v C mf_Mo_settings qm_Mo_256 (c_Mo_settings l g mo a o now dr pa sa iS bu tq rT wT wo sK sA sB sE oq bS bE bL rp hs4) rfl rfl ⟨Nat.le_of_ble_eq_true rfl, Nat.le_of_ble_eq_true rfl⟩ ⟨Nat.le_of_ble_eq_true rfl, Nat.le_of_ble_eq_true rfl⟩ hB rfl rfl hl rfl rfl (Nat.le_of_ble_eq_true rfl) d_Mo_bestOf_23) (fun y5 ey5 H locs hP hS => ?_)
  have hz := lett_z hz ey5
  have hok := lett_o hok ey5
  refine lv_icmp_ge (tgt := 76) hx hb d_Mo_bestOf_26 (by decide) (fun c6 => ?_) (fun c6 => ?_)
  · have hz := hz.trans (if_pos c6)
    refine lv_iload hx hb d_Mo_bestOf_76 (lv_at hl 4 rfl) ?_
    exact endI0 C hz hP hS d_Mo_bestOf_78
  · have hz := hz.trans (if_neg c6)
    have hok := hok.2 c6
    refine lv_aload_n hx hb d_Mo_bestOf_29 rfl (lv_at hl 0 rfl) ?_
    refine lv_iload hx hb d_Mo_bestOf_30 (lv_at hl 6 rfl) ?_
    refine lv_lload_n hx hb d_Mo_bestOf_32 rfl (lv_at hl 1 rfl) ?_
    refine lv_lload_n hx hb d_Mo_bestOf_33 rfl (lv_at hl 2 rfl) ?_
    refine lv_lload hx hb d_Mo_bestOf_34 (lv_at hl 3 rfl) ?_
    have hs7 := hok.1
    have hok := hok.2
    have hB : SubW g (inW (wMo g mo a o now dr pa sa iS bu tq rT wT wo sK sA sB sE oq bS bE bL rp)) s (wMo g mo a o now dr pa sa iS bu tq rT wT wo sK sA sB sE oq bS bE bL rp) _ (List.range _) _ _ := (subF hP hD hS)
    refine goL0 hB (run_v C mf_Mo_plainDeflection qm_Mo_172 (c_Mo_plainDeflection l g mo a o now dr pa sa iS bu tq rT wT wo sK sA sB sE oq bS bE bL rp x10p20 p1 p2 p3 hs7) rfl rfl ⟨Nat.le_of_ble_eq_true rfl, Nat.le_of_ble_eq_true rfl⟩ ⟨Nat.le_of_ble_eq_true rfl, Nat.le_of_ble_eq_true rfl⟩ hB rfl rfl hl rfl rfl (Nat.le_of_ble_eq_true rfl) d_Mo_bestOf_36) (fun y8 ey8 H locs hP hS => ?_)
    have hz := lett_z hz ey8
    have hok := lett_o hok ey8
    have hB : SubW g (inW (wMo g mo a o now dr pa sa iS bu tq rT wT wo sK sA sB sE oq bS bE bL rp)) s (wMo g mo a o now dr pa sa iS bu tq rT wT wo sK sA sB sE oq bS bE bL rp) _ (List.range _) _ _ := (subF hP hD hS)
    refine goL0 hB (run_s C mf_Mo_amount qm_Mo_217 (c_Mo_amount l g mo a o now dr pa sa iS bu tq rT wT wo sK sA sB sE oq bS bE bL rp y8) rfl rfl ⟨Nat.le_of_ble_eq_true rfl, Nat.le_of_ble_eq_true rfl⟩ ⟨Nat.le_of_ble_eq_true rfl, Nat.le_of_ble_eq_true rfl⟩ hB hl rfl rfl (Nat.le_of_ble_eq_true rfl) d_Mo_bestOf_39) (fun y9 ey9 H locs hP hS => ?_)
    have hz := lett_z hz ey9
    have hok := lett_o hok ey9
    refine lv_lstore (lv' := [(11, .long y9), (0, .ref mo), (1, .long p1), (3, .long p2), (5, .long p3), (7, .int x7p20), (8, .long x8p20), (10, .int x10p20)]) hx hb d_Mo_bestOf_42 hl (by decide) rfl (fun ls hl => ?_)
    refine lv_lload hx hb d_Mo_bestOf_44 (lv_at hl 0 rfl) ?_
    refine lv_lload hx hb d_Mo_bestOf_46 (lv_at hl 6 rfl) ?_
    refine lc_ge (tgt := 57) hx hb d_Mo_bestOf_48 d_Mo_bestOf_49 (by decide) (fun c10 => ?_) (fun c10 => ?_)
    · have hz := hz.trans (if_pos c10)
      have hok := hok.1 c10
      refine lv_iload hx hb d_Mo_bestOf_57 (lv_at hl 5 rfl) ?_
      exact k_Mo_bestOf_59 C ih20 x7p20 hok _ hz _ _ ls hP hD hS (lv_sub hl [1, 2, 3, 4, 6, 7, 0] rfl)
    · have hz := hz.trans (if_neg c10)
      have hok := hok.2 c10
      refine lv_iload hx hb d_Mo_bestOf_52 (lv_at hl 7 rfl) ?_
      refine lv_goto (tgt := 59) hx hb d_Mo_bestOf_54 (by decide) ?_
      exact k_Mo_bestOf_59 C ih20 x10p20 hok _ hz _ _ ls hP hD hS (lv_sub hl [1, 2, 3, 4, 6, 7, 0] rfl)
theorem k_Mo_bestOf_20 {p : Program} {l : Launch} {e : Env} {s : State} {m : MethodId} {args : Array Value} {below : List Frame} {meth : Method} {c : Code} {g : GX} {mo : Nat} {a : Nat → Nat} {o : IV} {now : LV} {dr : LV} {pa : LV} {sa : LV} {iS : IV} {bu : IV} {tq : IV} {rT : IV} {wT : IV} {wo : Nat → Option Nat} {sK : IV} {sA : IV} {sB : IV} {sE : IV} {oq : IV} {bS : IV} {bE : IV} {bL : IV} {rp : IV} {p1 : Int64} {p2 : Int64} {p3 : Int64}  (C : Cx p s m args meth c (inW (wMo g mo a o now dr pa sa iS bu tq rT wT wo sK sA sB sE oq bS bE bL rp)) g "DecadeBridgeModel" b_Mo_bestOf (some .int) 13) (f : Nat)  : HL_Mo_bestOf_20 p l e s m args below meth c g mo a o now dr pa sa iS bu tq rT wT wo sK sA sB sE oq bS bE bL rp p1 p2 p3 (sp_Mo_bestOf_20 now p1 p2 p3  f) (ok_Mo_bestOf_20 now p1 p2 p3   f) := by
  induction f with
  | zero => intro x7p20 x8p20 x10p20 hok; exact False.elim hok
  | succ f ih => exact kb_Mo_bestOf_20 C  ih
noncomputable def sp_Mo_bestOf (p1 : Int64) (p2 : Int64) (p3 : Int64) (now : LV) : Int32 := lett (sp_Mo_plainDeflection (0 : Int32) p1 p2 p3 now) fun (y2 : Int64) => lett (sp_Mo_amount y2) fun (y3 : Int64) => sp_Mo_bestOf_20 now p1 p2 p3 big (0 : Int32) y3 (1 : Int32)
def ok_Mo_bestOf (p1 : Int64) (p2 : Int64) (p3 : Int64) (now : LV) : Prop := (ok_Mo_plainDeflection (0 : Int32) p1 p2 p3 now) ∧ lett (sp_Mo_plainDeflection (0 : Int32) p1 p2 p3 now) fun (y2 : Int64) => lett (sp_Mo_amount y2) fun (y3 : Int64) => ok_Mo_bestOf_20 now p1 p2 p3 big (0 : Int32) y3 (1 : Int32)
set_option maxRecDepth 100000 in
set_option maxHeartbeats 4000000 in
theorem c_Mo_bestOf (l : Launch) (g : GX) (mo : Nat) (a : Nat → Nat) (o : IV) (now : LV) (dr : LV) (pa : LV) (sa : LV) (iS : IV) (bu : IV) (tq : IV) (rT : IV) (wT : IV) (wo : Nat → Option Nat) (sK : IV) (sA : IV) (sB : IV) (sE : IV) (oq : IV) (bS : IV) (bE : IV) (bL : IV) (rp : IV) (p1 : Int64) (p2 : Int64) (p3 : Int64) (hok : ok_Mo_bestOf p1 p2 p3 now) : Met l y_Mo_bestOf (wsY y_Mo_bestOf b_Mo_bestOf 13 (some .int)) rm_Mo_bestOf (CP g [.ref mo, .long p1, .long p2, .long p3] (wMo g mo a o now dr pa sa iS bu tq rT wT wo sK sA sB sE oq bS bE bL rp)) (CI0 g (wMo g mo a o now dr pa sa iS bu tq rT wT wo sK sA sB sE oq bS bE bL rp) (sp_Mo_bestOf p1 p2 p3 now)) 0 0 (inW (wMo g mo a o now dr pa sa iS bu tq rT wT wo sK sA sB sE oq bS bE bL rp)) := by
  refine Met.ofW (cc := b_Mo_bestOf) (maxL := 13) (ret := (some .int)) pn_Mo rfl ?_
  intro p e s m args below meth c s₁ B hml hv
  obtain ⟨rfl, C, hP, hD, hS⟩ := enter "DecadeBridgeModel" rfl B hml hv
  obtain ⟨hx, hb, hr, hml, hown, hlk, hts, hK, hZo, hZ⟩ := id C
  refine entryW (lv := [(0, .ref mo), (1, .long p1), (3, .long p2), (5, .long p3)]) rfl (Nat.le_of_ble_eq_true rfl) (fun ls hl => ?_)
  obtain ⟨z, hz⟩ : ∃ z, z = sp_Mo_bestOf p1 p2 p3 now := ⟨_, rfl⟩
  rw [← hz]
  unfold sp_Mo_bestOf at hz
  unfold ok_Mo_bestOf at hok
  refine lv_iconst (v := 0) hx hb d_Mo_bestOf_0 (by decide) ?_
  refine lv_istore (lv' := [(7, .int (0 : Int32)), (0, .ref mo), (1, .long p1), (3, .long p2), (5, .long p3)]) hx hb d_Mo_bestOf_1 hl (by decide) rfl (fun ls hl => ?_)
  refine lv_aload_n hx hb d_Mo_bestOf_3 rfl (lv_at hl 1 rfl) ?_
  refine lv_iconst (v := 0) hx hb d_Mo_bestOf_4 (by decide) ?_
  refine lv_lload_n hx hb d_Mo_bestOf_5 rfl (lv_at hl 2 rfl) ?_
  refine lv_lload_n hx hb d_Mo_bestOf_6 rfl (lv_at hl 3 rfl) ?_
  refine lv_lload hx hb d_Mo_bestOf_7 (lv_at hl 4 rfl) ?_
  have hs1 := hok.1
  have hok := hok.2
  have hB : SubW g (inW (wMo g mo a o now dr pa sa iS bu tq rT wT wo sK sA sB sE oq bS bE bL rp)) s (wMo g mo a o now dr pa sa iS bu tq rT wT wo sK sA sB sE oq bS bE bL rp) _ (List.range _) _ _ := (subF hP hD hS)
  refine goL0 hB (run_v C mf_Mo_plainDeflection qm_Mo_172 (c_Mo_plainDeflection l g mo a o now dr pa sa iS bu tq rT wT wo sK sA sB sE oq bS bE bL rp (0 : Int32) p1 p2 p3 hs1) rfl rfl ⟨Nat.le_of_ble_eq_true rfl, Nat.le_of_ble_eq_true rfl⟩ ⟨Nat.le_of_ble_eq_true rfl, Nat.le_of_ble_eq_true rfl⟩ hB rfl rfl hl rfl rfl (Nat.le_of_ble_eq_true rfl) d_Mo_bestOf_9) (fun y2 ey2 H locs hP hS => ?_)
  have hz := lett_z hz ey2
  have hok := lett_o hok ey2
  have hB : SubW g (inW (wMo g mo a o now dr pa sa iS bu tq rT wT wo sK sA sB sE oq bS bE bL rp)) s (wMo g mo a o now dr pa sa iS bu tq rT wT wo sK sA sB sE oq bS bE bL rp) _ (List.range _) _ _ := (subF hP hD hS)
  refine goL0 hB (run_s C mf_Mo_amount qm_Mo_217 (c_Mo_amount l g mo a o now dr pa sa iS bu tq rT wT wo sK sA sB sE oq bS bE bL rp y2) rfl rfl ⟨Nat.le_of_ble_eq_true rfl, Nat.le_of_ble_eq_true rfl⟩ ⟨Nat.le_of_ble_eq_true rfl, Nat.le_of_ble_eq_true rfl⟩ hB hl rfl rfl (Nat.le_of_ble_eq_true rfl) d_Mo_bestOf_12) (fun y3 ey3 H locs hP hS => ?_)
  have hz := lett_z hz ey3
  have hok := lett_o hok ey3
  refine lv_lstore (lv' := [(8, .long y3), (7, .int (0 : Int32)), (0, .ref mo), (1, .long p1), (3, .long p2), (5, .long p3)]) hx hb d_Mo_bestOf_15 hl (by decide) rfl (fun ls hl => ?_)
  refine lv_iconst (v := 1) hx hb d_Mo_bestOf_17 (by decide) ?_
  refine lv_istore (lv' := [(10, .int (1 : Int32)), (8, .long y3), (7, .int (0 : Int32)), (0, .ref mo), (1, .long p1), (3, .long p2), (5, .long p3)]) hx hb d_Mo_bestOf_18 hl (by decide) rfl (fun ls hl => ?_)
  exact k_Mo_bestOf_20 C big (0 : Int32) y3 (1 : Int32) hok _ hz _ _ ls hP hD hS (lv_sub hl [3, 4, 5, 6, 2, 1, 0] rfl)
abbrev rm_Mo_best : Room := { frames := 8, cells := 0, slots := 0, locals := 197 }
noncomputable def sp_Mo_best (o : IV) (now : LV) : Int32 × IV := lett (upd o 6 (0 : Int32)) fun (o_1 : IV) => lett (sp_Mo_bestOf (now 29) (now 30) (now 32) now) fun (y3 : Int32) => (y3, o_1)
def ok_Mo_best (o : IV) (now : LV) : Prop := lett (upd o 6 (0 : Int32)) fun (o_1 : IV) => (ok_Mo_bestOf (now 29) (now 30) (now 32) now) ∧ True
set_option maxRecDepth 100000 in
set_option maxHeartbeats 4000000 in
theorem c_Mo_best (l : Launch) (g : GX) (mo : Nat) (a : Nat → Nat) (o : IV) (now : LV) (dr : LV) (pa : LV) (sa : LV) (iS : IV) (bu : IV) (tq : IV) (rT : IV) (wT : IV) (wo : Nat → Option Nat) (sK : IV) (sA : IV) (sB : IV) (sE : IV) (oq : IV) (bS : IV) (bE : IV) (bL : IV) (rp : IV)  (hok : ok_Mo_best o now) : Met l y_Mo_best (wsY y_Mo_best b_Mo_best 1 (some .int)) rm_Mo_best (CP g [.ref mo] (wMo g mo a o now dr pa sa iS bu tq rT wT wo sK sA sB sE oq bS bE bL rp)) (CI g (wMo g mo a o now dr pa sa iS bu tq rT wT wo sK sA sB sE oq bS bE bL rp) (fun u : IV => wMo g mo a u now dr pa sa iS bu tq rT wT wo sK sA sB sE oq bS bE bL rp) (sp_Mo_best o now)) 0 0 (inW (wMo g mo a o now dr pa sa iS bu tq rT wT wo sK sA sB sE oq bS bE bL rp)) := by
  refine Met.ofW (cc := b_Mo_best) (maxL := 1) (ret := (some .int)) pn_Mo rfl ?_
  intro p e s m args below meth c s₁ B hml hv
  obtain ⟨rfl, C, hP, hD, hS⟩ := enter "DecadeBridgeModel" rfl B hml hv
  obtain ⟨hx, hb, hr, hml, hown, hlk, hts, hK, hZo, hZ⟩ := id C
  refine entryW (lv := [(0, .ref mo)]) rfl (Nat.le_of_ble_eq_true rfl) (fun ls hl => ?_)
  obtain ⟨z, hz⟩ : ∃ z, z = sp_Mo_best o now := ⟨_, rfl⟩
  rw [← hz]
  unfold sp_Mo_best at hz
  unfold ok_Mo_best at hok
  refine lv_aload_n hx hb d_Mo_best_0 rfl (lv_at hl 0 rfl) ?_
  refine lv_iconst (v := 0) hx hb d_Mo_best_1 (by decide) ?_
  refine pfI C hP hD hS 0 6 fkMo rfl (by decide) rfl qf_Mo_107 rfl rfl rfl (Nat.le_of_ble_eq_true rfl) (ff := fun o => fMo a o) (sMo_6 _ _ _) d_Mo_best_2 (fun o_1 eo_1 H locs hP hD hS => ?_)
  have hP : va_P g.1 vwCl (wMo g mo a o_1 now dr pa sa iS bu tq rT wT wo sK sA sB sE oq bS bE bL rp) H := hP
  have hD : va_D (inW (wMo g mo a o now dr pa sa iS bu tq rT wT wo sK sA sB sE oq bS bE bL rp)) (wMo g mo a o_1 now dr pa sa iS bu tq rT wT wo sK sA sB sE oq bS bE bL rp) := hD
  have hz := lett_z hz eo_1
  have hok := lett_o hok eo_1
  refine lv_aload_n hx hb d_Mo_best_5 rfl (lv_at hl 0 rfl) ?_
  refine lv_aload_n hx hb d_Mo_best_6 rfl (lv_at hl 0 rfl) ?_
  refine gf C hP 0 0 fkMo rfl (by decide) rfl qf_Mo_7 (gMo_0 _ _) d_Mo_best_7 ?_
  refine lv_bipush (v := 29) hx hb d_Mo_best_10 (by decide) ?_
  refine ldL C hP 1 rfl vi_29_215 cn_29 d_Mo_best_12 ?_
  refine lv_aload_n hx hb d_Mo_best_13 rfl (lv_at hl 0 rfl) ?_
  refine gf C hP 0 0 fkMo rfl (by decide) rfl qf_Mo_7 (gMo_0 _ _) d_Mo_best_14 ?_
  refine lv_bipush (v := 30) hx hb d_Mo_best_17 (by decide) ?_
  refine ldL C hP 1 rfl vi_30_215 cn_30 d_Mo_best_19 ?_
  refine lv_aload_n hx hb d_Mo_best_20 rfl (lv_at hl 0 rfl) ?_
  refine gf C hP 0 0 fkMo rfl (by decide) rfl qf_Mo_7 (gMo_0 _ _) d_Mo_best_21 ?_
  refine lv_bipush (v := 32) hx hb d_Mo_best_24 (by decide) ?_
  refine ldL C hP 1 rfl vi_32_215 cn_32 d_Mo_best_26 ?_
  have hs2 := hok.1
  have hok := hok.2
  have hB : SubW g (inW (wMo g mo a o now dr pa sa iS bu tq rT wT wo sK sA sB sE oq bS bE bL rp)) s (wMo g mo a o_1 now dr pa sa iS bu tq rT wT wo sK sA sB sE oq bS bE bL rp) _ (List.range _) _ _ := (subF hP hD hS)
  refine goI0 hB (run_v C mf_Mo_bestOf qm_Mo_458 (c_Mo_bestOf l g mo a o_1 now dr pa sa iS bu tq rT wT wo sK sA sB sE oq bS bE bL rp (now 29) (now 30) (now 32) hs2) rfl rfl ⟨Nat.le_of_ble_eq_true rfl, Nat.le_of_ble_eq_true rfl⟩ ⟨Nat.le_of_ble_eq_true rfl, Nat.le_of_ble_eq_true rfl⟩ hB rfl rfl hl rfl rfl (Nat.le_of_ble_eq_true rfl) d_Mo_best_27) (fun y3 ey3 H locs hP hS => ?_)
  have hz := lett_z hz ey3
  exact endI1 C hz hP hS d_Mo_best_30
abbrev rm_Mo_idealNow : Room := { frames := 8, cells := 0, slots := 0, locals := 186 }
def HL_Mo_idealNow_4 (p : Program) (l : Launch) (e : Env) (s : State) (m : MethodId) (args : Array Value) (below : List Frame) (meth : Method) (c : Code) (g : GX) (mo : Nat) (a : Nat → Nat) (o : IV) (now : LV) (dr : LV) (pa : LV) (sa : LV) (iS : IV) (bu : IV) (tq : IV) (rT : IV) (wT : IV) (wo : Nat → Option Nat) (sK : IV) (sA : IV) (sB : IV) (sE : IV) (oq : IV) (bS : IV) (bE : IV) (bL : IV) (rp : IV) (sp : Int32 → Int32 → Int32) (ok : Int32 → Int32 → Prop) : Prop := ∀ (x1p4 : Int32) (x2p4 : Int32), ok x1p4 x2p4 → ∀ z : Int32, z = sp x1p4 x2p4 → ∀ (H : Heap) (locs : List Loc) (ls : Array Slot), va_P g.1 vwCl (wMo g mo a o now dr pa sa iS bu tq rT wT wo sK sA sB sE oq bS bE bL rp) H → va_D (inW (wMo g mo a o now dr pa sa iS bu tq rT wT wo sK sA sB sE oq bS bE bL rp)) (wMo g mo a o now dr pa sa iS bu tq rT wT wo sK sA sB sE oq bS bE bL rp) → va_S (inW (wMo g mo a o now dr pa sa iS bu tq rT wT wo sK sA sB sE oq bS bE bL rp)) s.heap H locs → lv_has ls 8 [(0, .ref mo), (1, .int x1p4), (2, .int x2p4)] → W p l e rm_Mo_idealNow s m args below meth c H locs 0 0 (MQ below (CI0 g (wMo g mo a o now dr pa sa iS bu tq rT wT wo sK sA sB sE oq bS bE bL rp) z) args s 0 0 (inW (wMo g mo a o now dr pa sa iS bu tq rT wT wo sK sA sB sE oq bS bE bL rp))) (F0 m 4 ls [])
def HL_Mo_idealNow_31 (p : Program) (l : Launch) (e : Env) (s : State) (m : MethodId) (args : Array Value) (below : List Frame) (meth : Method) (c : Code) (g : GX) (mo : Nat) (a : Nat → Nat) (o : IV) (now : LV) (dr : LV) (pa : LV) (sa : LV) (iS : IV) (bu : IV) (tq : IV) (rT : IV) (wT : IV) (wo : Nat → Option Nat) (sK : IV) (sA : IV) (sB : IV) (sE : IV) (oq : IV) (bS : IV) (bE : IV) (bL : IV) (rp : IV) (x2p4 : Int32) (y5 : Int64) (sp : Int32 → Int32 → Int32 → Int32) (ok : Int32 → Int32 → Int32 → Prop) : Prop := ∀ (x1p31 : Int32) (x4p31 : Int32) (x5p31 : Int32), ok x1p31 x4p31 x5p31 → ∀ z : Int32, z = sp x1p31 x4p31 x5p31 → ∀ (H : Heap) (locs : List Loc) (ls : Array Slot), va_P g.1 vwCl (wMo g mo a o now dr pa sa iS bu tq rT wT wo sK sA sB sE oq bS bE bL rp) H → va_D (inW (wMo g mo a o now dr pa sa iS bu tq rT wT wo sK sA sB sE oq bS bE bL rp)) (wMo g mo a o now dr pa sa iS bu tq rT wT wo sK sA sB sE oq bS bE bL rp) → va_S (inW (wMo g mo a o now dr pa sa iS bu tq rT wT wo sK sA sB sE oq bS bE bL rp)) s.heap H locs → lv_has ls 8 [(0, .ref mo), (1, .int x1p31), (2, .int x2p4), (3, .int y5.toInt32), (4, .int x4p31), (5, .int x5p31)] → W p l e rm_Mo_idealNow s m args below meth c H locs 0 0 (MQ below (CI0 g (wMo g mo a o now dr pa sa iS bu tq rT wT wo sK sA sB sE oq bS bE bL rp) z) args s 0 0 (inW (wMo g mo a o now dr pa sa iS bu tq rT wT wo sK sA sB sE oq bS bE bL rp))) (F0 m 31 ls [])
def HL_Mo_idealNow_75 (p : Program) (l : Launch) (e : Env) (s : State) (m : MethodId) (args : Array Value) (below : List Frame) (meth : Method) (c : Code) (g : GX) (mo : Nat) (a : Nat → Nat) (o : IV) (now : LV) (dr : LV) (pa : LV) (sa : LV) (iS : IV) (bu : IV) (tq : IV) (rT : IV) (wT : IV) (wo : Nat → Option Nat) (sK : IV) (sA : IV) (sB : IV) (sE : IV) (oq : IV) (bS : IV) (bE : IV) (bL : IV) (rp : IV) (v8 : Int32) (x2p4 : Int32) (y5 : Int64) (x5p31 : Int32) (sp : Int32 → Int32) (ok : Int32 → Prop) : Prop := ∀ (t0p75 : Int32), ok t0p75 → ∀ z : Int32, z = sp t0p75 → ∀ (H : Heap) (locs : List Loc) (ls : Array Slot), va_P g.1 vwCl (wMo g mo a o now dr pa sa iS bu tq rT wT wo sK sA sB sE oq bS bE bL rp) H → va_D (inW (wMo g mo a o now dr pa sa iS bu tq rT wT wo sK sA sB sE oq bS bE bL rp)) (wMo g mo a o now dr pa sa iS bu tq rT wT wo sK sA sB sE oq bS bE bL rp) → va_S (inW (wMo g mo a o now dr pa sa iS bu tq rT wT wo sK sA sB sE oq bS bE bL rp)) s.heap H locs → lv_has ls 8 [(0, .ref mo), (1, .int v8), (2, .int x2p4), (3, .int y5.toInt32), (5, .int x5p31)] → W p l e rm_Mo_idealNow s m args below meth c H locs 0 0 (MQ below (CI0 g (wMo g mo a o now dr pa sa iS bu tq rT wT wo sK sA sB sE oq bS bE bL rp) z) args s 0 0 (inW (wMo g mo a o now dr pa sa iS bu tq rT wT wo sK sA sB sE oq bS bE bL rp))) (F0 m 75 ls [.int t0p75])
def HL_Mo_idealNow_83 (p : Program) (l : Launch) (e : Env) (s : State) (m : MethodId) (args : Array Value) (below : List Frame) (meth : Method) (c : Code) (g : GX) (mo : Nat) (a : Nat → Nat) (o : IV) (now : LV) (dr : LV) (pa : LV) (sa : LV) (iS : IV) (bu : IV) (tq : IV) (rT : IV) (wT : IV) (wo : Nat → Option Nat) (sK : IV) (sA : IV) (sB : IV) (sE : IV) (oq : IV) (bS : IV) (bE : IV) (bL : IV) (rp : IV) (x1p31 : Int32) (x2p4 : Int32) (y5 : Int64) (x4p31 : Int32) (sp : Int32) (ok : Prop) : Prop := ∀ (_ : Unit), ok → ∀ z : Int32, z = sp → ∀ (H : Heap) (locs : List Loc) (ls : Array Slot), va_P g.1 vwCl (wMo g mo a o now dr pa sa iS bu tq rT wT wo sK sA sB sE oq bS bE bL rp) H → va_D (inW (wMo g mo a o now dr pa sa iS bu tq rT wT wo sK sA sB sE oq bS bE bL rp)) (wMo g mo a o now dr pa sa iS bu tq rT wT wo sK sA sB sE oq bS bE bL rp) → va_S (inW (wMo g mo a o now dr pa sa iS bu tq rT wT wo sK sA sB sE oq bS bE bL rp)) s.heap H locs → lv_has ls 8 [(0, .ref mo), (1, .int x1p31), (2, .int x2p4), (3, .int y5.toInt32), (4, .int x4p31)] → W p l e rm_Mo_idealNow s m args below meth c H locs 0 0 (MQ below (CI0 g (wMo g mo a o now dr pa sa iS bu tq rT wT wo sK sA sB sE oq bS bE bL rp) z) args s 0 0 (inW (wMo g mo a o now dr pa sa iS bu tq rT wT wo sK sA sB sE oq bS bE bL rp))) (F0 m 83 ls [])
def HL_Mo_idealNow_94 (p : Program) (l : Launch) (e : Env) (s : State) (m : MethodId) (args : Array Value) (below : List Frame) (meth : Method) (c : Code) (g : GX) (mo : Nat) (a : Nat → Nat) (o : IV) (now : LV) (dr : LV) (pa : LV) (sa : LV) (iS : IV) (bu : IV) (tq : IV) (rT : IV) (wT : IV) (wo : Nat → Option Nat) (sK : IV) (sA : IV) (sB : IV) (sE : IV) (oq : IV) (bS : IV) (bE : IV) (bL : IV) (rp : IV) (x2p4 : Int32) (x1p31 : Int32) (sp : Int32 → Int32) (ok : Int32 → Prop) : Prop := ∀ (t1p94 : Int32), ok t1p94 → ∀ z : Int32, z = sp t1p94 → ∀ (H : Heap) (locs : List Loc) (ls : Array Slot), va_P g.1 vwCl (wMo g mo a o now dr pa sa iS bu tq rT wT wo sK sA sB sE oq bS bE bL rp) H → va_D (inW (wMo g mo a o now dr pa sa iS bu tq rT wT wo sK sA sB sE oq bS bE bL rp)) (wMo g mo a o now dr pa sa iS bu tq rT wT wo sK sA sB sE oq bS bE bL rp) → va_S (inW (wMo g mo a o now dr pa sa iS bu tq rT wT wo sK sA sB sE oq bS bE bL rp)) s.heap H locs → lv_has ls 8 [(0, .ref mo), (2, .int x2p4)] → W p l e rm_Mo_idealNow s m args below meth c H locs 0 0 (MQ below (CI0 g (wMo g mo a o now dr pa sa iS bu tq rT wT wo sK sA sB sE oq bS bE bL rp) z) args s 0 0 (inW (wMo g mo a o now dr pa sa iS bu tq rT wT wo sK sA sB sE oq bS bE bL rp))) (F0 m 94 ls [.int t1p94, .int x1p31])
noncomputable def sp_Mo_idealNow_94 (x1p31 : Int32) (x2p4 : Int32) (r4 : Int32 → Int32 → Int32) (t1p94 : Int32) : Int32 := lett (x1p31 - t1p94) fun (v15 : Int32) => lett (x2p4 + (1 : Int32)) fun (v16 : Int32) => r4 v15 v16
def ok_Mo_idealNow_94 (x1p31 : Int32) (x2p4 : Int32) (r4 : Int32 → Int32 → Int32) (q4 : Int32 → Int32 → Prop) (t1p94 : Int32) : Prop := lett (x1p31 - t1p94) fun (v15 : Int32) => lett (x2p4 + (1 : Int32)) fun (v16 : Int32) => q4 v15 v16
set_option maxRecDepth 100000 in
set_option maxHeartbeats 4000000 in
theorem k_Mo_idealNow_94 {p : Program} {l : Launch} {e : Env} {s : State} {m : MethodId} {args : Array Value} {below : List Frame} {meth : Method} {c : Code} {g : GX} {mo : Nat} {a : Nat → Nat} {o : IV} {now : LV} {dr : LV} {pa : LV} {sa : LV} {iS : IV} {bu : IV} {tq : IV} {rT : IV} {wT : IV} {wo : Nat → Option Nat} {sK : IV} {sA : IV} {sB : IV} {sE : IV} {oq : IV} {bS : IV} {bE : IV} {bL : IV} {rp : IV} {x2p4 : Int32} {x1p31 : Int32} {r4 : Int32 → Int32 → Int32} {q4 : Int32 → Int32 → Prop} (C : Cx p s m args meth c (inW (wMo g mo a o now dr pa sa iS bu tq rT wT wo sK sA sB sE oq bS bE bL rp)) g "DecadeBridgeModel" b_Mo_idealNow (some .int) 8) (ih4 : HL_Mo_idealNow_4 p l e s m args below meth c g mo a o now dr pa sa iS bu tq rT wT wo sK sA sB sE oq bS bE bL rp r4 q4) : HL_Mo_idealNow_94 p l e s m args below meth c g mo a o now dr pa sa iS bu tq rT wT wo sK sA sB sE oq bS bE bL rp x2p4 x1p31 (sp_Mo_idealNow_94 x1p31 x2p4 r4) (ok_Mo_idealNow_94 x1p31 x2p4 r4 q4) := by
  intro t1p94 hok z hz H locs ls hP hD hS hl
  obtain ⟨hx, hb, hr, hml, hown, hlk, hts, hK, hZo, hZ⟩ := id C
  unfold sp_Mo_idealNow_94 at hz
  unfold ok_Mo_idealNow_94 at hok
  refine lv_isub hx hb d_Mo_idealNow_94 ?_
  refine lv_topi (fun v15 ev15 => ?_)
  have hz := lett_z hz ev15
  have hok := lett_o hok ev15
  refine lv_istore_n (lv' := [(1, .int v15), (0, .ref mo), (2, .int x2p4)]) hx hb d_Mo_idealNow_95 rfl hl (by decide) rfl (fun ls hl => ?_)
  obtain ⟨v16, ev16⟩ : ∃ y : Int32, y = x2p4 + (1 : Int32) := ⟨_, rfl⟩
  have hz := lett_z hz ev16
  have hok := lett_o hok ev16
  refine lv_iinc (v := v16) (lv' := [(2, .int v16), (1, .int v15), (0, .ref mo)]) hx hb d_Mo_idealNow_96 hl (k := 2) rfl (by rw [ev16]; rfl) (by decide) rfl (fun ls hl => ?_)
  refine lv_goto (tgt := 4) hx hb d_Mo_idealNow_99 (by decide) ?_
  exact ih4 v15 v16 hok _ hz _ _ ls hP hD hS (lv_sub hl [2, 1, 0] rfl)
noncomputable def sp_Mo_idealNow_83 (x4p31 : Int32) (x1p31 : Int32) (x2p4 : Int32) (y5 : Int64) (r4 : Int32 → Int32 → Int32)  : Int32 := if x4p31 = 0 then (sp_Mo_idealNow_94 x1p31 x2p4 r4 y5.toInt32) else (sp_Mo_idealNow_94 x1p31 x2p4 r4 (0 : Int32))
def ok_Mo_idealNow_83 (x4p31 : Int32) (x1p31 : Int32) (x2p4 : Int32) (y5 : Int64) (r4 : Int32 → Int32 → Int32) (q4 : Int32 → Int32 → Prop)  : Prop := ((x4p31 = 0 → ok_Mo_idealNow_94 x1p31 x2p4 r4 q4 y5.toInt32) ∧ (¬ (x4p31 = 0) → ok_Mo_idealNow_94 x1p31 x2p4 r4 q4 (0 : Int32)))
set_option maxRecDepth 100000 in
set_option maxHeartbeats 4000000 in
theorem k_Mo_idealNow_83 {p : Program} {l : Launch} {e : Env} {s : State} {m : MethodId} {args : Array Value} {below : List Frame} {meth : Method} {c : Code} {g : GX} {mo : Nat} {a : Nat → Nat} {o : IV} {now : LV} {dr : LV} {pa : LV} {sa : LV} {iS : IV} {bu : IV} {tq : IV} {rT : IV} {wT : IV} {wo : Nat → Option Nat} {sK : IV} {sA : IV} {sB : IV} {sE : IV} {oq : IV} {bS : IV} {bE : IV} {bL : IV} {rp : IV} {x1p31 : Int32} {x2p4 : Int32} {y5 : Int64} {x4p31 : Int32} {r4 : Int32 → Int32 → Int32} {q4 : Int32 → Int32 → Prop} (C : Cx p s m args meth c (inW (wMo g mo a o now dr pa sa iS bu tq rT wT wo sK sA sB sE oq bS bE bL rp)) g "DecadeBridgeModel" b_Mo_idealNow (some .int) 8) (ih4 : HL_Mo_idealNow_4 p l e s m args below meth c g mo a o now dr pa sa iS bu tq rT wT wo sK sA sB sE oq bS bE bL rp r4 q4) : HL_Mo_idealNow_83 p l e s m args below meth c g mo a o now dr pa sa iS bu tq rT wT wo sK sA sB sE oq bS bE bL rp x1p31 x2p4 y5 x4p31 (sp_Mo_idealNow_83 x4p31 x1p31 x2p4 y5 r4) (ok_Mo_idealNow_83 x4p31 x1p31 x2p4 y5 r4 q4) := by
  intro _ hok z hz H locs ls hP hD hS hl
  obtain ⟨hx, hb, hr, hml, hown, hlk, hts, hK, hZo, hZ⟩ := id C
  unfold sp_Mo_idealNow_83 at hz
  unfold ok_Mo_idealNow_83 at hok
  refine lv_iload_n hx hb d_Mo_idealNow_83 rfl (lv_at hl 1 rfl) ?_
  refine lv_iload hx hb d_Mo_idealNow_84 (lv_at hl 4 rfl) ?_
  refine lv_if_eq (tgt := 93) hx hb d_Mo_idealNow_86 (by decide) (fun c14 => ?_) (fun c14 => ?_)
  · have hz := hz.trans (if_pos c14)
    have hok := hok.1 c14
    refine lv_iload_n hx hb d_Mo_idealNow_93 rfl (lv_at hl 3 rfl) ?_
    exact k_Mo_idealNow_94 C ih4 y5.toInt32 hok _ hz _ _ ls hP hD hS (lv_sub hl [0, 2] rfl)
  · have hz := hz.trans (if_neg c14)
    have hok := hok.2 c14
    refine lv_iconst (v := 0) hx hb d_Mo_idealNow_89 (by decide) ?_
    refine lv_goto (tgt := 94) hx hb d_Mo_idealNow_90 (by decide) ?_
    exact k_Mo_idealNow_94 C ih4 (0 : Int32) hok _ hz _ _ ls hP hD hS (lv_sub hl [0, 2] rfl)
noncomputable def sp_Mo_idealNow_75 (x5p31 : Int32) (v8 : Int32) (r4 : Int32 → Int32 → Int32) (r31 : Int32 → Int32 → Int32 → Int32) (t0p75 : Int32) : Int32 := lett (x5p31 + (1 : Int32)) fun (v13 : Int32) => r31 v8 t0p75 v13
def ok_Mo_idealNow_75 (x5p31 : Int32) (v8 : Int32) (r4 : Int32 → Int32 → Int32) (r31 : Int32 → Int32 → Int32 → Int32) (q4 : Int32 → Int32 → Prop) (q31 : Int32 → Int32 → Int32 → Prop) (t0p75 : Int32) : Prop := lett (x5p31 + (1 : Int32)) fun (v13 : Int32) => q31 v8 t0p75 v13
set_option maxRecDepth 100000 in
set_option maxHeartbeats 4000000 in
theorem k_Mo_idealNow_75 {p : Program} {l : Launch} {e : Env} {s : State} {m : MethodId} {args : Array Value} {below : List Frame} {meth : Method} {c : Code} {g : GX} {mo : Nat} {a : Nat → Nat} {o : IV} {now : LV} {dr : LV} {pa : LV} {sa : LV} {iS : IV} {bu : IV} {tq : IV} {rT : IV} {wT : IV} {wo : Nat → Option Nat} {sK : IV} {sA : IV} {sB : IV} {sE : IV} {oq : IV} {bS : IV} {bE : IV} {bL : IV} {rp : IV} {v8 : Int32} {x2p4 : Int32} {y5 : Int64} {x5p31 : Int32} {r4 : Int32 → Int32 → Int32} {q4 : Int32 → Int32 → Prop} {r31 : Int32 → Int32 → Int32 → Int32} {q31 : Int32 → Int32 → Int32 → Prop} (C : Cx p s m args meth c (inW (wMo g mo a o now dr pa sa iS bu tq rT wT wo sK sA sB sE oq bS bE bL rp)) g "DecadeBridgeModel" b_Mo_idealNow (some .int) 8) (ih4 : HL_Mo_idealNow_4 p l e s m args below meth c g mo a o now dr pa sa iS bu tq rT wT wo sK sA sB sE oq bS bE bL rp r4 q4) (ih31 : HL_Mo_idealNow_31 p l e s m args below meth c g mo a o now dr pa sa iS bu tq rT wT wo sK sA sB sE oq bS bE bL rp x2p4 y5 r31 q31) : HL_Mo_idealNow_75 p l e s m args below meth c g mo a o now dr pa sa iS bu tq rT wT wo sK sA sB sE oq bS bE bL rp v8 x2p4 y5 x5p31 (sp_Mo_idealNow_75 x5p31 v8 r4 r31) (ok_Mo_idealNow_75 x5p31 v8 r4 r31 q4 q31) := by
  intro t0p75 hok z hz H locs ls hP hD hS hl
  obtain ⟨hx, hb, hr, hml, hown, hlk, hts, hK, hZo, hZ⟩ := id C
  unfold sp_Mo_idealNow_75 at hz
  unfold ok_Mo_idealNow_75 at hok
  refine lv_istore (lv' := [(4, .int t0p75), (0, .ref mo), (1, .int v8), (2, .int x2p4), (3, .int y5.toInt32), (5, .int x5p31)]) hx hb d_Mo_idealNow_75 hl (by decide) rfl (fun ls hl => ?_)
  obtain ⟨v13, ev13⟩ : ∃ y : Int32, y = x5p31 + (1 : Int32) := ⟨_, rfl⟩
  have hz := lett_z hz ev13
  have hok := lett_o hok ev13
  refine lv_iinc (v := v13) (lv' := [(5, .int v13), (4, .int t0p75), (0, .ref mo), (1, .int v8), (2, .int x2p4), (3, .int y5.toInt32)]) hx hb d_Mo_idealNow_77 hl (k := 5) rfl (by rw [ev13]; rfl) (by decide) rfl (fun ls hl => ?_)
  refine lv_goto (tgt := 31) hx hb d_Mo_idealNow_80 (by decide) ?_
  exact ih31 v8 t0p75 v13 hok _ hz _ _ ls hP hD hS (lv_sub hl [2, 3, 4, 5, 1, 0] rfl)
noncomputable def bd_Mo_idealNow_31 (x2p4 : Int32) (y5 : Int64) (now : LV) (r4 : Int32 → Int32 → Int32) (r31 : Int32 → Int32 → Int32 → Int32) (x1p31 : Int32) (x4p31 : Int32) (x5p31 : Int32) : Int32 := if (9 : Int32) ≤ x5p31 then (sp_Mo_idealNow_83 x4p31 x1p31 x2p4 y5 r4) else (if x4p31 = 0 then (sp_Mo_idealNow_83 x4p31 x1p31 x2p4 y5 r4) else (lett (x1p31 + y5.toInt32) fun (v8 : Int32) => lett (sp_Mo_plainNow v8 now) fun (y10 : Int64) => if y10 = (0 : Int64) then (v8) else (if y10 ≤ (0 : Int64) then (sp_Mo_idealNow_75 x5p31 v8 r4 r31 (0 : Int32)) else (sp_Mo_idealNow_75 x5p31 v8 r4 r31 (1 : Int32)))))
def okb_Mo_idealNow_31 (x2p4 : Int32) (y5 : Int64) (now : LV) (r4 : Int32 → Int32 → Int32) (r31 : Int32 → Int32 → Int32 → Int32) (q4 : Int32 → Int32 → Prop) (q31 : Int32 → Int32 → Int32 → Prop) (x1p31 : Int32) (x4p31 : Int32) (x5p31 : Int32) : Prop := (((9 : Int32) ≤ x5p31 → ok_Mo_idealNow_83 x4p31 x1p31 x2p4 y5 r4 q4) ∧ (¬ ((9 : Int32) ≤ x5p31) → ((x4p31 = 0 → ok_Mo_idealNow_83 x4p31 x1p31 x2p4 y5 r4 q4) ∧ (¬ (x4p31 = 0) → lett (x1p31 + y5.toInt32) fun (v8 : Int32) => (ok_Mo_plainNow v8 now) ∧ lett (sp_Mo_plainNow v8 now) fun (y10 : Int64) => ((y10 = (0 : Int64) → True) ∧ (¬ (y10 = (0 : Int64)) → ((y10 ≤ (0 : Int64) → ok_Mo_idealNow_75 x5p31 v8 r4 r31 q4 q31 (0 : Int32)) ∧ (¬ (y10 ≤ (0 : Int64)) → ok_Mo_idealNow_75 x5p31 v8 r4 r31 q4 q31 (1 : Int32)))))))))
noncomputable def sp_Mo_idealNow_31 (x2p4 : Int32) (y5 : Int64) (now : LV) (r4 : Int32 → Int32 → Int32) : Nat → Int32 → Int32 → Int32 → Int32
  | 0 => fun _ _ _ => default
  | f + 1 => bd_Mo_idealNow_31 x2p4 y5 now r4 (sp_Mo_idealNow_31 x2p4 y5 now r4 f)
def ok_Mo_idealNow_31 (x2p4 : Int32) (y5 : Int64) (now : LV) (r4 : Int32 → Int32 → Int32) (q4 : Int32 → Int32 → Prop) : Nat → Int32 → Int32 → Int32 → Prop
  | 0 => fun _ _ _ => False
  | f + 1 => okb_Mo_idealNow_31 x2p4 y5 now r4 (sp_Mo_idealNow_31 x2p4 y5 now r4 f) q4 (ok_Mo_idealNow_31 x2p4 y5 now r4 q4 f)
set_option maxRecDepth 100000 in
set_option maxHeartbeats 4000000 in
theorem kb_Mo_idealNow_31 {p : Program} {l : Launch} {e : Env} {s : State} {m : MethodId} {args : Array Value} {below : List Frame} {meth : Method} {c : Code} {g : GX} {mo : Nat} {a : Nat → Nat} {o : IV} {now : LV} {dr : LV} {pa : LV} {sa : LV} {iS : IV} {bu : IV} {tq : IV} {rT : IV} {wT : IV} {wo : Nat → Option Nat} {sK : IV} {sA : IV} {sB : IV} {sE : IV} {oq : IV} {bS : IV} {bE : IV} {bL : IV} {rp : IV} {x2p4 : Int32} {y5 : Int64} {r4 : Int32 → Int32 → Int32} {q4 : Int32 → Int32 → Prop} (C : Cx p s m args meth c (inW (wMo g mo a o now dr pa sa iS bu tq rT wT wo sK sA sB sE oq bS bE bL rp)) g "DecadeBridgeModel" b_Mo_idealNow (some .int) 8) {r31 : Int32 → Int32 → Int32 → Int32} {q31 : Int32 → Int32 → Int32 → Prop} (ih4 : HL_Mo_idealNow_4 p l e s m args below meth c g mo a o now dr pa sa iS bu tq rT wT wo sK sA sB sE oq bS bE bL rp r4 q4) (ih31 : HL_Mo_idealNow_31 p l e s m args below meth c g mo a o now dr pa sa iS bu tq rT wT wo sK sA sB sE oq bS bE bL rp x2p4 y5 r31 q31) : HL_Mo_idealNow_31 p l e s m args below meth c g mo a o now dr pa sa iS bu tq rT wT wo sK sA sB sE oq bS bE bL rp x2p4 y5 (bd_Mo_idealNow_31 x2p4 y5 now r4 r31) (okb_Mo_idealNow_31 x2p4 y5 now r4 r31 q4 q31) := by
  intro x1p31 x4p31 x5p31 hok z hz H locs ls hP hD hS hl
  obtain ⟨hx, hb, hr, hml, hown, hlk, hts, hK, hZo, hZ⟩ := id C
  unfold bd_Mo_idealNow_31 at hz
  unfold okb_Mo_idealNow_31 at hok
  refine lv_iload hx hb d_Mo_idealNow_31 (lv_at hl 5 rfl) ?_
  refine lv_bipush (v := 9) hx hb d_Mo_idealNow_33 (by decide) ?_
  refine lv_icmp_ge (tgt := 83) hx hb d_Mo_idealNow_35 (by decide) (fun c6 => ?_) (fun c6 => ?_)
  · have hz := hz.trans (if_pos c6)
    have hok := hok.1 c6
    exact k_Mo_idealNow_83 C ih4 () hok _ hz _ _ ls hP hD hS (lv_sub hl [0, 1, 2, 3, 4] rfl)
  · have hz := hz.trans (if_neg c6)
    have hok := hok.2 c6
    refine lv_iload hx hb d_Mo_idealNow_38 (lv_at hl 4 rfl) ?_
    refine lv_if_eq (tgt := 83) hx hb d_Mo_idealNow_40 (by decide) (fun c7 => ?_) (fun c7 => ?_)
    · have hz := hz.trans (if_pos c7)
      have hok := hok.1 c7
      exact k_Mo_idealNow_83 C ih4 () hok _ hz _ _ ls hP hD hS (lv_sub hl [0, 1, 2, 3, 4] rfl)
    · have hz := hz.trans (if_neg c7)
      have hok := hok.2 c7
      refine lv_iload_n hx hb d_Mo_idealNow_43 rfl (lv_at hl 1 rfl) ?_
      refine lv_iload_n hx hb d_Mo_idealNow_44 rfl (lv_at hl 3 rfl) ?_
      refine lv_iadd hx hb d_Mo_idealNow_45 ?_
      refine lv_topi (fun v8 ev8 => ?_)
      have hz := lett_z hz ev8
      have hok := lett_o hok ev8
      refine lv_istore_n (lv' := [(1, .int v8), (0, .ref mo), (2, .int x2p4), (3, .int y5.toInt32), (4, .int x4p31), (5, .int x5p31)]) hx hb d_Mo_idealNow_46 rfl hl (by decide) rfl (fun ls hl => ?_)
      refine lv_aload_n hx hb d_Mo_idealNow_47 rfl (lv_at hl 1 rfl) ?_
      refine lv_iload_n hx hb d_Mo_idealNow_48 rfl (lv_at hl 0 rfl) ?_
      have hs9 := hok.1
      have hok := hok.2
      have hB : SubW g (inW (wMo g mo a o now dr pa sa iS bu tq rT wT wo sK sA sB sE oq bS bE bL rp)) s (wMo g mo a o now dr pa sa iS bu tq rT wT wo sK sA sB sE oq bS bE bL rp) _ (List.range _) _ _ := (subF hP hD hS)
      refine goL0 hB (run_v C mf_Mo_plainNow qm_Mo_179 (c_Mo_plainNow l g mo a o now dr pa sa iS bu tq rT wT wo sK sA sB sE oq bS bE bL rp v8 hs9) rfl rfl ⟨Nat.le_of_ble_eq_true rfl, Nat.le_of_ble_eq_true rfl⟩ ⟨Nat.le_of_ble_eq_true rfl, Nat.le_of_ble_eq_true rfl⟩ hB rfl rfl hl rfl rfl (Nat.le_of_ble_eq_true rfl) d_Mo_idealNow_49) (fun y10 ey10 H locs hP hS => ?_)
      have hz := lett_z hz ey10
      have hok := lett_o hok ey10
      refine lv_lstore (lv' := [(6, .long y10), (1, .int v8), (0, .ref mo), (2, .int x2p4), (3, .int y5.toInt32), (4, .int x4p31), (5, .int x5p31)]) hx hb d_Mo_idealNow_52 hl (by decide) rfl (fun ls hl => ?_)
      refine lv_lload hx hb d_Mo_idealNow_54 (lv_at hl 0 rfl) ?_
      refine lv_lconst (v := 0) hx hb d_Mo_idealNow_56 (by decide) ?_
      refine lc_ne (tgt := 63) hx hb d_Mo_idealNow_57 d_Mo_idealNow_58 (by decide) (fun c11 => ?_) (fun c11 => ?_)
      · have hz := hz.trans (if_neg c11)
        have hok := hok.2 c11
        refine lv_lload hx hb d_Mo_idealNow_63 (lv_at hl 0 rfl) ?_
        refine lv_lconst (v := 0) hx hb d_Mo_idealNow_65 (by decide) ?_
        refine lc_le (tgt := 74) hx hb d_Mo_idealNow_66 d_Mo_idealNow_67 (by decide) (fun c12 => ?_) (fun c12 => ?_)
        · have hz := hz.trans (if_pos c12)
          have hok := hok.1 c12
          refine lv_iconst (v := 0) hx hb d_Mo_idealNow_74 (by decide) ?_
          exact k_Mo_idealNow_75 C ih4 ih31 (0 : Int32) hok _ hz _ _ ls hP hD hS (lv_sub hl [2, 1, 3, 4, 6] rfl)
        · have hz := hz.trans (if_neg c12)
          have hok := hok.2 c12
          refine lv_iconst (v := 1) hx hb d_Mo_idealNow_70 (by decide) ?_
          refine lv_goto (tgt := 75) hx hb d_Mo_idealNow_71 (by decide) ?_
          exact k_Mo_idealNow_75 C ih4 ih31 (1 : Int32) hok _ hz _ _ ls hP hD hS (lv_sub hl [2, 1, 3, 4, 6] rfl)
      · have hz := hz.trans (if_pos c11)
        refine lv_iload_n hx hb d_Mo_idealNow_61 rfl (lv_at hl 1 rfl) ?_
        exact endI0 C hz hP hS d_Mo_idealNow_62
theorem k_Mo_idealNow_31 {p : Program} {l : Launch} {e : Env} {s : State} {m : MethodId} {args : Array Value} {below : List Frame} {meth : Method} {c : Code} {g : GX} {mo : Nat} {a : Nat → Nat} {o : IV} {now : LV} {dr : LV} {pa : LV} {sa : LV} {iS : IV} {bu : IV} {tq : IV} {rT : IV} {wT : IV} {wo : Nat → Option Nat} {sK : IV} {sA : IV} {sB : IV} {sE : IV} {oq : IV} {bS : IV} {bE : IV} {bL : IV} {rp : IV} {x2p4 : Int32} {y5 : Int64} {r4 : Int32 → Int32 → Int32} {q4 : Int32 → Int32 → Prop} (C : Cx p s m args meth c (inW (wMo g mo a o now dr pa sa iS bu tq rT wT wo sK sA sB sE oq bS bE bL rp)) g "DecadeBridgeModel" b_Mo_idealNow (some .int) 8) (f : Nat) (ih4 : HL_Mo_idealNow_4 p l e s m args below meth c g mo a o now dr pa sa iS bu tq rT wT wo sK sA sB sE oq bS bE bL rp r4 q4) : HL_Mo_idealNow_31 p l e s m args below meth c g mo a o now dr pa sa iS bu tq rT wT wo sK sA sB sE oq bS bE bL rp x2p4 y5 (sp_Mo_idealNow_31 x2p4 y5 now r4 f) (ok_Mo_idealNow_31 x2p4 y5 now r4 q4 f) := by
  induction f with
  | zero => intro x1p31 x4p31 x5p31 hok; exact False.elim hok
  | succ f ih => exact kb_Mo_idealNow_31 C ih4 ih
noncomputable def bd_Mo_idealNow_4 (now : LV) (r4 : Int32 → Int32 → Int32) (x1p4 : Int32) (x2p4 : Int32) : Int32 := lett (sp_Mo_decades now) fun (y1 : Int32) => if y1 ≤ x2p4 then (x1p4) else (lett (sp_Mo_decades now) fun (y3 : Int32) => lett (sp_Mo_tenTo ((y3 - (1 : Int32)) - x2p4)) fun (y5 : Int64) => sp_Mo_idealNow_31 x2p4 y5 now r4 big x1p4 (1 : Int32) (0 : Int32))
def okb_Mo_idealNow_4 (now : LV) (r4 : Int32 → Int32 → Int32) (q4 : Int32 → Int32 → Prop) (x1p4 : Int32) (x2p4 : Int32) : Prop := lett (sp_Mo_decades now) fun (y1 : Int32) => ((y1 ≤ x2p4 → True) ∧ (¬ (y1 ≤ x2p4) → lett (sp_Mo_decades now) fun (y3 : Int32) => (ok_Mo_tenTo ((y3 - (1 : Int32)) - x2p4)) ∧ lett (sp_Mo_tenTo ((y3 - (1 : Int32)) - x2p4)) fun (y5 : Int64) => ok_Mo_idealNow_31 x2p4 y5 now r4 q4 big x1p4 (1 : Int32) (0 : Int32)))
noncomputable def sp_Mo_idealNow_4 (now : LV)  : Nat → Int32 → Int32 → Int32
  | 0 => fun _ _ => default
  | f + 1 => bd_Mo_idealNow_4 now  (sp_Mo_idealNow_4 now  f)
def ok_Mo_idealNow_4 (now : LV)   : Nat → Int32 → Int32 → Prop
  | 0 => fun _ _ => False
  | f + 1 => okb_Mo_idealNow_4 now  (sp_Mo_idealNow_4 now  f)  (ok_Mo_idealNow_4 now   f)
set_option maxRecDepth 100000 in
set_option maxHeartbeats 4000000 in
theorem kb_Mo_idealNow_4 {p : Program} {l : Launch} {e : Env} {s : State} {m : MethodId} {args : Array Value} {below : List Frame} {meth : Method} {c : Code} {g : GX} {mo : Nat} {a : Nat → Nat} {o : IV} {now : LV} {dr : LV} {pa : LV} {sa : LV} {iS : IV} {bu : IV} {tq : IV} {rT : IV} {wT : IV} {wo : Nat → Option Nat} {sK : IV} {sA : IV} {sB : IV} {sE : IV} {oq : IV} {bS : IV} {bE : IV} {bL : IV} {rp : IV}  (C : Cx p s m args meth c (inW (wMo g mo a o now dr pa sa iS bu tq rT wT wo sK sA sB sE oq bS bE bL rp)) g "DecadeBridgeModel" b_Mo_idealNow (some .int) 8) {r4 : Int32 → Int32 → Int32} {q4 : Int32 → Int32 → Prop}  (ih4 : HL_Mo_idealNow_4 p l e s m args below meth c g mo a o now dr pa sa iS bu tq rT wT wo sK sA sB sE oq bS bE bL rp r4 q4) : HL_Mo_idealNow_4 p l e s m args below meth c g mo a o now dr pa sa iS bu tq rT wT wo sK sA sB sE oq bS bE bL rp (bd_Mo_idealNow_4 now  r4) (okb_Mo_idealNow_4 now  r4  q4) := by
  intro x1p4 x2p4 hok z hz H locs ls hP hD hS hl
  obtain ⟨hx, hb, hr, hml, hown, hlk, hts, hK, hZo, hZ⟩ := id C
  unfold bd_Mo_idealNow_4 at hz
  unfold okb_Mo_idealNow_4 at hok
  refine lv_iload_n hx hb d_Mo_idealNow_4 rfl (lv_at hl 2 rfl) ?_
  refine lv_aload_n hx hb d_Mo_idealNow_5 rfl (lv_at hl 0 rfl) ?_
  have hB : SubW g (inW (wMo g mo a o now dr pa sa iS bu tq rT wT wo sK sA sB sE oq bS bE bL rp)) s (wMo g mo a o now dr pa sa iS bu tq rT wT wo sK sA sB sE oq bS bE bL rp) _ (List.range _) _ _ := (subF hP hD hS)
  refine goI0 hB (run_v C mf_Mo_decades qm_Mo_130 (c_Mo_decades l g mo a o now dr pa sa iS bu tq rT wT wo sK sA sB sE oq bS bE bL rp) rfl rfl ⟨Nat.le_of_ble_eq_true rfl, Nat.le_of_ble_eq_true rfl⟩ ⟨Nat.le_of_ble_eq_true rfl, Nat.le_of_ble_eq_true rfl⟩ hB rfl rfl hl rfl rfl (Nat.le_of_ble_eq_true rfl) d_Mo_idealNow_6) (fun y1 ey1 H locs hP hS => ?_)
  have hz := lett_z hz ey1
  have hok := lett_o hok ey1
  refine lv_icmp_ge (tgt := 102) hx hb d_Mo_idealNow_9 (by decide) (fun c2 => ?_) (fun c2 => ?_)
  · have hz := hz.trans (if_pos c2)
    refine lv_iload_n hx hb d_Mo_idealNow_102 rfl (lv_at hl 1 rfl) ?_
    exact endI0 C hz hP hS d_Mo_idealNow_103
  · have hz := hz.trans (if_neg c2)
    have hok := hok.2 c2
    refine lv_aload_n hx hb d_Mo_idealNow_12 rfl (lv_at hl 0 rfl) ?_
    have hB : SubW g (inW (wMo g mo a o now dr pa sa iS bu tq rT wT wo sK sA sB sE oq bS bE bL rp)) s (wMo g mo a o now dr pa sa iS bu tq rT wT wo sK sA sB sE oq bS bE bL rp) _ (List.range _) _ _ := (subF hP hD hS)
    refine goI0 hB (run_v C mf_Mo_decades qm_Mo_130 (c_Mo_decades l g mo a o now dr pa sa iS bu tq rT wT wo sK sA sB sE oq bS bE bL rp) rfl rfl ⟨Nat.le_of_ble_eq_true rfl, Nat.le_of_ble_eq_true rfl⟩ ⟨Nat.le_of_ble_eq_true rfl, Nat.le_of_ble_eq_true rfl⟩ hB rfl rfl hl rfl rfl (Nat.le_of_ble_eq_true rfl) d_Mo_idealNow_13) (fun y3 ey3 H locs hP hS => ?_)
    have hz := lett_z hz ey3
    have hok := lett_o hok ey3
    refine lv_iconst (v := 1) hx hb d_Mo_idealNow_16 (by decide) ?_
    refine lv_isub hx hb d_Mo_idealNow_17 ?_
    refine lv_iload_n hx hb d_Mo_idealNow_18 rfl (lv_at hl 2 rfl) ?_
    refine lv_isub hx hb d_Mo_idealNow_19 ?_
    have hs4 := hok.1
    have hok := hok.2
    have hB : SubW g (inW (wMo g mo a o now dr pa sa iS bu tq rT wT wo sK sA sB sE oq bS bE bL rp)) s (wMo g mo a o now dr pa sa iS bu tq rT wT wo sK sA sB sE oq bS bE bL rp) _ (List.range _) _ _ := (subF hP hD hS)
    refine goL0 hB (run_s C mf_Mo_tenTo qm_Mo_122 (c_Mo_tenTo l g mo a o now dr pa sa iS bu tq rT wT wo sK sA sB sE oq bS bE bL rp ((y3 - (1 : Int32)) - x2p4) hs4) rfl rfl ⟨Nat.le_of_ble_eq_true rfl, Nat.le_of_ble_eq_true rfl⟩ ⟨Nat.le_of_ble_eq_true rfl, Nat.le_of_ble_eq_true rfl⟩ hB hl rfl rfl (Nat.le_of_ble_eq_true rfl) d_Mo_idealNow_20) (fun y5 ey5 H locs hP hS => ?_)
    have hz := lett_z hz ey5
    have hok := lett_o hok ey5
    refine lv_l2i hx hb d_Mo_idealNow_23 rfl ?_
    refine lv_istore_n (lv' := [(3, .int y5.toInt32), (0, .ref mo), (1, .int x1p4), (2, .int x2p4)]) hx hb d_Mo_idealNow_24 rfl hl (by decide) rfl (fun ls hl => ?_)
    refine lv_iconst (v := 1) hx hb d_Mo_idealNow_25 (by decide) ?_
    refine lv_istore (lv' := [(4, .int (1 : Int32)), (3, .int y5.toInt32), (0, .ref mo), (1, .int x1p4), (2, .int x2p4)]) hx hb d_Mo_idealNow_26 hl (by decide) rfl (fun ls hl => ?_)
    refine lv_iconst (v := 0) hx hb d_Mo_idealNow_28 (by decide) ?_
    refine lv_istore (lv' := [(5, .int (0 : Int32)), (4, .int (1 : Int32)), (3, .int y5.toInt32), (0, .ref mo), (1, .int x1p4), (2, .int x2p4)]) hx hb d_Mo_idealNow_29 hl (by decide) rfl (fun ls hl => ?_)
    exact k_Mo_idealNow_31 C big ih4 x1p4 (1 : Int32) (0 : Int32) hok _ hz _ _ ls hP hD hS (lv_sub hl [3, 4, 5, 2, 1, 0] rfl)
theorem k_Mo_idealNow_4 {p : Program} {l : Launch} {e : Env} {s : State} {m : MethodId} {args : Array Value} {below : List Frame} {meth : Method} {c : Code} {g : GX} {mo : Nat} {a : Nat → Nat} {o : IV} {now : LV} {dr : LV} {pa : LV} {sa : LV} {iS : IV} {bu : IV} {tq : IV} {rT : IV} {wT : IV} {wo : Nat → Option Nat} {sK : IV} {sA : IV} {sB : IV} {sE : IV} {oq : IV} {bS : IV} {bE : IV} {bL : IV} {rp : IV}  (C : Cx p s m args meth c (inW (wMo g mo a o now dr pa sa iS bu tq rT wT wo sK sA sB sE oq bS bE bL rp)) g "DecadeBridgeModel" b_Mo_idealNow (some .int) 8) (f : Nat)  : HL_Mo_idealNow_4 p l e s m args below meth c g mo a o now dr pa sa iS bu tq rT wT wo sK sA sB sE oq bS bE bL rp (sp_Mo_idealNow_4 now  f) (ok_Mo_idealNow_4 now   f) := by
  induction f with
  | zero => intro x1p4 x2p4 hok; exact False.elim hok
  | succ f ih => exact kb_Mo_idealNow_4 C  ih
noncomputable def sp_Mo_idealNow (now : LV) : Int32 := sp_Mo_idealNow_4 now big (0 : Int32) (0 : Int32)
def ok_Mo_idealNow (now : LV) : Prop := ok_Mo_idealNow_4 now big (0 : Int32) (0 : Int32)
set_option maxRecDepth 100000 in
set_option maxHeartbeats 4000000 in
theorem c_Mo_idealNow (l : Launch) (g : GX) (mo : Nat) (a : Nat → Nat) (o : IV) (now : LV) (dr : LV) (pa : LV) (sa : LV) (iS : IV) (bu : IV) (tq : IV) (rT : IV) (wT : IV) (wo : Nat → Option Nat) (sK : IV) (sA : IV) (sB : IV) (sE : IV) (oq : IV) (bS : IV) (bE : IV) (bL : IV) (rp : IV)  (hok : ok_Mo_idealNow now) : Met l y_Mo_idealNow (wsY y_Mo_idealNow b_Mo_idealNow 8 (some .int)) rm_Mo_idealNow (CP g [.ref mo] (wMo g mo a o now dr pa sa iS bu tq rT wT wo sK sA sB sE oq bS bE bL rp)) (CI0 g (wMo g mo a o now dr pa sa iS bu tq rT wT wo sK sA sB sE oq bS bE bL rp) (sp_Mo_idealNow now)) 0 0 (inW (wMo g mo a o now dr pa sa iS bu tq rT wT wo sK sA sB sE oq bS bE bL rp)) := by
  refine Met.ofW (cc := b_Mo_idealNow) (maxL := 8) (ret := (some .int)) pn_Mo rfl ?_
  intro p e s m args below meth c s₁ B hml hv
  obtain ⟨rfl, C, hP, hD, hS⟩ := enter "DecadeBridgeModel" rfl B hml hv
  obtain ⟨hx, hb, hr, hml, hown, hlk, hts, hK, hZo, hZ⟩ := id C
  refine entryW (lv := [(0, .ref mo)]) rfl (Nat.le_of_ble_eq_true rfl) (fun ls hl => ?_)
  obtain ⟨z, hz⟩ : ∃ z, z = sp_Mo_idealNow now := ⟨_, rfl⟩
  rw [← hz]
  unfold sp_Mo_idealNow at hz
  unfold ok_Mo_idealNow at hok
  refine lv_iconst (v := 0) hx hb d_Mo_idealNow_0 (by decide) ?_
  refine lv_istore_n (lv' := [(1, .int (0 : Int32)), (0, .ref mo)]) hx hb d_Mo_idealNow_1 rfl hl (by decide) rfl (fun ls hl => ?_)
  refine lv_iconst (v := 0) hx hb d_Mo_idealNow_2 (by decide) ?_
  refine lv_istore_n (lv' := [(2, .int (0 : Int32)), (1, .int (0 : Int32)), (0, .ref mo)]) hx hb d_Mo_idealNow_3 rfl hl (by decide) rfl (fun ls hl => ?_)
  exact k_Mo_idealNow_4 C big (0 : Int32) (0 : Int32) hok _ hz _ _ ls hP hD hS (lv_sub hl [2, 1, 0] rfl)
abbrev rm_Mo_ideal : Room := { frames := 9, cells := 0, slots := 0, locals := 213 }
noncomputable def sp_Mo_ideal (o : IV) (now : LV) : Int32 × IV := lett (upd o 6 (0 : Int32)) fun (o_1 : IV) => lett (sp_Mo_idealNow now) fun (y3 : Int32) => (y3, o_1)
def ok_Mo_ideal (o : IV) (now : LV) : Prop := lett (upd o 6 (0 : Int32)) fun (o_1 : IV) => (ok_Mo_idealNow now) ∧ True
set_option maxRecDepth 100000 in
set_option maxHeartbeats 4000000 in
theorem c_Mo_ideal (l : Launch) (g : GX) (mo : Nat) (a : Nat → Nat) (o : IV) (now : LV) (dr : LV) (pa : LV) (sa : LV) (iS : IV) (bu : IV) (tq : IV) (rT : IV) (wT : IV) (wo : Nat → Option Nat) (sK : IV) (sA : IV) (sB : IV) (sE : IV) (oq : IV) (bS : IV) (bE : IV) (bL : IV) (rp : IV)  (hok : ok_Mo_ideal o now) : Met l y_Mo_ideal (wsY y_Mo_ideal b_Mo_ideal 1 (some .int)) rm_Mo_ideal (CP g [.ref mo] (wMo g mo a o now dr pa sa iS bu tq rT wT wo sK sA sB sE oq bS bE bL rp)) (CI g (wMo g mo a o now dr pa sa iS bu tq rT wT wo sK sA sB sE oq bS bE bL rp) (fun u : IV => wMo g mo a u now dr pa sa iS bu tq rT wT wo sK sA sB sE oq bS bE bL rp) (sp_Mo_ideal o now)) 0 0 (inW (wMo g mo a o now dr pa sa iS bu tq rT wT wo sK sA sB sE oq bS bE bL rp)) := by
  refine Met.ofW (cc := b_Mo_ideal) (maxL := 1) (ret := (some .int)) pn_Mo rfl ?_
  intro p e s m args below meth c s₁ B hml hv
  obtain ⟨rfl, C, hP, hD, hS⟩ := enter "DecadeBridgeModel" rfl B hml hv
  obtain ⟨hx, hb, hr, hml, hown, hlk, hts, hK, hZo, hZ⟩ := id C
  refine entryW (lv := [(0, .ref mo)]) rfl (Nat.le_of_ble_eq_true rfl) (fun ls hl => ?_)
  obtain ⟨z, hz⟩ : ∃ z, z = sp_Mo_ideal o now := ⟨_, rfl⟩
  rw [← hz]
  unfold sp_Mo_ideal at hz
  unfold ok_Mo_ideal at hok
  refine lv_aload_n hx hb d_Mo_ideal_0 rfl (lv_at hl 0 rfl) ?_
  refine lv_iconst (v := 0) hx hb d_Mo_ideal_1 (by decide) ?_
  refine pfI C hP hD hS 0 6 fkMo rfl (by decide) rfl qf_Mo_107 rfl rfl rfl (Nat.le_of_ble_eq_true rfl) (ff := fun o => fMo a o) (sMo_6 _ _ _) d_Mo_ideal_2 (fun o_1 eo_1 H locs hP hD hS => ?_)
  have hP : va_P g.1 vwCl (wMo g mo a o_1 now dr pa sa iS bu tq rT wT wo sK sA sB sE oq bS bE bL rp) H := hP
  have hD : va_D (inW (wMo g mo a o now dr pa sa iS bu tq rT wT wo sK sA sB sE oq bS bE bL rp)) (wMo g mo a o_1 now dr pa sa iS bu tq rT wT wo sK sA sB sE oq bS bE bL rp) := hD
  have hz := lett_z hz eo_1
  have hok := lett_o hok eo_1
  refine lv_aload_n hx hb d_Mo_ideal_5 rfl (lv_at hl 0 rfl) ?_
  have hs2 := hok.1
  have hok := hok.2
  have hB : SubW g (inW (wMo g mo a o now dr pa sa iS bu tq rT wT wo sK sA sB sE oq bS bE bL rp)) s (wMo g mo a o_1 now dr pa sa iS bu tq rT wT wo sK sA sB sE oq bS bE bL rp) _ (List.range _) _ _ := (subF hP hD hS)
  refine goI0 hB (run_v C mf_Mo_idealNow qm_Mo_462 (c_Mo_idealNow l g mo a o_1 now dr pa sa iS bu tq rT wT wo sK sA sB sE oq bS bE bL rp hs2) rfl rfl ⟨Nat.le_of_ble_eq_true rfl, Nat.le_of_ble_eq_true rfl⟩ ⟨Nat.le_of_ble_eq_true rfl, Nat.le_of_ble_eq_true rfl⟩ hB rfl rfl hl rfl rfl (Nat.le_of_ble_eq_true rfl) d_Mo_ideal_6) (fun y3 ey3 H locs hP hS => ?_)
  have hz := lett_z hz ey3
  exact endI1 C hz hP hS d_Mo_ideal_9
abbrev rm_Mo_miss : Room := { frames := 9, cells := 0, slots := 0, locals := 213 }
noncomputable def sp_Mo_miss (o : IV) (now : LV) : Int64 × IV := lett (upd o 6 (0 : Int32)) fun (o_1 : IV) => lett (sp_Mo_idealNow now) fun (y3 : Int32) => lett (sp_Mo_plainNow y3 now) fun (y5 : Int64) => lett (sp_Mo_amount y5) fun (y6 : Int64) => lett (sp_Mo_bestOf (now 29) (now 30) (now 32) now) fun (y8 : Int32) => lett (sp_Mo_plainNow y8 now) fun (y10 : Int64) => lett (sp_Mo_amount y10) fun (y11 : Int64) => (y6 - y11, o_1)
def ok_Mo_miss (o : IV) (now : LV) : Prop := lett (upd o 6 (0 : Int32)) fun (o_1 : IV) => (ok_Mo_idealNow now) ∧ lett (sp_Mo_idealNow now) fun (y3 : Int32) => (ok_Mo_plainNow y3 now) ∧ lett (sp_Mo_plainNow y3 now) fun (y5 : Int64) => lett (sp_Mo_amount y5) fun (y6 : Int64) => (ok_Mo_bestOf (now 29) (now 30) (now 32) now) ∧ lett (sp_Mo_bestOf (now 29) (now 30) (now 32) now) fun (y8 : Int32) => (ok_Mo_plainNow y8 now) ∧ True
set_option maxRecDepth 100000 in
set_option maxHeartbeats 4000000 in
theorem c_Mo_miss (l : Launch) (g : GX) (mo : Nat) (a : Nat → Nat) (o : IV) (now : LV) (dr : LV) (pa : LV) (sa : LV) (iS : IV) (bu : IV) (tq : IV) (rT : IV) (wT : IV) (wo : Nat → Option Nat) (sK : IV) (sA : IV) (sB : IV) (sE : IV) (oq : IV) (bS : IV) (bE : IV) (bL : IV) (rp : IV)  (hok : ok_Mo_miss o now) : Met l y_Mo_miss (wsY y_Mo_miss b_Mo_miss 1 (some .long)) rm_Mo_miss (CP g [.ref mo] (wMo g mo a o now dr pa sa iS bu tq rT wT wo sK sA sB sE oq bS bE bL rp)) (CL g (wMo g mo a o now dr pa sa iS bu tq rT wT wo sK sA sB sE oq bS bE bL rp) (fun u : IV => wMo g mo a u now dr pa sa iS bu tq rT wT wo sK sA sB sE oq bS bE bL rp) (sp_Mo_miss o now)) 0 0 (inW (wMo g mo a o now dr pa sa iS bu tq rT wT wo sK sA sB sE oq bS bE bL rp)) := by
  refine Met.ofW (cc := b_Mo_miss) (maxL := 1) (ret := (some .long)) pn_Mo rfl ?_
  intro p e s m args below meth c s₁ B hml hv
  obtain ⟨rfl, C, hP, hD, hS⟩ := enter "DecadeBridgeModel" rfl B hml hv
  obtain ⟨hx, hb, hr, hml, hown, hlk, hts, hK, hZo, hZ⟩ := id C
  refine entryW (lv := [(0, .ref mo)]) rfl (Nat.le_of_ble_eq_true rfl) (fun ls hl => ?_)
  obtain ⟨z, hz⟩ : ∃ z, z = sp_Mo_miss o now := ⟨_, rfl⟩
  rw [← hz]
  unfold sp_Mo_miss at hz
  unfold ok_Mo_miss at hok
  refine lv_aload_n hx hb d_Mo_miss_0 rfl (lv_at hl 0 rfl) ?_
  refine lv_iconst (v := 0) hx hb d_Mo_miss_1 (by decide) ?_
  refine pfI C hP hD hS 0 6 fkMo rfl (by decide) rfl qf_Mo_107 rfl rfl rfl (Nat.le_of_ble_eq_true rfl) (ff := fun o => fMo a o) (sMo_6 _ _ _) d_Mo_miss_2 (fun o_1 eo_1 H locs hP hD hS => ?_)
  have hP : va_P g.1 vwCl (wMo g mo a o_1 now dr pa sa iS bu tq rT wT wo sK sA sB sE oq bS bE bL rp) H := hP
  have hD : va_D (inW (wMo g mo a o now dr pa sa iS bu tq rT wT wo sK sA sB sE oq bS bE bL rp)) (wMo g mo a o_1 now dr pa sa iS bu tq rT wT wo sK sA sB sE oq bS bE bL rp) := hD
  have hz := lett_z hz eo_1
  have hok := lett_o hok eo_1
  refine lv_aload_n hx hb d_Mo_miss_5 rfl (lv_at hl 0 rfl) ?_
  refine lv_aload_n hx hb d_Mo_miss_6 rfl (lv_at hl 0 rfl) ?_
  have hs2 := hok.1
  have hok := hok.2
  have hB : SubW g (inW (wMo g mo a o now dr pa sa iS bu tq rT wT wo sK sA sB sE oq bS bE bL rp)) s (wMo g mo a o_1 now dr pa sa iS bu tq rT wT wo sK sA sB sE oq bS bE bL rp) _ (List.range _) _ _ := (subF hP hD hS)
  refine goI0 hB (run_v C mf_Mo_idealNow qm_Mo_462 (c_Mo_idealNow l g mo a o_1 now dr pa sa iS bu tq rT wT wo sK sA sB sE oq bS bE bL rp hs2) rfl rfl ⟨Nat.le_of_ble_eq_true rfl, Nat.le_of_ble_eq_true rfl⟩ ⟨Nat.le_of_ble_eq_true rfl, Nat.le_of_ble_eq_true rfl⟩ hB rfl rfl hl rfl rfl (Nat.le_of_ble_eq_true rfl) d_Mo_miss_7) (fun y3 ey3 H locs hP hS => ?_)
  have hz := lett_z hz ey3
  have hok := lett_o hok ey3
  have hs4 := hok.1
  have hok := hok.2
  have hB : SubW g (inW (wMo g mo a o now dr pa sa iS bu tq rT wT wo sK sA sB sE oq bS bE bL rp)) s (wMo g mo a o_1 now dr pa sa iS bu tq rT wT wo sK sA sB sE oq bS bE bL rp) _ (List.range _) _ _ := (subF hP hD hS)
  refine goL0 hB (run_v C mf_Mo_plainNow qm_Mo_179 (c_Mo_plainNow l g mo a o_1 now dr pa sa iS bu tq rT wT wo sK sA sB sE oq bS bE bL rp y3 hs4) rfl rfl ⟨Nat.le_of_ble_eq_true rfl, Nat.le_of_ble_eq_true rfl⟩ ⟨Nat.le_of_ble_eq_true rfl, Nat.le_of_ble_eq_true rfl⟩ hB rfl rfl hl rfl rfl (Nat.le_of_ble_eq_true rfl) d_Mo_miss_10) (fun y5 ey5 H locs hP hS => ?_)
  have hz := lett_z hz ey5
  have hok := lett_o hok ey5
  have hB : SubW g (inW (wMo g mo a o now dr pa sa iS bu tq rT wT wo sK sA sB sE oq bS bE bL rp)) s (wMo g mo a o_1 now dr pa sa iS bu tq rT wT wo sK sA sB sE oq bS bE bL rp) _ (List.range _) _ _ := (subF hP hD hS)
  refine goL0 hB (run_s C mf_Mo_amount qm_Mo_217 (c_Mo_amount l g mo a o_1 now dr pa sa iS bu tq rT wT wo sK sA sB sE oq bS bE bL rp y5) rfl rfl ⟨Nat.le_of_ble_eq_true rfl, Nat.le_of_ble_eq_true rfl⟩ ⟨Nat.le_of_ble_eq_true rfl, Nat.le_of_ble_eq_true rfl⟩ hB hl rfl rfl (Nat.le_of_ble_eq_true rfl) d_Mo_miss_13) (fun y6 ey6 H locs hP hS => ?_)
  have hz := lett_z hz ey6
  have hok := lett_o hok ey6
  refine lv_aload_n hx hb d_Mo_miss_16 rfl (lv_at hl 0 rfl) ?_
  refine lv_aload_n hx hb d_Mo_miss_17 rfl (lv_at hl 0 rfl) ?_
  refine lv_aload_n hx hb d_Mo_miss_18 rfl (lv_at hl 0 rfl) ?_
  refine gf C hP 0 0 fkMo rfl (by decide) rfl qf_Mo_7 (gMo_0 _ _) d_Mo_miss_19 ?_
  refine lv_bipush (v := 29) hx hb d_Mo_miss_22 (by decide) ?_
  refine ldL C hP 1 rfl vi_29_215 cn_29 d_Mo_miss_24 ?_
  refine lv_aload_n hx hb d_Mo_miss_25 rfl (lv_at hl 0 rfl) ?_
  refine gf C hP 0 0 fkMo rfl (by decide) rfl qf_Mo_7 (gMo_0 _ _) d_Mo_miss_26 ?_
  refine lv_bipush (v := 30) hx hb d_Mo_miss_29 (by decide) ?_
  refine ldL C hP 1 rfl vi_30_215 cn_30 d_Mo_miss_31 ?_
  refine lv_aload_n hx hb d_Mo_miss_32 rfl (lv_at hl 0 rfl) ?_
  refine gf C hP 0 0 fkMo rfl (by decide) rfl qf_Mo_7 (gMo_0 _ _) d_Mo_miss_33 ?_
  refine lv_bipush (v := 32) hx hb d_Mo_miss_36 (by decide) ?_
  refine ldL C hP 1 rfl vi_32_215 cn_32 d_Mo_miss_38 ?_
  have hs7 := hok.1
  have hok := hok.2
  have hB : SubW g (inW (wMo g mo a o now dr pa sa iS bu tq rT wT wo sK sA sB sE oq bS bE bL rp)) s (wMo g mo a o_1 now dr pa sa iS bu tq rT wT wo sK sA sB sE oq bS bE bL rp) _ (List.range _) _ _ := (subF hP hD hS)
  refine goI0 hB (run_v C mf_Mo_bestOf qm_Mo_458 (c_Mo_bestOf l g mo a o_1 now dr pa sa iS bu tq rT wT wo sK sA sB sE oq bS bE bL rp (now 29) (now 30) (now 32) hs7) rfl rfl ⟨Nat.le_of_ble_eq_true rfl, Nat.le_of_ble_eq_true rfl⟩ ⟨Nat.le_of_ble_eq_true rfl, Nat.le_of_ble_eq_true rfl⟩ hB rfl rfl hl rfl rfl (Nat.le_of_ble_eq_true rfl) d_Mo_miss_39) (fun y8 ey8 H locs hP hS => ?_)
  have hz := lett_z hz ey8
  have hok := lett_o hok ey8
  have hs9 := hok.1
  have hok := hok.2
  have hB : SubW g (inW (wMo g mo a o now dr pa sa iS bu tq rT wT wo sK sA sB sE oq bS bE bL rp)) s (wMo g mo a o_1 now dr pa sa iS bu tq rT wT wo sK sA sB sE oq bS bE bL rp) _ (List.range _) _ _ := (subF hP hD hS)
  refine goL0 hB (run_v C mf_Mo_plainNow qm_Mo_179 (c_Mo_plainNow l g mo a o_1 now dr pa sa iS bu tq rT wT wo sK sA sB sE oq bS bE bL rp y8 hs9) rfl rfl ⟨Nat.le_of_ble_eq_true rfl, Nat.le_of_ble_eq_true rfl⟩ ⟨Nat.le_of_ble_eq_true rfl, Nat.le_of_ble_eq_true rfl⟩ hB rfl rfl hl rfl rfl (Nat.le_of_ble_eq_true rfl) d_Mo_miss_42) (fun y10 ey10 H locs hP hS => ?_)
  have hz := lett_z hz ey10
  have hB : SubW g (inW (wMo g mo a o now dr pa sa iS bu tq rT wT wo sK sA sB sE oq bS bE bL rp)) s (wMo g mo a o_1 now dr pa sa iS bu tq rT wT wo sK sA sB sE oq bS bE bL rp) _ (List.range _) _ _ := (subF hP hD hS)
  refine goL0 hB (run_s C mf_Mo_amount qm_Mo_217 (c_Mo_amount l g mo a o_1 now dr pa sa iS bu tq rT wT wo sK sA sB sE oq bS bE bL rp y10) rfl rfl ⟨Nat.le_of_ble_eq_true rfl, Nat.le_of_ble_eq_true rfl⟩ ⟨Nat.le_of_ble_eq_true rfl, Nat.le_of_ble_eq_true rfl⟩ hB hl rfl rfl (Nat.le_of_ble_eq_true rfl) d_Mo_miss_45) (fun y11 ey11 H locs hP hS => ?_)
  have hz := lett_z hz ey11
  refine lv_lsub hx hb d_Mo_miss_48 ?_
  exact endL1 C hz hP hS d_Mo_miss_49
abbrev rm_Mo_better : Room := { frames := 8, cells := 0, slots := 0, locals := 186 }
def HL_Mo_better_22 (p : Program) (l : Launch) (e : Env) (s : State) (m : MethodId) (args : Array Value) (below : List Frame) (meth : Method) (c : Code) (g : GX) (mo : Nat) (a : Nat → Nat) (ws0 : va_W) (o_1 : IV) (now : LV) (dr : LV) (pa : LV) (sa : LV) (iS : IV) (bu : IV) (tq : IV) (rT : IV) (wT : IV) (wo : Nat → Option Nat) (sK : IV) (sA : IV) (sB : IV) (sE : IV) (oq : IV) (bS : IV) (bE : IV) (bL : IV) (rp : IV) (y6 : Int64) (sp : Int32 → Int32 → (Int32 × IV)) (ok : Int32 → Int32 → Prop) : Prop := ∀ (x3p22 : Int32) (x4p22 : Int32), ok x3p22 x4p22 → ∀ z : (Int32 × IV), z = sp x3p22 x4p22 → ∀ (H : Heap) (locs : List Loc) (ls : Array Slot), va_P g.1 vwCl (wMo g mo a o_1 now dr pa sa iS bu tq rT wT wo sK sA sB sE oq bS bE bL rp) H → va_D (inW ws0) (wMo g mo a o_1 now dr pa sa iS bu tq rT wT wo sK sA sB sE oq bS bE bL rp) → va_S (inW ws0) s.heap H locs → lv_has ls 5 [(0, .ref mo), (1, .long y6), (3, .int x3p22), (4, .int x4p22)] → W p l e rm_Mo_better s m args below meth c H locs 0 0 (MQ below (CI g ws0 (fun u : IV => wMo g mo a u now dr pa sa iS bu tq rT wT wo sK sA sB sE oq bS bE bL rp) z) args s 0 0 (inW ws0)) (F0 m 22 ls [])
def HL_Mo_better_51 (p : Program) (l : Launch) (e : Env) (s : State) (m : MethodId) (args : Array Value) (below : List Frame) (meth : Method) (c : Code) (g : GX) (mo : Nat) (a : Nat → Nat) (ws0 : va_W) (o_1 : IV) (now : LV) (dr : LV) (pa : LV) (sa : LV) (iS : IV) (bu : IV) (tq : IV) (rT : IV) (wT : IV) (wo : Nat → Option Nat) (sK : IV) (sA : IV) (sB : IV) (sE : IV) (oq : IV) (bS : IV) (bE : IV) (bL : IV) (rp : IV) (y6 : Int64) (x4p22 : Int32) (x3p22 : Int32) (sp : Int32 → (Int32 × IV)) (ok : Int32 → Prop) : Prop := ∀ (t1p51 : Int32), ok t1p51 → ∀ z : (Int32 × IV), z = sp t1p51 → ∀ (H : Heap) (locs : List Loc) (ls : Array Slot), va_P g.1 vwCl (wMo g mo a o_1 now dr pa sa iS bu tq rT wT wo sK sA sB sE oq bS bE bL rp) H → va_D (inW ws0) (wMo g mo a o_1 now dr pa sa iS bu tq rT wT wo sK sA sB sE oq bS bE bL rp) → va_S (inW ws0) s.heap H locs → lv_has ls 5 [(0, .ref mo), (1, .long y6), (4, .int x4p22)] → W p l e rm_Mo_better s m args below meth c H locs 0 0 (MQ below (CI g ws0 (fun u : IV => wMo g mo a u now dr pa sa iS bu tq rT wT wo sK sA sB sE oq bS bE bL rp) z) args s 0 0 (inW ws0)) (F0 m 51 ls [.int t1p51, .int x3p22])
noncomputable def sp_Mo_better_51 (x3p22 : Int32) (x4p22 : Int32) (r22 : Int32 → Int32 → (Int32 × IV)) (t1p51 : Int32) : Int32 × IV := lett (x3p22 + t1p51) fun (v14 : Int32) => lett (x4p22 + (1 : Int32)) fun (v15 : Int32) => r22 v14 v15
def ok_Mo_better_51 (x3p22 : Int32) (x4p22 : Int32) (r22 : Int32 → Int32 → (Int32 × IV)) (q22 : Int32 → Int32 → Prop) (t1p51 : Int32) : Prop := lett (x3p22 + t1p51) fun (v14 : Int32) => lett (x4p22 + (1 : Int32)) fun (v15 : Int32) => q22 v14 v15
set_option maxRecDepth 100000 in
set_option maxHeartbeats 4000000 in
theorem k_Mo_better_51 {p : Program} {l : Launch} {e : Env} {s : State} {m : MethodId} {args : Array Value} {below : List Frame} {meth : Method} {c : Code} {g : GX} {mo : Nat} {a : Nat → Nat} {ws0 : va_W} {o_1 : IV} {now : LV} {dr : LV} {pa : LV} {sa : LV} {iS : IV} {bu : IV} {tq : IV} {rT : IV} {wT : IV} {wo : Nat → Option Nat} {sK : IV} {sA : IV} {sB : IV} {sE : IV} {oq : IV} {bS : IV} {bE : IV} {bL : IV} {rp : IV} {y6 : Int64} {x4p22 : Int32} {x3p22 : Int32} {r22 : Int32 → Int32 → (Int32 × IV)} {q22 : Int32 → Int32 → Prop} (C : Cx p s m args meth c (inW ws0) g "DecadeBridgeModel" b_Mo_better (some .int) 5) (ih22 : HL_Mo_better_22 p l e s m args below meth c g mo a ws0 o_1 now dr pa sa iS bu tq rT wT wo sK sA sB sE oq bS bE bL rp y6 r22 q22) : HL_Mo_better_51 p l e s m args below meth c g mo a ws0 o_1 now dr pa sa iS bu tq rT wT wo sK sA sB sE oq bS bE bL rp y6 x4p22 x3p22 (sp_Mo_better_51 x3p22 x4p22 r22) (ok_Mo_better_51 x3p22 x4p22 r22 q22) := by
  intro t1p51 hok z hz H locs ls hP hD hS hl
  obtain ⟨hx, hb, hr, hml, hown, hlk, hts, hK, hZo, hZ⟩ := id C
  unfold sp_Mo_better_51 at hz
  unfold ok_Mo_better_51 at hok
  refine lv_iadd hx hb d_Mo_better_51 ?_
  refine lv_topi (fun v14 ev14 => ?_)
  have hz := lett_z hz ev14
  have hok := lett_o hok ev14
  refine lv_istore_n (lv' := [(3, .int v14), (0, .ref mo), (1, .long y6), (4, .int x4p22)]) hx hb d_Mo_better_52 rfl hl (by decide) rfl (fun ls hl => ?_)
  obtain ⟨v15, ev15⟩ : ∃ y : Int32, y = x4p22 + (1 : Int32) := ⟨_, rfl⟩
  have hz := lett_z hz ev15
  have hok := lett_o hok ev15
  refine lv_iinc (v := v15) (lv' := [(4, .int v15), (3, .int v14), (0, .ref mo), (1, .long y6)]) hx hb d_Mo_better_53 hl (k := 3) rfl (by rw [ev15]; rfl) (by decide) rfl (fun ls hl => ?_)
  refine lv_goto (tgt := 22) hx hb d_Mo_better_56 (by decide) ?_
  exact ih22 v14 v15 hok _ hz _ _ ls hP hD hS (lv_sub hl [2, 3, 1, 0] rfl)
noncomputable def bd_Mo_better_22 (now : LV) (o_1 : IV) (y6 : Int64) (r22 : Int32 → Int32 → (Int32 × IV)) (x3p22 : Int32) (x4p22 : Int32) : Int32 × IV := lett (sp_Mo_settings now) fun (y8 : Int32) => if y8 ≤ x4p22 then ((x3p22, o_1)) else (lett (sp_Mo_plainNow x4p22 now) fun (y11 : Int64) => lett (sp_Mo_amount y11) fun (y12 : Int64) => if y6 ≤ y12 then (sp_Mo_better_51 x3p22 x4p22 r22 (0 : Int32)) else (sp_Mo_better_51 x3p22 x4p22 r22 (1 : Int32)))
def okb_Mo_better_22 (now : LV) (o_1 : IV) (y6 : Int64) (r22 : Int32 → Int32 → (Int32 × IV)) (q22 : Int32 → Int32 → Prop) (x3p22 : Int32) (x4p22 : Int32) : Prop := (ok_Mo_settings now) ∧ lett (sp_Mo_settings now) fun (y8 : Int32) => ((y8 ≤ x4p22 → True) ∧ (¬ (y8 ≤ x4p22) → (ok_Mo_plainNow x4p22 now) ∧ lett (sp_Mo_plainNow x4p22 now) fun (y11 : Int64) => lett (sp_Mo_amount y11) fun (y12 : Int64) => ((y6 ≤ y12 → ok_Mo_better_51 x3p22 x4p22 r22 q22 (0 : Int32)) ∧ (¬ (y6 ≤ y12) → ok_Mo_better_51 x3p22 x4p22 r22 q22 (1 : Int32)))))
noncomputable def sp_Mo_better_22 (now : LV) (o_1 : IV) (y6 : Int64)  : Nat → Int32 → Int32 → (Int32 × IV)
  | 0 => fun _ _ => default
  | f + 1 => bd_Mo_better_22 now o_1 y6  (sp_Mo_better_22 now o_1 y6  f)
def ok_Mo_better_22 (now : LV) (o_1 : IV) (y6 : Int64)   : Nat → Int32 → Int32 → Prop
  | 0 => fun _ _ => False
  | f + 1 => okb_Mo_better_22 now o_1 y6  (sp_Mo_better_22 now o_1 y6  f)  (ok_Mo_better_22 now o_1 y6   f)
set_option maxRecDepth 100000 in
set_option maxHeartbeats 4000000 in
theorem kb_Mo_better_22 {p : Program} {l : Launch} {e : Env} {s : State} {m : MethodId} {args : Array Value} {below : List Frame} {meth : Method} {c : Code} {g : GX} {mo : Nat} {a : Nat → Nat} {ws0 : va_W} {o_1 : IV} {now : LV} {dr : LV} {pa : LV} {sa : LV} {iS : IV} {bu : IV} {tq : IV} {rT : IV} {wT : IV} {wo : Nat → Option Nat} {sK : IV} {sA : IV} {sB : IV} {sE : IV} {oq : IV} {bS : IV} {bE : IV} {bL : IV} {rp : IV} {y6 : Int64}  (C : Cx p s m args meth c (inW ws0) g "DecadeBridgeModel" b_Mo_better (some .int) 5) {r22 : Int32 → Int32 → (Int32 × IV)} {q22 : Int32 → Int32 → Prop}  (ih22 : HL_Mo_better_22 p l e s m args below meth c g mo a ws0 o_1 now dr pa sa iS bu tq rT wT wo sK sA sB sE oq bS bE bL rp y6 r22 q22) : HL_Mo_better_22 p l e s m args below meth c g mo a ws0 o_1 now dr pa sa iS bu tq rT wT wo sK sA sB sE oq bS bE bL rp y6 (bd_Mo_better_22 now o_1 y6  r22) (okb_Mo_better_22 now o_1 y6  r22  q22) := by
  intro x3p22 x4p22 hok z hz H locs ls hP hD hS hl
  obtain ⟨hx, hb, hr, hml, hown, hlk, hts, hK, hZo, hZ⟩ := id C
  unfold bd_Mo_better_22 at hz
  unfold okb_Mo_better_22 at hok
  refine lv_iload hx hb d_Mo_better_22 (lv_at hl 3 rfl) ?_
  refine lv_aload_n hx hb d_Mo_better_24 rfl (lv_at hl 0 rfl) ?_
  have hs7 := hok.1
  have hok := hok.2
  have hB : SubW g (inW ws0) s (wMo g mo a o_1 now dr pa sa iS bu tq rT wT wo sK sA sB sE oq bS bE bL rp) _ (List.range _) _ _ := (subF hP hD hS)
  refine goI0 hB (run_v C mf_Mo_settings qm_Mo_256 (c_Mo_settings l g mo a o_1 now dr pa sa iS bu tq rT wT wo sK sA sB sE oq bS bE bL rp hs7) rfl rfl ⟨Nat.le_of_ble_eq_true rfl, Nat.le_of_ble_eq_true rfl⟩ ⟨Nat.le_of_ble_eq_true rfl, Nat.le_of_ble_eq_true rfl⟩ hB rfl rfl hl rfl rfl (Nat.le_of_ble_eq_true rfl) d_Mo_better_25) (fun y8 ey8 H locs hP hS => ?_)
  have hz := lett_z hz ey8
  have hok := lett_o hok ey8
  refine lv_icmp_ge (tgt := 59) hx hb d_Mo_better_28 (by decide) (fun c9 => ?_) (fun c9 => ?_)
  · have hz := hz.trans (if_pos c9)
    refine lv_iload_n hx hb d_Mo_better_59 rfl (lv_at hl 2 rfl) ?_
    exact endI1 C hz hP hS d_Mo_better_60
  · have hz := hz.trans (if_neg c9)
    have hok := hok.2 c9
    refine lv_iload_n hx hb d_Mo_better_31 rfl (lv_at hl 2 rfl) ?_
    refine lv_aload_n hx hb d_Mo_better_32 rfl (lv_at hl 0 rfl) ?_
    refine lv_iload hx hb d_Mo_better_33 (lv_at hl 3 rfl) ?_
    have hs10 := hok.1
    have hok := hok.2
    have hB : SubW g (inW ws0) s (wMo g mo a o_1 now dr pa sa iS bu tq rT wT wo sK sA sB sE oq bS bE bL rp) _ (List.range _) _ _ := (subF hP hD hS)
    refine goL0 hB (run_v C mf_Mo_plainNow qm_Mo_179 (c_Mo_plainNow l g mo a o_1 now dr pa sa iS bu tq rT wT wo sK sA sB sE oq bS bE bL rp x4p22 hs10) rfl rfl ⟨Nat.le_of_ble_eq_true rfl, Nat.le_of_ble_eq_true rfl⟩ ⟨Nat.le_of_ble_eq_true rfl, Nat.le_of_ble_eq_true rfl⟩ hB rfl rfl hl rfl rfl (Nat.le_of_ble_eq_true rfl) d_Mo_better_35) (fun y11 ey11 H locs hP hS => ?_)
    have hz := lett_z hz ey11
    have hok := lett_o hok ey11
    have hB : SubW g (inW ws0) s (wMo g mo a o_1 now dr pa sa iS bu tq rT wT wo sK sA sB sE oq bS bE bL rp) _ (List.range _) _ _ := (subF hP hD hS)
    refine goL0 hB (run_s C mf_Mo_amount qm_Mo_217 (c_Mo_amount l g mo a o_1 now dr pa sa iS bu tq rT wT wo sK sA sB sE oq bS bE bL rp y11) rfl rfl ⟨Nat.le_of_ble_eq_true rfl, Nat.le_of_ble_eq_true rfl⟩ ⟨Nat.le_of_ble_eq_true rfl, Nat.le_of_ble_eq_true rfl⟩ hB hl rfl rfl (Nat.le_of_ble_eq_true rfl) d_Mo_better_38) (fun y12 ey12 H locs hP hS => ?_)
    have hz := lett_z hz ey12
    have hok := lett_o hok ey12
    refine lv_lload_n hx hb d_Mo_better_41 rfl (lv_at hl 1 rfl) ?_
    refine lc_ge (tgt := 50) hx hb d_Mo_better_42 d_Mo_better_43 (by decide) (fun c13 => ?_) (fun c13 => ?_)
    · have hz := hz.trans (if_pos c13)
      have hok := hok.1 c13
      refine lv_iconst (v := 0) hx hb d_Mo_better_50 (by decide) ?_
      exact k_Mo_better_51 C ih22 (0 : Int32) hok _ hz _ _ ls hP hD hS (lv_sub hl [0, 1, 3] rfl)
    · have hz := hz.trans (if_neg c13)
      have hok := hok.2 c13
      refine lv_iconst (v := 1) hx hb d_Mo_better_46 (by decide) ?_
      refine lv_goto (tgt := 51) hx hb d_Mo_better_47 (by decide) ?_
      exact k_Mo_better_51 C ih22 (1 : Int32) hok _ hz _ _ ls hP hD hS (lv_sub hl [0, 1, 3] rfl)
theorem k_Mo_better_22 {p : Program} {l : Launch} {e : Env} {s : State} {m : MethodId} {args : Array Value} {below : List Frame} {meth : Method} {c : Code} {g : GX} {mo : Nat} {a : Nat → Nat} {ws0 : va_W} {o_1 : IV} {now : LV} {dr : LV} {pa : LV} {sa : LV} {iS : IV} {bu : IV} {tq : IV} {rT : IV} {wT : IV} {wo : Nat → Option Nat} {sK : IV} {sA : IV} {sB : IV} {sE : IV} {oq : IV} {bS : IV} {bE : IV} {bL : IV} {rp : IV} {y6 : Int64}  (C : Cx p s m args meth c (inW ws0) g "DecadeBridgeModel" b_Mo_better (some .int) 5) (f : Nat)  : HL_Mo_better_22 p l e s m args below meth c g mo a ws0 o_1 now dr pa sa iS bu tq rT wT wo sK sA sB sE oq bS bE bL rp y6 (sp_Mo_better_22 now o_1 y6  f) (ok_Mo_better_22 now o_1 y6   f) := by
  induction f with
  | zero => intro x3p22 x4p22 hok; exact False.elim hok
  | succ f ih => exact kb_Mo_better_22 C  ih
noncomputable def sp_Mo_better (o : IV) (now : LV) : Int32 × IV := lett (upd o 6 (0 : Int32)) fun (o_1 : IV) => lett (sp_Mo_setting now) fun (y3 : Int32) => lett (sp_Mo_plainNow y3 now) fun (y5 : Int64) => lett (sp_Mo_amount y5) fun (y6 : Int64) => sp_Mo_better_22 now o_1 y6 big (0 : Int32) (0 : Int32)
def ok_Mo_better (o : IV) (now : LV) : Prop := lett (upd o 6 (0 : Int32)) fun (o_1 : IV) => (ok_Mo_setting now) ∧ lett (sp_Mo_setting now) fun (y3 : Int32) => (ok_Mo_plainNow y3 now) ∧ lett (sp_Mo_plainNow y3 now) fun (y5 : Int64) => lett (sp_Mo_amount y5) fun (y6 : Int64) => ok_Mo_better_22 now o_1 y6 big (0 : Int32) (0 : Int32)
set_option maxRecDepth 100000 in
set_option maxHeartbeats 4000000 in
theorem c_Mo_better (l : Launch) (g : GX) (mo : Nat) (a : Nat → Nat) (o : IV) (now : LV) (dr : LV) (pa : LV) (sa : LV) (iS : IV) (bu : IV) (tq : IV) (rT : IV) (wT : IV) (wo : Nat → Option Nat) (sK : IV) (sA : IV) (sB : IV) (sE : IV) (oq : IV) (bS : IV) (bE : IV) (bL : IV) (rp : IV)  (hok : ok_Mo_better o now) : Met l y_Mo_better (wsY y_Mo_better b_Mo_better 5 (some .int)) rm_Mo_better (CP g [.ref mo] (wMo g mo a o now dr pa sa iS bu tq rT wT wo sK sA sB sE oq bS bE bL rp)) (CI g (wMo g mo a o now dr pa sa iS bu tq rT wT wo sK sA sB sE oq bS bE bL rp) (fun u : IV => wMo g mo a u now dr pa sa iS bu tq rT wT wo sK sA sB sE oq bS bE bL rp) (sp_Mo_better o now)) 0 0 (inW (wMo g mo a o now dr pa sa iS bu tq rT wT wo sK sA sB sE oq bS bE bL rp)) := by
  refine Met.ofW (cc := b_Mo_better) (maxL := 5) (ret := (some .int)) pn_Mo rfl ?_
  intro p e s m args below meth c s₁ B hml hv
  obtain ⟨rfl, C, hP, hD, hS⟩ := enter "DecadeBridgeModel" rfl B hml hv
  obtain ⟨hx, hb, hr, hml, hown, hlk, hts, hK, hZo, hZ⟩ := id C
  refine entryW (lv := [(0, .ref mo)]) rfl (Nat.le_of_ble_eq_true rfl) (fun ls hl => ?_)
  obtain ⟨z, hz⟩ : ∃ z, z = sp_Mo_better o now := ⟨_, rfl⟩
  rw [← hz]
  unfold sp_Mo_better at hz
  unfold ok_Mo_better at hok
  refine lv_aload_n hx hb d_Mo_better_0 rfl (lv_at hl 0 rfl) ?_
  refine lv_iconst (v := 0) hx hb d_Mo_better_1 (by decide) ?_
  refine pfI C hP hD hS 0 6 fkMo rfl (by decide) rfl qf_Mo_107 rfl rfl rfl (Nat.le_of_ble_eq_true rfl) (ff := fun o => fMo a o) (sMo_6 _ _ _) d_Mo_better_2 (fun o_1 eo_1 H locs hP hD hS => ?_)
  have hP : va_P g.1 vwCl (wMo g mo a o_1 now dr pa sa iS bu tq rT wT wo sK sA sB sE oq bS bE bL rp) H := hP
  have hD : va_D (inW (wMo g mo a o now dr pa sa iS bu tq rT wT wo sK sA sB sE oq bS bE bL rp)) (wMo g mo a o_1 now dr pa sa iS bu tq rT wT wo sK sA sB sE oq bS bE bL rp) := hD
  have hz := lett_z hz eo_1
  have hok := lett_o hok eo_1
  refine lv_aload_n hx hb d_Mo_better_5 rfl (lv_at hl 0 rfl) ?_
  refine lv_aload_n hx hb d_Mo_better_6 rfl (lv_at hl 0 rfl) ?_
  have hs2 := hok.1
  have hok := hok.2
  have hB : SubW g (inW (wMo g mo a o now dr pa sa iS bu tq rT wT wo sK sA sB sE oq bS bE bL rp)) s (wMo g mo a o_1 now dr pa sa iS bu tq rT wT wo sK sA sB sE oq bS bE bL rp) _ (List.range _) _ _ := (subF hP hD hS)
  refine goI0 hB (run_v C mf_Mo_setting qm_Mo_176 (c_Mo_setting l g mo a o_1 now dr pa sa iS bu tq rT wT wo sK sA sB sE oq bS bE bL rp hs2) rfl rfl ⟨Nat.le_of_ble_eq_true rfl, Nat.le_of_ble_eq_true rfl⟩ ⟨Nat.le_of_ble_eq_true rfl, Nat.le_of_ble_eq_true rfl⟩ hB rfl rfl hl rfl rfl (Nat.le_of_ble_eq_true rfl) d_Mo_better_7) (fun y3 ey3 H locs hP hS => ?_)
  have hz := lett_z hz ey3
  have hok := lett_o hok ey3
  have hs4 := hok.1
  have hok := hok.2
  have hB : SubW g (inW (wMo g mo a o now dr pa sa iS bu tq rT wT wo sK sA sB sE oq bS bE bL rp)) s (wMo g mo a o_1 now dr pa sa iS bu tq rT wT wo sK sA sB sE oq bS bE bL rp) _ (List.range _) _ _ := (subF hP hD hS)
  refine goL0 hB (run_v C mf_Mo_plainNow qm_Mo_179 (c_Mo_plainNow l g mo a o_1 now dr pa sa iS bu tq rT wT wo sK sA sB sE oq bS bE bL rp y3 hs4) rfl rfl ⟨Nat.le_of_ble_eq_true rfl, Nat.le_of_ble_eq_true rfl⟩ ⟨Nat.le_of_ble_eq_true rfl, Nat.le_of_ble_eq_true rfl⟩ hB rfl rfl hl rfl rfl (Nat.le_of_ble_eq_true rfl) d_Mo_better_10) (fun y5 ey5 H locs hP hS => ?_)
  have hz := lett_z hz ey5
  have hok := lett_o hok ey5
  have hB : SubW g (inW (wMo g mo a o now dr pa sa iS bu tq rT wT wo sK sA sB sE oq bS bE bL rp)) s (wMo g mo a o_1 now dr pa sa iS bu tq rT wT wo sK sA sB sE oq bS bE bL rp) _ (List.range _) _ _ := (subF hP hD hS)
  refine goL0 hB (run_s C mf_Mo_amount qm_Mo_217 (c_Mo_amount l g mo a o_1 now dr pa sa iS bu tq rT wT wo sK sA sB sE oq bS bE bL rp y5) rfl rfl ⟨Nat.le_of_ble_eq_true rfl, Nat.le_of_ble_eq_true rfl⟩ ⟨Nat.le_of_ble_eq_true rfl, Nat.le_of_ble_eq_true rfl⟩ hB hl rfl rfl (Nat.le_of_ble_eq_true rfl) d_Mo_better_13) (fun y6 ey6 H locs hP hS => ?_)
  have hz := lett_z hz ey6
  have hok := lett_o hok ey6
  refine lv_lstore_n (lv' := [(1, .long y6), (0, .ref mo)]) hx hb d_Mo_better_16 rfl hl (by decide) rfl (fun ls hl => ?_)
  refine lv_iconst (v := 0) hx hb d_Mo_better_17 (by decide) ?_
  refine lv_istore_n (lv' := [(3, .int (0 : Int32)), (1, .long y6), (0, .ref mo)]) hx hb d_Mo_better_18 rfl hl (by decide) rfl (fun ls hl => ?_)
  refine lv_iconst (v := 0) hx hb d_Mo_better_19 (by decide) ?_
  refine lv_istore (lv' := [(4, .int (0 : Int32)), (3, .int (0 : Int32)), (1, .long y6), (0, .ref mo)]) hx hb d_Mo_better_20 hl (by decide) rfl (fun ls hl => ?_)
  exact k_Mo_better_22 C big (0 : Int32) (0 : Int32) hok _ hz _ _ ls hP hD hS (lv_sub hl [3, 2, 1, 0] rfl)
abbrev rm_Mo_bestWith : Room := { frames := 8, cells := 0, slots := 0, locals := 197 }
def HL_Mo_bestWith_21 (p : Program) (l : Launch) (e : Env) (s : State) (m : MethodId) (args : Array Value) (below : List Frame) (meth : Method) (c : Code) (g : GX) (mo : Nat) (a : Nat → Nat) (ws0 : va_W) (o : IV) (now : LV) (dr : LV) (pa : LV) (sa : LV) (iS : IV) (bu : IV) (tq : IV) (rT : IV) (wT : IV) (wo : Nat → Option Nat) (sK : IV) (sA : IV) (sB : IV) (sE : IV) (oq : IV) (bS : IV) (bE : IV) (bL : IV) (rp : IV) (p1 : Int32) (p2 : Int32) (sp : (Int32 × IV)) (ok : Prop) : Prop := ∀ (_ : Unit), ok → ∀ z : (Int32 × IV), z = sp → ∀ (H : Heap) (locs : List Loc) (ls : Array Slot), va_P g.1 vwCl (wMo g mo a o now dr pa sa iS bu tq rT wT wo sK sA sB sE oq bS bE bL rp) H → va_D (inW ws0) (wMo g mo a o now dr pa sa iS bu tq rT wT wo sK sA sB sE oq bS bE bL rp) → va_S (inW ws0) s.heap H locs → lv_has ls 3 [(0, .ref mo), (1, .int p1), (2, .int p2)] → W p l e rm_Mo_bestWith s m args below meth c H locs 0 0 (MQ below (CI g ws0 (fun u : IV => wMo g mo a u now dr pa sa iS bu tq rT wT wo sK sA sB sE oq bS bE bL rp) z) args s 0 0 (inW ws0)) (F0 m 21 ls [.ref mo])
def HL_Mo_bestWith_22 (p : Program) (l : Launch) (e : Env) (s : State) (m : MethodId) (args : Array Value) (below : List Frame) (meth : Method) (c : Code) (g : GX) (mo : Nat) (a : Nat → Nat) (ws0 : va_W) (o : IV) (now : LV) (dr : LV) (pa : LV) (sa : LV) (iS : IV) (bu : IV) (tq : IV) (rT : IV) (wT : IV) (wo : Nat → Option Nat) (sK : IV) (sA : IV) (sB : IV) (sE : IV) (oq : IV) (bS : IV) (bE : IV) (bL : IV) (rp : IV) (p1 : Int32) (p2 : Int32) (sp : Int32 → (Int32 × IV)) (ok : Int32 → Prop) : Prop := ∀ (t1p22 : Int32), ok t1p22 → ∀ z : (Int32 × IV), z = sp t1p22 → ∀ (H : Heap) (locs : List Loc) (ls : Array Slot), va_P g.1 vwCl (wMo g mo a o now dr pa sa iS bu tq rT wT wo sK sA sB sE oq bS bE bL rp) H → va_D (inW ws0) (wMo g mo a o now dr pa sa iS bu tq rT wT wo sK sA sB sE oq bS bE bL rp) → va_S (inW ws0) s.heap H locs → lv_has ls 3 [(0, .ref mo), (1, .int p1), (2, .int p2)] → W p l e rm_Mo_bestWith s m args below meth c H locs 0 0 (MQ below (CI g ws0 (fun u : IV => wMo g mo a u now dr pa sa iS bu tq rT wT wo sK sA sB sE oq bS bE bL rp) z) args s 0 0 (inW ws0)) (F0 m 22 ls [.int t1p22, .ref mo])
noncomputable def sp_Mo_bestWith_22 (o : IV) (p1 : Int32) (p2 : Int32) (now : LV)  (t1p22 : Int32) : Int32 × IV := lett (upd o 6 t1p22) fun (o_7 : IV) => if (o_7 6) ≤ 0 then (lett (sp_Mo_bestOf p1.toInt64 p2.toInt64 (now 32) now) fun (y10 : Int32) => (y10, o_7)) else (((0 : Int32), o_7))
def ok_Mo_bestWith_22 (o : IV) (p1 : Int32) (p2 : Int32) (now : LV)   (t1p22 : Int32) : Prop := lett (upd o 6 t1p22) fun (o_7 : IV) => (((o_7 6) ≤ 0 → (ok_Mo_bestOf p1.toInt64 p2.toInt64 (now 32) now) ∧ True) ∧ (¬ ((o_7 6) ≤ 0) → True))
set_option maxRecDepth 100000 in
set_option maxHeartbeats 4000000 in
theorem k_Mo_bestWith_22 {p : Program} {l : Launch} {e : Env} {s : State} {m : MethodId} {args : Array Value} {below : List Frame} {meth : Method} {c : Code} {g : GX} {mo : Nat} {a : Nat → Nat} {ws0 : va_W} {o : IV} {now : LV} {dr : LV} {pa : LV} {sa : LV} {iS : IV} {bu : IV} {tq : IV} {rT : IV} {wT : IV} {wo : Nat → Option Nat} {sK : IV} {sA : IV} {sB : IV} {sE : IV} {oq : IV} {bS : IV} {bE : IV} {bL : IV} {rp : IV} {p1 : Int32} {p2 : Int32}  (C : Cx p s m args meth c (inW ws0) g "DecadeBridgeModel" b_Mo_bestWith (some .int) 3)  : HL_Mo_bestWith_22 p l e s m args below meth c g mo a ws0 o now dr pa sa iS bu tq rT wT wo sK sA sB sE oq bS bE bL rp p1 p2 (sp_Mo_bestWith_22 o p1 p2 now ) (ok_Mo_bestWith_22 o p1 p2 now  ) := by
  intro t1p22 hok z hz H locs ls hP hD hS hl
  obtain ⟨hx, hb, hr, hml, hown, hlk, hts, hK, hZo, hZ⟩ := id C
  unfold sp_Mo_bestWith_22 at hz
  unfold ok_Mo_bestWith_22 at hok
  refine pfI C hP hD hS 0 6 fkMo rfl (by decide) rfl qf_Mo_107 rfl rfl rfl (Nat.le_of_ble_eq_true rfl) (ff := fun o => fMo a o) (sMo_6 _ _ _) d_Mo_bestWith_22 (fun o_7 eo_7 H locs hP hD hS => ?_)
  have hP : va_P g.1 vwCl (wMo g mo a o_7 now dr pa sa iS bu tq rT wT wo sK sA sB sE oq bS bE bL rp) H := hP
  have hD : va_D (inW ws0) (wMo g mo a o_7 now dr pa sa iS bu tq rT wT wo sK sA sB sE oq bS bE bL rp) := hD
  have hz := lett_z hz eo_7
  have hok := lett_o hok eo_7
  refine lv_aload_n hx hb d_Mo_bestWith_25 rfl (lv_at hl 0 rfl) ?_
  refine gf C hP 0 6 fkMo rfl (by decide) rfl qf_Mo_107 (gMo_6 _ _) d_Mo_bestWith_26 ?_
  refine lv_if_le (tgt := 36) hx hb d_Mo_bestWith_29 (by decide) (fun c8 => ?_) (fun c8 => ?_)
  · have hz := hz.trans (if_pos c8)
    have hok := hok.1 c8
    refine lv_aload_n hx hb d_Mo_bestWith_36 rfl (lv_at hl 0 rfl) ?_
    refine lv_iload_n hx hb d_Mo_bestWith_37 rfl (lv_at hl 1 rfl) ?_
    refine lv_i2l hx hb d_Mo_bestWith_38 rfl ?_
    refine lv_iload_n hx hb d_Mo_bestWith_39 rfl (lv_at hl 2 rfl) ?_
    refine lv_i2l hx hb d_Mo_bestWith_40 rfl ?_
    refine lv_aload_n hx hb d_Mo_bestWith_41 rfl (lv_at hl 0 rfl) ?_
    refine gf C hP 0 0 fkMo rfl (by decide) rfl qf_Mo_7 (gMo_0 _ _) d_Mo_bestWith_42 ?_
    refine lv_bipush (v := 32) hx hb d_Mo_bestWith_45 (by decide) ?_
    refine ldL C hP 1 rfl vi_32_215 cn_32 d_Mo_bestWith_47 ?_
    have hs9 := hok.1
    have hok := hok.2
    have hB : SubW g (inW ws0) s (wMo g mo a o_7 now dr pa sa iS bu tq rT wT wo sK sA sB sE oq bS bE bL rp) _ (List.range _) _ _ := (subF hP hD hS)
    refine goI0 hB (run_v C mf_Mo_bestOf qm_Mo_458 (c_Mo_bestOf l g mo a o_7 now dr pa sa iS bu tq rT wT wo sK sA sB sE oq bS bE bL rp p1.toInt64 p2.toInt64 (now 32) hs9) rfl rfl ⟨Nat.le_of_ble_eq_true rfl, Nat.le_of_ble_eq_true rfl⟩ ⟨Nat.le_of_ble_eq_true rfl, Nat.le_of_ble_eq_true rfl⟩ hB rfl rfl hl rfl rfl (Nat.le_of_ble_eq_true rfl) d_Mo_bestWith_48) (fun y10 ey10 H locs hP hS => ?_)
    have hz := lett_z hz ey10
    exact endI1 C hz hP hS d_Mo_bestWith_51
  · have hz := hz.trans (if_neg c8)
    refine lv_iconst (v := 0) hx hb d_Mo_bestWith_32 (by decide) ?_
    refine lv_goto (tgt := 51) hx hb d_Mo_bestWith_33 (by decide) ?_
    exact endI1 C hz hP hS d_Mo_bestWith_51
noncomputable def sp_Mo_bestWith_21 (o : IV) (p1 : Int32) (p2 : Int32) (now : LV)   : Int32 × IV := sp_Mo_bestWith_22 o p1 p2 now (1 : Int32)
def ok_Mo_bestWith_21 (o : IV) (p1 : Int32) (p2 : Int32) (now : LV)    : Prop := ok_Mo_bestWith_22 o p1 p2 now (1 : Int32)
set_option maxRecDepth 100000 in
set_option maxHeartbeats 4000000 in
theorem k_Mo_bestWith_21 {p : Program} {l : Launch} {e : Env} {s : State} {m : MethodId} {args : Array Value} {below : List Frame} {meth : Method} {c : Code} {g : GX} {mo : Nat} {a : Nat → Nat} {ws0 : va_W} {o : IV} {now : LV} {dr : LV} {pa : LV} {sa : LV} {iS : IV} {bu : IV} {tq : IV} {rT : IV} {wT : IV} {wo : Nat → Option Nat} {sK : IV} {sA : IV} {sB : IV} {sE : IV} {oq : IV} {bS : IV} {bE : IV} {bL : IV} {rp : IV} {p1 : Int32} {p2 : Int32}  (C : Cx p s m args meth c (inW ws0) g "DecadeBridgeModel" b_Mo_bestWith (some .int) 3)  : HL_Mo_bestWith_21 p l e s m args below meth c g mo a ws0 o now dr pa sa iS bu tq rT wT wo sK sA sB sE oq bS bE bL rp p1 p2 (sp_Mo_bestWith_21 o p1 p2 now ) (ok_Mo_bestWith_21 o p1 p2 now  ) := by
  intro _ hok z hz H locs ls hP hD hS hl
  obtain ⟨hx, hb, hr, hml, hown, hlk, hts, hK, hZo, hZ⟩ := id C
  unfold sp_Mo_bestWith_21 at hz
  unfold ok_Mo_bestWith_21 at hok
  refine lv_iconst (v := 1) hx hb d_Mo_bestWith_21 (by decide) ?_
  exact k_Mo_bestWith_22 C (1 : Int32) hok _ hz _ _ ls hP hD hS hl
noncomputable def sp_Mo_bestWith (p1 : Int32) (p2 : Int32) (o : IV) (now : LV) : Int32 × IV := lett (sp_Mo_isKind p1.toInt64) fun (y2 : Int32) => if y2 = 0 then (sp_Mo_bestWith_21 o p1 p2 now) else (lett (sp_Mo_isKind p2.toInt64) fun (y5 : Int32) => if y5 = 0 then (sp_Mo_bestWith_21 o p1 p2 now) else (sp_Mo_bestWith_22 o p1 p2 now (0 : Int32)))
def ok_Mo_bestWith (p1 : Int32) (p2 : Int32) (o : IV) (now : LV) : Prop := (ok_Mo_isKind p1.toInt64) ∧ lett (sp_Mo_isKind p1.toInt64) fun (y2 : Int32) => ((y2 = 0 → ok_Mo_bestWith_21 o p1 p2 now) ∧ (¬ (y2 = 0) → (ok_Mo_isKind p2.toInt64) ∧ lett (sp_Mo_isKind p2.toInt64) fun (y5 : Int32) => ((y5 = 0 → ok_Mo_bestWith_21 o p1 p2 now) ∧ (¬ (y5 = 0) → ok_Mo_bestWith_22 o p1 p2 now (0 : Int32)))))
set_option maxRecDepth 100000 in
set_option maxHeartbeats 4000000 in
theorem c_Mo_bestWith (l : Launch) (g : GX) (mo : Nat) (a : Nat → Nat) (o : IV) (now : LV) (dr : LV) (pa : LV) (sa : LV) (iS : IV) (bu : IV) (tq : IV) (rT : IV) (wT : IV) (wo : Nat → Option Nat) (sK : IV) (sA : IV) (sB : IV) (sE : IV) (oq : IV) (bS : IV) (bE : IV) (bL : IV) (rp : IV) (p1 : Int32) (p2 : Int32) (hok : ok_Mo_bestWith p1 p2 o now) : Met l y_Mo_bestWith (wsY y_Mo_bestWith b_Mo_bestWith 3 (some .int)) rm_Mo_bestWith (CP g [.ref mo, .int p1, .int p2] (wMo g mo a o now dr pa sa iS bu tq rT wT wo sK sA sB sE oq bS bE bL rp)) (CI g (wMo g mo a o now dr pa sa iS bu tq rT wT wo sK sA sB sE oq bS bE bL rp) (fun u : IV => wMo g mo a u now dr pa sa iS bu tq rT wT wo sK sA sB sE oq bS bE bL rp) (sp_Mo_bestWith p1 p2 o now)) 0 0 (inW (wMo g mo a o now dr pa sa iS bu tq rT wT wo sK sA sB sE oq bS bE bL rp)) := by
  refine Met.ofW (cc := b_Mo_bestWith) (maxL := 3) (ret := (some .int)) pn_Mo rfl ?_
  intro p e s m args below meth c s₁ B hml hv
  obtain ⟨rfl, C, hP, hD, hS⟩ := enter "DecadeBridgeModel" rfl B hml hv
  obtain ⟨hx, hb, hr, hml, hown, hlk, hts, hK, hZo, hZ⟩ := id C
  refine entryW (lv := [(0, .ref mo), (1, .int p1), (2, .int p2)]) rfl (Nat.le_of_ble_eq_true rfl) (fun ls hl => ?_)
  obtain ⟨z, hz⟩ : ∃ z, z = sp_Mo_bestWith p1 p2 o now := ⟨_, rfl⟩
  rw [← hz]
  unfold sp_Mo_bestWith at hz
  unfold ok_Mo_bestWith at hok
  refine lv_aload_n hx hb d_Mo_bestWith_0 rfl (lv_at hl 0 rfl) ?_
  refine lv_iload_n hx hb d_Mo_bestWith_1 rfl (lv_at hl 1 rfl) ?_
  refine lv_i2l hx hb d_Mo_bestWith_2 rfl ?_
  have hs1 := hok.1
  have hok := hok.2
  have hB : SubW g (inW (wMo g mo a o now dr pa sa iS bu tq rT wT wo sK sA sB sE oq bS bE bL rp)) s (wMo g mo a o now dr pa sa iS bu tq rT wT wo sK sA sB sE oq bS bE bL rp) _ (List.range _) _ _ := (subF hP hD hS)
  refine goI0 hB (run_s C mf_Mo_isKind qm_Mo_423 (c_Mo_isKind l g mo a o now dr pa sa iS bu tq rT wT wo sK sA sB sE oq bS bE bL rp p1.toInt64 hs1) rfl rfl ⟨Nat.le_of_ble_eq_true rfl, Nat.le_of_ble_eq_true rfl⟩ ⟨Nat.le_of_ble_eq_true rfl, Nat.le_of_ble_eq_true rfl⟩ hB hl rfl rfl (Nat.le_of_ble_eq_true rfl) d_Mo_bestWith_3) (fun y2 ey2 H locs hP hS => ?_)
  have hz := lett_z hz ey2
  have hok := lett_o hok ey2
  refine lv_if_eq (tgt := 21) hx hb d_Mo_bestWith_6 (by decide) (fun c3 => ?_) (fun c3 => ?_)
  · have hz := hz.trans (if_pos c3)
    have hok := hok.1 c3
    exact k_Mo_bestWith_21 C () hok _ hz _ _ ls hP hD hS hl
  · have hz := hz.trans (if_neg c3)
    have hok := hok.2 c3
    refine lv_iload_n hx hb d_Mo_bestWith_9 rfl (lv_at hl 2 rfl) ?_
    refine lv_i2l hx hb d_Mo_bestWith_10 rfl ?_
    have hs4 := hok.1
    have hok := hok.2
    have hB : SubW g (inW (wMo g mo a o now dr pa sa iS bu tq rT wT wo sK sA sB sE oq bS bE bL rp)) s (wMo g mo a o now dr pa sa iS bu tq rT wT wo sK sA sB sE oq bS bE bL rp) _ (List.range _) _ _ := (subF hP hD hS)
    refine goI0 hB (run_s C mf_Mo_isKind qm_Mo_423 (c_Mo_isKind l g mo a o now dr pa sa iS bu tq rT wT wo sK sA sB sE oq bS bE bL rp p2.toInt64 hs4) rfl rfl ⟨Nat.le_of_ble_eq_true rfl, Nat.le_of_ble_eq_true rfl⟩ ⟨Nat.le_of_ble_eq_true rfl, Nat.le_of_ble_eq_true rfl⟩ hB hl rfl rfl (Nat.le_of_ble_eq_true rfl) d_Mo_bestWith_11) (fun y5 ey5 H locs hP hS => ?_)
    have hz := lett_z hz ey5
    have hok := lett_o hok ey5
    refine lv_if_eq (tgt := 21) hx hb d_Mo_bestWith_14 (by decide) (fun c6 => ?_) (fun c6 => ?_)
    · have hz := hz.trans (if_pos c6)
      have hok := hok.1 c6
      exact k_Mo_bestWith_21 C () hok _ hz _ _ ls hP hD hS hl
    · have hz := hz.trans (if_neg c6)
      have hok := hok.2 c6
      refine lv_iconst (v := 0) hx hb d_Mo_bestWith_17 (by decide) ?_
      refine lv_goto (tgt := 22) hx hb d_Mo_bestWith_18 (by decide) ?_
      exact k_Mo_bestWith_22 C (0 : Int32) hok _ hz _ _ ls hP hD hS hl
abbrev rm_Mo_bestArms : Room := { frames := 8, cells := 0, slots := 0, locals := 197 }
def HL_Mo_bestArms_12 (p : Program) (l : Launch) (e : Env) (s : State) (m : MethodId) (args : Array Value) (below : List Frame) (meth : Method) (c : Code) (g : GX) (mo : Nat) (a : Nat → Nat) (ws0 : va_W) (o_1 : IV) (now : LV) (dr : LV) (pa : LV) (sa : LV) (iS : IV) (bu : IV) (tq : IV) (rT : IV) (wT : IV) (wo : Nat → Option Nat) (sK : IV) (sA : IV) (sB : IV) (sE : IV) (oq : IV) (bS : IV) (bE : IV) (bL : IV) (rp : IV) (sp : Int32 → Int64 → Int32 → (Int32 × IV)) (ok : Int32 → Int64 → Int32 → Prop) : Prop := ∀ (x1p12 : Int32) (x2p12 : Int64) (x4p12 : Int32), ok x1p12 x2p12 x4p12 → ∀ z : (Int32 × IV), z = sp x1p12 x2p12 x4p12 → ∀ (H : Heap) (locs : List Loc) (ls : Array Slot), va_P g.1 vwCl (wMo g mo a o_1 now dr pa sa iS bu tq rT wT wo sK sA sB sE oq bS bE bL rp) H → va_D (inW ws0) (wMo g mo a o_1 now dr pa sa iS bu tq rT wT wo sK sA sB sE oq bS bE bL rp) → va_S (inW ws0) s.heap H locs → lv_has ls 8 [(0, .ref mo), (1, .int x1p12), (2, .long x2p12), (4, .int x4p12)] → W p l e rm_Mo_bestArms s m args below meth c H locs 0 0 (MQ below (CI g ws0 (fun u : IV => wMo g mo a u now dr pa sa iS bu tq rT wT wo sK sA sB sE oq bS bE bL rp) z) args s 0 0 (inW ws0)) (F0 m 12 ls [])
def HL_Mo_bestArms_87 (p : Program) (l : Launch) (e : Env) (s : State) (m : MethodId) (args : Array Value) (below : List Frame) (meth : Method) (c : Code) (g : GX) (mo : Nat) (a : Nat → Nat) (ws0 : va_W) (o_1 : IV) (now : LV) (dr : LV) (pa : LV) (sa : LV) (iS : IV) (bu : IV) (tq : IV) (rT : IV) (wT : IV) (wo : Nat → Option Nat) (sK : IV) (sA : IV) (sB : IV) (sE : IV) (oq : IV) (bS : IV) (bE : IV) (bL : IV) (rp : IV) (x2p12 : Int64) (x4p12 : Int32) (y8 : Int64) (sp : (Int32 × IV)) (ok : Prop) : Prop := ∀ (_ : Unit), ok → ∀ z : (Int32 × IV), z = sp → ∀ (H : Heap) (locs : List Loc) (ls : Array Slot), va_P g.1 vwCl (wMo g mo a o_1 now dr pa sa iS bu tq rT wT wo sK sA sB sE oq bS bE bL rp) H → va_D (inW ws0) (wMo g mo a o_1 now dr pa sa iS bu tq rT wT wo sK sA sB sE oq bS bE bL rp) → va_S (inW ws0) s.heap H locs → lv_has ls 8 [(0, .ref mo), (2, .long x2p12), (4, .int x4p12), (6, .long y8)] → W p l e rm_Mo_bestArms s m args below meth c H locs 0 0 (MQ below (CI g ws0 (fun u : IV => wMo g mo a u now dr pa sa iS bu tq rT wT wo sK sA sB sE oq bS bE bL rp) z) args s 0 0 (inW ws0)) (F0 m 87 ls [])
def HL_Mo_bestArms_103 (p : Program) (l : Launch) (e : Env) (s : State) (m : MethodId) (args : Array Value) (below : List Frame) (meth : Method) (c : Code) (g : GX) (mo : Nat) (a : Nat → Nat) (ws0 : va_W) (o_1 : IV) (now : LV) (dr : LV) (pa : LV) (sa : LV) (iS : IV) (bu : IV) (tq : IV) (rT : IV) (wT : IV) (wo : Nat → Option Nat) (sK : IV) (sA : IV) (sB : IV) (sE : IV) (oq : IV) (bS : IV) (bE : IV) (bL : IV) (rp : IV) (x2p12 : Int64) (x4p12 : Int32) (y8 : Int64) (sp : Int32 → (Int32 × IV)) (ok : Int32 → Prop) : Prop := ∀ (t0p103 : Int32), ok t0p103 → ∀ z : (Int32 × IV), z = sp t0p103 → ∀ (H : Heap) (locs : List Loc) (ls : Array Slot), va_P g.1 vwCl (wMo g mo a o_1 now dr pa sa iS bu tq rT wT wo sK sA sB sE oq bS bE bL rp) H → va_D (inW ws0) (wMo g mo a o_1 now dr pa sa iS bu tq rT wT wo sK sA sB sE oq bS bE bL rp) → va_S (inW ws0) s.heap H locs → lv_has ls 8 [(0, .ref mo), (2, .long x2p12), (4, .int x4p12), (6, .long y8)] → W p l e rm_Mo_bestArms s m args below meth c H locs 0 0 (MQ below (CI g ws0 (fun u : IV => wMo g mo a u now dr pa sa iS bu tq rT wT wo sK sA sB sE oq bS bE bL rp) z) args s 0 0 (inW ws0)) (F0 m 103 ls [.int t0p103])
def HL_Mo_bestArms_120 (p : Program) (l : Launch) (e : Env) (s : State) (m : MethodId) (args : Array Value) (below : List Frame) (meth : Method) (c : Code) (g : GX) (mo : Nat) (a : Nat → Nat) (ws0 : va_W) (o_1 : IV) (now : LV) (dr : LV) (pa : LV) (sa : LV) (iS : IV) (bu : IV) (tq : IV) (rT : IV) (wT : IV) (wo : Nat → Option Nat) (sK : IV) (sA : IV) (sB : IV) (sE : IV) (oq : IV) (bS : IV) (bE : IV) (bL : IV) (rp : IV) (t0p103 : Int32) (x4p12 : Int32) (sp : Int64 → (Int32 × IV)) (ok : Int64 → Prop) : Prop := ∀ (t0p120 : Int64), ok t0p120 → ∀ z : (Int32 × IV), z = sp t0p120 → ∀ (H : Heap) (locs : List Loc) (ls : Array Slot), va_P g.1 vwCl (wMo g mo a o_1 now dr pa sa iS bu tq rT wT wo sK sA sB sE oq bS bE bL rp) H → va_D (inW ws0) (wMo g mo a o_1 now dr pa sa iS bu tq rT wT wo sK sA sB sE oq bS bE bL rp) → va_S (inW ws0) s.heap H locs → lv_has ls 8 [(0, .ref mo), (1, .int t0p103), (4, .int x4p12)] → W p l e rm_Mo_bestArms s m args below meth c H locs 0 0 (MQ below (CI g ws0 (fun u : IV => wMo g mo a u now dr pa sa iS bu tq rT wT wo sK sA sB sE oq bS bE bL rp) z) args s 0 0 (inW ws0)) (F0 m 120 ls [.long t0p120])
noncomputable def sp_Mo_bestArms_120 (x4p12 : Int32) (t0p103 : Int32) (r12 : Int32 → Int64 → Int32 → (Int32 × IV)) (t0p120 : Int64) : Int32 × IV := lett (x4p12 + (1 : Int32)) fun (v12 : Int32) => r12 t0p103 t0p120 v12
def ok_Mo_bestArms_120 (x4p12 : Int32) (t0p103 : Int32) (r12 : Int32 → Int64 → Int32 → (Int32 × IV)) (q12 : Int32 → Int64 → Int32 → Prop) (t0p120 : Int64) : Prop := lett (x4p12 + (1 : Int32)) fun (v12 : Int32) => q12 t0p103 t0p120 v12
set_option maxRecDepth 100000 in
set_option maxHeartbeats 4000000 in
theorem k_Mo_bestArms_120 {p : Program} {l : Launch} {e : Env} {s : State} {m : MethodId} {args : Array Value} {below : List Frame} {meth : Method} {c : Code} {g : GX} {mo : Nat} {a : Nat → Nat} {ws0 : va_W} {o_1 : IV} {now : LV} {dr : LV} {pa : LV} {sa : LV} {iS : IV} {bu : IV} {tq : IV} {rT : IV} {wT : IV} {wo : Nat → Option Nat} {sK : IV} {sA : IV} {sB : IV} {sE : IV} {oq : IV} {bS : IV} {bE : IV} {bL : IV} {rp : IV} {t0p103 : Int32} {x4p12 : Int32} {r12 : Int32 → Int64 → Int32 → (Int32 × IV)} {q12 : Int32 → Int64 → Int32 → Prop} (C : Cx p s m args meth c (inW ws0) g "DecadeBridgeModel" b_Mo_bestArms (some .int) 8) (ih12 : HL_Mo_bestArms_12 p l e s m args below meth c g mo a ws0 o_1 now dr pa sa iS bu tq rT wT wo sK sA sB sE oq bS bE bL rp r12 q12) : HL_Mo_bestArms_120 p l e s m args below meth c g mo a ws0 o_1 now dr pa sa iS bu tq rT wT wo sK sA sB sE oq bS bE bL rp t0p103 x4p12 (sp_Mo_bestArms_120 x4p12 t0p103 r12) (ok_Mo_bestArms_120 x4p12 t0p103 r12 q12) := by
  intro t0p120 hok z hz H locs ls hP hD hS hl
  obtain ⟨hx, hb, hr, hml, hown, hlk, hts, hK, hZo, hZ⟩ := id C
  unfold sp_Mo_bestArms_120 at hz
  unfold ok_Mo_bestArms_120 at hok
  refine lv_lstore_n (lv' := [(2, .long t0p120), (0, .ref mo), (1, .int t0p103), (4, .int x4p12)]) hx hb d_Mo_bestArms_120 rfl hl (by decide) rfl (fun ls hl => ?_)
  obtain ⟨v12, ev12⟩ : ∃ y : Int32, y = x4p12 + (1 : Int32) := ⟨_, rfl⟩
  have hz := lett_z hz ev12
  have hok := lett_o hok ev12
  refine lv_iinc (v := v12) (lv' := [(4, .int v12), (2, .long t0p120), (0, .ref mo), (1, .int t0p103)]) hx hb d_Mo_bestArms_121 hl (k := 3) rfl (by rw [ev12]; rfl) (by decide) rfl (fun ls hl => ?_)
  refine lv_goto (tgt := 12) hx hb d_Mo_bestArms_124 (by decide) ?_
  exact ih12 t0p103 t0p120 v12 hok _ hz _ _ ls hP hD hS (lv_sub hl [2, 3, 1, 0] rfl)
noncomputable def sp_Mo_bestArms_103 (x4p12 : Int32) (y8 : Int64) (x2p12 : Int64) (r12 : Int32 → Int64 → Int32 → (Int32 × IV)) (t0p103 : Int32) : Int32 × IV := if x4p12 = 0 then (sp_Mo_bestArms_120 x4p12 t0p103 r12 y8) else (sp_Mo_bestArms_120 x4p12 t0p103 r12 (if y8 < x2p12 then y8 else x2p12))
def ok_Mo_bestArms_103 (x4p12 : Int32) (y8 : Int64) (x2p12 : Int64) (r12 : Int32 → Int64 → Int32 → (Int32 × IV)) (q12 : Int32 → Int64 → Int32 → Prop) (t0p103 : Int32) : Prop := ((x4p12 = 0 → ok_Mo_bestArms_120 x4p12 t0p103 r12 q12 y8) ∧ (¬ (x4p12 = 0) → ok_Mo_bestArms_120 x4p12 t0p103 r12 q12 (if y8 < x2p12 then y8 else x2p12)))
set_option maxRecDepth 100000 in
set_option maxHeartbeats 4000000 in
theorem k_Mo_bestArms_103 {p : Program} {l : Launch} {e : Env} {s : State} {m : MethodId} {args : Array Value} {below : List Frame} {meth : Method} {c : Code} {g : GX} {mo : Nat} {a : Nat → Nat} {ws0 : va_W} {o_1 : IV} {now : LV} {dr : LV} {pa : LV} {sa : LV} {iS : IV} {bu : IV} {tq : IV} {rT : IV} {wT : IV} {wo : Nat → Option Nat} {sK : IV} {sA : IV} {sB : IV} {sE : IV} {oq : IV} {bS : IV} {bE : IV} {bL : IV} {rp : IV} {x2p12 : Int64} {x4p12 : Int32} {y8 : Int64} {r12 : Int32 → Int64 → Int32 → (Int32 × IV)} {q12 : Int32 → Int64 → Int32 → Prop} (C : Cx p s m args meth c (inW ws0) g "DecadeBridgeModel" b_Mo_bestArms (some .int) 8) (ih12 : HL_Mo_bestArms_12 p l e s m args below meth c g mo a ws0 o_1 now dr pa sa iS bu tq rT wT wo sK sA sB sE oq bS bE bL rp r12 q12) : HL_Mo_bestArms_103 p l e s m args below meth c g mo a ws0 o_1 now dr pa sa iS bu tq rT wT wo sK sA sB sE oq bS bE bL rp x2p12 x4p12 y8 (sp_Mo_bestArms_103 x4p12 y8 x2p12 r12) (ok_Mo_bestArms_103 x4p12 y8 x2p12 r12 q12) := by
  intro t0p103 hok z hz H locs ls hP hD hS hl
  obtain ⟨hx, hb, hr, hml, hown, hlk, hts, hK, hZo, hZ⟩ := id C
  unfold sp_Mo_bestArms_103 at hz
  unfold ok_Mo_bestArms_103 at hok
  refine lv_istore_n (lv' := [(1, .int t0p103), (0, .ref mo), (2, .long x2p12), (4, .int x4p12), (6, .long y8)]) hx hb d_Mo_bestArms_103 rfl hl (by decide) rfl (fun ls hl => ?_)
  refine lv_iload hx hb d_Mo_bestArms_104 (lv_at hl 3 rfl) ?_
  refine lv_if_ne (tgt := 114) hx hb d_Mo_bestArms_106 (by decide) (fun c11 => ?_) (fun c11 => ?_)
  · have hz := hz.trans (if_neg c11)
    have hok := hok.2 c11
    refine lv_lload_n hx hb d_Mo_bestArms_114 rfl (lv_at hl 2 rfl) ?_
    refine lv_lload hx hb d_Mo_bestArms_115 (lv_at hl 4 rfl) ?_
    refine va_mmin_long hx hb (hml.trans hl.1.symm) hown (hts _ qm_Mo_185) (hts _ (mf_JM_min_JJJ).2) (hts _ (mf_JM_min_JJJ).1.2.1) (hts _ (mf_JM_min_JJJ).1.1) (Nat.le_of_ble_eq_true rfl) (Nat.le_of_ble_eq_true rfl) (Nat.le_of_ble_eq_true rfl) (Nat.le_of_ble_eq_true rfl) d_Mo_bestArms_117 ?_
    exact k_Mo_bestArms_120 C ih12 (if y8 < x2p12 then y8 else x2p12) hok _ hz _ _ ls hP hD hS (lv_sub hl [1, 0, 3] rfl)
  · have hz := hz.trans (if_pos c11)
    have hok := hok.1 c11
    refine lv_lload hx hb d_Mo_bestArms_109 (lv_at hl 4 rfl) ?_
    refine lv_goto (tgt := 120) hx hb d_Mo_bestArms_111 (by decide) ?_
    exact k_Mo_bestArms_120 C ih12 y8 hok _ hz _ _ ls hP hD hS (lv_sub hl [1, 0, 3] rfl)
noncomputable def sp_Mo_bestArms_87 (x4p12 : Int32) (y8 : Int64) (x2p12 : Int64) (r12 : Int32 → Int64 → Int32 → (Int32 × IV))  : Int32 × IV := sp_Mo_bestArms_103 x4p12 y8 x2p12 r12 (((10 : Int32) * (x4p12 / (5 : Int32))) + (x4p12 - x4p12 / (5 : Int32) * (5 : Int32)))
def ok_Mo_bestArms_87 (x4p12 : Int32) (y8 : Int64) (x2p12 : Int64) (r12 : Int32 → Int64 → Int32 → (Int32 × IV)) (q12 : Int32 → Int64 → Int32 → Prop)  : Prop := ok_Mo_bestArms_103 x4p12 y8 x2p12 r12 q12 (((10 : Int32) * (x4p12 / (5 : Int32))) + (x4p12 - x4p12 / (5 : Int32) * (5 : Int32)))
set_option maxRecDepth 100000 in
set_option maxHeartbeats 4000000 in
theorem k_Mo_bestArms_87 {p : Program} {l : Launch} {e : Env} {s : State} {m : MethodId} {args : Array Value} {below : List Frame} {meth : Method} {c : Code} {g : GX} {mo : Nat} {a : Nat → Nat} {ws0 : va_W} {o_1 : IV} {now : LV} {dr : LV} {pa : LV} {sa : LV} {iS : IV} {bu : IV} {tq : IV} {rT : IV} {wT : IV} {wo : Nat → Option Nat} {sK : IV} {sA : IV} {sB : IV} {sE : IV} {oq : IV} {bS : IV} {bE : IV} {bL : IV} {rp : IV} {x2p12 : Int64} {x4p12 : Int32} {y8 : Int64} {r12 : Int32 → Int64 → Int32 → (Int32 × IV)} {q12 : Int32 → Int64 → Int32 → Prop} (C : Cx p s m args meth c (inW ws0) g "DecadeBridgeModel" b_Mo_bestArms (some .int) 8) (ih12 : HL_Mo_bestArms_12 p l e s m args below meth c g mo a ws0 o_1 now dr pa sa iS bu tq rT wT wo sK sA sB sE oq bS bE bL rp r12 q12) : HL_Mo_bestArms_87 p l e s m args below meth c g mo a ws0 o_1 now dr pa sa iS bu tq rT wT wo sK sA sB sE oq bS bE bL rp x2p12 x4p12 y8 (sp_Mo_bestArms_87 x4p12 y8 x2p12 r12) (ok_Mo_bestArms_87 x4p12 y8 x2p12 r12 q12) := by
  intro _ hok z hz H locs ls hP hD hS hl
  obtain ⟨hx, hb, hr, hml, hown, hlk, hts, hK, hZo, hZ⟩ := id C
  unfold sp_Mo_bestArms_87 at hz
  unfold ok_Mo_bestArms_87 at hok
  refine lv_bipush (v := 10) hx hb d_Mo_bestArms_87 (by decide) ?_
  refine lv_iload hx hb d_Mo_bestArms_89 (lv_at hl 2 rfl) ?_
  refine lv_iconst (v := 5) hx hb d_Mo_bestArms_91 (by decide) ?_
  refine lv_idiv hx hb d_Mo_bestArms_92 (by decide) ?_
  refine lv_imul hx hb d_Mo_bestArms_93 ?_
  refine lv_iload hx hb d_Mo_bestArms_94 (lv_at hl 2 rfl) ?_
  refine lv_iconst (v := 5) hx hb d_Mo_bestArms_96 (by decide) ?_
  refine lv_irem hx hb d_Mo_bestArms_97 (by decide) ?_
  refine lv_iadd hx hb d_Mo_bestArms_98 ?_
  refine lv_goto (tgt := 103) hx hb d_Mo_bestArms_99 (by decide) ?_
  exact k_Mo_bestArms_103 C ih12 (((10 : Int32) * (x4p12 / (5 : Int32))) + (x4p12 - x4p12 / (5 : Int32) * (5 : Int32))) hok _ hz _ _ ls hP hD hS hl
noncomputable def bd_Mo_bestArms_12 (o_1 : IV) (now : LV) (r12 : Int32 → Int64 → Int32 → (Int32 × IV)) (x1p12 : Int32) (x2p12 : Int64) (x4p12 : Int32) : Int32 × IV := if (25 : Int32) ≤ x4p12 then ((x1p12, o_1)) else (lett (sp_Mo_bestOf ((x4p12 / (5 : Int32)).toInt64) ((x4p12 - x4p12 / (5 : Int32) * (5 : Int32)).toInt64) (now 32) now) fun (y4 : Int32) => lett (sp_Mo_correctedBy y4 ((x4p12 / (5 : Int32)).toInt64) ((x4p12 - x4p12 / (5 : Int32) * (5 : Int32)).toInt64) (now 32) now) fun (y6 : Int64) => lett (sp_Mo_unknownWarm now) fun (y7 : Int64) => lett (sp_Mo_amount (y6 - y7)) fun (y8 : Int64) => if x4p12 = 0 then (sp_Mo_bestArms_87 x4p12 y8 x2p12 r12) else (if x2p12 ≤ y8 then (sp_Mo_bestArms_103 x4p12 y8 x2p12 r12 x1p12) else (sp_Mo_bestArms_87 x4p12 y8 x2p12 r12)))
def okb_Mo_bestArms_12 (o_1 : IV) (now : LV) (r12 : Int32 → Int64 → Int32 → (Int32 × IV)) (q12 : Int32 → Int64 → Int32 → Prop) (x1p12 : Int32) (x2p12 : Int64) (x4p12 : Int32) : Prop := (((25 : Int32) ≤ x4p12 → True) ∧ (¬ ((25 : Int32) ≤ x4p12) → (ok_Mo_bestOf ((x4p12 / (5 : Int32)).toInt64) ((x4p12 - x4p12 / (5 : Int32) * (5 : Int32)).toInt64) (now 32) now) ∧ lett (sp_Mo_bestOf ((x4p12 / (5 : Int32)).toInt64) ((x4p12 - x4p12 / (5 : Int32) * (5 : Int32)).toInt64) (now 32) now) fun (y4 : Int32) => (ok_Mo_correctedBy y4 ((x4p12 / (5 : Int32)).toInt64) ((x4p12 - x4p12 / (5 : Int32) * (5 : Int32)).toInt64) (now 32) now) ∧ lett (sp_Mo_correctedBy y4 ((x4p12 / (5 : Int32)).toInt64) ((x4p12 - x4p12 / (5 : Int32) * (5 : Int32)).toInt64) (now 32) now) fun (y6 : Int64) => lett (sp_Mo_unknownWarm now) fun (y7 : Int64) => lett (sp_Mo_amount (y6 - y7)) fun (y8 : Int64) => ((x4p12 = 0 → ok_Mo_bestArms_87 x4p12 y8 x2p12 r12 q12) ∧ (¬ (x4p12 = 0) → ((x2p12 ≤ y8 → ok_Mo_bestArms_103 x4p12 y8 x2p12 r12 q12 x1p12) ∧ (¬ (x2p12 ≤ y8) → ok_Mo_bestArms_87 x4p12 y8 x2p12 r12 q12))))))
noncomputable def sp_Mo_bestArms_12 (o_1 : IV) (now : LV)  : Nat → Int32 → Int64 → Int32 → (Int32 × IV)
  | 0 => fun _ _ _ => default
  | f + 1 => bd_Mo_bestArms_12 o_1 now  (sp_Mo_bestArms_12 o_1 now  f)
def ok_Mo_bestArms_12 (o_1 : IV) (now : LV)   : Nat → Int32 → Int64 → Int32 → Prop
  | 0 => fun _ _ _ => False
  | f + 1 => okb_Mo_bestArms_12 o_1 now  (sp_Mo_bestArms_12 o_1 now  f)  (ok_Mo_bestArms_12 o_1 now   f)
set_option maxRecDepth 100000 in
set_option maxHeartbeats 4000000 in
theorem kb_Mo_bestArms_12 {p : Program} {l : Launch} {e : Env} {s : State} {m : MethodId} {args : Array Value} {below : List Frame} {meth : Method} {c : Code} {g : GX} {mo : Nat} {a : Nat → Nat} {ws0 : va_W} {o_1 : IV} {now : LV} {dr : LV} {pa : LV} {sa : LV} {iS : IV} {bu : IV} {tq : IV} {rT : IV} {wT : IV} {wo : Nat → Option Nat} {sK : IV} {sA : IV} {sB : IV} {sE : IV} {oq : IV} {bS : IV} {bE : IV} {bL : IV} {rp : IV}  (C : Cx p s m args meth c (inW ws0) g "DecadeBridgeModel" b_Mo_bestArms (some .int) 8) {r12 : Int32 → Int64 → Int32 → (Int32 × IV)} {q12 : Int32 → Int64 → Int32 → Prop}  (ih12 : HL_Mo_bestArms_12 p l e s m args below meth c g mo a ws0 o_1 now dr pa sa iS bu tq rT wT wo sK sA sB sE oq bS bE bL rp r12 q12) : HL_Mo_bestArms_12 p l e s m args below meth c g mo a ws0 o_1 now dr pa sa iS bu tq rT wT wo sK sA sB sE oq bS bE bL rp (bd_Mo_bestArms_12 o_1 now  r12) (okb_Mo_bestArms_12 o_1 now  r12  q12) := by
  intro x1p12 x2p12 x4p12 hok z hz H locs ls hP hD hS hl
  obtain ⟨hx, hb, hr, hml, hown, hlk, hts, hK, hZo, hZ⟩ := id C
  unfold bd_Mo_bestArms_12 at hz
  unfold okb_Mo_bestArms_12 at hok
  refine lv_iload hx hb d_Mo_bestArms_12 (lv_at hl 3 rfl) ?_
  refine lv_bipush (v := 25) hx hb d_Mo_bestArms_14 (by decide) ?_
  refine lv_icmp_ge (tgt := 127) hx hb d_Mo_bestArms_16 (by decide) (fun c2 => ?_) (fun c2 => ?_)
  · have hz := hz.trans (if_pos c2)
    refine lv_iload_n hx hb d_Mo_bestArms_127 rfl (lv_at hl 1 rfl) ?_
    exact endI1 C hz hP hS d_Mo_bestArms_128
  · have hz := hz.trans (if_neg c2)
    have hok := hok.2 c2
    refine lv_aload_n hx hb d_Mo_bestArms_19 rfl (lv_at hl 0 rfl) ?_
    refine lv_iload hx hb d_Mo_bestArms_20 (lv_at hl 3 rfl) ?_
    refine lv_iconst (v := 5) hx hb d_Mo_bestArms_22 (by decide) ?_
    refine lv_idiv hx hb d_Mo_bestArms_23 (by decide) ?_
    refine lv_i2l hx hb d_Mo_bestArms_24 rfl ?_
    refine lv_iload hx hb d_Mo_bestArms_25 (lv_at hl 3 rfl) ?_
    refine lv_iconst (v := 5) hx hb d_Mo_bestArms_27 (by decide) ?_
    refine lv_irem hx hb d_Mo_bestArms_28 (by decide) ?_
    refine lv_i2l hx hb d_Mo_bestArms_29 rfl ?_
    refine lv_aload_n hx hb d_Mo_bestArms_30 rfl (lv_at hl 0 rfl) ?_
    refine gf C hP 0 0 fkMo rfl (by decide) rfl qf_Mo_7 (gMo_0 _ _) d_Mo_bestArms_31 ?_
    refine lv_bipush (v := 32) hx hb d_Mo_bestArms_34 (by decide) ?_
    refine ldL C hP 1 rfl vi_32_215 cn_32 d_Mo_bestArms_36 ?_
    have hs3 := hok.1
    have hok := hok.2
    have hB : SubW g (inW ws0) s (wMo g mo a o_1 now dr pa sa iS bu tq rT wT wo sK sA sB sE oq bS bE bL rp) _ (List.range _) _ _ := (subF hP hD hS)
    refine goI0 hB (run_v C mf_Mo_bestOf qm_Mo_458 (c_Mo_bestOf l g mo a o_1 now dr pa sa iS bu tq rT wT wo sK sA sB sE oq bS bE bL rp ((x4p12 / (5 : Int32)).toInt64) ((x4p12 - x4p12 / (5 : Int32) * (5 : Int32)).toInt64) (now 32) hs3) rfl rfl ⟨Nat.le_of_ble_eq_true rfl, Nat.le_of_ble_eq_true rfl⟩ ⟨Nat.le_of_ble_eq_true rfl, Nat.le_of_ble_eq_true rfl⟩ hB rfl rfl hl rfl rfl (Nat.le_of_ble_eq_true rfl) d_Mo_bestArms_37) (fun y4 ey4 H locs hP hS => ?_)
    have hz := lett_z hz ey4
    have hok := lett_o hok ey4
    refine lv_istore (lv' := [(5, .int y4), (0, .ref mo), (1, .int x1p12), (2, .long x2p12), (4, .int x4p12)]) hx hb d_Mo_bestArms_40 hl (by decide) rfl (fun ls hl => ?_)
    refine lv_aload_n hx hb d_Mo_bestArms_42 rfl (lv_at hl 1 rfl) ?_
    refine lv_iload hx hb d_Mo_bestArms_43 (lv_at hl 0 rfl) ?_
    refine lv_iload hx hb d_Mo_bestArms_45 (lv_at hl 4 rfl) ?_
    refine lv_iconst (v := 5) hx hb d_Mo_bestArms_47 (by decide) ?_
    refine lv_idiv hx hb d_Mo_bestArms_48 (by decide) ?_
    refine lv_i2l hx hb d_Mo_bestArms_49 rfl ?_
    refine lv_iload hx hb d_Mo_bestArms_50 (lv_at hl 4 rfl) ?_
    refine lv_iconst (v := 5) hx hb d_Mo_bestArms_52 (by decide) ?_
    refine lv_irem hx hb d_Mo_bestArms_53 (by decide) ?_
    refine lv_i2l hx hb d_Mo_bestArms_54 rfl ?_
    refine lv_aload_n hx hb d_Mo_bestArms_55 rfl (lv_at hl 1 rfl) ?_
    refine gf C hP 0 0 fkMo rfl (by decide) rfl qf_Mo_7 (gMo_0 _ _) d_Mo_bestArms_56 ?_
    refine lv_bipush (v := 32) hx hb d_Mo_bestArms_59 (by decide) ?_
    refine ldL C hP 1 rfl vi_32_215 cn_32 d_Mo_bestArms_61 ?_
    have hs5 := hok.1
    have hok := hok.2
    have hB : SubW g (inW ws0) s (wMo g mo a o_1 now dr pa sa iS bu tq rT wT wo sK sA sB sE oq bS bE bL rp) _ (List.range _) _ _ := (subF hP hD hS)
    refine goL0 hB (run_v C mf_Mo_correctedBy qm_Mo_245 (c_Mo_correctedBy l g mo a o_1 now dr pa sa iS bu tq rT wT wo sK sA sB sE oq bS bE bL rp y4 ((x4p12 / (5 : Int32)).toInt64) ((x4p12 - x4p12 / (5 : Int32) * (5 : Int32)).toInt64) (now 32) hs5) rfl rfl ⟨Nat.le_of_ble_eq_true rfl, Nat.le_of_ble_eq_true rfl⟩ ⟨Nat.le_of_ble_eq_true rfl, Nat.le_of_ble_eq_true rfl⟩ hB rfl rfl hl rfl rfl (Nat.le_of_ble_eq_true rfl) d_Mo_bestArms_62) (fun y6 ey6 H locs hP hS => ?_)
    have hz := lett_z hz ey6
    have hok := lett_o hok ey6
    refine lv_aload_n hx hb d_Mo_bestArms_65 rfl (lv_at hl 1 rfl) ?_
    have hB : SubW g (inW ws0) s (wMo g mo a o_1 now dr pa sa iS bu tq rT wT wo sK sA sB sE oq bS bE bL rp) _ (List.range _) _ _ := (subF hP hD hS)
    refine goL0 hB (run_v C mf_Mo_unknownWarm qm_Mo_146 (c_Mo_unknownWarm l g mo a o_1 now dr pa sa iS bu tq rT wT wo sK sA sB sE oq bS bE bL rp) rfl rfl ⟨Nat.le_of_ble_eq_true rfl, Nat.le_of_ble_eq_true rfl⟩ ⟨Nat.le_of_ble_eq_true rfl, Nat.le_of_ble_eq_true rfl⟩ hB rfl rfl hl rfl rfl (Nat.le_of_ble_eq_true rfl) d_Mo_bestArms_66) (fun y7 ey7 H locs hP hS => ?_)
    have hz := lett_z hz ey7
    have hok := lett_o hok ey7
    refine lv_lsub hx hb d_Mo_bestArms_69 ?_
    have hB : SubW g (inW ws0) s (wMo g mo a o_1 now dr pa sa iS bu tq rT wT wo sK sA sB sE oq bS bE bL rp) _ (List.range _) _ _ := (subF hP hD hS)
    refine goL0 hB (run_s C mf_Mo_amount qm_Mo_217 (c_Mo_amount l g mo a o_1 now dr pa sa iS bu tq rT wT wo sK sA sB sE oq bS bE bL rp (y6 - y7)) rfl rfl ⟨Nat.le_of_ble_eq_true rfl, Nat.le_of_ble_eq_true rfl⟩ ⟨Nat.le_of_ble_eq_true rfl, Nat.le_of_ble_eq_true rfl⟩ hB hl rfl rfl (Nat.le_of_ble_eq_true rfl) d_Mo_bestArms_70) (fun y8 ey8 H locs hP hS => ?_)
    have hz := lett_z hz ey8
    have hok := lett_o hok ey8
    refine lv_lstore (lv' := [(6, .long y8), (5, .int y4), (0, .ref mo), (1, .int x1p12), (2, .long x2p12), (4, .int x4p12)]) hx hb d_Mo_bestArms_73 hl (by decide) rfl (fun ls hl => ?_)
    refine lv_iload hx hb d_Mo_bestArms_75 (lv_at hl 5 rfl) ?_
    refine lv_if_eq (tgt := 87) hx hb d_Mo_bestArms_77 (by decide) (fun c9 => ?_) (fun c9 => ?_)
    · have hz := hz.trans (if_pos c9)
      have hok := hok.1 c9
      exact k_Mo_bestArms_87 C ih12 () hok _ hz _ _ ls hP hD hS (lv_sub hl [2, 4, 5, 0] rfl)
    · have hz := hz.trans (if_neg c9)
      have hok := hok.2 c9
      refine lv_lload hx hb d_Mo_bestArms_80 (lv_at hl 0 rfl) ?_
      refine lv_lload_n hx hb d_Mo_bestArms_82 rfl (lv_at hl 4 rfl) ?_
      refine lc_ge (tgt := 102) hx hb d_Mo_bestArms_83 d_Mo_bestArms_84 (by decide) (fun c10 => ?_) (fun c10 => ?_)
      · have hz := hz.trans (if_pos c10)
        have hok := hok.1 c10
        refine lv_iload_n hx hb d_Mo_bestArms_102 rfl (lv_at hl 3 rfl) ?_
        exact k_Mo_bestArms_103 C ih12 x1p12 hok _ hz _ _ ls hP hD hS (lv_sub hl [2, 4, 5, 0] rfl)
      · have hz := hz.trans (if_neg c10)
        have hok := hok.2 c10
        exact k_Mo_bestArms_87 C ih12 () hok _ hz _ _ ls hP hD hS (lv_sub hl [2, 4, 5, 0] rfl)
theorem k_Mo_bestArms_12 {p : Program} {l : Launch} {e : Env} {s : State} {m : MethodId} {args : Array Value} {below : List Frame} {meth : Method} {c : Code} {g : GX} {mo : Nat} {a : Nat → Nat} {ws0 : va_W} {o_1 : IV} {now : LV} {dr : LV} {pa : LV} {sa : LV} {iS : IV} {bu : IV} {tq : IV} {rT : IV} {wT : IV} {wo : Nat → Option Nat} {sK : IV} {sA : IV} {sB : IV} {sE : IV} {oq : IV} {bS : IV} {bE : IV} {bL : IV} {rp : IV}  (C : Cx p s m args meth c (inW ws0) g "DecadeBridgeModel" b_Mo_bestArms (some .int) 8) (f : Nat)  : HL_Mo_bestArms_12 p l e s m args below meth c g mo a ws0 o_1 now dr pa sa iS bu tq rT wT wo sK sA sB sE oq bS bE bL rp (sp_Mo_bestArms_12 o_1 now  f) (ok_Mo_bestArms_12 o_1 now   f) := by
  induction f with
  | zero => intro x1p12 x2p12 x4p12 hok; exact False.elim hok
  | succ f ih => exact kb_Mo_bestArms_12 C  ih
noncomputable def sp_Mo_bestArms (o : IV) (now : LV) : Int32 × IV := lett (upd o 6 (0 : Int32)) fun (o_1 : IV) => sp_Mo_bestArms_12 o_1 now big (0 : Int32) (0 : Int64) (0 : Int32)
def ok_Mo_bestArms (o : IV) (now : LV) : Prop := lett (upd o 6 (0 : Int32)) fun (o_1 : IV) => ok_Mo_bestArms_12 o_1 now big (0 : Int32) (0 : Int64) (0 : Int32)
set_option maxRecDepth 100000 in
set_option maxHeartbeats 4000000 in
theorem c_Mo_bestArms (l : Launch) (g : GX) (mo : Nat) (a : Nat → Nat) (o : IV) (now : LV) (dr : LV) (pa : LV) (sa : LV) (iS : IV) (bu : IV) (tq : IV) (rT : IV) (wT : IV) (wo : Nat → Option Nat) (sK : IV) (sA : IV) (sB : IV) (sE : IV) (oq : IV) (bS : IV) (bE : IV) (bL : IV) (rp : IV)  (hok : ok_Mo_bestArms o now) : Met l y_Mo_bestArms (wsY y_Mo_bestArms b_Mo_bestArms 8 (some .int)) rm_Mo_bestArms (CP g [.ref mo] (wMo g mo a o now dr pa sa iS bu tq rT wT wo sK sA sB sE oq bS bE bL rp)) (CI g (wMo g mo a o now dr pa sa iS bu tq rT wT wo sK sA sB sE oq bS bE bL rp) (fun u : IV => wMo g mo a u now dr pa sa iS bu tq rT wT wo sK sA sB sE oq bS bE bL rp) (sp_Mo_bestArms o now)) 0 0 (inW (wMo g mo a o now dr pa sa iS bu tq rT wT wo sK sA sB sE oq bS bE bL rp)) := by
  refine Met.ofW (cc := b_Mo_bestArms) (maxL := 8) (ret := (some .int)) pn_Mo rfl ?_
  intro p e s m args below meth c s₁ B hml hv
  obtain ⟨rfl, C, hP, hD, hS⟩ := enter "DecadeBridgeModel" rfl B hml hv
  obtain ⟨hx, hb, hr, hml, hown, hlk, hts, hK, hZo, hZ⟩ := id C
  refine entryW (lv := [(0, .ref mo)]) rfl (Nat.le_of_ble_eq_true rfl) (fun ls hl => ?_)
  obtain ⟨z, hz⟩ : ∃ z, z = sp_Mo_bestArms o now := ⟨_, rfl⟩
  rw [← hz]
  unfold sp_Mo_bestArms at hz
  unfold ok_Mo_bestArms at hok
  refine lv_aload_n hx hb d_Mo_bestArms_0 rfl (lv_at hl 0 rfl) ?_
  refine lv_iconst (v := 0) hx hb d_Mo_bestArms_1 (by decide) ?_
  refine pfI C hP hD hS 0 6 fkMo rfl (by decide) rfl qf_Mo_107 rfl rfl rfl (Nat.le_of_ble_eq_true rfl) (ff := fun o => fMo a o) (sMo_6 _ _ _) d_Mo_bestArms_2 (fun o_1 eo_1 H locs hP hD hS => ?_)
  have hP : va_P g.1 vwCl (wMo g mo a o_1 now dr pa sa iS bu tq rT wT wo sK sA sB sE oq bS bE bL rp) H := hP
  have hD : va_D (inW (wMo g mo a o now dr pa sa iS bu tq rT wT wo sK sA sB sE oq bS bE bL rp)) (wMo g mo a o_1 now dr pa sa iS bu tq rT wT wo sK sA sB sE oq bS bE bL rp) := hD
  have hz := lett_z hz eo_1
  have hok := lett_o hok eo_1
  refine lv_iconst (v := 0) hx hb d_Mo_bestArms_5 (by decide) ?_
  refine lv_istore_n (lv' := [(1, .int (0 : Int32)), (0, .ref mo)]) hx hb d_Mo_bestArms_6 rfl hl (by decide) rfl (fun ls hl => ?_)
  refine lv_lconst (v := 0) hx hb d_Mo_bestArms_7 (by decide) ?_
  refine lv_lstore_n (lv' := [(2, .long (0 : Int64)), (1, .int (0 : Int32)), (0, .ref mo)]) hx hb d_Mo_bestArms_8 rfl hl (by decide) rfl (fun ls hl => ?_)
  refine lv_iconst (v := 0) hx hb d_Mo_bestArms_9 (by decide) ?_
  refine lv_istore (lv' := [(4, .int (0 : Int32)), (2, .long (0 : Int64)), (1, .int (0 : Int32)), (0, .ref mo)]) hx hb d_Mo_bestArms_10 hl (by decide) rfl (fun ls hl => ?_)
  exact k_Mo_bestArms_12 C big (0 : Int32) (0 : Int64) (0 : Int32) hok _ hz _ _ ls hP hD hS (lv_sub hl [3, 2, 1, 0] rfl)
abbrev rm_Mo_apparent : Room := { frames := 8, cells := 0, slots := 0, locals := 197 }
def HL_Mo_apparent_20 (p : Program) (l : Launch) (e : Env) (s : State) (m : MethodId) (args : Array Value) (below : List Frame) (meth : Method) (c : Code) (g : GX) (mo : Nat) (a : Nat → Nat) (ws0 : va_W) (o : IV) (now : LV) (dr : LV) (pa : LV) (sa : LV) (iS : IV) (bu : IV) (tq : IV) (rT : IV) (wT : IV) (wo : Nat → Option Nat) (sK : IV) (sA : IV) (sB : IV) (sE : IV) (oq : IV) (bS : IV) (bE : IV) (bL : IV) (rp : IV) (p1 : Int32) (sp : Int32 → (Int64 × IV)) (ok : Int32 → Prop) : Prop := ∀ (t1p20 : Int32), ok t1p20 → ∀ z : (Int64 × IV), z = sp t1p20 → ∀ (H : Heap) (locs : List Loc) (ls : Array Slot), va_P g.1 vwCl (wMo g mo a o now dr pa sa iS bu tq rT wT wo sK sA sB sE oq bS bE bL rp) H → va_D (inW ws0) (wMo g mo a o now dr pa sa iS bu tq rT wT wo sK sA sB sE oq bS bE bL rp) → va_S (inW ws0) s.heap H locs → lv_has ls 2 [(0, .ref mo), (1, .int p1)] → W p l e rm_Mo_apparent s m args below meth c H locs 0 0 (MQ below (CL g ws0 (fun u : IV => wMo g mo a u now dr pa sa iS bu tq rT wT wo sK sA sB sE oq bS bE bL rp) z) args s 0 0 (inW ws0)) (F0 m 20 ls [.int t1p20, .ref mo])
noncomputable def sp_Mo_apparent_20 (o : IV) (now : LV) (p1 : Int32)  (t1p20 : Int32) : Int64 × IV := lett (upd o 6 t1p20) fun (o_3 : IV) => if (o_3 6) ≤ 0 then (lett (sp_Mo_bestOf (now 29) (now 30) p1.toInt64 now) fun (y6 : Int32) => lett (sp_Mo_coldBy y6 now) fun (y8 : Int64) => lett (sp_Mo_ohmsOf (now 30) now) fun (y10 : Int64) => lett (sp_Mo_ohmsOf (now 29) now) fun (y12 : Int64) => ((y8 * y10) / y12, o_3)) else (((0 : Int64), o_3))
def ok_Mo_apparent_20 (o : IV) (now : LV) (p1 : Int32)   (t1p20 : Int32) : Prop := lett (upd o 6 t1p20) fun (o_3 : IV) => (((o_3 6) ≤ 0 → (ok_Mo_bestOf (now 29) (now 30) p1.toInt64 now) ∧ lett (sp_Mo_bestOf (now 29) (now 30) p1.toInt64 now) fun (y6 : Int32) => (ok_Mo_coldBy y6 now) ∧ lett (sp_Mo_coldBy y6 now) fun (y8 : Int64) => (ok_Mo_ohmsOf (now 30)) ∧ lett (sp_Mo_ohmsOf (now 30) now) fun (y10 : Int64) => (ok_Mo_ohmsOf (now 29)) ∧ lett (sp_Mo_ohmsOf (now 29) now) fun (y12 : Int64) => (¬ y12 = 0) ∧ True) ∧ (¬ ((o_3 6) ≤ 0) → True))
set_option maxRecDepth 100000 in
set_option maxHeartbeats 4000000 in
theorem k_Mo_apparent_20 {p : Program} {l : Launch} {e : Env} {s : State} {m : MethodId} {args : Array Value} {below : List Frame} {meth : Method} {c : Code} {g : GX} {mo : Nat} {a : Nat → Nat} {ws0 : va_W} {o : IV} {now : LV} {dr : LV} {pa : LV} {sa : LV} {iS : IV} {bu : IV} {tq : IV} {rT : IV} {wT : IV} {wo : Nat → Option Nat} {sK : IV} {sA : IV} {sB : IV} {sE : IV} {oq : IV} {bS : IV} {bE : IV} {bL : IV} {rp : IV} {p1 : Int32}  (C : Cx p s m args meth c (inW ws0) g "DecadeBridgeModel" b_Mo_apparent (some .long) 2)  : HL_Mo_apparent_20 p l e s m args below meth c g mo a ws0 o now dr pa sa iS bu tq rT wT wo sK sA sB sE oq bS bE bL rp p1 (sp_Mo_apparent_20 o now p1 ) (ok_Mo_apparent_20 o now p1  ) := by
  intro t1p20 hok z hz H locs ls hP hD hS hl
  obtain ⟨hx, hb, hr, hml, hown, hlk, hts, hK, hZo, hZ⟩ := id C
  unfold sp_Mo_apparent_20 at hz
  unfold ok_Mo_apparent_20 at hok
  refine pfI C hP hD hS 0 6 fkMo rfl (by decide) rfl qf_Mo_107 rfl rfl rfl (Nat.le_of_ble_eq_true rfl) (ff := fun o => fMo a o) (sMo_6 _ _ _) d_Mo_apparent_20 (fun o_3 eo_3 H locs hP hD hS => ?_)
  have hP : va_P g.1 vwCl (wMo g mo a o_3 now dr pa sa iS bu tq rT wT wo sK sA sB sE oq bS bE bL rp) H := hP
  have hD : va_D (inW ws0) (wMo g mo a o_3 now dr pa sa iS bu tq rT wT wo sK sA sB sE oq bS bE bL rp) := hD
  have hz := lett_z hz eo_3
  have hok := lett_o hok eo_3
  refine lv_aload_n hx hb d_Mo_apparent_23 rfl (lv_at hl 0 rfl) ?_
  refine gf C hP 0 6 fkMo rfl (by decide) rfl qf_Mo_107 (gMo_6 _ _) d_Mo_apparent_24 ?_
  refine lv_if_le (tgt := 32) hx hb d_Mo_apparent_27 (by decide) (fun c4 => ?_) (fun c4 => ?_)
  · have hz := hz.trans (if_pos c4)
    have hok := hok.1 c4
    refine lv_aload_n hx hb d_Mo_apparent_32 rfl (lv_at hl 0 rfl) ?_
    refine lv_aload_n hx hb d_Mo_apparent_33 rfl (lv_at hl 0 rfl) ?_
    refine lv_aload_n hx hb d_Mo_apparent_34 rfl (lv_at hl 0 rfl) ?_
    refine gf C hP 0 0 fkMo rfl (by decide) rfl qf_Mo_7 (gMo_0 _ _) d_Mo_apparent_35 ?_
    refine lv_bipush (v := 29) hx hb d_Mo_apparent_38 (by decide) ?_
    refine ldL C hP 1 rfl vi_29_215 cn_29 d_Mo_apparent_40 ?_
    refine lv_aload_n hx hb d_Mo_apparent_41 rfl (lv_at hl 0 rfl) ?_
    refine gf C hP 0 0 fkMo rfl (by decide) rfl qf_Mo_7 (gMo_0 _ _) d_Mo_apparent_42 ?_
    refine lv_bipush (v := 30) hx hb d_Mo_apparent_45 (by decide) ?_
    refine ldL C hP 1 rfl vi_30_215 cn_30 d_Mo_apparent_47 ?_
    refine lv_iload_n hx hb d_Mo_apparent_48 rfl (lv_at hl 1 rfl) ?_
    refine lv_i2l hx hb d_Mo_apparent_49 rfl ?_
    have hs5 := hok.1
    have hok := hok.2
    have hB : SubW g (inW ws0) s (wMo g mo a o_3 now dr pa sa iS bu tq rT wT wo sK sA sB sE oq bS bE bL rp) _ (List.range _) _ _ := (subF hP hD hS)
    refine goI0 hB (run_v C mf_Mo_bestOf qm_Mo_458 (c_Mo_bestOf l g mo a o_3 now dr pa sa iS bu tq rT wT wo sK sA sB sE oq bS bE bL rp (now 29) (now 30) p1.toInt64 hs5) rfl rfl ⟨Nat.le_of_ble_eq_true rfl, Nat.le_of_ble_eq_true rfl⟩ ⟨Nat.le_of_ble_eq_true rfl, Nat.le_of_ble_eq_true rfl⟩ hB rfl rfl hl rfl rfl (Nat.le_of_ble_eq_true rfl) d_Mo_apparent_50) (fun y6 ey6 H locs hP hS => ?_)
    have hz := lett_z hz ey6
    have hok := lett_o hok ey6
    have hs7 := hok.1
    have hok := hok.2
    have hB : SubW g (inW ws0) s (wMo g mo a o_3 now dr pa sa iS bu tq rT wT wo sK sA sB sE oq bS bE bL rp) _ (List.range _) _ _ := (subF hP hD hS)
    refine goL0 hB (run_v C mf_Mo_coldBy qm_Mo_143 (c_Mo_coldBy l g mo a o_3 now dr pa sa iS bu tq rT wT wo sK sA sB sE oq bS bE bL rp y6 hs7) rfl rfl ⟨Nat.le_of_ble_eq_true rfl, Nat.le_of_ble_eq_true rfl⟩ ⟨Nat.le_of_ble_eq_true rfl, Nat.le_of_ble_eq_true rfl⟩ hB rfl rfl hl rfl rfl (Nat.le_of_ble_eq_true rfl) d_Mo_apparent_53) (fun y8 ey8 H locs hP hS => ?_)
    have hz := lett_z hz ey8
    have hok := lett_o hok ey8
    refine lv_aload_n hx hb d_Mo_apparent_56 rfl (lv_at hl 0 rfl) ?_
    refine lv_aload_n hx hb d_Mo_apparent_57 rfl (lv_at hl 0 rfl) ?_
    refine gf C hP 0 0 fkMo rfl (by decide) rfl qf_Mo_7 (gMo_0 _ _) d_Mo_apparent_58 ?_
    refine lv_bipush (v := 30) hx hb d_Mo_apparent_61 (by decide) ?_
    refine ldL C hP 1 rfl vi_30_215 cn_30 d_Mo_apparent_63 ?_
    have hs9 := hok.1
    have hok := hok.2
    have hB : SubW g (inW ws0) s (wMo g mo a o_3 now dr pa sa iS bu tq rT wT wo sK sA sB sE oq bS bE bL rp) _ (List.range _) _ _ := (subF hP hD hS)
    refine goL0 hB (run_v C mf_Mo_ohmsOf qm_Mo_162 (c_Mo_ohmsOf l g mo a o_3 now dr pa sa iS bu tq rT wT wo sK sA sB sE oq bS bE bL rp (now 30) hs9) rfl rfl ⟨Nat.le_of_ble_eq_true rfl, Nat.le_of_ble_eq_true rfl⟩ ⟨Nat.le_of_ble_eq_true rfl, Nat.le_of_ble_eq_true rfl⟩ hB rfl rfl hl rfl rfl (Nat.le_of_ble_eq_true rfl) d_Mo_apparent_64) (fun y10 ey10 H locs hP hS => ?_)
    have hz := lett_z hz ey10
    have hok := lett_o hok ey10
    refine lv_lmul hx hb d_Mo_apparent_67 ?_
    refine lv_aload_n hx hb d_Mo_apparent_68 rfl (lv_at hl 0 rfl) ?_
    refine lv_aload_n hx hb d_Mo_apparent_69 rfl (lv_at hl 0 rfl) ?_
    refine gf C hP 0 0 fkMo rfl (by decide) rfl qf_Mo_7 (gMo_0 _ _) d_Mo_apparent_70 ?_
    refine lv_bipush (v := 29) hx hb d_Mo_apparent_73 (by decide) ?_
    refine ldL C hP 1 rfl vi_29_215 cn_29 d_Mo_apparent_75 ?_
    have hs11 := hok.1
    have hok := hok.2
    have hB : SubW g (inW ws0) s (wMo g mo a o_3 now dr pa sa iS bu tq rT wT wo sK sA sB sE oq bS bE bL rp) _ (List.range _) _ _ := (subF hP hD hS)
    refine goL0 hB (run_v C mf_Mo_ohmsOf qm_Mo_162 (c_Mo_ohmsOf l g mo a o_3 now dr pa sa iS bu tq rT wT wo sK sA sB sE oq bS bE bL rp (now 29) hs11) rfl rfl ⟨Nat.le_of_ble_eq_true rfl, Nat.le_of_ble_eq_true rfl⟩ ⟨Nat.le_of_ble_eq_true rfl, Nat.le_of_ble_eq_true rfl⟩ hB rfl rfl hl rfl rfl (Nat.le_of_ble_eq_true rfl) d_Mo_apparent_76) (fun y12 ey12 H locs hP hS => ?_)
    have hz := lett_z hz ey12
    have hok := lett_o hok ey12
    have hs13 := hok.1
    have hok := hok.2
    refine lv_ldiv hx hb d_Mo_apparent_79 hs13 ?_
    exact endL1 C hz hP hS d_Mo_apparent_80
  · have hz := hz.trans (if_neg c4)
    refine lv_lconst (v := 0) hx hb d_Mo_apparent_30 (by decide) ?_
    exact endL1 C hz hP hS d_Mo_apparent_31
noncomputable def sp_Mo_apparent (p1 : Int32) (o : IV) (now : LV) : Int64 × IV := lett (sp_Mo_in p1.toInt64 (2 : Int64) (3 : Int64)) fun (y1 : Int32) => if y1 = 0 then (sp_Mo_apparent_20 o now p1 (1 : Int32)) else (sp_Mo_apparent_20 o now p1 (0 : Int32))
def ok_Mo_apparent (p1 : Int32) (o : IV) (now : LV) : Prop := lett (sp_Mo_in p1.toInt64 (2 : Int64) (3 : Int64)) fun (y1 : Int32) => ((y1 = 0 → ok_Mo_apparent_20 o now p1 (1 : Int32)) ∧ (¬ (y1 = 0) → ok_Mo_apparent_20 o now p1 (0 : Int32)))
set_option maxRecDepth 100000 in
set_option maxHeartbeats 4000000 in
theorem c_Mo_apparent (l : Launch) (g : GX) (mo : Nat) (a : Nat → Nat) (o : IV) (now : LV) (dr : LV) (pa : LV) (sa : LV) (iS : IV) (bu : IV) (tq : IV) (rT : IV) (wT : IV) (wo : Nat → Option Nat) (sK : IV) (sA : IV) (sB : IV) (sE : IV) (oq : IV) (bS : IV) (bE : IV) (bL : IV) (rp : IV) (p1 : Int32) (hok : ok_Mo_apparent p1 o now) : Met l y_Mo_apparent (wsY y_Mo_apparent b_Mo_apparent 2 (some .long)) rm_Mo_apparent (CP g [.ref mo, .int p1] (wMo g mo a o now dr pa sa iS bu tq rT wT wo sK sA sB sE oq bS bE bL rp)) (CL g (wMo g mo a o now dr pa sa iS bu tq rT wT wo sK sA sB sE oq bS bE bL rp) (fun u : IV => wMo g mo a u now dr pa sa iS bu tq rT wT wo sK sA sB sE oq bS bE bL rp) (sp_Mo_apparent p1 o now)) 0 0 (inW (wMo g mo a o now dr pa sa iS bu tq rT wT wo sK sA sB sE oq bS bE bL rp)) := by
  refine Met.ofW (cc := b_Mo_apparent) (maxL := 2) (ret := (some .long)) pn_Mo rfl ?_
  intro p e s m args below meth c s₁ B hml hv
  obtain ⟨rfl, C, hP, hD, hS⟩ := enter "DecadeBridgeModel" rfl B hml hv
  obtain ⟨hx, hb, hr, hml, hown, hlk, hts, hK, hZo, hZ⟩ := id C
  refine entryW (lv := [(0, .ref mo), (1, .int p1)]) rfl (Nat.le_of_ble_eq_true rfl) (fun ls hl => ?_)
  obtain ⟨z, hz⟩ : ∃ z, z = sp_Mo_apparent p1 o now := ⟨_, rfl⟩
  rw [← hz]
  unfold sp_Mo_apparent at hz
  unfold ok_Mo_apparent at hok
  refine lv_aload_n hx hb d_Mo_apparent_0 rfl (lv_at hl 0 rfl) ?_
  refine lv_iload_n hx hb d_Mo_apparent_1 rfl (lv_at hl 1 rfl) ?_
  refine lv_i2l hx hb d_Mo_apparent_2 rfl ?_
  refine lv_ldc2 hx hb hown (hts _ qk_Mo_100) d_Mo_apparent_3 ?_
  refine lv_ldc2 hx hb hown (hts _ qk_Mo_153) d_Mo_apparent_6 ?_
  have hB : SubW g (inW (wMo g mo a o now dr pa sa iS bu tq rT wT wo sK sA sB sE oq bS bE bL rp)) s (wMo g mo a o now dr pa sa iS bu tq rT wT wo sK sA sB sE oq bS bE bL rp) _ (List.range _) _ _ := (subF hP hD hS)
  refine goI0 hB (run_s C mf_Mo_in qm_Mo_118 (c_Mo_in l g mo a o now dr pa sa iS bu tq rT wT wo sK sA sB sE oq bS bE bL rp p1.toInt64 (2 : Int64) (3 : Int64)) rfl rfl ⟨Nat.le_of_ble_eq_true rfl, Nat.le_of_ble_eq_true rfl⟩ ⟨Nat.le_of_ble_eq_true rfl, Nat.le_of_ble_eq_true rfl⟩ hB hl rfl rfl (Nat.le_of_ble_eq_true rfl) d_Mo_apparent_9) (fun y1 ey1 H locs hP hS => ?_)
  have hz := lett_z hz ey1
  have hok := lett_o hok ey1
  refine lv_if_eq (tgt := 19) hx hb d_Mo_apparent_12 (by decide) (fun c2 => ?_) (fun c2 => ?_)
  · have hz := hz.trans (if_pos c2)
    have hok := hok.1 c2
    refine lv_iconst (v := 1) hx hb d_Mo_apparent_19 (by decide) ?_
    exact k_Mo_apparent_20 C (1 : Int32) hok _ hz _ _ ls hP hD hS hl
  · have hz := hz.trans (if_neg c2)
    have hok := hok.2 c2
    refine lv_iconst (v := 0) hx hb d_Mo_apparent_15 (by decide) ?_
    refine lv_goto (tgt := 20) hx hb d_Mo_apparent_16 (by decide) ?_
    exact k_Mo_apparent_20 C (0 : Int32) hok _ hz _ _ ls hP hD hS hl
