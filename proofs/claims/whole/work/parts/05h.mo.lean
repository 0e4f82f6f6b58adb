abbrev rm_Mo_size : Room := { frames := 5, cells := 0, slots := 0, locals := 109 }
noncomputable def sp_Mo_size (p1 : Int32) (o : IV) (now : LV) : Int32 × IV := lett (upd o 6 (0 : Int32)) fun (o_1 : IV) => if p1 = (0 : Int32) then (lett (sp_Mo_decades now) fun (y2 : Int32) => (y2, o_1)) else (if p1 = (1 : Int32) then (((now 1).toInt32, o_1)) else (if p1 = (2 : Int32) then (((now 2).toInt32, o_1)) else (if p1 = (3 : Int32) then (((now (((22 : Int32) + p1) - (3 : Int32)).toNatClampNeg).toInt32, o_1)) else (if p1 = (4 : Int32) then (((now (((22 : Int32) + p1) - (3 : Int32)).toNatClampNeg).toInt32, o_1)) else (if p1 = (5 : Int32) then (((now (((22 : Int32) + p1) - (3 : Int32)).toNatClampNeg).toInt32, o_1)) else (if p1 = (6 : Int32) then (((now (((22 : Int32) + p1) - (3 : Int32)).toNatClampNeg).toInt32, o_1)) else (if p1 = (7 : Int32) then (((now (((22 : Int32) + p1) - (3 : Int32)).toNatClampNeg).toInt32, o_1)) else (if p1 = (8 : Int32) then (((now (((22 : Int32) + p1) - (3 : Int32)).toNatClampNeg).toInt32, o_1)) else (if p1 = (9 : Int32) then (((now 39).toInt32, o_1)) else (if p1 = (10 : Int32) then (((now 29).toInt32, o_1)) else (if p1 = (11 : Int32) then (((now 30).toInt32, o_1)) else (if p1 = (12 : Int32) then (((now 31).toInt32, o_1)) else (if p1 = (13 : Int32) then (((now 32).toInt32, o_1)) else (if p1 = (14 : Int32) then (lett (sp_Mo_setting now) fun (y10 : Int32) => (y10, o_1)) else (if p1 = (15 : Int32) then (((now 41).toInt32, o_1)) else (if p1 = (16 : Int32) then (((now 42).toInt32, o_1)) else (if p1 = (17 : Int32) then (((now 54).toInt32, o_1)) else (if p1 = (18 : Int32) then (lett (sp_Mo_manners now) fun (y12 : Int32) => (y12, o_1)) else (if p1 = (19 : Int32) then ((o_1 5, o_1)) else (lett (sp_Mo_raise (1 : Int32) o_1) fun (y13 : Int32 × IV) => (y13.1, y13.2)))))))))))))))))))))
def ok_Mo_size (p1 : Int32) (o : IV) (now : LV) : Prop := lett (upd o 6 (0 : Int32)) fun (o_1 : IV) => ((p1 = (0 : Int32) → True) ∧ (¬ (p1 = (0 : Int32)) → ((p1 = (1 : Int32) → True) ∧ (¬ (p1 = (1 : Int32)) → ((p1 = (2 : Int32) → True) ∧ (¬ (p1 = (2 : Int32)) → ((p1 = (3 : Int32) → (vp_in (((22 : Int32) + p1) - (3 : Int32)) 215) ∧ True) ∧ (¬ (p1 = (3 : Int32)) → ((p1 = (4 : Int32) → (vp_in (((22 : Int32) + p1) - (3 : Int32)) 215) ∧ True) ∧ (¬ (p1 = (4 : Int32)) → ((p1 = (5 : Int32) → (vp_in (((22 : Int32) + p1) - (3 : Int32)) 215) ∧ True) ∧ (¬ (p1 = (5 : Int32)) → ((p1 = (6 : Int32) → (vp_in (((22 : Int32) + p1) - (3 : Int32)) 215) ∧ True) ∧ (¬ (p1 = (6 : Int32)) → ((p1 = (7 : Int32) → (vp_in (((22 : Int32) + p1) - (3 : Int32)) 215) ∧ True) ∧ (¬ (p1 = (7 : Int32)) → ((p1 = (8 : Int32) → (vp_in (((22 : Int32) + p1) - (3 : Int32)) 215) ∧ True) ∧ (¬ (p1 = (8 : Int32)) → ((p1 = (9 : Int32) → True) ∧ (¬ (p1 = (9 : Int32)) → ((p1 = (10 : Int32) → True) ∧ (¬ (p1 = (10 : Int32)) → ((p1 = (11 : Int32) → True) ∧ (¬ (p1 = (11 : Int32)) → ((p1 = (12 : Int32) → True) ∧ (¬ (p1 = (12 : Int32)) → ((p1 = (13 : Int32) → True) ∧ (¬ (p1 = (13 : Int32)) → ((p1 = (14 : Int32) → (ok_Mo_setting now) ∧ True) ∧ (¬ (p1 = (14 : Int32)) → ((p1 = (15 : Int32) → True) ∧ (¬ (p1 = (15 : Int32)) → ((p1 = (16 : Int32) → True) ∧ (¬ (p1 = (16 : Int32)) → ((p1 = (17 : Int32) → True) ∧ (¬ (p1 = (17 : Int32)) → ((p1 = (18 : Int32) → (ok_Mo_manners now) ∧ True) ∧ (¬ (p1 = (18 : Int32)) → ((p1 = (19 : Int32) → True) ∧ (¬ (p1 = (19 : Int32)) → True))))))))))))))))))))))))))))))))))))))))
set_option maxRecDepth 100000 in
set_option maxHeartbeats 4000000 in
theorem c_Mo_size (l : Launch) (g : GX) (mo : Nat) (a : Nat → Nat) (o : IV) (now : LV) (dr : LV) (pa : LV) (sa : LV) (iS : IV) (bu : IV) (tq : IV) (rT : IV) (wT : IV) (wo : Nat → Option Nat) (sK : IV) (sA : IV) (sB : IV) (sE : IV) (oq : IV) (bS : IV) (bE : IV) (bL : IV) (rp : IV) (p1 : Int32) (hok : ok_Mo_size p1 o now) : Met l y_Mo_size (wsY y_Mo_size b_Mo_size 2 (some .int)) rm_Mo_size (CP g [.ref mo, .int p1] (wMo g mo a o now dr pa sa iS bu tq rT wT wo sK sA sB sE oq bS bE bL rp)) (CI g (wMo g mo a o now dr pa sa iS bu tq rT wT wo sK sA sB sE oq bS bE bL rp) (fun u : IV => wMo g mo a u now dr pa sa iS bu tq rT wT wo sK sA sB sE oq bS bE bL rp) (sp_Mo_size p1 o now)) 0 0 (inW (wMo g mo a o now dr pa sa iS bu tq rT wT wo sK sA sB sE oq bS bE bL rp)) := by
  refine Met.ofW (cc := b_Mo_size) (maxL := 2) (ret := (some .int)) pn_Mo rfl ?_
  intro p e s m args below meth c s₁ B hml hv
  obtain ⟨rfl, C, hP, hD, hS⟩ := enter "DecadeBridgeModel" rfl B hml hv
  obtain ⟨hx, hb, hr, hml, hown, hlk, hts, hK, hZo, hZ⟩ := id C
  refine entryW (lv := [(0, .ref mo), (1, .int p1)]) rfl (Nat.le_of_ble_eq_true rfl) (fun ls hl => ?_)
  obtain ⟨z, hz⟩ : ∃ z, z = sp_Mo_size p1 o now := ⟨_, rfl⟩
  rw [← hz]
  unfold sp_Mo_size at hz
  unfold ok_Mo_size at hok
  refine lv_aload_n hx hb d_Mo_size_0 rfl (lv_at hl 0 rfl) ?_
  refine lv_iconst (v := 0) hx hb d_Mo_size_1 (by decide) ?_
  refine pfI C hP hD hS 0 6 fkMo rfl (by decide) rfl qf_Mo_107 rfl rfl rfl (Nat.le_of_ble_eq_true rfl) (ff := fun o => fMo a o) (sMo_6 _ _ _) d_Mo_size_2 (fun o_1 eo_1 H locs hP hD hS => ?_)
  have hP : va_P g.1 vwCl (wMo g mo a o_1 now dr pa sa iS bu tq rT wT wo sK sA sB sE oq bS bE bL rp) H := hP
  have hD : va_D (inW (wMo g mo a o now dr pa sa iS bu tq rT wT wo sK sA sB sE oq bS bE bL rp)) (wMo g mo a o_1 now dr pa sa iS bu tq rT wT wo sK sA sB sE oq bS bE bL rp) := hD
  have hz := lett_z hz eo_1
  have hok := lett_o hok eo_1
  refine lv_iload_n hx hb d_Mo_size_5 rfl (lv_at hl 1 rfl) ?_
  by_cases c14_0 : p1 = (0 : Int32)
  · have hz := hz.trans (if_pos c14_0)
    have hok := hok.1 c14_0
    refine lv_tableIn (x := p1) (off := 94) (tgt := 100) hx hb d_Mo_size_6 (by rw [c14_0]; decide) (by rw [c14_0]; decide) (by rw [c14_0]; rfl) (by decide) ?_
    refine lv_aload_n hx hb d_Mo_size_100 rfl (lv_at hl 0 rfl) ?_
    have hB : SubW g (inW (wMo g mo a o now dr pa sa iS bu tq rT wT wo sK sA sB sE oq bS bE bL rp)) s (wMo g mo a o_1 now dr pa sa iS bu tq rT wT wo sK sA sB sE oq bS bE bL rp) _ (List.range _) _ _ := (subF hP hD hS)
    refine goI0 hB (run_v C mf_Mo_decades qm_Mo_130 (c_Mo_decades l g mo a o_1 now dr pa sa iS bu tq rT wT wo sK sA sB sE oq bS bE bL rp) rfl rfl ⟨Nat.le_of_ble_eq_true rfl, Nat.le_of_ble_eq_true rfl⟩ ⟨Nat.le_of_ble_eq_true rfl, Nat.le_of_ble_eq_true rfl⟩ hB rfl rfl hl rfl rfl (Nat.le_of_ble_eq_true rfl) d_Mo_size_101) (fun y2 ey2 H locs hP hS => ?_)
    have hz := lett_z hz ey2
    exact endI1 C hz hP hS d_Mo_size_104
  have hz := hz.trans (if_neg c14_0)
  have hok := hok.2 c14_0
  by_cases c14_1 : p1 = (1 : Int32)
  · have hz := hz.trans (if_pos c14_1)
    have hok := hok.1 c14_1
    refine lv_tableIn (x := p1) (off := 99) (tgt := 105) hx hb d_Mo_size_6 (by rw [c14_1]; decide) (by rw [c14_1]; decide) (by rw [c14_1]; rfl) (by decide) ?_
    refine lv_aload_n hx hb d_Mo_size_105 rfl (lv_at hl 0 rfl) ?_
    refine gf C hP 0 0 fkMo rfl (by decide) rfl qf_Mo_7 (gMo_0 _ _) d_Mo_size_106 ?_
    refine lv_iconst (v := 1) hx hb d_Mo_size_109 (by decide) ?_
    refine ldL C hP 1 rfl vi_1_215 cn_1 d_Mo_size_110 ?_
    refine lv_l2i hx hb d_Mo_size_111 rfl ?_
    exact endI1 C hz hP hS d_Mo_size_112
  have hz := hz.trans (if_neg c14_1)
  have hok := hok.2 c14_1
  by_cases c14_2 : p1 = (2 : Int32)
  · have hz := hz.trans (if_pos c14_2)
    have hok := hok.1 c14_2
    refine lv_tableIn (x := p1) (off := 107) (tgt := 113) hx hb d_Mo_size_6 (by rw [c14_2]; decide) (by rw [c14_2]; decide) (by rw [c14_2]; rfl) (by decide) ?_
    refine lv_aload_n hx hb d_Mo_size_113 rfl (lv_at hl 0 rfl) ?_
    refine gf C hP 0 0 fkMo rfl (by decide) rfl qf_Mo_7 (gMo_0 _ _) d_Mo_size_114 ?_
    refine lv_iconst (v := 2) hx hb d_Mo_size_117 (by decide) ?_
    refine ldL C hP 1 rfl vi_2_215 cn_2 d_Mo_size_118 ?_
    refine lv_l2i hx hb d_Mo_size_119 rfl ?_
    exact endI1 C hz hP hS d_Mo_size_120
  have hz := hz.trans (if_neg c14_2)
  have hok := hok.2 c14_2
  by_cases c14_3 : p1 = (3 : Int32)
  · have hz := hz.trans (if_pos c14_3)
    have hok := hok.1 c14_3
    refine lv_tableIn (x := p1) (off := 115) (tgt := 121) hx hb d_Mo_size_6 (by rw [c14_3]; decide) (by rw [c14_3]; decide) (by rw [c14_3]; rfl) (by decide) ?_
    refine lv_aload_n hx hb d_Mo_size_121 rfl (lv_at hl 0 rfl) ?_
    refine gf C hP 0 0 fkMo rfl (by decide) rfl qf_Mo_7 (gMo_0 _ _) d_Mo_size_122 ?_
    refine lv_bipush (v := 22) hx hb d_Mo_size_125 (by decide) ?_
    refine lv_iload_n hx hb d_Mo_size_127 rfl (lv_at hl 1 rfl) ?_
    refine lv_iadd hx hb d_Mo_size_128 ?_
    refine lv_iconst (v := 3) hx hb d_Mo_size_129 (by decide) ?_
    refine lv_isub hx hb d_Mo_size_130 ?_
    have hs3 := hok.1
    have hok := hok.2
    refine ldL C hP 1 rfl hs3 rfl d_Mo_size_131 ?_
    refine lv_l2i hx hb d_Mo_size_132 rfl ?_
    exact endI1 C hz hP hS d_Mo_size_133
  have hz := hz.trans (if_neg c14_3)
  have hok := hok.2 c14_3
  by_cases c14_4 : p1 = (4 : Int32)
  · have hz := hz.trans (if_pos c14_4)
    have hok := hok.1 c14_4
    refine lv_tableIn (x := p1) (off := 115) (tgt := 121) hx hb d_Mo_size_6 (by rw [c14_4]; decide) (by rw [c14_4]; decide) (by rw [c14_4]; rfl) (by decide) ?_
    refine lv_aload_n hx hb d_Mo_size_121 rfl (lv_at hl 0 rfl) ?_
    refine gf C hP 0 0 fkMo rfl (by decide) rfl qf_Mo_7 (gMo_0 _ _) d_Mo_size_122 ?_
    refine lv_bipush (v := 22) hx hb d_Mo_size_125 (by decide) ?_
    refine lv_iload_n hx hb d_Mo_size_127 rfl (lv_at hl 1 rfl) ?_
    refine lv_iadd hx hb d_Mo_size_128 ?_
    refine lv_iconst (v := 3) hx hb d_Mo_size_129 (by decide) ?_
    refine lv_isub hx hb d_Mo_size_130 ?_
    have hs4 := hok.1
    have hok := hok.2
    refine ldL C hP 1 rfl hs4 rfl d_Mo_size_131 ?_
    refine lv_l2i hx hb d_Mo_size_132 rfl ?_
    exact endI1 C hz hP hS d_Mo_size_133
  have hz := hz.trans (if_neg c14_4)
  have hok := hok.2 c14_4
  by_cases c14_5 : p1 = (5 : Int32)
  · have hz := hz.trans (if_pos c14_5)
    have hok := hok.1 c14_5
    refine lv_tableIn (x := p1) (off := 115) (tgt := 121) hx hb d_Mo_size_6 (by rw [c14_5]; decide) (by rw [c14_5]; decide) (by rw [c14_5]; rfl) (by decide) ?_
    refine lv_aload_n hx hb d_Mo_size_121 rfl (lv_at hl 0 rfl) ?_
    refine gf C hP 0 0 fkMo rfl (by decide) rfl qf_Mo_7 (gMo_0 _ _) d_Mo_size_122 ?_
    refine lv_bipush (v := 22) hx hb d_Mo_size_125 (by decide) ?_
    refine lv_iload_n hx hb d_Mo_size_127 rfl (lv_at hl 1 rfl) ?_
    refine lv_iadd hx hb d_Mo_size_128 ?_
    refine lv_iconst (v := 3) hx hb d_Mo_size_129 (by decide) ?_
    refine lv_isub hx hb d_Mo_size_130 ?_
    have hs5 := hok.1
    have hok := hok.2
    refine ldL C hP 1 rfl hs5 rfl d_Mo_size_131 ?_
    refine lv_l2i hx hb d_Mo_size_132 rfl ?_
    exact endI1 C hz hP hS d_Mo_size_133
  have hz := hz.trans (if_neg c14_5)
  have hok := hok.2 c14_5
  by_cases c14_6 : p1 = (6 : Int32)
  · have hz := hz.trans (if_pos c14_6)
    have hok := hok.1 c14_6
    refine lv_tableIn (x := p1) (off := 115) (tgt := 121) hx hb d_Mo_size_6 (by rw [c14_6]; decide) (by rw [c14_6]; decide) (by rw [c14_6]; rfl) (by decide) ?_
    refine lv_aload_n hx hb d_Mo_size_121 rfl (lv_at hl 0 rfl) ?_
    refine gf C hP 0 0 fkMo rfl (by decide) rfl qf_Mo_7 (gMo_0 _ _) d_Mo_size_122 ?_
    refine lv_bipush (v := 22) hx hb d_Mo_size_125 (by decide) ?_
    refine lv_iload_n hx hb d_Mo_size_127 rfl (lv_at hl 1 rfl) ?_
    refine lv_iadd hx hb d_Mo_size_128 ?_
    refine lv_iconst (v := 3) hx hb d_Mo_size_129 (by decide) ?_
    refine lv_isub hx hb d_Mo_size_130 ?_
    have hs6 := hok.1
    have hok := hok.2
    refine ldL C hP 1 rfl hs6 rfl d_Mo_size_131 ?_
    refine lv_l2i hx hb d_Mo_size_132 rfl ?_
    exact endI1 C hz hP hS d_Mo_size_133
  have hz := hz.trans (if_neg c14_6)
  have hok := hok.2 c14_6
  by_cases c14_7 : p1 = (7 : Int32)
  · have hz := hz.trans (if_pos c14_7)
    have hok := hok.1 c14_7
    refine lv_tableIn (x := p1) (off := 115) (tgt := 121) hx hb d_Mo_size_6 (by rw [c14_7]; decide) (by rw [c14_7]; decide) (by rw [c14_7]; rfl) (by decide) ?_
    refine lv_aload_n hx hb d_Mo_size_121 rfl (lv_at hl 0 rfl) ?_
    refine gf C hP 0 0 fkMo rfl (by decide) rfl qf_Mo_7 (gMo_0 _ _) d_Mo_size_122 ?_
    refine lv_bipush (v := 22) hx hb d_Mo_size_125 (by decide) ?_
    refine lv_iload_n hx hb d_Mo_size_127 rfl (lv_at hl 1 rfl) ?_
    refine lv_iadd hx hb d_Mo_size_128 ?_
    refine lv_iconst (v := 3) hx hb d_Mo_size_129 (by decide) ?_
    refine lv_isub hx hb d_Mo_size_130 ?_
    have hs7 := hok.1
    have hok := hok.2
    refine ldL C hP 1 rfl hs7 rfl d_Mo_size_131 ?_
    refine lv_l2i hx hb d_Mo_size_132 rfl ?_
    exact endI1 C hz hP hS d_Mo_size_133
  have hz := hz.trans (if_neg c14_7)
  have hok := hok.2 c14_7
  by_cases c14_8 : p1 = (8 : Int32)
  · have hz := hz.trans (if_pos c14_8)
    have hok := hok.1 c14_8
    refine lv_tableIn (x := p1) (off := 115) (tgt := 121) hx hb d_Mo_size_6 (by rw [c14_8]; decide) (by rw [c14_8]; decide) (by rw [c14_8]; rfl) (by decide) ?_
    refine lv_aload_n hx hb d_Mo_size_121 rfl (lv_at hl 0 rfl) ?_
    refine gf C hP 0 0 fkMo rfl (by decide) rfl qf_Mo_7 (gMo_0 _ _) d_Mo_size_122 ?_
    refine lv_bipush (v := 22) hx hb d_Mo_size_125 (by decide) ?_
    refine lv_iload_n hx hb d_Mo_size_127 rfl (lv_at hl 1 rfl) ?_
    refine lv_iadd hx hb d_Mo_size_128 ?_
    refine lv_iconst (v := 3) hx hb d_Mo_size_129 (by decide) ?_
    refine lv_isub hx hb d_Mo_size_130 ?_
    have hs8 := hok.1
    have hok := hok.2
    refine ldL C hP 1 rfl hs8 rfl d_Mo_size_131 ?_
    refine lv_l2i hx hb d_Mo_size_132 rfl ?_
    exact endI1 C hz hP hS d_Mo_size_133
  have hz := hz.trans (if_neg c14_8)
  have hok := hok.2 c14_8
  by_cases c14_9 : p1 = (9 : Int32)
  · have hz := hz.trans (if_pos c14_9)
    have hok := hok.1 c14_9
    refine lv_tableIn (x := p1) (off := 128) (tgt := 134) hx hb d_Mo_size_6 (by rw [c14_9]; decide) (by rw [c14_9]; decide) (by rw [c14_9]; rfl) (by decide) ?_
    refine lv_aload_n hx hb d_Mo_size_134 rfl (lv_at hl 0 rfl) ?_
    refine gf C hP 0 0 fkMo rfl (by decide) rfl qf_Mo_7 (gMo_0 _ _) d_Mo_size_135 ?_
    refine lv_bipush (v := 39) hx hb d_Mo_size_138 (by decide) ?_
    refine ldL C hP 1 rfl vi_39_215 cn_39 d_Mo_size_140 ?_
    refine lv_l2i hx hb d_Mo_size_141 rfl ?_
    exact endI1 C hz hP hS d_Mo_size_142
  have hz := hz.trans (if_neg c14_9)
  have hok := hok.2 c14_9
  by_cases c14_10 : p1 = (10 : Int32)
  · have hz := hz.trans (if_pos c14_10)
    have hok := hok.1 c14_10
    refine lv_tableIn (x := p1) (off := 137) (tgt := 143) hx hb d_Mo_size_6 (by rw [c14_10]; decide) (by rw [c14_10]; decide) (by rw [c14_10]; rfl) (by decide) ?_
    refine lv_aload_n hx hb d_Mo_size_143 rfl (lv_at hl 0 rfl) ?_
    refine gf C hP 0 0 fkMo rfl (by decide) rfl qf_Mo_7 (gMo_0 _ _) d_Mo_size_144 ?_
    refine lv_bipush (v := 29) hx hb d_Mo_size_147 (by decide) ?_
    refine ldL C hP 1 rfl vi_29_215 cn_29 d_Mo_size_149 ?_
    refine lv_l2i hx hb d_Mo_size_150 rfl ?_
    exact endI1 C hz hP hS d_Mo_size_151
  have hz := hz.trans (if_neg c14_10)
  have hok := hok.2 c14_10
  by_cases c14_11 : p1 = (11 : Int32)
  · have hz := hz.trans (if_pos c14_11)
    have hok := hok.1 c14_11
    refine lv_tableIn (x := p1) (off := 146) (tgt := 152) hx hb d_Mo_size_6 (by rw [c14_11]; decide) (by rw [c14_11]; decide) (by rw [c14_11]; rfl) (by decide) ?_
    refine lv_aload_n hx hb d_Mo_size_152 rfl (lv_at hl 0 rfl) ?_
    refine gf C hP 0 0 fkMo rfl (by decide) rfl qf_Mo_7 (gMo_0 _ _) d_Mo_size_153 ?_
    refine lv_bipush (v := 30) hx hb d_Mo_size_156 (by decide) ?_
    refine ldL C hP 1 rfl vi_30_215 cn_30 d_Mo_size_158 ?_
    refine lv_l2i hx hb d_Mo_size_159 rfl ?_
    exact endI1 C hz hP hS d_Mo_size_160
  have hz := hz.trans (if_neg c14_11)
  have hok := hok.2 c14_11
  by_cases c14_12 : p1 = (12 : Int32)
  · have hz := hz.trans (if_pos c14_12)
    have hok := hok.1 c14_12
    refine lv_tableIn (x := p1) (off := 155) (tgt := 161) hx hb d_Mo_size_6 (by rw [c14_12]; decide) (by rw [c14_12]; decide) (by rw [c14_12]; rfl) (by decide) ?_
    refine lv_aload_n hx hb d_Mo_size_161 rfl (lv_at hl 0 rfl) ?_
    refine gf C hP 0 0 fkMo rfl (by decide) rfl qf_Mo_7 (gMo_0 _ _) d_Mo_size_162 ?_
    refine lv_bipush (v := 31) hx hb d_Mo_size_165 (by decide) ?_
    refine ldL C hP 1 rfl vi_31_215 cn_31 d_Mo_size_167 ?_
    refine lv_l2i hx hb d_Mo_size_168 rfl ?_
    exact endI1 C hz hP hS d_Mo_size_169
  have hz := hz.trans (if_neg c14_12)
  have hok := hok.2 c14_12
  by_cases c14_13 : p1 = (13 : Int32)
  · have hz := hz.trans (if_pos c14_13)
    have hok := hok.1 c14_13
    refine lv_tableIn (x := p1) (off := 164) (tgt := 170) hx hb d_Mo_size_6 (by rw [c14_13]; decide) (by rw [c14_13]; decide) (by rw [c14_13]; rfl) (by decide) ?_
    refine lv_aload_n hx hb d_Mo_size_170 rfl (lv_at hl 0 rfl) ?_
    refine gf C hP 0 0 fkMo rfl (by decide) rfl qf_Mo_7 (gMo_0 _ _) d_Mo_size_171 ?_
    refine lv_bipush (v := 32) hx hb d_Mo_size_174 (by decide) ?_
    refine ldL C hP 1 rfl vi_32_215 cn_32 d_Mo_size_176 ?_
    refine lv_l2i hx hb d_Mo_size_177 rfl ?_
    exact endI1 C hz hP hS d_Mo_size_178
  have hz := hz.trans (if_neg c14_13)
  have hok := hok.2 c14_13
  by_cases c14_14 : p1 = (14 : Int32)
  · have hz := hz.trans (if_pos c14_14)
    have hok := hok.1 c14_14
    refine lv_tableIn (x := p1) (off := 173) (tgt := 179) hx hb d_Mo_size_6 (by rw [c14_14]; decide) (by rw [c14_14]; decide) (by rw [c14_14]; rfl) (by decide) ?_
    refine lv_aload_n hx hb d_Mo_size_179 rfl (lv_at hl 0 rfl) ?_
    have hs9 := hok.1
    have hok := hok.2
    have hB : SubW g (inW (wMo g mo a o now dr pa sa iS bu tq rT wT wo sK sA sB sE oq bS bE bL rp)) s (wMo g mo a o_1 now dr pa sa iS bu tq rT wT wo sK sA sB sE oq bS bE bL rp) _ (List.range _) _ _ := (subF hP hD hS)
    refine goI0 hB (run_v C mf_Mo_setting qm_Mo_176 (c_Mo_setting l g mo a o_1 now dr pa sa iS bu tq rT wT wo sK sA sB sE oq bS bE bL rp hs9) rfl rfl ⟨Nat.le_of_ble_eq_true rfl, Nat.le_of_ble_eq_true rfl⟩ ⟨Nat.le_of_ble_eq_true rfl, Nat.le_of_ble_eq_true rfl⟩ hB rfl rfl hl rfl rfl (Nat.le_of_ble_eq_true rfl) d_Mo_size_180) (fun y10 ey10 H locs hP hS => ?_)
    have hz := lett_z hz ey10
    exact endI1 C hz hP hS d_Mo_size_183
  have hz := hz.trans (if_neg c14_14)
  have hok := hok.2 c14_14
  by_cases c14_15 : p1 = (15 : Int32)
  · have hz := hz.trans (if_pos c14_15)
    have hok := hok.1 c14_15
    refine lv_tableIn (x := p1) (off := 178) (tgt := 184) hx hb d_Mo_size_6 (by rw [c14_15]; decide) (by rw [c14_15]; decide) (by rw [c14_15]; rfl) (by decide) ?_
    refine lv_aload_n hx hb d_Mo_size_184 rfl (lv_at hl 0 rfl) ?_
    refine gf C hP 0 0 fkMo rfl (by decide) rfl qf_Mo_7 (gMo_0 _ _) d_Mo_size_185 ?_
    refine lv_bipush (v := 41) hx hb d_Mo_size_188 (by decide) ?_
    refine ldL C hP 1 rfl vi_41_215 cn_41 d_Mo_size_190 ?_
    refine lv_l2i hx hb d_Mo_size_191 rfl ?_
    exact endI1 C hz hP hS d_Mo_size_192
  have hz := hz.trans (if_neg c14_15)
  have hok := hok.2 c14_15
  by_cases c14_16 : p1 = (16 : Int32)
  · have hz := hz.trans (if_pos c14_16)
    have hok := hok.1 c14_16
    refine lv_tableIn (x := p1) (off := 187) (tgt := 193) hx hb d_Mo_size_6 (by rw [c14_16]; decide) (by rw [c14_16]; decide) (by rw [c14_16]; rfl) (by decide) ?_
    refine lv_aload_n hx hb d_Mo_size_193 rfl (lv_at hl 0 rfl) ?_
    refine gf C hP 0 0 fkMo rfl (by decide) rfl qf_Mo_7 (gMo_0 _ _) d_Mo_size_194 ?_
    refine lv_bipush (v := 42) hx hb d_Mo_size_197 (by decide) ?_
    refine ldL C hP 1 rfl vi_42_215 cn_42 d_Mo_size_199 ?_
    refine lv_l2i hx hb d_Mo_size_200 rfl ?_
    exact endI1 C hz hP hS d_Mo_size_201
  have hz := hz.trans (if_neg c14_16)
  have hok := hok.2 c14_16
  by_cases c14_17 : p1 = (17 : Int32)
  · have hz := hz.trans (if_pos c14_17)
    have hok := hok.1 c14_17
    refine lv_tableIn (x := p1) (off := 196) (tgt := 202) hx hb d_Mo_size_6 (by rw [c14_17]; decide) (by rw [c14_17]; decide) (by rw [c14_17]; rfl) (by decide) ?_
    refine lv_aload_n hx hb d_Mo_size_202 rfl (lv_at hl 0 rfl) ?_
    refine gf C hP 0 0 fkMo rfl (by decide) rfl qf_Mo_7 (gMo_0 _ _) d_Mo_size_203 ?_
    refine lv_bipush (v := 54) hx hb d_Mo_size_206 (by decide) ?_
    refine ldL C hP 1 rfl vi_54_215 cn_54 d_Mo_size_208 ?_
    refine lv_l2i hx hb d_Mo_size_209 rfl ?_
    exact endI1 C hz hP hS d_Mo_size_210
  have hz := hz.trans (if_neg c14_17)
  have hok := hok.2 c14_17
  by_cases c14_18 : p1 = (18 : Int32)
  · have hz := hz.trans (if_pos c14_18)
    have hok := hok.1 c14_18
    refine lv_tableIn (x := p1) (off := 205) (tgt := 211) hx hb d_Mo_size_6 (by rw [c14_18]; decide) (by rw [c14_18]; decide) (by rw [c14_18]; rfl) (by decide) ?_
    refine lv_aload_n hx hb d_Mo_size_211 rfl (lv_at hl 0 rfl) ?_
    have hs11 := hok.1
    have hok := hok.2
    have hB : SubW g (inW (wMo g mo a o now dr pa sa iS bu tq rT wT wo sK sA sB sE oq bS bE bL rp)) s (wMo g mo a o_1 now dr pa sa iS bu tq rT wT wo sK sA sB sE oq bS bE bL rp) _ (List.range _) _ _ := (subF hP hD hS)
    refine goI0 hB (run_v C mf_Mo_manners qm_Mo_417 (c_Mo_manners l g mo a o_1 now dr pa sa iS bu tq rT wT wo sK sA sB sE oq bS bE bL rp hs11) rfl rfl ⟨Nat.le_of_ble_eq_true rfl, Nat.le_of_ble_eq_true rfl⟩ ⟨Nat.le_of_ble_eq_true rfl, Nat.le_of_ble_eq_true rfl⟩ hB rfl rfl hl rfl rfl (Nat.le_of_ble_eq_true rfl) d_Mo_size_212) (fun y12 ey12 H locs hP hS => ?_)
    have hz := lett_z hz ey12
    exact endI1 C hz hP hS d_Mo_size_215
  have hz := hz.trans (if_neg c14_18)
  have hok := hok.2 c14_18
  by_cases c14_19 : p1 = (19 : Int32)
  · have hz := hz.trans (if_pos c14_19)
    have hok := hok.1 c14_19
    refine lv_tableIn (x := p1) (off := 210) (tgt := 216) hx hb d_Mo_size_6 (by rw [c14_19]; decide) (by rw [c14_19]; decide) (by rw [c14_19]; rfl) (by decide) ?_
    refine lv_aload_n hx hb d_Mo_size_216 rfl (lv_at hl 0 rfl) ?_
    refine gf C hP 0 5 fkMo rfl (by decide) rfl qf_Mo_400 (gMo_5 _ _) d_Mo_size_217 ?_
    exact endI1 C hz hP hS d_Mo_size_220
  have hz := hz.trans (if_neg c14_19)
  have hok := hok.2 c14_19
  refine lv_tableOut (x := p1) (tgt := 221) hx hb d_Mo_size_6 (tswL (x := p1) (lo := 0) (hi := 19) 20 [(0 : Int32), (1 : Int32), (2 : Int32), (3 : Int32), (4 : Int32), (5 : Int32), (6 : Int32), (7 : Int32), (8 : Int32), (9 : Int32), (10 : Int32), (11 : Int32), (12 : Int32), (13 : Int32), (14 : Int32), (15 : Int32), (16 : Int32), (17 : Int32), (18 : Int32), (19 : Int32)] (by decide) (by decide) (List.forall_mem_cons.mpr ⟨c14_0, List.forall_mem_cons.mpr ⟨c14_1, List.forall_mem_cons.mpr ⟨c14_2, List.forall_mem_cons.mpr ⟨c14_3, List.forall_mem_cons.mpr ⟨c14_4, List.forall_mem_cons.mpr ⟨c14_5, List.forall_mem_cons.mpr ⟨c14_6, List.forall_mem_cons.mpr ⟨c14_7, List.forall_mem_cons.mpr ⟨c14_8, List.forall_mem_cons.mpr ⟨c14_9, List.forall_mem_cons.mpr ⟨c14_10, List.forall_mem_cons.mpr ⟨c14_11, List.forall_mem_cons.mpr ⟨c14_12, List.forall_mem_cons.mpr ⟨c14_13, List.forall_mem_cons.mpr ⟨c14_14, List.forall_mem_cons.mpr ⟨c14_15, List.forall_mem_cons.mpr ⟨c14_16, List.forall_mem_cons.mpr ⟨c14_17, List.forall_mem_cons.mpr ⟨c14_18, List.forall_mem_cons.mpr ⟨c14_19, fun _ h => absurd h List.not_mem_nil⟩⟩⟩⟩⟩⟩⟩⟩⟩⟩⟩⟩⟩⟩⟩⟩⟩⟩⟩⟩)) (by decide) ?_
  refine lv_aload_n hx hb d_Mo_size_221 rfl (lv_at hl 0 rfl) ?_
  refine lv_iconst (v := 1) hx hb d_Mo_size_222 (by decide) ?_
  have hB : SubW g (inW (wMo g mo a o now dr pa sa iS bu tq rT wT wo sK sA sB sE oq bS bE bL rp)) s (wMo g mo a o_1 now dr pa sa iS bu tq rT wT wo sK sA sB sE oq bS bE bL rp) _ (List.range _) _ _ := (subF hP hD hS)
  refine goIF hB (run_v C mf_Mo_raise qm_Mo_420 (c_Mo_raise l g mo a o_1 now dr pa sa iS bu tq rT wT wo sK sA sB sE oq bS bE bL rp (1 : Int32)) rfl rfl ⟨Nat.le_of_ble_eq_true rfl, Nat.le_of_ble_eq_true rfl⟩ ⟨Nat.le_of_ble_eq_true rfl, Nat.le_of_ble_eq_true rfl⟩ hB rfl rfl hl rfl rfl (Nat.le_of_ble_eq_true rfl) d_Mo_size_223) (fun _ => rfl) (fun y13 ey13 H locs hP hD hS => ?_)
  have hP : va_P g.1 vwCl (wMo g mo a y13.2 now dr pa sa iS bu tq rT wT wo sK sA sB sE oq bS bE bL rp) H := hP
  have hD : va_D (inW (wMo g mo a o now dr pa sa iS bu tq rT wT wo sK sA sB sE oq bS bE bL rp)) (wMo g mo a y13.2 now dr pa sa iS bu tq rT wT wo sK sA sB sE oq bS bE bL rp) := hD
  have hz := lett_z hz ey13
  exact endI1 C hz hP hS d_Mo_size_226
abbrev rm_Mo_isManner : Room := { frames := 5, cells := 0, slots := 0, locals := 109 }
noncomputable def sp_Mo_isManner (p1 : Int32) (now : LV) : Int32 := lett (sp_Mo_manners now) fun (y2 : Int32) => lett (sp_Mo_in p1.toInt64 (0 : Int64) (y2.toInt64 - (1 : Int64))) fun (y3 : Int32) => y3
def ok_Mo_isManner (p1 : Int32) (now : LV) : Prop := (ok_Mo_manners now) ∧ lett (sp_Mo_manners now) fun (y2 : Int32) => lett (sp_Mo_in p1.toInt64 (0 : Int64) (y2.toInt64 - (1 : Int64))) fun (y3 : Int32) => (isB y3) ∧ True
set_option maxRecDepth 100000 in
set_option maxHeartbeats 4000000 in
theorem c_Mo_isManner (l : Launch) (g : GX) (mo : Nat) (a : Nat → Nat) (o : IV) (now : LV) (dr : LV) (pa : LV) (sa : LV) (iS : IV) (bu : IV) (tq : IV) (rT : IV) (wT : IV) (wo : Nat → Option Nat) (sK : IV) (sA : IV) (sB : IV) (sE : IV) (oq : IV) (bS : IV) (bE : IV) (bL : IV) (rp : IV) (p1 : Int32) (hok : ok_Mo_isManner p1 now) : Met l y_Mo_isManner (wsY y_Mo_isManner b_Mo_isManner 2 (some .boolean)) rm_Mo_isManner (CP g [.ref mo, .int p1] (wMo g mo a o now dr pa sa iS bu tq rT wT wo sK sA sB sE oq bS bE bL rp)) (CI0 g (wMo g mo a o now dr pa sa iS bu tq rT wT wo sK sA sB sE oq bS bE bL rp) (sp_Mo_isManner p1 now)) 0 0 (inW (wMo g mo a o now dr pa sa iS bu tq rT wT wo sK sA sB sE oq bS bE bL rp)) := by
  refine Met.ofW (cc := b_Mo_isManner) (maxL := 2) (ret := (some .boolean)) pn_Mo rfl ?_
  intro p e s m args below meth c s₁ B hml hv
  obtain ⟨rfl, C, hP, hD, hS⟩ := enter "DecadeBridgeModel" rfl B hml hv
  obtain ⟨hx, hb, hr, hml, hown, hlk, hts, hK, hZo, hZ⟩ := id C
  refine entryW (lv := [(0, .ref mo), (1, .int p1)]) rfl (Nat.le_of_ble_eq_true rfl) (fun ls hl => ?_)
  obtain ⟨z, hz⟩ : ∃ z, z = sp_Mo_isManner p1 now := ⟨_, rfl⟩
  rw [← hz]
  unfold sp_Mo_isManner at hz
  unfold ok_Mo_isManner at hok
  refine lv_iload_n hx hb d_Mo_isManner_0 rfl (lv_at hl 1 rfl) ?_
  refine lv_i2l hx hb d_Mo_isManner_1 rfl ?_
  refine lv_lconst (v := 0) hx hb d_Mo_isManner_2 (by decide) ?_
  refine lv_aload_n hx hb d_Mo_isManner_3 rfl (lv_at hl 0 rfl) ?_
  have hs1 := hok.1
  have hok := hok.2
  have hB : SubW g (inW (wMo g mo a o now dr pa sa iS bu tq rT wT wo sK sA sB sE oq bS bE bL rp)) s (wMo g mo a o now dr pa sa iS bu tq rT wT wo sK sA sB sE oq bS bE bL rp) _ (List.range _) _ _ := (subF hP hD hS)
  refine goI0 hB (run_v C mf_Mo_manners qm_Mo_417 (c_Mo_manners l g mo a o now dr pa sa iS bu tq rT wT wo sK sA sB sE oq bS bE bL rp hs1) rfl rfl ⟨Nat.le_of_ble_eq_true rfl, Nat.le_of_ble_eq_true rfl⟩ ⟨Nat.le_of_ble_eq_true rfl, Nat.le_of_ble_eq_true rfl⟩ hB rfl rfl hl rfl rfl (Nat.le_of_ble_eq_true rfl) d_Mo_isManner_4) (fun y2 ey2 H locs hP hS => ?_)
  have hz := lett_z hz ey2
  have hok := lett_o hok ey2
  refine lv_i2l hx hb d_Mo_isManner_7 rfl ?_
  refine lv_lconst (v := 1) hx hb d_Mo_isManner_8 (by decide) ?_
  refine lv_lsub hx hb d_Mo_isManner_9 ?_
  have hB : SubW g (inW (wMo g mo a o now dr pa sa iS bu tq rT wT wo sK sA sB sE oq bS bE bL rp)) s (wMo g mo a o now dr pa sa iS bu tq rT wT wo sK sA sB sE oq bS bE bL rp) _ (List.range _) _ _ := (subF hP hD hS)
  refine goI0 hB (run_s C mf_Mo_in qm_Mo_118 (c_Mo_in l g mo a o now dr pa sa iS bu tq rT wT wo sK sA sB sE oq bS bE bL rp p1.toInt64 (0 : Int64) (y2.toInt64 - (1 : Int64))) rfl rfl ⟨Nat.le_of_ble_eq_true rfl, Nat.le_of_ble_eq_true rfl⟩ ⟨Nat.le_of_ble_eq_true rfl, Nat.le_of_ble_eq_true rfl⟩ hB hl rfl rfl (Nat.le_of_ble_eq_true rfl) d_Mo_isManner_10) (fun y3 ey3 H locs hP hS => ?_)
  have hz := lett_z hz ey3
  have hok := lett_o hok ey3
  have hs4 := hok.1
  have hok := hok.2
  exact endZ0 C hz hP hS (isB_nar hs4) d_Mo_isManner_13
abbrev rm_Mo_manner : Room := { frames := 6, cells := 0, slots := 0, locals := 130 }
def HL_Mo_manner_30 (p : Program) (l : Launch) (e : Env) (s : State) (m : MethodId) (args : Array Value) (below : List Frame) (meth : Method) (c : Code) (g : GX) (mo : Nat) (a : Nat → Nat) (ws0 : va_W) (o : IV) (now : LV) (dr : LV) (pa : LV) (sa : LV) (iS : IV) (bu : IV) (tq : IV) (rT : IV) (wT : IV) (wo : Nat → Option Nat) (sK : IV) (sA : IV) (sB : IV) (sE : IV) (oq : IV) (bS : IV) (bE : IV) (bL : IV) (rp : IV) (p1 : Int32) (p2 : Int32) (sp : Int32 → (Int32 × IV)) (ok : Int32 → Prop) : Prop := ∀ (t1p30 : Int32), ok t1p30 → ∀ z : (Int32 × IV), z = sp t1p30 → ∀ (H : Heap) (locs : List Loc) (ls : Array Slot), va_P g.1 vwCl (wMo g mo a o now dr pa sa iS bu tq rT wT wo sK sA sB sE oq bS bE bL rp) H → va_D (inW ws0) (wMo g mo a o now dr pa sa iS bu tq rT wT wo sK sA sB sE oq bS bE bL rp) → va_S (inW ws0) s.heap H locs → lv_has ls 4 [(0, .ref mo), (1, .int p1), (2, .int p2)] → W p l e rm_Mo_manner s m args below meth c H locs 0 0 (MQ below (CI g ws0 (fun u : IV => wMo g mo a u now dr pa sa iS bu tq rT wT wo sK sA sB sE oq bS bE bL rp) z) args s 0 0 (inW ws0)) (F0 m 30 ls [.int t1p30, .ref mo])
noncomputable def sp_Mo_manner_30 (o : IV) (p1 : Int32) (now : LV) (p2 : Int32)  (t1p30 : Int32) : Int32 × IV := lett (upd o 6 t1p30) fun (o_6 : IV) => if (o_6 6) ≤ 0 then (lett (sp_Mo_earliestOf p1 now) fun (y9 : Int32) => if p2 = (3 : Int32) then (lett (sp_Mo_resultsOf y9 now) fun (y11 : Int32) => (y11, o_6)) else (if p2 = (4 : Int32) then ((y9, o_6)) else (if p2 = (5 : Int32) then (lett (sp_Mo_latest y9 now) fun (y13 : Int32) => (y13, o_6)) else (lett (sp_Mo_ofResult y9 p2 now) fun (y15 : Int64) => (y15.toInt32, o_6))))) else (((0 : Int32), o_6))
def ok_Mo_manner_30 (o : IV) (p1 : Int32) (now : LV) (p2 : Int32)   (t1p30 : Int32) : Prop := lett (upd o 6 t1p30) fun (o_6 : IV) => (((o_6 6) ≤ 0 → (ok_Mo_earliestOf p1 now) ∧ lett (sp_Mo_earliestOf p1 now) fun (y9 : Int32) => ((p2 = (3 : Int32) → (ok_Mo_resultsOf y9 now) ∧ True) ∧ (¬ (p2 = (3 : Int32)) → ((p2 = (4 : Int32) → True) ∧ (¬ (p2 = (4 : Int32)) → ((p2 = (5 : Int32) → (ok_Mo_latest y9 now) ∧ True) ∧ (¬ (p2 = (5 : Int32)) → (ok_Mo_ofResult y9 p2) ∧ True))))))) ∧ (¬ ((o_6 6) ≤ 0) → True))
set_option maxRecDepth 100000 in
set_option maxHeartbeats 4000000 in
theorem k_Mo_manner_30 {p : Program} {l : Launch} {e : Env} {s : State} {m : MethodId} {args : Array Value} {below : List Frame} {meth : Method} {c : Code} {g : GX} {mo : Nat} {a : Nat → Nat} {ws0 : va_W} {o : IV} {now : LV} {dr : LV} {pa : LV} {sa : LV} {iS : IV} {bu : IV} {tq : IV} {rT : IV} {wT : IV} {wo : Nat → Option Nat} {sK : IV} {sA : IV} {sB : IV} {sE : IV} {oq : IV} {bS : IV} {bE : IV} {bL : IV} {rp : IV} {p1 : Int32} {p2 : Int32}  (C : Cx p s m args meth c (inW ws0) g "DecadeBridgeModel" b_Mo_manner (some .int) 4)  : HL_Mo_manner_30 p l e s m args below meth c g mo a ws0 o now dr pa sa iS bu tq rT wT wo sK sA sB sE oq bS bE bL rp p1 p2 (sp_Mo_manner_30 o p1 now p2 ) (ok_Mo_manner_30 o p1 now p2  ) := by
  intro t1p30 hok z hz H locs ls hP hD hS hl
  obtain ⟨hx, hb, hr, hml, hown, hlk, hts, hK, hZo, hZ⟩ := id C
  unfold sp_Mo_manner_30 at hz
  unfold ok_Mo_manner_30 at hok
  refine pfI C hP hD hS 0 6 fkMo rfl (by decide) rfl qf_Mo_107 rfl rfl rfl (Nat.le_of_ble_eq_true rfl) (ff := fun o => fMo a o) (sMo_6 _ _ _) d_Mo_manner_30 (fun o_6 eo_6 H locs hP hD hS => ?_)
  have hP : va_P g.1 vwCl (wMo g mo a o_6 now dr pa sa iS bu tq rT wT wo sK sA sB sE oq bS bE bL rp) H := hP
  have hD : va_D (inW ws0) (wMo g mo a o_6 now dr pa sa iS bu tq rT wT wo sK sA sB sE oq bS bE bL rp) := hD
  have hz := lett_z hz eo_6
  have hok := lett_o hok eo_6
  refine lv_aload_n hx hb d_Mo_manner_33 rfl (lv_at hl 0 rfl) ?_
  refine gf C hP 0 6 fkMo rfl (by decide) rfl qf_Mo_107 (gMo_6 _ _) d_Mo_manner_34 ?_
  refine lv_if_le (tgt := 42) hx hb d_Mo_manner_37 (by decide) (fun c7 => ?_) (fun c7 => ?_)
  · have hz := hz.trans (if_pos c7)
    have hok := hok.1 c7
    refine lv_aload_n hx hb d_Mo_manner_42 rfl (lv_at hl 0 rfl) ?_
    refine lv_iload_n hx hb d_Mo_manner_43 rfl (lv_at hl 1 rfl) ?_
    have hs8 := hok.1
    have hok := hok.2
    have hB : SubW g (inW ws0) s (wMo g mo a o_6 now dr pa sa iS bu tq rT wT wo sK sA sB sE oq bS bE bL rp) _ (List.range _) _ _ := (subF hP hD hS)
    refine goI0 hB (run_v C mf_Mo_earliestOf qm_Mo_446 (c_Mo_earliestOf l g mo a o_6 now dr pa sa iS bu tq rT wT wo sK sA sB sE oq bS bE bL rp p1 hs8) rfl rfl ⟨Nat.le_of_ble_eq_true rfl, Nat.le_of_ble_eq_true rfl⟩ ⟨Nat.le_of_ble_eq_true rfl, Nat.le_of_ble_eq_true rfl⟩ hB rfl rfl hl rfl rfl (Nat.le_of_ble_eq_true rfl) d_Mo_manner_44) (fun y9 ey9 H locs hP hS => ?_)
    have hz := lett_z hz ey9
    have hok := lett_o hok ey9
    refine lv_istore_n (lv' := [(3, .int y9), (0, .ref mo), (1, .int p1), (2, .int p2)]) hx hb d_Mo_manner_47 rfl hl (by decide) rfl (fun ls hl => ?_)
    refine lv_iload_n hx hb d_Mo_manner_48 rfl (lv_at hl 3 rfl) ?_
    by_cases c16_0 : p2 = (3 : Int32)
    · have hz := hz.trans (if_pos c16_0)
      have hok := hok.1 c16_0
      refine lv_tableIn (x := p2) (off := 27) (tgt := 76) hx hb d_Mo_manner_49 (by rw [c16_0]; decide) (by rw [c16_0]; decide) (by rw [c16_0]; rfl) (by decide) ?_
      refine lv_aload_n hx hb d_Mo_manner_76 rfl (lv_at hl 1 rfl) ?_
      refine lv_iload_n hx hb d_Mo_manner_77 rfl (lv_at hl 0 rfl) ?_
      have hs10 := hok.1
      have hok := hok.2
      have hB : SubW g (inW ws0) s (wMo g mo a o_6 now dr pa sa iS bu tq rT wT wo sK sA sB sE oq bS bE bL rp) _ (List.range _) _ _ := (subF hP hD hS)
      refine goI0 hB (run_v C mf_Mo_resultsOf qm_Mo_449 (c_Mo_resultsOf l g mo a o_6 now dr pa sa iS bu tq rT wT wo sK sA sB sE oq bS bE bL rp y9 hs10) rfl rfl ⟨Nat.le_of_ble_eq_true rfl, Nat.le_of_ble_eq_true rfl⟩ ⟨Nat.le_of_ble_eq_true rfl, Nat.le_of_ble_eq_true rfl⟩ hB rfl rfl hl rfl rfl (Nat.le_of_ble_eq_true rfl) d_Mo_manner_78) (fun y11 ey11 H locs hP hS => ?_)
      have hz := lett_z hz ey11
      exact endI1 C hz hP hS d_Mo_manner_81
    have hz := hz.trans (if_neg c16_0)
    have hok := hok.2 c16_0
    by_cases c16_1 : p2 = (4 : Int32)
    · have hz := hz.trans (if_pos c16_1)
      have hok := hok.1 c16_1
      refine lv_tableIn (x := p2) (off := 33) (tgt := 82) hx hb d_Mo_manner_49 (by rw [c16_1]; decide) (by rw [c16_1]; decide) (by rw [c16_1]; rfl) (by decide) ?_
      refine lv_iload_n hx hb d_Mo_manner_82 rfl (lv_at hl 0 rfl) ?_
      exact endI1 C hz hP hS d_Mo_manner_83
    have hz := hz.trans (if_neg c16_1)
    have hok := hok.2 c16_1
    by_cases c16_2 : p2 = (5 : Int32)
    · have hz := hz.trans (if_pos c16_2)
      have hok := hok.1 c16_2
      refine lv_tableIn (x := p2) (off := 35) (tgt := 84) hx hb d_Mo_manner_49 (by rw [c16_2]; decide) (by rw [c16_2]; decide) (by rw [c16_2]; rfl) (by decide) ?_
      refine lv_aload_n hx hb d_Mo_manner_84 rfl (lv_at hl 1 rfl) ?_
      refine lv_iload_n hx hb d_Mo_manner_85 rfl (lv_at hl 0 rfl) ?_
      have hs12 := hok.1
      have hok := hok.2
      have hB : SubW g (inW ws0) s (wMo g mo a o_6 now dr pa sa iS bu tq rT wT wo sK sA sB sE oq bS bE bL rp) _ (List.range _) _ _ := (subF hP hD hS)
      refine goI0 hB (run_v C mf_Mo_latest qm_Mo_452 (c_Mo_latest l g mo a o_6 now dr pa sa iS bu tq rT wT wo sK sA sB sE oq bS bE bL rp y9 hs12) rfl rfl ⟨Nat.le_of_ble_eq_true rfl, Nat.le_of_ble_eq_true rfl⟩ ⟨Nat.le_of_ble_eq_true rfl, Nat.le_of_ble_eq_true rfl⟩ hB rfl rfl hl rfl rfl (Nat.le_of_ble_eq_true rfl) d_Mo_manner_86) (fun y13 ey13 H locs hP hS => ?_)
      have hz := lett_z hz ey13
      exact endI1 C hz hP hS d_Mo_manner_89
    have hz := hz.trans (if_neg c16_2)
    have hok := hok.2 c16_2
    refine lv_tableOut (x := p2) (tgt := 90) hx hb d_Mo_manner_49 (tswL (x := p2) (lo := 3) (hi := 5) 3 [(3 : Int32), (4 : Int32), (5 : Int32)] (by decide) (by decide) (List.forall_mem_cons.mpr ⟨c16_0, List.forall_mem_cons.mpr ⟨c16_1, List.forall_mem_cons.mpr ⟨c16_2, fun _ h => absurd h List.not_mem_nil⟩⟩⟩)) (by decide) ?_
    refine lv_aload_n hx hb d_Mo_manner_90 rfl (lv_at hl 1 rfl) ?_
    refine lv_iload_n hx hb d_Mo_manner_91 rfl (lv_at hl 0 rfl) ?_
    refine lv_iload_n hx hb d_Mo_manner_92 rfl (lv_at hl 3 rfl) ?_
    have hs14 := hok.1
    have hok := hok.2
    have hB : SubW g (inW ws0) s (wMo g mo a o_6 now dr pa sa iS bu tq rT wT wo sK sA sB sE oq bS bE bL rp) _ (List.range _) _ _ := (subF hP hD hS)
    refine goL0 hB (run_v C mf_Mo_ofResult qm_Mo_406 (c_Mo_ofResult l g mo a o_6 now dr pa sa iS bu tq rT wT wo sK sA sB sE oq bS bE bL rp y9 p2 hs14) rfl rfl ⟨Nat.le_of_ble_eq_true rfl, Nat.le_of_ble_eq_true rfl⟩ ⟨Nat.le_of_ble_eq_true rfl, Nat.le_of_ble_eq_true rfl⟩ hB rfl rfl hl rfl rfl (Nat.le_of_ble_eq_true rfl) d_Mo_manner_93) (fun y15 ey15 H locs hP hS => ?_)
    have hz := lett_z hz ey15
    refine lv_l2i hx hb d_Mo_manner_96 rfl ?_
    exact endI1 C hz hP hS d_Mo_manner_97
  · have hz := hz.trans (if_neg c7)
    refine lv_iconst (v := 0) hx hb d_Mo_manner_40 (by decide) ?_
    exact endI1 C hz hP hS d_Mo_manner_41
noncomputable def sp_Mo_manner (p1 : Int32) (p2 : Int32) (o : IV) (now : LV) : Int32 × IV := lett (sp_Mo_isManner p1 now) fun (y2 : Int32) => if y2 = 0 then (sp_Mo_manner_30 o p1 now p2 (1 : Int32)) else (lett (sp_Mo_in p2.toInt64 (0 : Int64) (5 : Int64)) fun (y4 : Int32) => if y4 = 0 then (sp_Mo_manner_30 o p1 now p2 (2 : Int32)) else (sp_Mo_manner_30 o p1 now p2 (0 : Int32)))
def ok_Mo_manner (p1 : Int32) (p2 : Int32) (o : IV) (now : LV) : Prop := (ok_Mo_isManner p1 now) ∧ lett (sp_Mo_isManner p1 now) fun (y2 : Int32) => ((y2 = 0 → ok_Mo_manner_30 o p1 now p2 (1 : Int32)) ∧ (¬ (y2 = 0) → lett (sp_Mo_in p2.toInt64 (0 : Int64) (5 : Int64)) fun (y4 : Int32) => ((y4 = 0 → ok_Mo_manner_30 o p1 now p2 (2 : Int32)) ∧ (¬ (y4 = 0) → ok_Mo_manner_30 o p1 now p2 (0 : Int32)))))
set_option maxRecDepth 100000 in
set_option maxHeartbeats 4000000 in
theorem c_Mo_manner (l : Launch) (g : GX) (mo : Nat) (a : Nat → Nat) (o : IV) (now : LV) (dr : LV) (pa : LV) (sa : LV) (iS : IV) (bu : IV) (tq : IV) (rT : IV) (wT : IV) (wo : Nat → Option Nat) (sK : IV) (sA : IV) (sB : IV) (sE : IV) (oq : IV) (bS : IV) (bE : IV) (bL : IV) (rp : IV) (p1 : Int32) (p2 : Int32) (hok : ok_Mo_manner p1 p2 o now) : Met l y_Mo_manner (wsY y_Mo_manner b_Mo_manner 4 (some .int)) rm_Mo_manner (CP g [.ref mo, .int p1, .int p2] (wMo g mo a o now dr pa sa iS bu tq rT wT wo sK sA sB sE oq bS bE bL rp)) (CI g (wMo g mo a o now dr pa sa iS bu tq rT wT wo sK sA sB sE oq bS bE bL rp) (fun u : IV => wMo g mo a u now dr pa sa iS bu tq rT wT wo sK sA sB sE oq bS bE bL rp) (sp_Mo_manner p1 p2 o now)) 0 0 (inW (wMo g mo a o now dr pa sa iS bu tq rT wT wo sK sA sB sE oq bS bE bL rp)) := by
  refine Met.ofW (cc := b_Mo_manner) (maxL := 4) (ret := (some .int)) pn_Mo rfl ?_
  intro p e s m args below meth c s₁ B hml hv
  obtain ⟨rfl, C, hP, hD, hS⟩ := enter "DecadeBridgeModel" rfl B hml hv
  obtain ⟨hx, hb, hr, hml, hown, hlk, hts, hK, hZo, hZ⟩ := id C
  refine entryW (lv := [(0, .ref mo), (1, .int p1), (2, .int p2)]) rfl (Nat.le_of_ble_eq_true rfl) (fun ls hl => ?_)
  obtain ⟨z, hz⟩ : ∃ z, z = sp_Mo_manner p1 p2 o now := ⟨_, rfl⟩
  rw [← hz]
  unfold sp_Mo_manner at hz
  unfold ok_Mo_manner at hok
  refine lv_aload_n hx hb d_Mo_manner_0 rfl (lv_at hl 0 rfl) ?_
  refine lv_aload_n hx hb d_Mo_manner_1 rfl (lv_at hl 0 rfl) ?_
  refine lv_iload_n hx hb d_Mo_manner_2 rfl (lv_at hl 1 rfl) ?_
  have hs1 := hok.1
  have hok := hok.2
  have hB : SubW g (inW (wMo g mo a o now dr pa sa iS bu tq rT wT wo sK sA sB sE oq bS bE bL rp)) s (wMo g mo a o now dr pa sa iS bu tq rT wT wo sK sA sB sE oq bS bE bL rp) _ (List.range _) _ _ := (subF hP hD hS)
  refine goI0 hB (run_v C mf_Mo_isManner qm_Mo_441 (c_Mo_isManner l g mo a o now dr pa sa iS bu tq rT wT wo sK sA sB sE oq bS bE bL rp p1 hs1) rfl rfl ⟨Nat.le_of_ble_eq_true rfl, Nat.le_of_ble_eq_true rfl⟩ ⟨Nat.le_of_ble_eq_true rfl, Nat.le_of_ble_eq_true rfl⟩ hB rfl rfl hl rfl rfl (Nat.le_of_ble_eq_true rfl) d_Mo_manner_3) (fun y2 ey2 H locs hP hS => ?_)
  have hz := lett_z hz ey2
  have hok := lett_o hok ey2
  refine lv_if_ne (tgt := 13) hx hb d_Mo_manner_6 (by decide) (fun c3 => ?_) (fun c3 => ?_)
  · have hz := hz.trans (if_neg c3)
    have hok := hok.2 c3
    refine lv_iload_n hx hb d_Mo_manner_13 rfl (lv_at hl 2 rfl) ?_
    refine lv_i2l hx hb d_Mo_manner_14 rfl ?_
    refine lv_lconst (v := 0) hx hb d_Mo_manner_15 (by decide) ?_
    refine lv_ldc2 hx hb hown (hts _ qk_Mo_444) d_Mo_manner_16 ?_
    have hB : SubW g (inW (wMo g mo a o now dr pa sa iS bu tq rT wT wo sK sA sB sE oq bS bE bL rp)) s (wMo g mo a o now dr pa sa iS bu tq rT wT wo sK sA sB sE oq bS bE bL rp) _ (List.range _) _ _ := (subF hP hD hS)
    refine goI0 hB (run_s C mf_Mo_in qm_Mo_118 (c_Mo_in l g mo a o now dr pa sa iS bu tq rT wT wo sK sA sB sE oq bS bE bL rp p2.toInt64 (0 : Int64) (5 : Int64)) rfl rfl ⟨Nat.le_of_ble_eq_true rfl, Nat.le_of_ble_eq_true rfl⟩ ⟨Nat.le_of_ble_eq_true rfl, Nat.le_of_ble_eq_true rfl⟩ hB hl rfl rfl (Nat.le_of_ble_eq_true rfl) d_Mo_manner_19) (fun y4 ey4 H locs hP hS => ?_)
    have hz := lett_z hz ey4
    have hok := lett_o hok ey4
    refine lv_if_eq (tgt := 29) hx hb d_Mo_manner_22 (by decide) (fun c5 => ?_) (fun c5 => ?_)
    · have hz := hz.trans (if_pos c5)
      have hok := hok.1 c5
      refine lv_iconst (v := 2) hx hb d_Mo_manner_29 (by decide) ?_
      exact k_Mo_manner_30 C (2 : Int32) hok _ hz _ _ ls hP hD hS hl
    · have hz := hz.trans (if_neg c5)
      have hok := hok.2 c5
      refine lv_iconst (v := 0) hx hb d_Mo_manner_25 (by decide) ?_
      refine lv_goto (tgt := 30) hx hb d_Mo_manner_26 (by decide) ?_
      exact k_Mo_manner_30 C (0 : Int32) hok _ hz _ _ ls hP hD hS hl
  · have hz := hz.trans (if_pos c3)
    have hok := hok.1 c3
    refine lv_iconst (v := 1) hx hb d_Mo_manner_9 (by decide) ?_
    refine lv_goto (tgt := 30) hx hb d_Mo_manner_10 (by decide) ?_
    exact k_Mo_manner_30 C (1 : Int32) hok _ hz _ _ ls hP hD hS hl
abbrev rm_Mo_spreadOf : Room := { frames := 6, cells := 0, slots := 0, locals := 130 }
def HL_Mo_spreadOf_14 (p : Program) (l : Launch) (e : Env) (s : State) (m : MethodId) (args : Array Value) (below : List Frame) (meth : Method) (c : Code) (g : GX) (mo : Nat) (a : Nat → Nat) (ws0 : va_W) (o : IV) (now : LV) (dr : LV) (pa : LV) (sa : LV) (iS : IV) (bu : IV) (tq : IV) (rT : IV) (wT : IV) (wo : Nat → Option Nat) (sK : IV) (sA : IV) (sB : IV) (sE : IV) (oq : IV) (bS : IV) (bE : IV) (bL : IV) (rp : IV) (p1 : Int32) (sp : Int32 → (Int64 × IV)) (ok : Int32 → Prop) : Prop := ∀ (t1p14 : Int32), ok t1p14 → ∀ z : (Int64 × IV), z = sp t1p14 → ∀ (H : Heap) (locs : List Loc) (ls : Array Slot), va_P g.1 vwCl (wMo g mo a o now dr pa sa iS bu tq rT wT wo sK sA sB sE oq bS bE bL rp) H → va_D (inW ws0) (wMo g mo a o now dr pa sa iS bu tq rT wT wo sK sA sB sE oq bS bE bL rp) → va_S (inW ws0) s.heap H locs → lv_has ls 2 [(0, .ref mo), (1, .int p1)] → W p l e rm_Mo_spreadOf s m args below meth c H locs 0 0 (MQ below (CL g ws0 (fun u : IV => wMo g mo a u now dr pa sa iS bu tq rT wT wo sK sA sB sE oq bS bE bL rp) z) args s 0 0 (inW ws0)) (F0 m 14 ls [.int t1p14, .ref mo])
noncomputable def sp_Mo_spreadOf_14 (o : IV) (p1 : Int32) (now : LV)  (t1p14 : Int32) : Int64 × IV := lett (upd o 6 t1p14) fun (o_4 : IV) => if (o_4 6) ≤ 0 then (lett (sp_Mo_earliestOf p1 now) fun (y7 : Int32) => lett (sp_Mo_spreadFrom y7 now) fun (y9 : Int64) => (y9, o_4)) else (((0 : Int64), o_4))
def ok_Mo_spreadOf_14 (o : IV) (p1 : Int32) (now : LV)   (t1p14 : Int32) : Prop := lett (upd o 6 t1p14) fun (o_4 : IV) => (((o_4 6) ≤ 0 → (ok_Mo_earliestOf p1 now) ∧ lett (sp_Mo_earliestOf p1 now) fun (y7 : Int32) => (ok_Mo_spreadFrom y7 now) ∧ True) ∧ (¬ ((o_4 6) ≤ 0) → True))
set_option maxRecDepth 100000 in
set_option maxHeartbeats 4000000 in
theorem k_Mo_spreadOf_14 {p : Program} {l : Launch} {e : Env} {s : State} {m : MethodId} {args : Array Value} {below : List Frame} {meth : Method} {c : Code} {g : GX} {mo : Nat} {a : Nat → Nat} {ws0 : va_W} {o : IV} {now : LV} {dr : LV} {pa : LV} {sa : LV} {iS : IV} {bu : IV} {tq : IV} {rT : IV} {wT : IV} {wo : Nat → Option Nat} {sK : IV} {sA : IV} {sB : IV} {sE : IV} {oq : IV} {bS : IV} {bE : IV} {bL : IV} {rp : IV} {p1 : Int32}  (C : Cx p s m args meth c (inW ws0) g "DecadeBridgeModel" b_Mo_spreadOf (some .long) 2)  : HL_Mo_spreadOf_14 p l e s m args below meth c g mo a ws0 o now dr pa sa iS bu tq rT wT wo sK sA sB sE oq bS bE bL rp p1 (sp_Mo_spreadOf_14 o p1 now ) (ok_Mo_spreadOf_14 o p1 now  ) := by
  intro t1p14 hok z hz H locs ls hP hD hS hl
  obtain ⟨hx, hb, hr, hml, hown, hlk, hts, hK, hZo, hZ⟩ := id C
  unfold sp_Mo_spreadOf_14 at hz
  unfold ok_Mo_spreadOf_14 at hok
  refine pfI C hP hD hS 0 6 fkMo rfl (by decide) rfl qf_Mo_107 rfl rfl rfl (Nat.le_of_ble_eq_true rfl) (ff := fun o => fMo a o) (sMo_6 _ _ _) d_Mo_spreadOf_14 (fun o_4 eo_4 H locs hP hD hS => ?_)
  have hP : va_P g.1 vwCl (wMo g mo a o_4 now dr pa sa iS bu tq rT wT wo sK sA sB sE oq bS bE bL rp) H := hP
  have hD : va_D (inW ws0) (wMo g mo a o_4 now dr pa sa iS bu tq rT wT wo sK sA sB sE oq bS bE bL rp) := hD
  have hz := lett_z hz eo_4
  have hok := lett_o hok eo_4
  refine lv_aload_n hx hb d_Mo_spreadOf_17 rfl (lv_at hl 0 rfl) ?_
  refine gf C hP 0 6 fkMo rfl (by decide) rfl qf_Mo_107 (gMo_6 _ _) d_Mo_spreadOf_18 ?_
  refine lv_if_le (tgt := 28) hx hb d_Mo_spreadOf_21 (by decide) (fun c5 => ?_) (fun c5 => ?_)
  · have hz := hz.trans (if_pos c5)
    have hok := hok.1 c5
    refine lv_aload_n hx hb d_Mo_spreadOf_28 rfl (lv_at hl 0 rfl) ?_
    refine lv_aload_n hx hb d_Mo_spreadOf_29 rfl (lv_at hl 0 rfl) ?_
    refine lv_iload_n hx hb d_Mo_spreadOf_30 rfl (lv_at hl 1 rfl) ?_
    have hs6 := hok.1
    have hok := hok.2
    have hB : SubW g (inW ws0) s (wMo g mo a o_4 now dr pa sa iS bu tq rT wT wo sK sA sB sE oq bS bE bL rp) _ (List.range _) _ _ := (subF hP hD hS)
    refine goI0 hB (run_v C mf_Mo_earliestOf qm_Mo_446 (c_Mo_earliestOf l g mo a o_4 now dr pa sa iS bu tq rT wT wo sK sA sB sE oq bS bE bL rp p1 hs6) rfl rfl ⟨Nat.le_of_ble_eq_true rfl, Nat.le_of_ble_eq_true rfl⟩ ⟨Nat.le_of_ble_eq_true rfl, Nat.le_of_ble_eq_true rfl⟩ hB rfl rfl hl rfl rfl (Nat.le_of_ble_eq_true rfl) d_Mo_spreadOf_31) (fun y7 ey7 H locs hP hS => ?_)
    have hz := lett_z hz ey7
    have hok := lett_o hok ey7
    have hs8 := hok.1
    have hok := hok.2
    have hB : SubW g (inW ws0) s (wMo g mo a o_4 now dr pa sa iS bu tq rT wT wo sK sA sB sE oq bS bE bL rp) _ (List.range _) _ _ := (subF hP hD hS)
    refine goL0 hB (run_v C mf_Mo_spreadFrom qm_Mo_455 (c_Mo_spreadFrom l g mo a o_4 now dr pa sa iS bu tq rT wT wo sK sA sB sE oq bS bE bL rp y7 hs8) rfl rfl ⟨Nat.le_of_ble_eq_true rfl, Nat.le_of_ble_eq_true rfl⟩ ⟨Nat.le_of_ble_eq_true rfl, Nat.le_of_ble_eq_true rfl⟩ hB rfl rfl hl rfl rfl (Nat.le_of_ble_eq_true rfl) d_Mo_spreadOf_34) (fun y9 ey9 H locs hP hS => ?_)
    have hz := lett_z hz ey9
    exact endL1 C hz hP hS d_Mo_spreadOf_37
  · have hz := hz.trans (if_neg c5)
    refine lv_lconst (v := 0) hx hb d_Mo_spreadOf_24 (by decide) ?_
    refine lv_goto (tgt := 37) hx hb d_Mo_spreadOf_25 (by decide) ?_
    exact endL1 C hz hP hS d_Mo_spreadOf_37
noncomputable def sp_Mo_spreadOf (p1 : Int32) (o : IV) (now : LV) : Int64 × IV := lett (sp_Mo_isManner p1 now) fun (y2 : Int32) => if y2 = 0 then (sp_Mo_spreadOf_14 o p1 now (1 : Int32)) else (sp_Mo_spreadOf_14 o p1 now (0 : Int32))
def ok_Mo_spreadOf (p1 : Int32) (o : IV) (now : LV) : Prop := (ok_Mo_isManner p1 now) ∧ lett (sp_Mo_isManner p1 now) fun (y2 : Int32) => ((y2 = 0 → ok_Mo_spreadOf_14 o p1 now (1 : Int32)) ∧ (¬ (y2 = 0) → ok_Mo_spreadOf_14 o p1 now (0 : Int32)))
set_option maxRecDepth 100000 in
set_option maxHeartbeats 4000000 in
theorem c_Mo_spreadOf (l : Launch) (g : GX) (mo : Nat) (a : Nat → Nat) (o : IV) (now : LV) (dr : LV) (pa : LV) (sa : LV) (iS : IV) (bu : IV) (tq : IV) (rT : IV) (wT : IV) (wo : Nat → Option Nat) (sK : IV) (sA : IV) (sB : IV) (sE : IV) (oq : IV) (bS : IV) (bE : IV) (bL : IV) (rp : IV) (p1 : Int32) (hok : ok_Mo_spreadOf p1 o now) : Met l y_Mo_spreadOf (wsY y_Mo_spreadOf b_Mo_spreadOf 2 (some .long)) rm_Mo_spreadOf (CP g [.ref mo, .int p1] (wMo g mo a o now dr pa sa iS bu tq rT wT wo sK sA sB sE oq bS bE bL rp)) (CL g (wMo g mo a o now dr pa sa iS bu tq rT wT wo sK sA sB sE oq bS bE bL rp) (fun u : IV => wMo g mo a u now dr pa sa iS bu tq rT wT wo sK sA sB sE oq bS bE bL rp) (sp_Mo_spreadOf p1 o now)) 0 0 (inW (wMo g mo a o now dr pa sa iS bu tq rT wT wo sK sA sB sE oq bS bE bL rp)) := by
  refine Met.ofW (cc := b_Mo_spreadOf) (maxL := 2) (ret := (some .long)) pn_Mo rfl ?_
  intro p e s m args below meth c s₁ B hml hv
  obtain ⟨rfl, C, hP, hD, hS⟩ := enter "DecadeBridgeModel" rfl B hml hv
  obtain ⟨hx, hb, hr, hml, hown, hlk, hts, hK, hZo, hZ⟩ := id C
  refine entryW (lv := [(0, .ref mo), (1, .int p1)]) rfl (Nat.le_of_ble_eq_true rfl) (fun ls hl => ?_)
  obtain ⟨z, hz⟩ : ∃ z, z = sp_Mo_spreadOf p1 o now := ⟨_, rfl⟩
  rw [← hz]
  unfold sp_Mo_spreadOf at hz
  unfold ok_Mo_spreadOf at hok
  refine lv_aload_n hx hb d_Mo_spreadOf_0 rfl (lv_at hl 0 rfl) ?_
  refine lv_aload_n hx hb d_Mo_spreadOf_1 rfl (lv_at hl 0 rfl) ?_
  refine lv_iload_n hx hb d_Mo_spreadOf_2 rfl (lv_at hl 1 rfl) ?_
  have hs1 := hok.1
  have hok := hok.2
  have hB : SubW g (inW (wMo g mo a o now dr pa sa iS bu tq rT wT wo sK sA sB sE oq bS bE bL rp)) s (wMo g mo a o now dr pa sa iS bu tq rT wT wo sK sA sB sE oq bS bE bL rp) _ (List.range _) _ _ := (subF hP hD hS)
  refine goI0 hB (run_v C mf_Mo_isManner qm_Mo_441 (c_Mo_isManner l g mo a o now dr pa sa iS bu tq rT wT wo sK sA sB sE oq bS bE bL rp p1 hs1) rfl rfl ⟨Nat.le_of_ble_eq_true rfl, Nat.le_of_ble_eq_true rfl⟩ ⟨Nat.le_of_ble_eq_true rfl, Nat.le_of_ble_eq_true rfl⟩ hB rfl rfl hl rfl rfl (Nat.le_of_ble_eq_true rfl) d_Mo_spreadOf_3) (fun y2 ey2 H locs hP hS => ?_)
  have hz := lett_z hz ey2
  have hok := lett_o hok ey2
  refine lv_if_eq (tgt := 13) hx hb d_Mo_spreadOf_6 (by decide) (fun c3 => ?_) (fun c3 => ?_)
  · have hz := hz.trans (if_pos c3)
    have hok := hok.1 c3
    refine lv_iconst (v := 1) hx hb d_Mo_spreadOf_13 (by decide) ?_
    exact k_Mo_spreadOf_14 C (1 : Int32) hok _ hz _ _ ls hP hD hS hl
  · have hz := hz.trans (if_neg c3)
    have hok := hok.2 c3
    refine lv_iconst (v := 0) hx hb d_Mo_spreadOf_9 (by decide) ?_
    refine lv_goto (tgt := 14) hx hb d_Mo_spreadOf_10 (by decide) ?_
    exact k_Mo_spreadOf_14 C (0 : Int32) hok _ hz _ _ ls hP hD hS hl
abbrev rm_Mo_steadiest : Room := { frames := 5, cells := 0, slots := 0, locals := 110 }
def HL_Mo_steadiest_9 (p : Program) (l : Launch) (e : Env) (s : State) (m : MethodId) (args : Array Value) (below : List Frame) (meth : Method) (c : Code) (g : GX) (mo : Nat) (a : Nat → Nat) (ws0 : va_W) (o_1 : IV) (now : LV) (dr : LV) (pa : LV) (sa : LV) (iS : IV) (bu : IV) (tq : IV) (rT : IV) (wT : IV) (wo : Nat → Option Nat) (sK : IV) (sA : IV) (sB : IV) (sE : IV) (oq : IV) (bS : IV) (bE : IV) (bL : IV) (rp : IV) (sp : Int32 → Int32 → (Int32 × IV)) (ok : Int32 → Int32 → Prop) : Prop := ∀ (x1p9 : Int32) (x2p9 : Int32), ok x1p9 x2p9 → ∀ z : (Int32 × IV), z = sp x1p9 x2p9 → ∀ (H : Heap) (locs : List Loc) (ls : Array Slot), va_P g.1 vwCl (wMo g mo a o_1 now dr pa sa iS bu tq rT wT wo sK sA sB sE oq bS bE bL rp) H → va_D (inW ws0) (wMo g mo a o_1 now dr pa sa iS bu tq rT wT wo sK sA sB sE oq bS bE bL rp) → va_S (inW ws0) s.heap H locs → lv_has ls 4 [(0, .ref mo), (1, .int x1p9), (2, .int x2p9)] → W p l e rm_Mo_steadiest s m args below meth c H locs 0 0 (MQ below (CI g ws0 (fun u : IV => wMo g mo a u now dr pa sa iS bu tq rT wT wo sK sA sB sE oq bS bE bL rp) z) args s 0 0 (inW ws0)) (F0 m 9 ls [])
def HL_Mo_steadiest_35 (p : Program) (l : Launch) (e : Env) (s : State) (m : MethodId) (args : Array Value) (below : List Frame) (meth : Method) (c : Code) (g : GX) (mo : Nat) (a : Nat → Nat) (ws0 : va_W) (o_1 : IV) (now : LV) (dr : LV) (pa : LV) (sa : LV) (iS : IV) (bu : IV) (tq : IV) (rT : IV) (wT : IV) (wo : Nat → Option Nat) (sK : IV) (sA : IV) (sB : IV) (sE : IV) (oq : IV) (bS : IV) (bE : IV) (bL : IV) (rp : IV) (x1p9 : Int32) (x2p9 : Int32) (sp : Int32 → (Int32 × IV)) (ok : Int32 → Prop) : Prop := ∀ (t0p35 : Int32), ok t0p35 → ∀ z : (Int32 × IV), z = sp t0p35 → ∀ (H : Heap) (locs : List Loc) (ls : Array Slot), va_P g.1 vwCl (wMo g mo a o_1 now dr pa sa iS bu tq rT wT wo sK sA sB sE oq bS bE bL rp) H → va_D (inW ws0) (wMo g mo a o_1 now dr pa sa iS bu tq rT wT wo sK sA sB sE oq bS bE bL rp) → va_S (inW ws0) s.heap H locs → lv_has ls 4 [(0, .ref mo), (1, .int x1p9), (2, .int x2p9)] → W p l e rm_Mo_steadiest s m args below meth c H locs 0 0 (MQ below (CI g ws0 (fun u : IV => wMo g mo a u now dr pa sa iS bu tq rT wT wo sK sA sB sE oq bS bE bL rp) z) args s 0 0 (inW ws0)) (F0 m 35 ls [.int t0p35])
def HL_Mo_steadiest_67 (p : Program) (l : Launch) (e : Env) (s : State) (m : MethodId) (args : Array Value) (below : List Frame) (meth : Method) (c : Code) (g : GX) (mo : Nat) (a : Nat → Nat) (ws0 : va_W) (o_1 : IV) (now : LV) (dr : LV) (pa : LV) (sa : LV) (iS : IV) (bu : IV) (tq : IV) (rT : IV) (wT : IV) (wo : Nat → Option Nat) (sK : IV) (sA : IV) (sB : IV) (sE : IV) (oq : IV) (bS : IV) (bE : IV) (bL : IV) (rp : IV) (x2p9 : Int32) (sp : (Int32 × IV)) (ok : Prop) : Prop := ∀ (_ : Unit), ok → ∀ z : (Int32 × IV), z = sp → ∀ (H : Heap) (locs : List Loc) (ls : Array Slot), va_P g.1 vwCl (wMo g mo a o_1 now dr pa sa iS bu tq rT wT wo sK sA sB sE oq bS bE bL rp) H → va_D (inW ws0) (wMo g mo a o_1 now dr pa sa iS bu tq rT wT wo sK sA sB sE oq bS bE bL rp) → va_S (inW ws0) s.heap H locs → lv_has ls 4 [(0, .ref mo), (2, .int x2p9)] → W p l e rm_Mo_steadiest s m args below meth c H locs 0 0 (MQ below (CI g ws0 (fun u : IV => wMo g mo a u now dr pa sa iS bu tq rT wT wo sK sA sB sE oq bS bE bL rp) z) args s 0 0 (inW ws0)) (F0 m 67 ls [])
def HL_Mo_steadiest_71 (p : Program) (l : Launch) (e : Env) (s : State) (m : MethodId) (args : Array Value) (below : List Frame) (meth : Method) (c : Code) (g : GX) (mo : Nat) (a : Nat → Nat) (ws0 : va_W) (o_1 : IV) (now : LV) (dr : LV) (pa : LV) (sa : LV) (iS : IV) (bu : IV) (tq : IV) (rT : IV) (wT : IV) (wo : Nat → Option Nat) (sK : IV) (sA : IV) (sB : IV) (sE : IV) (oq : IV) (bS : IV) (bE : IV) (bL : IV) (rp : IV) (x1p9 : Int32) (x2p9 : Int32) (sp : (Int32 × IV)) (ok : Prop) : Prop := ∀ (_ : Unit), ok → ∀ z : (Int32 × IV), z = sp → ∀ (H : Heap) (locs : List Loc) (ls : Array Slot), va_P g.1 vwCl (wMo g mo a o_1 now dr pa sa iS bu tq rT wT wo sK sA sB sE oq bS bE bL rp) H → va_D (inW ws0) (wMo g mo a o_1 now dr pa sa iS bu tq rT wT wo sK sA sB sE oq bS bE bL rp) → va_S (inW ws0) s.heap H locs → lv_has ls 4 [(0, .ref mo), (1, .int x1p9), (2, .int x2p9)] → W p l e rm_Mo_steadiest s m args below meth c H locs 0 0 (MQ below (CI g ws0 (fun u : IV => wMo g mo a u now dr pa sa iS bu tq rT wT wo sK sA sB sE oq bS bE bL rp) z) args s 0 0 (inW ws0)) (F0 m 71 ls [])
def HL_Mo_steadiest_72 (p : Program) (l : Launch) (e : Env) (s : State) (m : MethodId) (args : Array Value) (below : List Frame) (meth : Method) (c : Code) (g : GX) (mo : Nat) (a : Nat → Nat) (ws0 : va_W) (o_1 : IV) (now : LV) (dr : LV) (pa : LV) (sa : LV) (iS : IV) (bu : IV) (tq : IV) (rT : IV) (wT : IV) (wo : Nat → Option Nat) (sK : IV) (sA : IV) (sB : IV) (sE : IV) (oq : IV) (bS : IV) (bE : IV) (bL : IV) (rp : IV) (x2p9 : Int32) (sp : Int32 → (Int32 × IV)) (ok : Int32 → Prop) : Prop := ∀ (t0p72 : Int32), ok t0p72 → ∀ z : (Int32 × IV), z = sp t0p72 → ∀ (H : Heap) (locs : List Loc) (ls : Array Slot), va_P g.1 vwCl (wMo g mo a o_1 now dr pa sa iS bu tq rT wT wo sK sA sB sE oq bS bE bL rp) H → va_D (inW ws0) (wMo g mo a o_1 now dr pa sa iS bu tq rT wT wo sK sA sB sE oq bS bE bL rp) → va_S (inW ws0) s.heap H locs → lv_has ls 4 [(0, .ref mo), (2, .int x2p9)] → W p l e rm_Mo_steadiest s m args below meth c H locs 0 0 (MQ below (CI g ws0 (fun u : IV => wMo g mo a u now dr pa sa iS bu tq rT wT wo sK sA sB sE oq bS bE bL rp) z) args s 0 0 (inW ws0)) (F0 m 72 ls [.int t0p72])
noncomputable def sp_Mo_steadiest_72 (x2p9 : Int32) (r9 : Int32 → Int32 → (Int32 × IV)) (t0p72 : Int32) : Int32 × IV := lett (x2p9 + (1 : Int32)) fun (v21 : Int32) => r9 t0p72 v21
def ok_Mo_steadiest_72 (x2p9 : Int32) (r9 : Int32 → Int32 → (Int32 × IV)) (q9 : Int32 → Int32 → Prop) (t0p72 : Int32) : Prop := lett (x2p9 + (1 : Int32)) fun (v21 : Int32) => q9 t0p72 v21
set_option maxRecDepth 100000 in
set_option maxHeartbeats 4000000 in
theorem k_Mo_steadiest_72 {p : Program} {l : Launch} {e : Env} {s : State} {m : MethodId} {args : Array Value} {below : List Frame} {meth : Method} {c : Code} {g : GX} {mo : Nat} {a : Nat → Nat} {ws0 : va_W} {o_1 : IV} {now : LV} {dr : LV} {pa : LV} {sa : LV} {iS : IV} {bu : IV} {tq : IV} {rT : IV} {wT : IV} {wo : Nat → Option Nat} {sK : IV} {sA : IV} {sB : IV} {sE : IV} {oq : IV} {bS : IV} {bE : IV} {bL : IV} {rp : IV} {x2p9 : Int32} {r9 : Int32 → Int32 → (Int32 × IV)} {q9 : Int32 → Int32 → Prop} (C : Cx p s m args meth c (inW ws0) g "DecadeBridgeModel" b_Mo_steadiest (some .int) 4) (ih9 : HL_Mo_steadiest_9 p l e s m args below meth c g mo a ws0 o_1 now dr pa sa iS bu tq rT wT wo sK sA sB sE oq bS bE bL rp r9 q9) : HL_Mo_steadiest_72 p l e s m args below meth c g mo a ws0 o_1 now dr pa sa iS bu tq rT wT wo sK sA sB sE oq bS bE bL rp x2p9 (sp_Mo_steadiest_72 x2p9 r9) (ok_Mo_steadiest_72 x2p9 r9 q9) := by
  intro t0p72 hok z hz H locs ls hP hD hS hl
  obtain ⟨hx, hb, hr, hml, hown, hlk, hts, hK, hZo, hZ⟩ := id C
  unfold sp_Mo_steadiest_72 at hz
  unfold ok_Mo_steadiest_72 at hok
  refine lv_istore_n (lv' := [(1, .int t0p72), (0, .ref mo), (2, .int x2p9)]) hx hb d_Mo_steadiest_72 rfl hl (by decide) rfl (fun ls hl => ?_)
  obtain ⟨v21, ev21⟩ : ∃ y : Int32, y = x2p9 + (1 : Int32) := ⟨_, rfl⟩
  have hz := lett_z hz ev21
  have hok := lett_o hok ev21
  refine lv_iinc (v := v21) (lv' := [(2, .int v21), (1, .int t0p72), (0, .ref mo)]) hx hb d_Mo_steadiest_73 hl (k := 2) rfl (by rw [ev21]; rfl) (by decide) rfl (fun ls hl => ?_)
  refine lv_goto (tgt := 9) hx hb d_Mo_steadiest_76 (by decide) ?_
  exact ih9 t0p72 v21 hok _ hz _ _ ls hP hD hS (lv_sub hl [2, 1, 0] rfl)
noncomputable def sp_Mo_steadiest_71 (x2p9 : Int32) (x1p9 : Int32) (r9 : Int32 → Int32 → (Int32 × IV))  : Int32 × IV := sp_Mo_steadiest_72 x2p9 r9 x1p9
def ok_Mo_steadiest_71 (x2p9 : Int32) (x1p9 : Int32) (r9 : Int32 → Int32 → (Int32 × IV)) (q9 : Int32 → Int32 → Prop)  : Prop := ok_Mo_steadiest_72 x2p9 r9 q9 x1p9
set_option maxRecDepth 100000 in
set_option maxHeartbeats 4000000 in
theorem k_Mo_steadiest_71 {p : Program} {l : Launch} {e : Env} {s : State} {m : MethodId} {args : Array Value} {below : List Frame} {meth : Method} {c : Code} {g : GX} {mo : Nat} {a : Nat → Nat} {ws0 : va_W} {o_1 : IV} {now : LV} {dr : LV} {pa : LV} {sa : LV} {iS : IV} {bu : IV} {tq : IV} {rT : IV} {wT : IV} {wo : Nat → Option Nat} {sK : IV} {sA : IV} {sB : IV} {sE : IV} {oq : IV} {bS : IV} {bE : IV} {bL : IV} {rp : IV} {x1p9 : Int32} {x2p9 : Int32} {r9 : Int32 → Int32 → (Int32 × IV)} {q9 : Int32 → Int32 → Prop} (C : Cx p s m args meth c (inW ws0) g "DecadeBridgeModel" b_Mo_steadiest (some .int) 4) (ih9 : HL_Mo_steadiest_9 p l e s m args below meth c g mo a ws0 o_1 now dr pa sa iS bu tq rT wT wo sK sA sB sE oq bS bE bL rp r9 q9) : HL_Mo_steadiest_71 p l e s m args below meth c g mo a ws0 o_1 now dr pa sa iS bu tq rT wT wo sK sA sB sE oq bS bE bL rp x1p9 x2p9 (sp_Mo_steadiest_71 x2p9 x1p9 r9) (ok_Mo_steadiest_71 x2p9 x1p9 r9 q9) := by
  intro _ hok z hz H locs ls hP hD hS hl
  obtain ⟨hx, hb, hr, hml, hown, hlk, hts, hK, hZo, hZ⟩ := id C
  unfold sp_Mo_steadiest_71 at hz
  unfold ok_Mo_steadiest_71 at hok
  refine lv_iload_n hx hb d_Mo_steadiest_71 rfl (lv_at hl 1 rfl) ?_
  exact k_Mo_steadiest_72 C ih9 x1p9 hok _ hz _ _ ls hP hD hS (lv_sub hl [0, 2] rfl)
noncomputable def sp_Mo_steadiest_67 (x2p9 : Int32) (r9 : Int32 → Int32 → (Int32 × IV))  : Int32 × IV := sp_Mo_steadiest_72 x2p9 r9 x2p9
def ok_Mo_steadiest_67 (x2p9 : Int32) (r9 : Int32 → Int32 → (Int32 × IV)) (q9 : Int32 → Int32 → Prop)  : Prop := ok_Mo_steadiest_72 x2p9 r9 q9 x2p9
set_option maxRecDepth 100000 in
set_option maxHeartbeats 4000000 in
theorem k_Mo_steadiest_67 {p : Program} {l : Launch} {e : Env} {s : State} {m : MethodId} {args : Array Value} {below : List Frame} {meth : Method} {c : Code} {g : GX} {mo : Nat} {a : Nat → Nat} {ws0 : va_W} {o_1 : IV} {now : LV} {dr : LV} {pa : LV} {sa : LV} {iS : IV} {bu : IV} {tq : IV} {rT : IV} {wT : IV} {wo : Nat → Option Nat} {sK : IV} {sA : IV} {sB : IV} {sE : IV} {oq : IV} {bS : IV} {bE : IV} {bL : IV} {rp : IV} {x2p9 : Int32} {r9 : Int32 → Int32 → (Int32 × IV)} {q9 : Int32 → Int32 → Prop} (C : Cx p s m args meth c (inW ws0) g "DecadeBridgeModel" b_Mo_steadiest (some .int) 4) (ih9 : HL_Mo_steadiest_9 p l e s m args below meth c g mo a ws0 o_1 now dr pa sa iS bu tq rT wT wo sK sA sB sE oq bS bE bL rp r9 q9) : HL_Mo_steadiest_67 p l e s m args below meth c g mo a ws0 o_1 now dr pa sa iS bu tq rT wT wo sK sA sB sE oq bS bE bL rp x2p9 (sp_Mo_steadiest_67 x2p9 r9) (ok_Mo_steadiest_67 x2p9 r9 q9) := by
  intro _ hok z hz H locs ls hP hD hS hl
  obtain ⟨hx, hb, hr, hml, hown, hlk, hts, hK, hZo, hZ⟩ := id C
  unfold sp_Mo_steadiest_67 at hz
  unfold ok_Mo_steadiest_67 at hok
  refine lv_iload_n hx hb d_Mo_steadiest_67 rfl (lv_at hl 1 rfl) ?_
  refine lv_goto (tgt := 72) hx hb d_Mo_steadiest_68 (by decide) ?_
  exact k_Mo_steadiest_72 C ih9 x2p9 hok _ hz _ _ ls hP hD hS hl
noncomputable def sp_Mo_steadiest_35 (x2p9 : Int32) (x1p9 : Int32) (now : LV) (r9 : Int32 → Int32 → (Int32 × IV)) (t0p35 : Int32) : Int32 × IV := if t0p35 = 0 then (sp_Mo_steadiest_71 x2p9 x1p9 r9) else (if x1p9 = (-1 : Int32) then (sp_Mo_steadiest_67 x2p9 r9) else (lett (sp_Mo_earliestOf x2p9 now) fun (y13 : Int32) => lett (sp_Mo_spreadFrom y13 now) fun (y15 : Int64) => lett (sp_Mo_earliestOf x1p9 now) fun (y17 : Int32) => lett (sp_Mo_spreadFrom y17 now) fun (y19 : Int64) => if y19 ≤ y15 then (sp_Mo_steadiest_71 x2p9 x1p9 r9) else (sp_Mo_steadiest_67 x2p9 r9)))
def ok_Mo_steadiest_35 (x2p9 : Int32) (x1p9 : Int32) (now : LV) (r9 : Int32 → Int32 → (Int32 × IV)) (q9 : Int32 → Int32 → Prop) (t0p35 : Int32) : Prop := ((t0p35 = 0 → ok_Mo_steadiest_71 x2p9 x1p9 r9 q9) ∧ (¬ (t0p35 = 0) → ((x1p9 = (-1 : Int32) → ok_Mo_steadiest_67 x2p9 r9 q9) ∧ (¬ (x1p9 = (-1 : Int32)) → (ok_Mo_earliestOf x2p9 now) ∧ lett (sp_Mo_earliestOf x2p9 now) fun (y13 : Int32) => (ok_Mo_spreadFrom y13 now) ∧ lett (sp_Mo_spreadFrom y13 now) fun (y15 : Int64) => (ok_Mo_earliestOf x1p9 now) ∧ lett (sp_Mo_earliestOf x1p9 now) fun (y17 : Int32) => (ok_Mo_spreadFrom y17 now) ∧ lett (sp_Mo_spreadFrom y17 now) fun (y19 : Int64) => ((y19 ≤ y15 → ok_Mo_steadiest_71 x2p9 x1p9 r9 q9) ∧ (¬ (y19 ≤ y15) → ok_Mo_steadiest_67 x2p9 r9 q9))))))
set_option maxRecDepth 100000 in
set_option maxHeartbeats 4000000 in
theorem k_Mo_steadiest_35 {p : Program} {l : Launch} {e : Env} {s : State} {m : MethodId} {args : Array Value} {below : List Frame} {meth : Method} {c : Code} {g : GX} {mo : Nat} {a : Nat → Nat} {ws0 : va_W} {o_1 : IV} {now : LV} {dr : LV} {pa : LV} {sa : LV} {iS : IV} {bu : IV} {tq : IV} {rT : IV} {wT : IV} {wo : Nat → Option Nat} {sK : IV} {sA : IV} {sB : IV} {sE : IV} {oq : IV} {bS : IV} {bE : IV} {bL : IV} {rp : IV} {x1p9 : Int32} {x2p9 : Int32} {r9 : Int32 → Int32 → (Int32 × IV)} {q9 : Int32 → Int32 → Prop} (C : Cx p s m args meth c (inW ws0) g "DecadeBridgeModel" b_Mo_steadiest (some .int) 4) (ih9 : HL_Mo_steadiest_9 p l e s m args below meth c g mo a ws0 o_1 now dr pa sa iS bu tq rT wT wo sK sA sB sE oq bS bE bL rp r9 q9) : HL_Mo_steadiest_35 p l e s m args below meth c g mo a ws0 o_1 now dr pa sa iS bu tq rT wT wo sK sA sB sE oq bS bE bL rp x1p9 x2p9 (sp_Mo_steadiest_35 x2p9 x1p9 now r9) (ok_Mo_steadiest_35 x2p9 x1p9 now r9 q9) := by
  intro t0p35 hok z hz H locs ls hP hD hS hl
  obtain ⟨hx, hb, hr, hml, hown, hlk, hts, hK, hZo, hZ⟩ := id C
  unfold sp_Mo_steadiest_35 at hz
  unfold ok_Mo_steadiest_35 at hok
  refine lv_istore_n (lv' := [(3, .int t0p35), (0, .ref mo), (1, .int x1p9), (2, .int x2p9)]) hx hb d_Mo_steadiest_35 rfl hl (by decide) rfl (fun ls hl => ?_)
  refine lv_iload_n hx hb d_Mo_steadiest_36 rfl (lv_at hl 0 rfl) ?_
  refine lv_if_eq (tgt := 71) hx hb d_Mo_steadiest_37 (by decide) (fun c10 => ?_) (fun c10 => ?_)
  · have hz := hz.trans (if_pos c10)
    have hok := hok.1 c10
    exact k_Mo_steadiest_71 C ih9 () hok _ hz _ _ ls hP hD hS (lv_sub hl [1, 2, 3] rfl)
  · have hz := hz.trans (if_neg c10)
    have hok := hok.2 c10
    refine lv_iload_n hx hb d_Mo_steadiest_40 rfl (lv_at hl 2 rfl) ?_
    refine lv_iconst (v := -1) hx hb d_Mo_steadiest_41 (by decide) ?_
    refine lv_icmp_eq (tgt := 67) hx hb d_Mo_steadiest_42 (by decide) (fun c11 => ?_) (fun c11 => ?_)
    · have hz := hz.trans (if_pos c11)
      have hok := hok.1 c11
      exact k_Mo_steadiest_67 C ih9 () hok _ hz _ _ ls hP hD hS (lv_sub hl [1, 3] rfl)
    · have hz := hz.trans (if_neg c11)
      have hok := hok.2 c11
      refine lv_aload_n hx hb d_Mo_steadiest_45 rfl (lv_at hl 1 rfl) ?_
      refine lv_aload_n hx hb d_Mo_steadiest_46 rfl (lv_at hl 1 rfl) ?_
      refine lv_iload_n hx hb d_Mo_steadiest_47 rfl (lv_at hl 3 rfl) ?_
      have hs12 := hok.1
      have hok := hok.2
      have hB : SubW g (inW ws0) s (wMo g mo a o_1 now dr pa sa iS bu tq rT wT wo sK sA sB sE oq bS bE bL rp) _ (List.range _) _ _ := (subF hP hD hS)
      refine goI0 hB (run_v C mf_Mo_earliestOf qm_Mo_446 (c_Mo_earliestOf l g mo a o_1 now dr pa sa iS bu tq rT wT wo sK sA sB sE oq bS bE bL rp x2p9 hs12) rfl rfl ⟨Nat.le_of_ble_eq_true rfl, Nat.le_of_ble_eq_true rfl⟩ ⟨Nat.le_of_ble_eq_true rfl, Nat.le_of_ble_eq_true rfl⟩ hB rfl rfl hl rfl rfl (Nat.le_of_ble_eq_true rfl) d_Mo_steadiest_48) (fun y13 ey13 H locs hP hS => ?_)
      have hz := lett_z hz ey13
      have hok := lett_o hok ey13
      have hs14 := hok.1
      have hok := hok.2
      have hB : SubW g (inW ws0) s (wMo g mo a o_1 now dr pa sa iS bu tq rT wT wo sK sA sB sE oq bS bE bL rp) _ (List.range _) _ _ := (subF hP hD hS)
      refine goL0 hB (run_v C mf_Mo_spreadFrom qm_Mo_455 (c_Mo_spreadFrom l g mo a o_1 now dr pa sa iS bu tq rT wT wo sK sA sB sE oq bS bE bL rp y13 hs14) rfl rfl ⟨Nat.le_of_ble_eq_true rfl, Nat.le_of_ble_eq_true rfl⟩ ⟨Nat.le_of_ble_eq_true rfl, Nat.le_of_ble_eq_true rfl⟩ hB rfl rfl hl rfl rfl (Nat.le_of_ble_eq_true rfl) d_Mo_steadiest_51) (fun y15 ey15 H locs hP hS => ?_)
      have hz := lett_z hz ey15
      have hok := lett_o hok ey15
      refine lv_aload_n hx hb d_Mo_steadiest_54 rfl (lv_at hl 1 rfl) ?_
      refine lv_aload_n hx hb d_Mo_steadiest_55 rfl (lv_at hl 1 rfl) ?_
      refine lv_iload_n hx hb d_Mo_steadiest_56 rfl (lv_at hl 2 rfl) ?_
      have hs16 := hok.1
      have hok := hok.2
      have hB : SubW g (inW ws0) s (wMo g mo a o_1 now dr pa sa iS bu tq rT wT wo sK sA sB sE oq bS bE bL rp) _ (List.range _) _ _ := (subF hP hD hS)
      refine goI0 hB (run_v C mf_Mo_earliestOf qm_Mo_446 (c_Mo_earliestOf l g mo a o_1 now dr pa sa iS bu tq rT wT wo sK sA sB sE oq bS bE bL rp x1p9 hs16) rfl rfl ⟨Nat.le_of_ble_eq_true rfl, Nat.le_of_ble_eq_true rfl⟩ ⟨Nat.le_of_ble_eq_true rfl, Nat.le_of_ble_eq_true rfl⟩ hB rfl rfl hl rfl rfl (Nat.le_of_ble_eq_true rfl) d_Mo_steadiest_57) (fun y17 ey17 H locs hP hS => ?_)
      have hz := lett_z hz ey17
      have hok := lett_o hok ey17
      have hs18 := hok.1
      have hok := hok.2
      have hB : SubW g (inW ws0) s (wMo g mo a o_1 now dr pa sa iS bu tq rT wT wo sK sA sB sE oq bS bE bL rp) _ (List.range _) _ _ := (subF hP hD hS)
      refine goL0 hB (run_v C mf_Mo_spreadFrom qm_Mo_455 (c_Mo_spreadFrom l g mo a o_1 now dr pa sa iS bu tq rT wT wo sK sA sB sE oq bS bE bL rp y17 hs18) rfl rfl ⟨Nat.le_of_ble_eq_true rfl, Nat.le_of_ble_eq_true rfl⟩ ⟨Nat.le_of_ble_eq_true rfl, Nat.le_of_ble_eq_true rfl⟩ hB rfl rfl hl rfl rfl (Nat.le_of_ble_eq_true rfl) d_Mo_steadiest_60) (fun y19 ey19 H locs hP hS => ?_)
      have hz := lett_z hz ey19
      have hok := lett_o hok ey19
      refine lc_ge (tgt := 71) hx hb d_Mo_steadiest_63 d_Mo_steadiest_64 (by decide) (fun c20 => ?_) (fun c20 => ?_)
      · have hz := hz.trans (if_pos c20)
        have hok := hok.1 c20
        exact k_Mo_steadiest_71 C ih9 () hok _ hz _ _ ls hP hD hS (lv_sub hl [1, 2, 3] rfl)
      · have hz := hz.trans (if_neg c20)
        have hok := hok.2 c20
        exact k_Mo_steadiest_67 C ih9 () hok _ hz _ _ ls hP hD hS (lv_sub hl [1, 3] rfl)
noncomputable def bd_Mo_steadiest_9 (now : LV) (o_1 : IV) (r9 : Int32 → Int32 → (Int32 × IV)) (x1p9 : Int32) (x2p9 : Int32) : Int32 × IV := lett (sp_Mo_manners now) fun (y3 : Int32) => if y3 ≤ x2p9 then ((x1p9, o_1)) else (lett (sp_Mo_earliestOf x2p9 now) fun (y6 : Int32) => lett (sp_Mo_resultsOf y6 now) fun (y8 : Int32) => if y8 ≤ (1 : Int32) then (sp_Mo_steadiest_35 x2p9 x1p9 now r9 (0 : Int32)) else (sp_Mo_steadiest_35 x2p9 x1p9 now r9 (1 : Int32)))
def okb_Mo_steadiest_9 (now : LV) (o_1 : IV) (r9 : Int32 → Int32 → (Int32 × IV)) (q9 : Int32 → Int32 → Prop) (x1p9 : Int32) (x2p9 : Int32) : Prop := (ok_Mo_manners now) ∧ lett (sp_Mo_manners now) fun (y3 : Int32) => ((y3 ≤ x2p9 → True) ∧ (¬ (y3 ≤ x2p9) → (ok_Mo_earliestOf x2p9 now) ∧ lett (sp_Mo_earliestOf x2p9 now) fun (y6 : Int32) => (ok_Mo_resultsOf y6 now) ∧ lett (sp_Mo_resultsOf y6 now) fun (y8 : Int32) => ((y8 ≤ (1 : Int32) → ok_Mo_steadiest_35 x2p9 x1p9 now r9 q9 (0 : Int32)) ∧ (¬ (y8 ≤ (1 : Int32)) → ok_Mo_steadiest_35 x2p9 x1p9 now r9 q9 (1 : Int32)))))
noncomputable def sp_Mo_steadiest_9 (now : LV) (o_1 : IV)  : Nat → Int32 → Int32 → (Int32 × IV)
  | 0 => fun _ _ => default
  | f + 1 => bd_Mo_steadiest_9 now o_1  (sp_Mo_steadiest_9 now o_1  f)
def ok_Mo_steadiest_9 (now : LV) (o_1 : IV)   : Nat → Int32 → Int32 → Prop
  | 0 => fun _ _ => False
  | f + 1 => okb_Mo_steadiest_9 now o_1  (sp_Mo_steadiest_9 now o_1  f)  (ok_Mo_steadiest_9 now o_1   f)
set_option maxRecDepth 100000 in
set_option maxHeartbeats 4000000 in
theorem kb_Mo_steadiest_9 {p : Program} {l : Launch} {e : Env} {s : State} {m : MethodId} {args : Array Value} {below : List Frame} {meth : Method} {c : Code} {g : GX} {mo : Nat} {a : Nat → Nat} {ws0 : va_W} {o_1 : IV} {now : LV} {dr : LV} {pa : LV} {sa : LV} {iS : IV} {bu : IV} {tq : IV} {rT : IV} {wT : IV} {wo : Nat → Option Nat} {sK : IV} {sA : IV} {sB : IV} {sE : IV} {oq : IV} {bS : IV} {bE : IV} {bL : IV} {rp : IV}  (C : Cx p s m args meth c (inW ws0) g "DecadeBridgeModel" b_Mo_steadiest (some .int) 4) {r9 : Int32 → Int32 → (Int32 × IV)} {q9 : Int32 → Int32 → Prop}  (ih9 : HL_Mo_steadiest_9 p l e s m args below meth c g mo a ws0 o_1 now dr pa sa iS bu tq rT wT wo sK sA sB sE oq bS bE bL rp r9 q9) : HL_Mo_steadiest_9 p l e s m args below meth c g mo a ws0 o_1 now dr pa sa iS bu tq rT wT wo sK sA sB sE oq bS bE bL rp (bd_Mo_steadiest_9 now o_1  r9) (okb_Mo_steadiest_9 now o_1  r9  q9) := by
  intro x1p9 x2p9 hok z hz H locs ls hP hD hS hl
  obtain ⟨hx, hb, hr, hml, hown, hlk, hts, hK, hZo, hZ⟩ := id C
  unfold bd_Mo_steadiest_9 at hz
  unfold okb_Mo_steadiest_9 at hok
  refine lv_iload_n hx hb d_Mo_steadiest_9 rfl (lv_at hl 2 rfl) ?_
  refine lv_aload_n hx hb d_Mo_steadiest_10 rfl (lv_at hl 0 rfl) ?_
  have hs2 := hok.1
  have hok := hok.2
  have hB : SubW g (inW ws0) s (wMo g mo a o_1 now dr pa sa iS bu tq rT wT wo sK sA sB sE oq bS bE bL rp) _ (List.range _) _ _ := (subF hP hD hS)
  refine goI0 hB (run_v C mf_Mo_manners qm_Mo_417 (c_Mo_manners l g mo a o_1 now dr pa sa iS bu tq rT wT wo sK sA sB sE oq bS bE bL rp hs2) rfl rfl ⟨Nat.le_of_ble_eq_true rfl, Nat.le_of_ble_eq_true rfl⟩ ⟨Nat.le_of_ble_eq_true rfl, Nat.le_of_ble_eq_true rfl⟩ hB rfl rfl hl rfl rfl (Nat.le_of_ble_eq_true rfl) d_Mo_steadiest_11) (fun y3 ey3 H locs hP hS => ?_)
  have hz := lett_z hz ey3
  have hok := lett_o hok ey3
  refine lv_icmp_ge (tgt := 79) hx hb d_Mo_steadiest_14 (by decide) (fun c4 => ?_) (fun c4 => ?_)
  · have hz := hz.trans (if_pos c4)
    refine lv_iload_n hx hb d_Mo_steadiest_79 rfl (lv_at hl 1 rfl) ?_
    exact endI1 C hz hP hS d_Mo_steadiest_80
  · have hz := hz.trans (if_neg c4)
    have hok := hok.2 c4
    refine lv_aload_n hx hb d_Mo_steadiest_17 rfl (lv_at hl 0 rfl) ?_
    refine lv_aload_n hx hb d_Mo_steadiest_18 rfl (lv_at hl 0 rfl) ?_
    refine lv_iload_n hx hb d_Mo_steadiest_19 rfl (lv_at hl 2 rfl) ?_
    have hs5 := hok.1
    have hok := hok.2
    have hB : SubW g (inW ws0) s (wMo g mo a o_1 now dr pa sa iS bu tq rT wT wo sK sA sB sE oq bS bE bL rp) _ (List.range _) _ _ := (subF hP hD hS)
    refine goI0 hB (run_v C mf_Mo_earliestOf qm_Mo_446 (c_Mo_earliestOf l g mo a o_1 now dr pa sa iS bu tq rT wT wo sK sA sB sE oq bS bE bL rp x2p9 hs5) rfl rfl ⟨Nat.le_of_ble_eq_true rfl, Nat.le_of_ble_eq_true rfl⟩ ⟨Nat.le_of_ble_eq_true rfl, Nat.le_of_ble_eq_true rfl⟩ hB rfl rfl hl rfl rfl (Nat.le_of_ble_eq_true rfl) d_Mo_steadiest_20) (fun y6 ey6 H locs hP hS => ?_)
    have hz := lett_z hz ey6
    have hok := lett_o hok ey6
    have hs7 := hok.1
    have hok := hok.2
    have hB : SubW g (inW ws0) s (wMo g mo a o_1 now dr pa sa iS bu tq rT wT wo sK sA sB sE oq bS bE bL rp) _ (List.range _) _ _ := (subF hP hD hS)
    refine goI0 hB (run_v C mf_Mo_resultsOf qm_Mo_449 (c_Mo_resultsOf l g mo a o_1 now dr pa sa iS bu tq rT wT wo sK sA sB sE oq bS bE bL rp y6 hs7) rfl rfl ⟨Nat.le_of_ble_eq_true rfl, Nat.le_of_ble_eq_true rfl⟩ ⟨Nat.le_of_ble_eq_true rfl, Nat.le_of_ble_eq_true rfl⟩ hB rfl rfl hl rfl rfl (Nat.le_of_ble_eq_true rfl) d_Mo_steadiest_23) (fun y8 ey8 H locs hP hS => ?_)
    have hz := lett_z hz ey8
    have hok := lett_o hok ey8
    refine lv_iconst (v := 1) hx hb d_Mo_steadiest_26 (by decide) ?_
    refine lv_icmp_le (tgt := 34) hx hb d_Mo_steadiest_27 (by decide) (fun c9 => ?_) (fun c9 => ?_)
    · have hz := hz.trans (if_pos c9)
      have hok := hok.1 c9
      refine lv_iconst (v := 0) hx hb d_Mo_steadiest_34 (by decide) ?_
      exact k_Mo_steadiest_35 C ih9 (0 : Int32) hok _ hz _ _ ls hP hD hS hl
    · have hz := hz.trans (if_neg c9)
      have hok := hok.2 c9
      refine lv_iconst (v := 1) hx hb d_Mo_steadiest_30 (by decide) ?_
      refine lv_goto (tgt := 35) hx hb d_Mo_steadiest_31 (by decide) ?_
      exact k_Mo_steadiest_35 C ih9 (1 : Int32) hok _ hz _ _ ls hP hD hS hl
theorem k_Mo_steadiest_9 {p : Program} {l : Launch} {e : Env} {s : State} {m : MethodId} {args : Array Value} {below : List Frame} {meth : Method} {c : Code} {g : GX} {mo : Nat} {a : Nat → Nat} {ws0 : va_W} {o_1 : IV} {now : LV} {dr : LV} {pa : LV} {sa : LV} {iS : IV} {bu : IV} {tq : IV} {rT : IV} {wT : IV} {wo : Nat → Option Nat} {sK : IV} {sA : IV} {sB : IV} {sE : IV} {oq : IV} {bS : IV} {bE : IV} {bL : IV} {rp : IV}  (C : Cx p s m args meth c (inW ws0) g "DecadeBridgeModel" b_Mo_steadiest (some .int) 4) (f : Nat)  : HL_Mo_steadiest_9 p l e s m args below meth c g mo a ws0 o_1 now dr pa sa iS bu tq rT wT wo sK sA sB sE oq bS bE bL rp (sp_Mo_steadiest_9 now o_1  f) (ok_Mo_steadiest_9 now o_1   f) := by
  induction f with
  | zero => intro x1p9 x2p9 hok; exact False.elim hok
  | succ f ih => exact kb_Mo_steadiest_9 C  ih
noncomputable def sp_Mo_steadiest (o : IV) (now : LV) : Int32 × IV := lett (upd o 6 (0 : Int32)) fun (o_1 : IV) => sp_Mo_steadiest_9 now o_1 big (-1 : Int32) (0 : Int32)
def ok_Mo_steadiest (o : IV) (now : LV) : Prop := lett (upd o 6 (0 : Int32)) fun (o_1 : IV) => ok_Mo_steadiest_9 now o_1 big (-1 : Int32) (0 : Int32)
set_option maxRecDepth 100000 in
set_option maxHeartbeats 4000000 in
theorem c_Mo_steadiest (l : Launch) (g : GX) (mo : Nat) (a : Nat → Nat) (o : IV) (now : LV) (dr : LV) (pa : LV) (sa : LV) (iS : IV) (bu : IV) (tq : IV) (rT : IV) (wT : IV) (wo : Nat → Option Nat) (sK : IV) (sA : IV) (sB : IV) (sE : IV) (oq : IV) (bS : IV) (bE : IV) (bL : IV) (rp : IV)  (hok : ok_Mo_steadiest o now) : Met l y_Mo_steadiest (wsY y_Mo_steadiest b_Mo_steadiest 4 (some .int)) rm_Mo_steadiest (CP g [.ref mo] (wMo g mo a o now dr pa sa iS bu tq rT wT wo sK sA sB sE oq bS bE bL rp)) (CI g (wMo g mo a o now dr pa sa iS bu tq rT wT wo sK sA sB sE oq bS bE bL rp) (fun u : IV => wMo g mo a u now dr pa sa iS bu tq rT wT wo sK sA sB sE oq bS bE bL rp) (sp_Mo_steadiest o now)) 0 0 (inW (wMo g mo a o now dr pa sa iS bu tq rT wT wo sK sA sB sE oq bS bE bL rp)) := by
  refine Met.ofW (cc := b_Mo_steadiest) (maxL := 4) (ret := (some .int)) pn_Mo rfl ?_
  intro p e s m args below meth c s₁ B hml hv
  obtain ⟨rfl, C, hP, hD, hS⟩ := enter "DecadeBridgeModel" rfl B hml hv
  obtain ⟨hx, hb, hr, hml, hown, hlk, hts, hK, hZo, hZ⟩ := id C
  refine entryW (lv := [(0, .ref mo)]) rfl (Nat.le_of_ble_eq_true rfl) (fun ls hl => ?_)
  obtain ⟨z, hz⟩ : ∃ z, z = sp_Mo_steadiest o now := ⟨_, rfl⟩
  rw [← hz]
  unfold sp_Mo_steadiest at hz
  unfold ok_Mo_steadiest at hok
  refine lv_aload_n hx hb d_Mo_steadiest_0 rfl (lv_at hl 0 rfl) ?_
  refine lv_iconst (v := 0) hx hb d_Mo_steadiest_1 (by decide) ?_
  refine pfI C hP hD hS 0 6 fkMo rfl (by decide) rfl qf_Mo_107 rfl rfl rfl (Nat.le_of_ble_eq_true rfl) (ff := fun o => fMo a o) (sMo_6 _ _ _) d_Mo_steadiest_2 (fun o_1 eo_1 H locs hP hD hS => ?_)
  have hP : va_P g.1 vwCl (wMo g mo a o_1 now dr pa sa iS bu tq rT wT wo sK sA sB sE oq bS bE bL rp) H := hP
  have hD : va_D (inW (wMo g mo a o now dr pa sa iS bu tq rT wT wo sK sA sB sE oq bS bE bL rp)) (wMo g mo a o_1 now dr pa sa iS bu tq rT wT wo sK sA sB sE oq bS bE bL rp) := hD
  have hz := lett_z hz eo_1
  have hok := lett_o hok eo_1
  refine lv_iconst (v := -1) hx hb d_Mo_steadiest_5 (by decide) ?_
  refine lv_istore_n (lv' := [(1, .int (-1 : Int32)), (0, .ref mo)]) hx hb d_Mo_steadiest_6 rfl hl (by decide) rfl (fun ls hl => ?_)
  refine lv_iconst (v := 0) hx hb d_Mo_steadiest_7 (by decide) ?_
  refine lv_istore_n (lv' := [(2, .int (0 : Int32)), (1, .int (-1 : Int32)), (0, .ref mo)]) hx hb d_Mo_steadiest_8 rfl hl (by decide) rfl (fun ls hl => ?_)
  exact k_Mo_steadiest_9 C big (-1 : Int32) (0 : Int32) hok _ hz _ _ ls hP hD hS (lv_sub hl [2, 1, 0] rfl)
