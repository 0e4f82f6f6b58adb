abbrev wNil (_ : GX) : va_W := []
theorem cn_0 : (0 : Int32).toNatClampNeg = 0 := by decide +kernel
theorem cn_1 : (1 : Int32).toNatClampNeg = 1 := by decide +kernel
theorem cn_2 : (2 : Int32).toNatClampNeg = 2 := by decide +kernel
theorem cn_3 : (3 : Int32).toNatClampNeg = 3 := by decide +kernel
theorem cn_4 : (4 : Int32).toNatClampNeg = 4 := by decide +kernel
theorem cn_12 : (12 : Int32).toNatClampNeg = 12 := by decide +kernel
theorem cn_13 : (13 : Int32).toNatClampNeg = 13 := by decide +kernel
theorem cn_16 : (16 : Int32).toNatClampNeg = 16 := by decide +kernel
theorem cn_19 : (19 : Int32).toNatClampNeg = 19 := by decide +kernel
theorem cn_20 : (20 : Int32).toNatClampNeg = 20 := by decide +kernel
theorem cn_22 : (22 : Int32).toNatClampNeg = 22 := by decide +kernel
theorem cn_23 : (23 : Int32).toNatClampNeg = 23 := by decide +kernel
theorem cn_24 : (24 : Int32).toNatClampNeg = 24 := by decide +kernel
theorem cn_25 : (25 : Int32).toNatClampNeg = 25 := by decide +kernel
theorem cn_26 : (26 : Int32).toNatClampNeg = 26 := by decide +kernel
theorem cn_27 : (27 : Int32).toNatClampNeg = 27 := by decide +kernel
theorem cn_28 : (28 : Int32).toNatClampNeg = 28 := by decide +kernel
theorem cn_29 : (29 : Int32).toNatClampNeg = 29 := by decide +kernel
theorem cn_30 : (30 : Int32).toNatClampNeg = 30 := by decide +kernel
theorem cn_31 : (31 : Int32).toNatClampNeg = 31 := by decide +kernel
theorem cn_32 : (32 : Int32).toNatClampNeg = 32 := by decide +kernel
theorem cn_37 : (37 : Int32).toNatClampNeg = 37 := by decide +kernel
theorem cn_38 : (38 : Int32).toNatClampNeg = 38 := by decide +kernel
theorem cn_39 : (39 : Int32).toNatClampNeg = 39 := by decide +kernel
theorem cn_40 : (40 : Int32).toNatClampNeg = 40 := by decide +kernel
theorem cn_41 : (41 : Int32).toNatClampNeg = 41 := by decide +kernel
theorem cn_42 : (42 : Int32).toNatClampNeg = 42 := by decide +kernel
theorem cn_43 : (43 : Int32).toNatClampNeg = 43 := by decide +kernel
theorem cn_44 : (44 : Int32).toNatClampNeg = 44 := by decide +kernel
theorem cn_54 : (54 : Int32).toNatClampNeg = 54 := by decide +kernel
theorem vi_0_2 : vp_in (0 : Int32) 2 := vi (by decide +kernel) cn_0 (Nat.le_of_ble_eq_true rfl)
theorem vi_0_6 : vp_in (0 : Int32) 6 := vi (by decide +kernel) cn_0 (Nat.le_of_ble_eq_true rfl)
theorem vi_0_10 : vp_in (0 : Int32) 10 := vi (by decide +kernel) cn_0 (Nat.le_of_ble_eq_true rfl)
theorem vi_0_215 : vp_in (0 : Int32) 215 := vi (by decide +kernel) cn_0 (Nat.le_of_ble_eq_true rfl)
theorem vi_1_2 : vp_in (1 : Int32) 2 := vi (by decide +kernel) cn_1 (Nat.le_of_ble_eq_true rfl)
theorem vi_1_6 : vp_in (1 : Int32) 6 := vi (by decide +kernel) cn_1 (Nat.le_of_ble_eq_true rfl)
theorem vi_1_215 : vp_in (1 : Int32) 215 := vi (by decide +kernel) cn_1 (Nat.le_of_ble_eq_true rfl)
theorem vi_2_215 : vp_in (2 : Int32) 215 := vi (by decide +kernel) cn_2 (Nat.le_of_ble_eq_true rfl)
theorem vi_3_215 : vp_in (3 : Int32) 215 := vi (by decide +kernel) cn_3 (Nat.le_of_ble_eq_true rfl)
theorem vi_4_215 : vp_in (4 : Int32) 215 := vi (by decide +kernel) cn_4 (Nat.le_of_ble_eq_true rfl)
theorem vi_12_215 : vp_in (12 : Int32) 215 := vi (by decide +kernel) cn_12 (Nat.le_of_ble_eq_true rfl)
theorem vi_13_215 : vp_in (13 : Int32) 215 := vi (by decide +kernel) cn_13 (Nat.le_of_ble_eq_true rfl)
theorem vi_16_215 : vp_in (16 : Int32) 215 := vi (by decide +kernel) cn_16 (Nat.le_of_ble_eq_true rfl)
theorem vi_19_215 : vp_in (19 : Int32) 215 := vi (by decide +kernel) cn_19 (Nat.le_of_ble_eq_true rfl)
theorem vi_20_215 : vp_in (20 : Int32) 215 := vi (by decide +kernel) cn_20 (Nat.le_of_ble_eq_true rfl)
theorem vi_22_215 : vp_in (22 : Int32) 215 := vi (by decide +kernel) cn_22 (Nat.le_of_ble_eq_true rfl)
theorem vi_23_215 : vp_in (23 : Int32) 215 := vi (by decide +kernel) cn_23 (Nat.le_of_ble_eq_true rfl)
theorem vi_24_215 : vp_in (24 : Int32) 215 := vi (by decide +kernel) cn_24 (Nat.le_of_ble_eq_true rfl)
theorem vi_25_215 : vp_in (25 : Int32) 215 := vi (by decide +kernel) cn_25 (Nat.le_of_ble_eq_true rfl)
theorem vi_26_215 : vp_in (26 : Int32) 215 := vi (by decide +kernel) cn_26 (Nat.le_of_ble_eq_true rfl)
theorem vi_27_215 : vp_in (27 : Int32) 215 := vi (by decide +kernel) cn_27 (Nat.le_of_ble_eq_true rfl)
theorem vi_28_215 : vp_in (28 : Int32) 215 := vi (by decide +kernel) cn_28 (Nat.le_of_ble_eq_true rfl)
theorem vi_29_215 : vp_in (29 : Int32) 215 := vi (by decide +kernel) cn_29 (Nat.le_of_ble_eq_true rfl)
theorem vi_30_215 : vp_in (30 : Int32) 215 := vi (by decide +kernel) cn_30 (Nat.le_of_ble_eq_true rfl)
theorem vi_31_215 : vp_in (31 : Int32) 215 := vi (by decide +kernel) cn_31 (Nat.le_of_ble_eq_true rfl)
theorem vi_32_215 : vp_in (32 : Int32) 215 := vi (by decide +kernel) cn_32 (Nat.le_of_ble_eq_true rfl)
theorem vi_37_215 : vp_in (37 : Int32) 215 := vi (by decide +kernel) cn_37 (Nat.le_of_ble_eq_true rfl)
theorem vi_38_215 : vp_in (38 : Int32) 215 := vi (by decide +kernel) cn_38 (Nat.le_of_ble_eq_true rfl)
theorem vi_39_215 : vp_in (39 : Int32) 215 := vi (by decide +kernel) cn_39 (Nat.le_of_ble_eq_true rfl)
theorem vi_40_215 : vp_in (40 : Int32) 215 := vi (by decide +kernel) cn_40 (Nat.le_of_ble_eq_true rfl)
theorem vi_41_215 : vp_in (41 : Int32) 215 := vi (by decide +kernel) cn_41 (Nat.le_of_ble_eq_true rfl)
theorem vi_42_215 : vp_in (42 : Int32) 215 := vi (by decide +kernel) cn_42 (Nat.le_of_ble_eq_true rfl)
theorem vi_43_215 : vp_in (43 : Int32) 215 := vi (by decide +kernel) cn_43 (Nat.le_of_ble_eq_true rfl)
theorem vi_44_215 : vp_in (44 : Int32) 215 := vi (by decide +kernel) cn_44 (Nat.le_of_ble_eq_true rfl)
theorem vi_54_215 : vp_in (54 : Int32) 215 := vi (by decide +kernel) cn_54 (Nat.le_of_ble_eq_true rfl)
abbrev rm_JP_checkIndex : Room := { frames := 0, cells := 0, slots := 0, locals := 0 }
theorem c_JP_checkIndex (l : Launch) (g : GX) (i n : Int32) (o : Option Nat) (h0 : ¬ i < 0) (h1 : i < n) : Met l y_JP_checkIndex (wsY y_JP_checkIndex b_JP_checkIndex 3 (some .int)) rm_JP_checkIndex (CP g [.int i, .int n, va_rf o] (wNil g)) (CI0 g (wNil g) i) 0 0 (inW (wNil g)) := by
  refine va_MetF (cc := b_JP_checkIndex) (maxL := 3) (ret := some .int) (by decide +kernel) rfl ?_
  intro p e s m args below meth c s₁ B hml hv
  obtain ⟨rfl, C, hP, hD, hS⟩ := enter "jdk/internal/util/Preconditions" rfl B hml hv
  obtain ⟨hx, hb, hr, hml, hown, hlk, hts, hK, hZo, hZ⟩ := id C
  rcases o with _ | t
  · refine entryW (lv := [(0, .int i), (1, .int n), (2, .null)]) rfl (Nat.le_of_ble_eq_true rfl) (fun ls hl => ?_)
    refine lv_iload_n hx hb d_JP_checkIndex_0 rfl (lv_at hl 0 rfl) ?_
    refine lv_if_lt (tgt := 9) hx hb d_JP_checkIndex_1 (by decide) (fun c => absurd c h0) (fun _ => ?_)
    refine lv_iload_n hx hb d_JP_checkIndex_4 rfl (lv_at hl 0 rfl) ?_
    refine lv_iload_n hx hb d_JP_checkIndex_5 rfl (lv_at hl 1 rfl) ?_
    refine lv_icmp_lt (tgt := 16) hx hb d_JP_checkIndex_6 (by decide) (fun _ => ?_) (fun c => absurd h1 c)
    refine lv_iload_n hx hb d_JP_checkIndex_16 rfl (lv_at hl 0 rfl) ?_
    exact endI0 C rfl hP hS d_JP_checkIndex_17
  · refine entryW (lv := [(0, .int i), (1, .int n), (2, .ref t)]) rfl (Nat.le_of_ble_eq_true rfl) (fun ls hl => ?_)
    refine lv_iload_n hx hb d_JP_checkIndex_0 rfl (lv_at hl 0 rfl) ?_
    refine lv_if_lt (tgt := 9) hx hb d_JP_checkIndex_1 (by decide) (fun c => absurd c h0) (fun _ => ?_)
    refine lv_iload_n hx hb d_JP_checkIndex_4 rfl (lv_at hl 0 rfl) ?_
    refine lv_iload_n hx hb d_JP_checkIndex_5 rfl (lv_at hl 1 rfl) ?_
    refine lv_icmp_lt (tgt := 16) hx hb d_JP_checkIndex_6 (by decide) (fun _ => ?_) (fun c => absurd h1 c)
    refine lv_iload_n hx hb d_JP_checkIndex_16 rfl (lv_at hl 0 rfl) ?_
    exact endI0 C rfl hP hS d_JP_checkIndex_17
abbrev rm_JS_checkIndex : Room := { frames := 1, cells := 0, slots := 0, locals := 22 }
def sp_JS_checkIndex (_ _ : Int32) : Unit := ()
def ok_JS_checkIndex (i n : Int32) : Prop := ¬ i < 0 ∧ i < n
theorem c_JS_checkIndex (l : Launch) (g : GX) (i n : Int32) (hok : ok_JS_checkIndex i n) : Met l y_JS_checkIndex (wsY y_JS_checkIndex b_JS_checkIndex 2 none) rm_JS_checkIndex (CP g [.int i, .int n] (wNil g)) (CV g (wNil g) (fun _ : Unit => wNil g) (sp_JS_checkIndex i n)) 0 0 (inW (wNil g)) := by
  obtain ⟨h0, h1⟩ := hok
  refine va_MetF (cc := b_JS_checkIndex) (maxL := 2) (ret := none) (by decide +kernel) rfl ?_
  intro p e s m args below meth c s₁ B hml hv
  obtain ⟨rfl, C, hP, hD, hS⟩ := enter "java/lang/String" rfl B hml hv
  obtain ⟨hx, hb, hr, hml, hown, hlk, hts, hK, hZo, hZ⟩ := id C
  refine entryW (lv := [(0, .int i), (1, .int n)]) rfl (Nat.le_of_ble_eq_true rfl) (fun ls hl => ?_)
  refine lv_iload_n hx hb d_JS_checkIndex_0 rfl (lv_at hl 0 rfl) ?_
  refine lv_iload_n hx hb d_JS_checkIndex_1 rfl (lv_at hl 1 rfl) ?_
  have hB : SubW g (inW (wNil g)) s (wNil g) (wNil g) [] _ _ := ⟨rfl, rfl, hP, hD, hS⟩
  rcases zSio hZo hZ with q | ⟨t, q⟩
  · refine va_gets hx hb q hS hown (hts _ qf_JS_1053) (fun _ h => h) d_JS_checkIndex_2 ?_
    refine goI0 hB (run_s C mf_JP_checkIndex qm_JS_1059 (c_JP_checkIndex l g i n none h0 h1) rfl rfl ⟨Nat.le_of_ble_eq_true rfl, Nat.le_of_ble_eq_true rfl⟩ ⟨Nat.le_of_ble_eq_true rfl, Nat.le_of_ble_eq_true rfl⟩ hB hl rfl rfl (Nat.le_of_ble_eq_true rfl) d_JS_checkIndex_5) (fun y ey H locs hP hS => ?_)
    refine lv_pop hx hb d_JS_checkIndex_8 rfl ?_
    exact endV (u := ()) C rfl hP hS d_JS_checkIndex_9
  · refine va_gets hx hb q hS hown (hts _ qf_JS_1053) (fun _ h => h) d_JS_checkIndex_2 ?_
    refine goI0 hB (run_s C mf_JP_checkIndex qm_JS_1059 (c_JP_checkIndex l g i n (some t) h0 h1) rfl rfl ⟨Nat.le_of_ble_eq_true rfl, Nat.le_of_ble_eq_true rfl⟩ ⟨Nat.le_of_ble_eq_true rfl, Nat.le_of_ble_eq_true rfl⟩ hB hl rfl rfl (Nat.le_of_ble_eq_true rfl) d_JS_checkIndex_5) (fun y ey H locs hP hS => ?_)
    refine lv_pop hx hb d_JS_checkIndex_8 rfl ?_
    exact endV (u := ()) C rfl hP hS d_JS_checkIndex_9

abbrev rm_JS_coder : Room := { frames := 0, cells := 0, slots := 0, locals := 0 }
noncomputable def sp_JS_coder (n : Nat) : Int32 := if (1 : Int32) = 0 then ((1 : Int32)) else ((0 : Int32))
def ok_JS_coder (n : Nat) : Prop := (((1 : Int32) = 0 → True) ∧ (¬ ((1 : Int32) = 0) → (n < 20) ∧ True))
set_option maxRecDepth 100000 in
set_option maxHeartbeats 4000000 in
theorem c_JS_coder (l : Launch) (g : GX)   (n : Nat) (hok : ok_JS_coder n) : Met l y_JS_coder (wsY y_JS_coder b_JS_coder 1 (some .byte)) rm_JS_coder (CP g [.ref (g.2.2.2 (n + 1))] (wNil g )) (CI0 g (wNil g ) (sp_JS_coder n)) 0 0 (inW (wNil g )) := by
  refine va_MetF (cc := b_JS_coder) (maxL := 1) (ret := (some .byte)) (by decide +kernel) rfl ?_
  intro p e s m args below meth c s₁ B hml hv
  obtain ⟨rfl, C, hP, hD, hS⟩ := enter "java/lang/String" rfl B hml hv
  obtain ⟨hx, hb, hr, hml, hown, hlk, hts, hK, hZo, hZ⟩ := id C
  refine entryW (lv := [(0, .ref (g.2.2.2 (n + 1)))]) rfl (Nat.le_of_ble_eq_true rfl) (fun ls hl => ?_)
  obtain ⟨z, hz⟩ : ∃ z, z = sp_JS_coder n := ⟨_, rfl⟩
  rw [← hz]
  unfold sp_JS_coder at hz
  unfold ok_JS_coder at hok
  refine va_gets hx hb (zCmp hZo hZ) hS hown (hts _ qf_JS_38) (fun _ h9 => h9) d_JS_coder_0 ?_
  refine lv_if_eq (tgt := 13) hx hb d_JS_coder_3 (by decide) (fun c1 => ?_) (fun c1 => ?_)
  · have hz := hz.trans (if_pos c1)
    refine lv_iconst (v := 1) hx hb d_JS_coder_13 (by decide) ?_
    exact endZ0 C hz hP hS rfl d_JS_coder_14
  · have hz := hz.trans (if_neg c1)
    have hok := hok.2 c1
    refine lv_aload_n hx hb d_JS_coder_6 rfl (lv_at hl 0 rfl) ?_
    have hs2 := hok.1
    have hok := hok.2
    refine vk_getf hx hb ((zStr hZo hZ).1 n hs2).2.1 hS hown (hts _ qf_JS_15) (fun _ h9 => h9) d_JS_coder_7 ?_
    refine lv_goto (tgt := 14) hx hb d_JS_coder_10 (by decide) ?_
    exact endZ0 C hz hP hS rfl d_JS_coder_14
abbrev rm_JS_isLatin1 : Room := { frames := 0, cells := 0, slots := 0, locals := 0 }
def HL_JS_isLatin1_17 (p : Program) (l : Launch) (e : Env) (s : State) (m : MethodId) (args : Array Value) (below : List Frame) (meth : Method) (c : Code) (g : GX)   (sp : Int32) (ok : Prop) : Prop := ∀ (_ : Unit), ok → ∀ z : Int32, z = sp → ∀ (H : Heap) (locs : List Loc) (ls : Array Slot), va_P g.1 vwCl (wNil g ) H → va_D (inW (wNil g )) (wNil g ) → va_S (inW (wNil g )) s.heap H locs → lv_has ls 1 [] → W p l e rm_JS_isLatin1 s m args below meth c H locs 0 0 (MQ below (CI0 g (wNil g ) z) args s 0 0 (inW (wNil g ))) (F0 m 17 ls [])
noncomputable def sp_JS_isLatin1_17    : Int32 := (0 : Int32)
def ok_JS_isLatin1_17     : Prop := True
set_option maxRecDepth 100000 in
set_option maxHeartbeats 4000000 in
theorem k_JS_isLatin1_17 {p : Program} {l : Launch} {e : Env} {s : State} {m : MethodId} {args : Array Value} {below : List Frame} {meth : Method} {c : Code} {g : GX}    (C : Cx p s m args meth c (inW (wNil g )) g "java/lang/String" b_JS_isLatin1 (some .boolean) 1)  : HL_JS_isLatin1_17 p l e s m args below meth c g   (sp_JS_isLatin1_17  ) (ok_JS_isLatin1_17   ) := by
  intro _ hok z hz H locs ls hP hD hS hl
  obtain ⟨hx, hb, hr, hml, hown, hlk, hts, hK, hZo, hZ⟩ := id C
  unfold sp_JS_isLatin1_17 at hz
  refine lv_iconst (v := 0) hx hb d_JS_isLatin1_17 (by decide) ?_
  exact endZ0 C hz hP hS rfl d_JS_isLatin1_18
noncomputable def sp_JS_isLatin1 (n : Nat) : Int32 := if (1 : Int32) = 0 then (sp_JS_isLatin1_17) else (if (0 : Int32) = 0 then ((1 : Int32)) else (sp_JS_isLatin1_17))
def ok_JS_isLatin1 (n : Nat) : Prop := (((1 : Int32) = 0 → True) ∧ (¬ ((1 : Int32) = 0) → (n < 20) ∧ True))
set_option maxRecDepth 100000 in
set_option maxHeartbeats 4000000 in
theorem c_JS_isLatin1 (l : Launch) (g : GX)   (n : Nat) (hok : ok_JS_isLatin1 n) : Met l y_JS_isLatin1 (wsY y_JS_isLatin1 b_JS_isLatin1 1 (some .boolean)) rm_JS_isLatin1 (CP g [.ref (g.2.2.2 (n + 1))] (wNil g )) (CI0 g (wNil g ) (sp_JS_isLatin1 n)) 0 0 (inW (wNil g )) := by
  refine va_MetF (cc := b_JS_isLatin1) (maxL := 1) (ret := (some .boolean)) (by decide +kernel) rfl ?_
  intro p e s m args below meth c s₁ B hml hv
  obtain ⟨rfl, C, hP, hD, hS⟩ := enter "java/lang/String" rfl B hml hv
  obtain ⟨hx, hb, hr, hml, hown, hlk, hts, hK, hZo, hZ⟩ := id C
  refine entryW (lv := [(0, .ref (g.2.2.2 (n + 1)))]) rfl (Nat.le_of_ble_eq_true rfl) (fun ls hl => ?_)
  obtain ⟨z, hz⟩ : ∃ z, z = sp_JS_isLatin1 n := ⟨_, rfl⟩
  rw [← hz]
  unfold sp_JS_isLatin1 at hz
  unfold ok_JS_isLatin1 at hok
  refine va_gets hx hb (zCmp hZo hZ) hS hown (hts _ qf_JS_38) (fun _ h9 => h9) d_JS_isLatin1_0 ?_
  refine lv_if_eq (tgt := 17) hx hb d_JS_isLatin1_3 (by decide) (fun c1 => ?_) (fun c1 => ?_)
  · have hz := hz.trans (if_pos c1)
    exact k_JS_isLatin1_17 C () trivial _ hz _ _ ls hP hD hS (lv_sub hl [] rfl)
  · have hz := hz.trans (if_neg c1)
    have hok := hok.2 c1
    refine lv_aload_n hx hb d_JS_isLatin1_6 rfl (lv_at hl 0 rfl) ?_
    have hs2 := hok.1
    have hok := hok.2
    refine vk_getf hx hb ((zStr hZo hZ).1 n hs2).2.1 hS hown (hts _ qf_JS_15) (fun _ h9 => h9) d_JS_isLatin1_7 ?_
    refine lv_if_ne (tgt := 17) hx hb d_JS_isLatin1_10 (by decide) (fun c3 => ?_) (fun c3 => ?_)
    · have hz := hz.trans (if_neg c3)
      exact k_JS_isLatin1_17 C () trivial _ hz _ _ ls hP hD hS (lv_sub hl [] rfl)
    · have hz := hz.trans (if_pos c3)
      refine lv_iconst (v := 1) hx hb d_JS_isLatin1_13 (by decide) ?_
      refine lv_goto (tgt := 18) hx hb d_JS_isLatin1_14 (by decide) ?_
      exact endZ0 C hz hP hS rfl d_JS_isLatin1_18
abbrev rm_JS_length : Room := { frames := 1, cells := 0, slots := 0, locals := 20 }
noncomputable def sp_JS_length (n : Nat) : Int32 := lett (sp_JS_coder n) fun (y3 : Int32) => (nI (sLen.getD n 0)) >>> (y3 &&& 31)
def ok_JS_length (n : Nat) : Prop := (n < 20) ∧ (ok_JS_coder n) ∧ True
set_option maxRecDepth 100000 in
set_option maxHeartbeats 4000000 in
theorem c_JS_length (l : Launch) (g : GX)   (n : Nat) (hok : ok_JS_length n) : Met l y_JS_length (wsY y_JS_length b_JS_length 1 (some .int)) rm_JS_length (CP g [.ref (g.2.2.2 (n + 1))] (wNil g )) (CI0 g (wNil g ) (sp_JS_length n)) 0 0 (inW (wNil g )) := by
  refine va_MetF (cc := b_JS_length) (maxL := 1) (ret := (some .int)) (by decide +kernel) rfl ?_
  intro p e s m args below meth c s₁ B hml hv
  obtain ⟨rfl, C, hP, hD, hS⟩ := enter "java/lang/String" rfl B hml hv
  obtain ⟨hx, hb, hr, hml, hown, hlk, hts, hK, hZo, hZ⟩ := id C
  refine entryW (lv := [(0, .ref (g.2.2.2 (n + 1)))]) rfl (Nat.le_of_ble_eq_true rfl) (fun ls hl => ?_)
  obtain ⟨z, hz⟩ : ∃ z, z = sp_JS_length n := ⟨_, rfl⟩
  rw [← hz]
  unfold sp_JS_length at hz
  unfold ok_JS_length at hok
  refine lv_aload_n hx hb d_JS_length_0 rfl (lv_at hl 0 rfl) ?_
  have hs1 := hok.1
  have hok := hok.2
  refine vk_getf hx hb ((zStr hZo hZ).1 n hs1).2.2.1 hS hown (hts _ qf_JS_9) (fun _ h9 => h9) d_JS_length_1 ?_
  refine va_tlen hx hb ((zStr hZo hZ).1 n hs1).2.2.2 hS (v := nI (sLen.getD n 0)) rfl d_JS_length_4 ?_
  refine lv_aload_n hx hb d_JS_length_5 rfl (lv_at hl 0 rfl) ?_
  have hs2 := hok.1
  have hok := hok.2
  have hB : SubW g (inW (wNil g )) s (wNil g ) _ (List.range _) _ _ := (subF hP hD hS)
  refine goI0 hB (run_q C mf_JS_coder qm_JS_335 (c_JS_coder l g n hs2) rfl rfl ⟨Nat.le_of_ble_eq_true rfl, Nat.le_of_ble_eq_true rfl⟩ ⟨Nat.le_of_ble_eq_true rfl, Nat.le_of_ble_eq_true rfl⟩ hB (zRecv hZo hZ hs1 hS) hl rfl rfl (Nat.le_of_ble_eq_true rfl) d_JS_length_6) (fun y3 ey3 H locs hP hS => ?_)
  have hz := lett_z hz ey3
  refine lv_ishr hx hb d_JS_length_9 ?_
  exact endI0 C hz hP hS d_JS_length_10
abbrev rm_JL_charAt : Room := { frames := 2, cells := 0, slots := 0, locals := 43 }
noncomputable def sp_JL_charAt (n : Nat) (p2 : Int32) : Int32 := lett (sp_JS_checkIndex p2 (nI (sLen.getD n 0))) fun (y3 : Unit) => ((((sByt.getD n []).getD p2.toNatClampNeg 0) &&& (255 : Int32)).toUInt32 % 65536).toInt32
def ok_JL_charAt (n : Nat) (p2 : Int32) : Prop := (n < 20) ∧ (ok_JS_checkIndex p2 (nI (sLen.getD n 0))) ∧ lett (sp_JS_checkIndex p2 (nI (sLen.getD n 0))) fun (y3 : Unit) => (vp_in p2 (sLen.getD n 0)) ∧ (narrow .char (.int (((((sByt.getD n []).getD p2.toNatClampNeg 0) &&& (255 : Int32)).toUInt32 % 65536).toInt32)) = .int (((((sByt.getD n []).getD p2.toNatClampNeg 0) &&& (255 : Int32)).toUInt32 % 65536).toInt32)) ∧ True
set_option maxRecDepth 100000 in
set_option maxHeartbeats 4000000 in
theorem c_JL_charAt (l : Launch) (g : GX)   (n : Nat) (p2 : Int32) (hok : ok_JL_charAt n p2) : Met l y_JL_charAt (wsY y_JL_charAt b_JL_charAt 2 (some .char)) rm_JL_charAt (CP g [.ref (g.2.2.2 (n + 31)), .int p2] (wNil g )) (CI0 g (wNil g ) (sp_JL_charAt n p2)) 0 0 (inW (wNil g )) := by
  refine va_MetF (cc := b_JL_charAt) (maxL := 2) (ret := (some .char)) (by decide +kernel) rfl ?_
  intro p e s m args below meth c s₁ B hml hv
  obtain ⟨rfl, C, hP, hD, hS⟩ := enter "java/lang/StringLatin1" rfl B hml hv
  obtain ⟨hx, hb, hr, hml, hown, hlk, hts, hK, hZo, hZ⟩ := id C
  refine entryW (lv := [(0, .ref (g.2.2.2 (n + 31))), (1, .int p2)]) rfl (Nat.le_of_ble_eq_true rfl) (fun ls hl => ?_)
  obtain ⟨z, hz⟩ : ∃ z, z = sp_JL_charAt n p2 := ⟨_, rfl⟩
  rw [← hz]
  unfold sp_JL_charAt at hz
  unfold ok_JL_charAt at hok
  refine lv_iload_n hx hb d_JL_charAt_0 rfl (lv_at hl 1 rfl) ?_
  refine lv_aload_n hx hb d_JL_charAt_1 rfl (lv_at hl 0 rfl) ?_
  have hs1 := hok.1
  have hok := hok.2
  refine va_tlen hx hb ((zStr hZo hZ).1 n hs1).2.2.2 hS (v := nI (sLen.getD n 0)) rfl d_JL_charAt_2 ?_
  have hs2 := hok.1
  have hok := hok.2
  have hB : SubW g (inW (wNil g )) s (wNil g ) _ (List.range _) _ _ := (subF hP hD hS)
  refine goVF hB (run_s C mf_JS_checkIndex qm_JL_9 (c_JS_checkIndex l g p2 (nI (sLen.getD n 0)) hs2) rfl rfl ⟨Nat.le_of_ble_eq_true rfl, Nat.le_of_ble_eq_true rfl⟩ ⟨Nat.le_of_ble_eq_true rfl, Nat.le_of_ble_eq_true rfl⟩ hB hl rfl rfl (Nat.le_of_ble_eq_true rfl) d_JL_charAt_3) (fun _ => rfl) (fun y3 ey3 H locs hP hD hS => ?_)
  have hz := lett_z hz ey3
  have hok := lett_o hok ey3
  refine lv_aload_n hx hb d_JL_charAt_6 rfl (lv_at hl 0 rfl) ?_
  refine lv_iload_n hx hb d_JL_charAt_7 rfl (lv_at hl 1 rfl) ?_
  have hs4 := hok.1
  have hok := hok.2
  refine va_tb hx hb ((zStr hZo hZ).1 n hs1).2.2.2 hS hs4 (v := .int ((sByt.getD n []).getD p2.toNatClampNeg 0)) rfl d_JL_charAt_8 ?_
  refine lv_sipush (v := 255) hx hb d_JL_charAt_9 (by decide) ?_
  refine lv_iand hx hb d_JL_charAt_12 ?_
  refine lv_i2c hx hb d_JL_charAt_13 rfl ?_
  have hs5 := hok.1
  have hok := hok.2
  exact endZ0 C hz hP hS hs5 d_JL_charAt_14
abbrev rm_JS_charAt : Room := { frames := 3, cells := 0, slots := 0, locals := 64 }
noncomputable def sp_JS_charAt (n : Nat) (p1 : Int32) : Int32 := lett (sp_JS_isLatin1 n) fun (y3 : Int32) => if y3 = 0 then (default) else (lett (sp_JL_charAt n p1) fun (y7 : Int32) => y7)
def ok_JS_charAt (n : Nat) (p1 : Int32) : Prop := (ok_JS_isLatin1 n) ∧ (n < 20) ∧ lett (sp_JS_isLatin1 n) fun (y3 : Int32) => ((y3 = 0 → (False) ∧ True) ∧ (¬ (y3 = 0) → (ok_JL_charAt n p1) ∧ lett (sp_JL_charAt n p1) fun (y7 : Int32) => (narrow .char (.int y7) = .int y7) ∧ True))
set_option maxRecDepth 100000 in
set_option maxHeartbeats 4000000 in
theorem c_JS_charAt (l : Launch) (g : GX)   (n : Nat) (p1 : Int32) (hok : ok_JS_charAt n p1) : Met l y_JS_charAt (wsY y_JS_charAt b_JS_charAt 2 (some .char)) rm_JS_charAt (CP g [.ref (g.2.2.2 (n + 1)), .int p1] (wNil g )) (CI0 g (wNil g ) (sp_JS_charAt n p1)) 0 0 (inW (wNil g )) := by
  refine va_MetF (cc := b_JS_charAt) (maxL := 2) (ret := (some .char)) (by decide +kernel) rfl ?_
  intro p e s m args below meth c s₁ B hml hv
  obtain ⟨rfl, C, hP, hD, hS⟩ := enter "java/lang/String" rfl B hml hv
  obtain ⟨hx, hb, hr, hml, hown, hlk, hts, hK, hZo, hZ⟩ := id C
  refine entryW (lv := [(0, .ref (g.2.2.2 (n + 1))), (1, .int p1)]) rfl (Nat.le_of_ble_eq_true rfl) (fun ls hl => ?_)
  obtain ⟨z, hz⟩ : ∃ z, z = sp_JS_charAt n p1 := ⟨_, rfl⟩
  rw [← hz]
  unfold sp_JS_charAt at hz
  unfold ok_JS_charAt at hok
  refine lv_aload_n hx hb d_JS_charAt_0 rfl (lv_at hl 0 rfl) ?_
  have hs1 := hok.1
  have hok := hok.2
  have hs2 := hok.1
  have hok := hok.2
  have hB : SubW g (inW (wNil g )) s (wNil g ) _ (List.range _) _ _ := (subF hP hD hS)
  refine goI0 hB (run_q C mf_JS_isLatin1 qm_JS_492 (c_JS_isLatin1 l g n hs1) rfl rfl ⟨Nat.le_of_ble_eq_true rfl, Nat.le_of_ble_eq_true rfl⟩ ⟨Nat.le_of_ble_eq_true rfl, Nat.le_of_ble_eq_true rfl⟩ hB (zRecv hZo hZ hs2 hS) hl rfl rfl (Nat.le_of_ble_eq_true rfl) d_JS_charAt_1) (fun y3 ey3 H locs hP hS => ?_)
  have hz := lett_z hz ey3
  have hok := lett_o hok ey3
  refine lv_if_eq (tgt := 16) hx hb d_JS_charAt_4 (by decide) (fun c4 => ?_) (fun c4 => ?_)
  · have hz := hz.trans (if_pos c4)
    have hok := hok.1 c4
    refine lv_aload_n hx hb d_JS_charAt_16 rfl (lv_at hl 0 rfl) ?_
    refine vk_getf hx hb ((zStr hZo hZ).1 n hs2).2.2.1 hS hown (hts _ qf_JS_9) (fun _ h9 => h9) d_JS_charAt_17 ?_
    refine lv_iload_n hx hb d_JS_charAt_20 rfl (lv_at hl 1 rfl) ?_
    have hs5 := hok.1
    have hok := hok.2
    exact False.elim hs5
  · have hz := hz.trans (if_neg c4)
    have hok := hok.2 c4
    refine lv_aload_n hx hb d_JS_charAt_7 rfl (lv_at hl 0 rfl) ?_
    refine vk_getf hx hb ((zStr hZo hZ).1 n hs2).2.2.1 hS hown (hts _ qf_JS_9) (fun _ h9 => h9) d_JS_charAt_8 ?_
    refine lv_iload_n hx hb d_JS_charAt_11 rfl (lv_at hl 1 rfl) ?_
    have hs6 := hok.1
    have hok := hok.2
    have hB : SubW g (inW (wNil g )) s (wNil g ) _ (List.range _) _ _ := (subF hP hD hS)
    refine goI0 hB (run_s C mf_JL_charAt qm_JS_495 (c_JL_charAt l g n p1 hs6) rfl rfl ⟨Nat.le_of_ble_eq_true rfl, Nat.le_of_ble_eq_true rfl⟩ ⟨Nat.le_of_ble_eq_true rfl, Nat.le_of_ble_eq_true rfl⟩ hB hl rfl rfl (Nat.le_of_ble_eq_true rfl) d_JS_charAt_12) (fun y7 ey7 H locs hP hS => ?_)
    have hz := lett_z hz ey7
    have hok := lett_o hok ey7
    have hs8 := hok.1
    have hok := hok.2
    exact endZ0 C hz hP hS hs8 d_JS_charAt_15
