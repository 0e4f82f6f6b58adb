abbrev rm_Te_isWord : Room := { frames := 4, cells := 0, slots := 0, locals := 85 }
def HL_Te_isWord_29 (p : Program) (l : Launch) (e : Env) (s : State) (m : MethodId) (args : Array Value) (below : List Frame) (meth : Method) (c : Code) (g : GX) (qte : Nat) (qteb : Nat) (t : IV) (tb : IV) (n : Nat) (sp : Int32 → Int32) (ok : Int32 → Prop) : Prop := ∀ (x2p29 : Int32), ok x2p29 → ∀ z : Int32, z = sp x2p29 → ∀ (H : Heap) (locs : List Loc) (ls : Array Slot), va_P g.1 vwCl (wTe g qte qteb t tb) H → va_D (inW (wTe g qte qteb t tb)) (wTe g qte qteb t tb) → va_S (inW (wTe g qte qteb t tb)) s.heap H locs → lv_has ls 3 [(0, .ref qte), (1, .ref (g.2.2.2 (n + 1))), (2, .int x2p29)] → W p l e rm_Te_isWord s m args below meth c H locs 0 0 (MQ below (CI0 g (wTe g qte qteb t tb) z) args s 0 0 (inW (wTe g qte qteb t tb))) (F0 m 29 ls [])
noncomputable def bd_Te_isWord_29 (n : Nat) (t : IV) (tb : IV) (r29 : Int32 → Int32) (x2p29 : Int32) : Int32 := lett (sp_JS_length n) fun (y8 : Int32) => if y8 ≤ x2p29 then ((1 : Int32)) else (lett (sp_Te_byteAt ((t 3) + x2p29) tb) fun (y10 : Int32) => lett (sp_JS_charAt n x2p29) fun (y12 : Int32) => if y10 = y12 then (lett (x2p29 + (1 : Int32)) fun (v14 : Int32) => r29 v14) else ((0 : Int32)))
def okb_Te_isWord_29 (n : Nat) (t : IV) (tb : IV) (r29 : Int32 → Int32) (q29 : Int32 → Prop) (x2p29 : Int32) : Prop := (ok_JS_length n) ∧ (n < 20) ∧ lett (sp_JS_length n) fun (y8 : Int32) => ((y8 ≤ x2p29 → True) ∧ (¬ (y8 ≤ x2p29) → lett (sp_Te_byteAt ((t 3) + x2p29) tb) fun (y10 : Int32) => (ok_JS_charAt n x2p29) ∧ lett (sp_JS_charAt n x2p29) fun (y12 : Int32) => ((y10 = y12 → lett (x2p29 + (1 : Int32)) fun (v14 : Int32) => q29 v14) ∧ (¬ (y10 = y12) → True))))
noncomputable def sp_Te_isWord_29 (n : Nat) (t : IV) (tb : IV)  : Nat → Int32 → Int32
  | 0 => fun _ => default
  | f + 1 => bd_Te_isWord_29 n t tb  (sp_Te_isWord_29 n t tb  f)
def ok_Te_isWord_29 (n : Nat) (t : IV) (tb : IV)   : Nat → Int32 → Prop
  | 0 => fun _ => False
  | f + 1 => okb_Te_isWord_29 n t tb  (sp_Te_isWord_29 n t tb  f)  (ok_Te_isWord_29 n t tb   f)
set_option maxRecDepth 100000 in
set_option maxHeartbeats 4000000 in
theorem kb_Te_isWord_29 {p : Program} {l : Launch} {e : Env} {s : State} {m : MethodId} {args : Array Value} {below : List Frame} {meth : Method} {c : Code} {g : GX} {qte : Nat} {qteb : Nat} {t : IV} {tb : IV} {n : Nat}  (C : Cx p s m args meth c (inW (wTe g qte qteb t tb)) g "DecadeBridge$Text" b_Te_isWord (some .boolean) 3) {r29 : Int32 → Int32} {q29 : Int32 → Prop}  (ih29 : HL_Te_isWord_29 p l e s m args below meth c g qte qteb t tb n r29 q29) : HL_Te_isWord_29 p l e s m args below meth c g qte qteb t tb n (bd_Te_isWord_29 n t tb  r29) (okb_Te_isWord_29 n t tb  r29  q29) := by
  intro x2p29 hok z hz H locs ls hP hD hS hl
  obtain ⟨hx, hb, hr, hml, hown, hlk, hts, hK, hZo, hZ⟩ := id C
  unfold bd_Te_isWord_29 at hz
  unfold okb_Te_isWord_29 at hok
  refine lv_iload_n hx hb d_Te_isWord_29 rfl (lv_at hl 2 rfl) ?_
  refine lv_aload_n hx hb d_Te_isWord_30 rfl (lv_at hl 1 rfl) ?_
  have hs6 := hok.1
  have hok := hok.2
  have hs7 := hok.1
  have hok := hok.2
  have hB : SubW g (inW (wTe g qte qteb t tb)) s (wTe g qte qteb t tb) (wNil g ) [] _ _ := ⟨rfl, rfl, hP, hD, hS⟩
  refine goI0 hB (run_q C mf_JS_length qm_Te_45 (c_JS_length l g n hs6) rfl rfl ⟨Nat.le_of_ble_eq_true rfl, Nat.le_of_ble_eq_true rfl⟩ ⟨Nat.le_of_ble_eq_true rfl, Nat.le_of_ble_eq_true rfl⟩ hB (zRecv hZo hZ hs7 hS) hl rfl rfl (Nat.le_of_ble_eq_true rfl) d_Te_isWord_31) (fun y8 ey8 H locs hP hS => ?_)
  have hz := lett_z hz ey8
  have hok := lett_o hok ey8
  refine lv_icmp_ge (tgt := 63) hx hb d_Te_isWord_34 (by decide) (fun c9 => ?_) (fun c9 => ?_)
  · have hz := hz.trans (if_pos c9)
    refine lv_iconst (v := 1) hx hb d_Te_isWord_63 (by decide) ?_
    exact endZ0 C hz hP hS rfl d_Te_isWord_64
  · have hz := hz.trans (if_neg c9)
    have hok := hok.2 c9
    refine lv_aload_n hx hb d_Te_isWord_37 rfl (lv_at hl 0 rfl) ?_
    refine lv_aload_n hx hb d_Te_isWord_38 rfl (lv_at hl 0 rfl) ?_
    refine gf C hP 0 3 fkTe rfl (by decide) rfl qf_Te_35 (gTe_3 _ _) d_Te_isWord_39 ?_
    refine lv_iload_n hx hb d_Te_isWord_42 rfl (lv_at hl 2 rfl) ?_
    refine lv_iadd hx hb d_Te_isWord_43 ?_
    have hB : SubW g (inW (wTe g qte qteb t tb)) s (wTe g qte qteb t tb) _ (List.range _) _ _ := (subF hP hD hS)
    refine goI0 hB (run_v C mf_Te_byteAt qm_Te_50 (c_Te_byteAt l g qte qteb t tb ((t 3) + x2p29)) rfl rfl ⟨Nat.le_of_ble_eq_true rfl, Nat.le_of_ble_eq_true rfl⟩ ⟨Nat.le_of_ble_eq_true rfl, Nat.le_of_ble_eq_true rfl⟩ hB rfl rfl hl rfl rfl (Nat.le_of_ble_eq_true rfl) d_Te_isWord_44) (fun y10 ey10 H locs hP hS => ?_)
    have hz := lett_z hz ey10
    have hok := lett_o hok ey10
    refine lv_aload_n hx hb d_Te_isWord_47 rfl (lv_at hl 1 rfl) ?_
    refine lv_iload_n hx hb d_Te_isWord_48 rfl (lv_at hl 2 rfl) ?_
    have hs11 := hok.1
    have hok := hok.2
    have hB : SubW g (inW (wTe g qte qteb t tb)) s (wTe g qte qteb t tb) (wNil g ) [] _ _ := ⟨rfl, rfl, hP, hD, hS⟩
    refine goI0 hB (run_q C mf_JS_charAt qm_Te_53 (c_JS_charAt l g n x2p29 hs11) rfl rfl ⟨Nat.le_of_ble_eq_true rfl, Nat.le_of_ble_eq_true rfl⟩ ⟨Nat.le_of_ble_eq_true rfl, Nat.le_of_ble_eq_true rfl⟩ hB (zRecv hZo hZ hs7 hS) hl rfl rfl (Nat.le_of_ble_eq_true rfl) d_Te_isWord_49) (fun y12 ey12 H locs hP hS => ?_)
    have hz := lett_z hz ey12
    have hok := lett_o hok ey12
    refine lv_icmp_eq (tgt := 57) hx hb d_Te_isWord_52 (by decide) (fun c13 => ?_) (fun c13 => ?_)
    · have hz := hz.trans (if_pos c13)
      have hok := hok.1 c13
      obtain ⟨v14, ev14⟩ : ∃ y : Int32, y = x2p29 + (1 : Int32) := ⟨_, rfl⟩
      have hz := lett_z hz ev14
      have hok := lett_o hok ev14
      refine lv_iinc (v := v14) (lv' := [(2, .int v14), (0, .ref qte), (1, .ref (g.2.2.2 (n + 1)))]) hx hb d_Te_isWord_57 hl (k := 2) rfl (by rw [ev14]; rfl) (by decide) rfl (fun ls hl => ?_)
      refine lv_goto (tgt := 29) hx hb d_Te_isWord_60 (by decide) ?_
      exact ih29 v14 hok _ hz _ _ ls hP hD hS (lv_sub hl [1, 2, 0] rfl)
    · have hz := hz.trans (if_neg c13)
      refine lv_iconst (v := 0) hx hb d_Te_isWord_55 (by decide) ?_
      exact endZ0 C hz hP hS rfl d_Te_isWord_56
theorem k_Te_isWord_29 {p : Program} {l : Launch} {e : Env} {s : State} {m : MethodId} {args : Array Value} {below : List Frame} {meth : Method} {c : Code} {g : GX} {qte : Nat} {qteb : Nat} {t : IV} {tb : IV} {n : Nat}  (C : Cx p s m args meth c (inW (wTe g qte qteb t tb)) g "DecadeBridge$Text" b_Te_isWord (some .boolean) 3) (f : Nat)  : HL_Te_isWord_29 p l e s m args below meth c g qte qteb t tb n (sp_Te_isWord_29 n t tb  f) (ok_Te_isWord_29 n t tb   f) := by
  induction f with
  | zero => intro x2p29 hok; exact False.elim hok
  | succ f ih => exact kb_Te_isWord_29 C  ih
noncomputable def sp_Te_isWord (n : Nat) (t : IV) (tb : IV) : Int32 := if (t 2) = (97 : Int32) then (lett (sp_JS_length n) fun (y4 : Int32) => if ((t 4) - (t 3)) = y4 then (sp_Te_isWord_29 n t tb big (0 : Int32)) else ((0 : Int32))) else ((0 : Int32))
def ok_Te_isWord (n : Nat) (t : IV) (tb : IV) : Prop := (((t 2) = (97 : Int32) → (ok_JS_length n) ∧ (n < 20) ∧ lett (sp_JS_length n) fun (y4 : Int32) => ((((t 4) - (t 3)) = y4 → ok_Te_isWord_29 n t tb big (0 : Int32)) ∧ (¬ (((t 4) - (t 3)) = y4) → True))) ∧ (¬ ((t 2) = (97 : Int32)) → True))
set_option maxRecDepth 100000 in
set_option maxHeartbeats 4000000 in
theorem c_Te_isWord (l : Launch) (g : GX) (qte : Nat) (qteb : Nat) (t : IV) (tb : IV) (n : Nat) (hok : ok_Te_isWord n t tb) : Met l y_Te_isWord (wsY y_Te_isWord b_Te_isWord 3 (some .boolean)) rm_Te_isWord (CP g [.ref qte, .ref (g.2.2.2 (n + 1))] (wTe g qte qteb t tb)) (CI0 g (wTe g qte qteb t tb) (sp_Te_isWord n t tb)) 0 0 (inW (wTe g qte qteb t tb)) := by
  refine Met.ofW (cc := b_Te_isWord) (maxL := 3) (ret := (some .boolean)) pn_Te rfl ?_
  intro p e s m args below meth c s₁ B hml hv
  obtain ⟨rfl, C, hP, hD, hS⟩ := enter "DecadeBridge$Text" rfl B hml hv
  obtain ⟨hx, hb, hr, hml, hown, hlk, hts, hK, hZo, hZ⟩ := id C
  refine entryW (lv := [(0, .ref qte), (1, .ref (g.2.2.2 (n + 1)))]) rfl (Nat.le_of_ble_eq_true rfl) (fun ls hl => ?_)
  obtain ⟨z, hz⟩ : ∃ z, z = sp_Te_isWord n t tb := ⟨_, rfl⟩
  rw [← hz]
  unfold sp_Te_isWord at hz
  unfold ok_Te_isWord at hok
  refine lv_aload_n hx hb d_Te_isWord_0 rfl (lv_at hl 0 rfl) ?_
  refine gf C hP 0 2 fkTe rfl (by decide) rfl qf_Te_38 (gTe_2 _ _) d_Te_isWord_1 ?_
  refine lv_bipush (v := 97) hx hb d_Te_isWord_4 (by decide) ?_
  refine lv_icmp_ne (tgt := 25) hx hb d_Te_isWord_6 (by decide) (fun c1 => ?_) (fun c1 => ?_)
  · have hz := hz.trans (if_neg c1)
    refine lv_iconst (v := 0) hx hb d_Te_isWord_25 (by decide) ?_
    exact endZ0 C hz hP hS rfl d_Te_isWord_26
  · have hz := hz.trans (if_pos c1)
    have hok := hok.1 c1
    refine lv_aload_n hx hb d_Te_isWord_9 rfl (lv_at hl 0 rfl) ?_
    refine gf C hP 0 4 fkTe rfl (by decide) rfl qf_Te_25 (gTe_4 _ _) d_Te_isWord_10 ?_
    refine lv_aload_n hx hb d_Te_isWord_13 rfl (lv_at hl 0 rfl) ?_
    refine gf C hP 0 3 fkTe rfl (by decide) rfl qf_Te_35 (gTe_3 _ _) d_Te_isWord_14 ?_
    refine lv_isub hx hb d_Te_isWord_17 ?_
    refine lv_aload_n hx hb d_Te_isWord_18 rfl (lv_at hl 1 rfl) ?_
    have hs2 := hok.1
    have hok := hok.2
    have hs3 := hok.1
    have hok := hok.2
    have hB : SubW g (inW (wTe g qte qteb t tb)) s (wTe g qte qteb t tb) (wNil g ) [] _ _ := ⟨rfl, rfl, hP, hD, hS⟩
    refine goI0 hB (run_q C mf_JS_length qm_Te_45 (c_JS_length l g n hs2) rfl rfl ⟨Nat.le_of_ble_eq_true rfl, Nat.le_of_ble_eq_true rfl⟩ ⟨Nat.le_of_ble_eq_true rfl, Nat.le_of_ble_eq_true rfl⟩ hB (zRecv hZo hZ hs3 hS) hl rfl rfl (Nat.le_of_ble_eq_true rfl) d_Te_isWord_19) (fun y4 ey4 H locs hP hS => ?_)
    have hz := lett_z hz ey4
    have hok := lett_o hok ey4
    refine lv_icmp_eq (tgt := 27) hx hb d_Te_isWord_22 (by decide) (fun c5 => ?_) (fun c5 => ?_)
    · have hz := hz.trans (if_pos c5)
      have hok := hok.1 c5
      refine lv_iconst (v := 0) hx hb d_Te_isWord_27 (by decide) ?_
      refine lv_istore_n (lv' := [(2, .int (0 : Int32)), (0, .ref qte), (1, .ref (g.2.2.2 (n + 1)))]) hx hb d_Te_isWord_28 rfl hl (by decide) rfl (fun ls hl => ?_)
      exact k_Te_isWord_29 C big (0 : Int32) hok _ hz _ _ ls hP hD hS (lv_sub hl [1, 2, 0] rfl)
    · have hz := hz.trans (if_neg c5)
      refine lv_iconst (v := 0) hx hb d_Te_isWord_25 (by decide) ?_
      exact endZ0 C hz hP hS rfl d_Te_isWord_26
abbrev rm_Te_takeSign : Room := { frames := 2, cells := 0, slots := 0, locals := 43 }
def HL_Te_takeSign_13 (p : Program) (l : Launch) (e : Env) (s : State) (m : MethodId) (args : Array Value) (below : List Frame) (meth : Method) (c : Code) (g : GX) (qte : Nat) (qteb : Nat) (ws0 : va_W) (tb : IV) (sp : IV → IV) (ok : IV → Prop) : Prop := ∀ (tp13 : IV), ok tp13 → ∀ z : IV, z = sp tp13 → ∀ (H : Heap) (locs : List Loc) (ls : Array Slot), va_P g.1 vwCl (wTe g qte qteb tp13 tb) H → va_D (inW ws0) (wTe g qte qteb tp13 tb) → va_S (inW ws0) s.heap H locs → lv_has ls 2 [(0, .ref qte)] → W p l e rm_Te_takeSign s m args below meth c H locs 0 0 (MQ below (CV g ws0 (fun u : IV => wTe g qte qteb u tb) z) args s 0 0 (inW ws0)) (F0 m 13 ls [])
noncomputable def sp_Te_takeSign_13 (tb : IV)  (tp13 : IV) : IV := lett (sp_Te_advance tp13 tb) fun (y4 : IV) => y4
def ok_Te_takeSign_13 (tb : IV)   (tp13 : IV) : Prop := (ok_Te_advance tp13 tb) ∧ True
set_option maxRecDepth 100000 in
set_option maxHeartbeats 4000000 in
theorem k_Te_takeSign_13 {p : Program} {l : Launch} {e : Env} {s : State} {m : MethodId} {args : Array Value} {below : List Frame} {meth : Method} {c : Code} {g : GX} {qte : Nat} {qteb : Nat} {ws0 : va_W} {tb : IV}  (C : Cx p s m args meth c (inW ws0) g "DecadeBridge$Text" b_Te_takeSign none 2)  : HL_Te_takeSign_13 p l e s m args below meth c g qte qteb ws0 tb (sp_Te_takeSign_13 tb ) (ok_Te_takeSign_13 tb  ) := by
  intro tp13 hok z hz H locs ls hP hD hS hl
  obtain ⟨hx, hb, hr, hml, hown, hlk, hts, hK, hZo, hZ⟩ := id C
  unfold sp_Te_takeSign_13 at hz
  unfold ok_Te_takeSign_13 at hok
  refine lv_aload_n hx hb d_Te_takeSign_13 rfl (lv_at hl 0 rfl) ?_
  have hs3 := hok.1
  have hok := hok.2
  have hB : SubW g (inW ws0) s (wTe g qte qteb tp13 tb) _ (List.range _) _ _ := (subF hP hD hS)
  refine goVF hB (run_v C mf_Te_advance qm_Te_28 (c_Te_advance l g qte qteb tp13 tb hs3) rfl rfl ⟨Nat.le_of_ble_eq_true rfl, Nat.le_of_ble_eq_true rfl⟩ ⟨Nat.le_of_ble_eq_true rfl, Nat.le_of_ble_eq_true rfl⟩ hB rfl rfl hl rfl rfl (Nat.le_of_ble_eq_true rfl) d_Te_takeSign_14) (fun _ => rfl) (fun y4 ey4 H locs hP hD hS => ?_)
  have hP : va_P g.1 vwCl (wTe g qte qteb y4 tb) H := hP
  have hD : va_D (inW ws0) (wTe g qte qteb y4 tb) := hD
  have hz := lett_z hz ey4
  exact endV C hz hP hS d_Te_takeSign_17
noncomputable def sp_Te_takeSign (p1 : Int32) (t : IV) (tb : IV) : IV := if (t 2) = p1 then (sp_Te_takeSign_13 tb t) else (lett (sp_Te_fail (1 : Int32) t) fun (y2 : IV) => sp_Te_takeSign_13 tb y2)
def ok_Te_takeSign (p1 : Int32) (t : IV) (tb : IV) : Prop := (((t 2) = p1 → ok_Te_takeSign_13 tb t) ∧ (¬ ((t 2) = p1) → lett (sp_Te_fail (1 : Int32) t) fun (y2 : IV) => ok_Te_takeSign_13 tb y2))
set_option maxRecDepth 100000 in
set_option maxHeartbeats 4000000 in
theorem c_Te_takeSign (l : Launch) (g : GX) (qte : Nat) (qteb : Nat) (t : IV) (tb : IV) (p1 : Int32) (hok : ok_Te_takeSign p1 t tb) : Met l y_Te_takeSign (wsY y_Te_takeSign b_Te_takeSign 2 none) rm_Te_takeSign (CP g [.ref qte, .int p1] (wTe g qte qteb t tb)) (CV g (wTe g qte qteb t tb) (fun u : IV => wTe g qte qteb u tb) (sp_Te_takeSign p1 t tb)) 0 0 (inW (wTe g qte qteb t tb)) := by
  refine Met.ofW (cc := b_Te_takeSign) (maxL := 2) (ret := none) pn_Te rfl ?_
  intro p e s m args below meth c s₁ B hml hv
  obtain ⟨rfl, C, hP, hD, hS⟩ := enter "DecadeBridge$Text" rfl B hml hv
  obtain ⟨hx, hb, hr, hml, hown, hlk, hts, hK, hZo, hZ⟩ := id C
  refine entryW (lv := [(0, .ref qte), (1, .int p1)]) rfl (Nat.le_of_ble_eq_true rfl) (fun ls hl => ?_)
  obtain ⟨z, hz⟩ : ∃ z, z = sp_Te_takeSign p1 t tb := ⟨_, rfl⟩
  rw [← hz]
  unfold sp_Te_takeSign at hz
  unfold ok_Te_takeSign at hok
  refine lv_aload_n hx hb d_Te_takeSign_0 rfl (lv_at hl 0 rfl) ?_
  refine gf C hP 0 2 fkTe rfl (by decide) rfl qf_Te_38 (gTe_2 _ _) d_Te_takeSign_1 ?_
  refine lv_iload_n hx hb d_Te_takeSign_4 rfl (lv_at hl 1 rfl) ?_
  refine lv_icmp_eq (tgt := 13) hx hb d_Te_takeSign_5 (by decide) (fun c1 => ?_) (fun c1 => ?_)
  · have hz := hz.trans (if_pos c1)
    have hok := hok.1 c1
    exact k_Te_takeSign_13 C t hok _ hz _ _ ls hP hD hS (lv_sub hl [0] rfl)
  · have hz := hz.trans (if_neg c1)
    have hok := hok.2 c1
    refine lv_aload_n hx hb d_Te_takeSign_8 rfl (lv_at hl 0 rfl) ?_
    refine lv_iconst (v := 1) hx hb d_Te_takeSign_9 (by decide) ?_
    have hB : SubW g (inW (wTe g qte qteb t tb)) s (wTe g qte qteb t tb) _ (List.range _) _ _ := (subF hP hD hS)
    refine goVF hB (run_v C mf_Te_fail qm_Te_57 (c_Te_fail l g qte qteb t tb (1 : Int32)) rfl rfl ⟨Nat.le_of_ble_eq_true rfl, Nat.le_of_ble_eq_true rfl⟩ ⟨Nat.le_of_ble_eq_true rfl, Nat.le_of_ble_eq_true rfl⟩ hB rfl rfl hl rfl rfl (Nat.le_of_ble_eq_true rfl) d_Te_takeSign_10) (fun _ => rfl) (fun y2 ey2 H locs hP hD hS => ?_)
    have hP : va_P g.1 vwCl (wTe g qte qteb y2 tb) H := hP
    have hD : va_D (inW (wTe g qte qteb t tb)) (wTe g qte qteb y2 tb) := hD
    have hz := lett_z hz ey2
    have hok := lett_o hok ey2
    exact k_Te_takeSign_13 C y2 hok _ hz _ _ ls hP hD hS (lv_sub hl [0] rfl)
abbrev rm_Te_number : Room := { frames := 2, cells := 0, slots := 0, locals := 43 }
def HL_Te_number_17 (p : Program) (l : Launch) (e : Env) (s : State) (m : MethodId) (args : Array Value) (below : List Frame) (meth : Method) (c : Code) (g : GX) (qte : Nat) (qteb : Nat) (ws0 : va_W) (t : IV) (tb : IV) (p1 : Int32) (p2 : Int32) (sp : (Int32 × IV)) (ok : Prop) : Prop := ∀ (_ : Unit), ok → ∀ z : (Int32 × IV), z = sp → ∀ (H : Heap) (locs : List Loc) (ls : Array Slot), va_P g.1 vwCl (wTe g qte qteb t tb) H → va_D (inW ws0) (wTe g qte qteb t tb) → va_S (inW ws0) s.heap H locs → lv_has ls 6 [(0, .ref qte), (1, .int p1), (2, .int p2)] → W p l e rm_Te_number s m args below meth c H locs 0 0 (MQ below (CI g ws0 (fun u : IV => wTe g qte qteb u tb) z) args s 0 0 (inW ws0)) (F0 m 17 ls [])
def HL_Te_number_18 (p : Program) (l : Launch) (e : Env) (s : State) (m : MethodId) (args : Array Value) (below : List Frame) (meth : Method) (c : Code) (g : GX) (qte : Nat) (qteb : Nat) (ws0 : va_W) (t : IV) (tb : IV) (p1 : Int32) (p2 : Int32) (sp : Int32 → (Int32 × IV)) (ok : Int32 → Prop) : Prop := ∀ (t0p18 : Int32), ok t0p18 → ∀ z : (Int32 × IV), z = sp t0p18 → ∀ (H : Heap) (locs : List Loc) (ls : Array Slot), va_P g.1 vwCl (wTe g qte qteb t tb) H → va_D (inW ws0) (wTe g qte qteb t tb) → va_S (inW ws0) s.heap H locs → lv_has ls 6 [(0, .ref qte), (1, .int p1), (2, .int p2)] → W p l e rm_Te_number s m args below meth c H locs 0 0 (MQ below (CI g ws0 (fun u : IV => wTe g qte qteb u tb) z) args s 0 0 (inW ws0)) (F0 m 18 ls [.int t0p18])
def HL_Te_number_27 (p : Program) (l : Launch) (e : Env) (s : State) (m : MethodId) (args : Array Value) (below : List Frame) (meth : Method) (c : Code) (g : GX) (qte : Nat) (qteb : Nat) (ws0 : va_W) (tb : IV) (p1 : Int32) (p2 : Int32) (t0p18 : Int32) (sp : IV → (Int32 × IV)) (ok : IV → Prop) : Prop := ∀ (tp27 : IV), ok tp27 → ∀ z : (Int32 × IV), z = sp tp27 → ∀ (H : Heap) (locs : List Loc) (ls : Array Slot), va_P g.1 vwCl (wTe g qte qteb tp27 tb) H → va_D (inW ws0) (wTe g qte qteb tp27 tb) → va_S (inW ws0) s.heap H locs → lv_has ls 6 [(0, .ref qte), (1, .int p1), (2, .int p2), (3, .int t0p18)] → W p l e rm_Te_number s m args below meth c H locs 0 0 (MQ below (CI g ws0 (fun u : IV => wTe g qte qteb u tb) z) args s 0 0 (inW ws0)) (F0 m 27 ls [])
def HL_Te_number_52 (p : Program) (l : Launch) (e : Env) (s : State) (m : MethodId) (args : Array Value) (below : List Frame) (meth : Method) (c : Code) (g : GX) (qte : Nat) (qteb : Nat) (ws0 : va_W) (tp27 : IV) (tb : IV) (p1 : Int32) (p2 : Int32) (t0p18 : Int32) (sp : Int32 → Int32 → (Int32 × IV)) (ok : Int32 → Int32 → Prop) : Prop := ∀ (x4p52 : Int32) (x5p52 : Int32), ok x4p52 x5p52 → ∀ z : (Int32 × IV), z = sp x4p52 x5p52 → ∀ (H : Heap) (locs : List Loc) (ls : Array Slot), va_P g.1 vwCl (wTe g qte qteb tp27 tb) H → va_D (inW ws0) (wTe g qte qteb tp27 tb) → va_S (inW ws0) s.heap H locs → lv_has ls 6 [(0, .ref qte), (1, .int p1), (2, .int p2), (3, .int t0p18), (4, .int x4p52), (5, .int x5p52)] → W p l e rm_Te_number s m args below meth c H locs 0 0 (MQ below (CI g ws0 (fun u : IV => wTe g qte qteb u tb) z) args s 0 0 (inW ws0)) (F0 m 52 ls [])
def HL_Te_number_96 (p : Program) (l : Launch) (e : Env) (s : State) (m : MethodId) (args : Array Value) (below : List Frame) (meth : Method) (c : Code) (g : GX) (qte : Nat) (qteb : Nat) (ws0 : va_W) (tp27 : IV) (tb : IV) (p1 : Int32) (p2 : Int32) (t0p18 : Int32) (x4p52 : Int32) (sp : (Int32 × IV)) (ok : Prop) : Prop := ∀ (_ : Unit), ok → ∀ z : (Int32 × IV), z = sp → ∀ (H : Heap) (locs : List Loc) (ls : Array Slot), va_P g.1 vwCl (wTe g qte qteb tp27 tb) H → va_D (inW ws0) (wTe g qte qteb tp27 tb) → va_S (inW ws0) s.heap H locs → lv_has ls 6 [(0, .ref qte), (1, .int p1), (2, .int p2), (3, .int t0p18), (4, .int x4p52)] → W p l e rm_Te_number s m args below meth c H locs 0 0 (MQ below (CI g ws0 (fun u : IV => wTe g qte qteb u tb) z) args s 0 0 (inW ws0)) (F0 m 96 ls [])
def HL_Te_number_108 (p : Program) (l : Launch) (e : Env) (s : State) (m : MethodId) (args : Array Value) (below : List Frame) (meth : Method) (c : Code) (g : GX) (qte : Nat) (qteb : Nat) (ws0 : va_W) (tp27 : IV) (tb : IV) (p1 : Int32) (p2 : Int32) (sp : Int32 → (Int32 × IV)) (ok : Int32 → Prop) : Prop := ∀ (t0p108 : Int32), ok t0p108 → ∀ z : (Int32 × IV), z = sp t0p108 → ∀ (H : Heap) (locs : List Loc) (ls : Array Slot), va_P g.1 vwCl (wTe g qte qteb tp27 tb) H → va_D (inW ws0) (wTe g qte qteb tp27 tb) → va_S (inW ws0) s.heap H locs → lv_has ls 6 [(0, .ref qte), (1, .int p1), (2, .int p2)] → W p l e rm_Te_number s m args below meth c H locs 0 0 (MQ below (CI g ws0 (fun u : IV => wTe g qte qteb u tb) z) args s 0 0 (inW ws0)) (F0 m 108 ls [.int t0p108])
def HL_Te_number_136 (p : Program) (l : Launch) (e : Env) (s : State) (m : MethodId) (args : Array Value) (below : List Frame) (meth : Method) (c : Code) (g : GX) (qte : Nat) (qteb : Nat) (ws0 : va_W) (tp27 : IV) (tb : IV) (p1 : Int32) (sp : (Int32 × IV)) (ok : Prop) : Prop := ∀ (_ : Unit), ok → ∀ z : (Int32 × IV), z = sp → ∀ (H : Heap) (locs : List Loc) (ls : Array Slot), va_P g.1 vwCl (wTe g qte qteb tp27 tb) H → va_D (inW ws0) (wTe g qte qteb tp27 tb) → va_S (inW ws0) s.heap H locs → lv_has ls 6 [(0, .ref qte), (1, .int p1)] → W p l e rm_Te_number s m args below meth c H locs 0 0 (MQ below (CI g ws0 (fun u : IV => wTe g qte qteb u tb) z) args s 0 0 (inW ws0)) (F0 m 136 ls [])
noncomputable def sp_Te_number_136 (tp27 : IV) (p1 : Int32)   : Int32 × IV := lett (sp_Te_fail (2 : Int32) tp27) fun (y20 : IV) => (p1, y20)
def ok_Te_number_136 (tp27 : IV) (p1 : Int32)    : Prop := True
set_option maxRecDepth 100000 in
set_option maxHeartbeats 4000000 in
theorem k_Te_number_136 {p : Program} {l : Launch} {e : Env} {s : State} {m : MethodId} {args : Array Value} {below : List Frame} {meth : Method} {c : Code} {g : GX} {qte : Nat} {qteb : Nat} {ws0 : va_W} {tp27 : IV} {tb : IV} {p1 : Int32}  (C : Cx p s m args meth c (inW ws0) g "DecadeBridge$Text" b_Te_number (some .int) 6)  : HL_Te_number_136 p l e s m args below meth c g qte qteb ws0 tp27 tb p1 (sp_Te_number_136 tp27 p1 ) (ok_Te_number_136 tp27 p1  ) := by
  intro _ hok z hz H locs ls hP hD hS hl
  obtain ⟨hx, hb, hr, hml, hown, hlk, hts, hK, hZo, hZ⟩ := id C
  unfold sp_Te_number_136 at hz
  refine lv_aload_n hx hb d_Te_number_136 rfl (lv_at hl 0 rfl) ?_
  refine lv_iconst (v := 2) hx hb d_Te_number_137 (by decide) ?_
  have hB : SubW g (inW ws0) s (wTe g qte qteb tp27 tb) _ (List.range _) _ _ := (subF hP hD hS)
  refine goVF hB (run_v C mf_Te_fail qm_Te_57 (c_Te_fail l g qte qteb tp27 tb (2 : Int32)) rfl rfl ⟨Nat.le_of_ble_eq_true rfl, Nat.le_of_ble_eq_true rfl⟩ ⟨Nat.le_of_ble_eq_true rfl, Nat.le_of_ble_eq_true rfl⟩ hB rfl rfl hl rfl rfl (Nat.le_of_ble_eq_true rfl) d_Te_number_138) (fun _ => rfl) (fun y20 ey20 H locs hP hD hS => ?_)
  have hP : va_P g.1 vwCl (wTe g qte qteb y20 tb) H := hP
  have hD : va_D (inW ws0) (wTe g qte qteb y20 tb) := hD
  have hz := lett_z hz ey20
  refine lv_iload_n hx hb d_Te_number_141 rfl (lv_at hl 1 rfl) ?_
  exact endI1 C hz hP hS d_Te_number_142
noncomputable def sp_Te_number_108 (tp27 : IV) (p1 : Int32) (p2 : Int32) (tb : IV)  (t0p108 : Int32) : Int32 × IV := if (9 : Int32) < ((tp27 4) - (tp27 3)) then (sp_Te_number_136 tp27 p1) else (if t0p108 < p1 then (sp_Te_number_136 tp27 p1) else (if t0p108 ≤ p2 then (lett (sp_Te_advance tp27 tb) fun (y19 : IV) => (t0p108, y19)) else (sp_Te_number_136 tp27 p1)))
def ok_Te_number_108 (tp27 : IV) (p1 : Int32) (p2 : Int32) (tb : IV)   (t0p108 : Int32) : Prop := (((9 : Int32) < ((tp27 4) - (tp27 3)) → True) ∧ (¬ ((9 : Int32) < ((tp27 4) - (tp27 3))) → ((t0p108 < p1 → True) ∧ (¬ (t0p108 < p1) → ((t0p108 ≤ p2 → (ok_Te_advance tp27 tb) ∧ True) ∧ (¬ (t0p108 ≤ p2) → True))))))
set_option maxRecDepth 100000 in
set_option maxHeartbeats 4000000 in
theorem k_Te_number_108 {p : Program} {l : Launch} {e : Env} {s : State} {m : MethodId} {args : Array Value} {below : List Frame} {meth : Method} {c : Code} {g : GX} {qte : Nat} {qteb : Nat} {ws0 : va_W} {tp27 : IV} {tb : IV} {p1 : Int32} {p2 : Int32}  (C : Cx p s m args meth c (inW ws0) g "DecadeBridge$Text" b_Te_number (some .int) 6)  : HL_Te_number_108 p l e s m args below meth c g qte qteb ws0 tp27 tb p1 p2 (sp_Te_number_108 tp27 p1 p2 tb ) (ok_Te_number_108 tp27 p1 p2 tb  ) := by
  intro t0p108 hok z hz H locs ls hP hD hS hl
  obtain ⟨hx, hb, hr, hml, hown, hlk, hts, hK, hZo, hZ⟩ := id C
  unfold sp_Te_number_108 at hz
  unfold ok_Te_number_108 at hok
  refine lv_istore (lv' := [(4, .int t0p108), (0, .ref qte), (1, .int p1), (2, .int p2)]) hx hb d_Te_number_108 hl (by decide) rfl (fun ls hl => ?_)
  refine lv_aload_n hx hb d_Te_number_110 rfl (lv_at hl 1 rfl) ?_
  refine gf C hP 0 4 fkTe rfl (by decide) rfl qf_Te_25 (gTe_4 _ _) d_Te_number_111 ?_
  refine lv_aload_n hx hb d_Te_number_114 rfl (lv_at hl 1 rfl) ?_
  refine gf C hP 0 3 fkTe rfl (by decide) rfl qf_Te_35 (gTe_3 _ _) d_Te_number_115 ?_
  refine lv_isub hx hb d_Te_number_118 ?_
  refine lv_bipush (v := 9) hx hb d_Te_number_119 (by decide) ?_
  refine lv_icmp_gt (tgt := 136) hx hb d_Te_number_121 (by decide) (fun c15 => ?_) (fun c15 => ?_)
  · have hz := hz.trans (if_pos c15)
    exact k_Te_number_136 C () trivial _ hz _ _ ls hP hD hS (lv_sub hl [1, 2] rfl)
  · have hz := hz.trans (if_neg c15)
    have hok := hok.2 c15
    refine lv_iload hx hb d_Te_number_124 (lv_at hl 0 rfl) ?_
    refine lv_iload_n hx hb d_Te_number_126 rfl (lv_at hl 2 rfl) ?_
    refine lv_icmp_lt (tgt := 136) hx hb d_Te_number_127 (by decide) (fun c16 => ?_) (fun c16 => ?_)
    · have hz := hz.trans (if_pos c16)
      exact k_Te_number_136 C () trivial _ hz _ _ ls hP hD hS (lv_sub hl [1, 2] rfl)
    · have hz := hz.trans (if_neg c16)
      have hok := hok.2 c16
      refine lv_iload hx hb d_Te_number_130 (lv_at hl 0 rfl) ?_
      refine lv_iload_n hx hb d_Te_number_132 rfl (lv_at hl 3 rfl) ?_
      refine lv_icmp_le (tgt := 143) hx hb d_Te_number_133 (by decide) (fun c17 => ?_) (fun c17 => ?_)
      · have hz := hz.trans (if_pos c17)
        have hok := hok.1 c17
        refine lv_aload_n hx hb d_Te_number_143 rfl (lv_at hl 1 rfl) ?_
        have hs18 := hok.1
        have hok := hok.2
        have hB : SubW g (inW ws0) s (wTe g qte qteb tp27 tb) _ (List.range _) _ _ := (subF hP hD hS)
        refine goVF hB (run_v C mf_Te_advance qm_Te_28 (c_Te_advance l g qte qteb tp27 tb hs18) rfl rfl ⟨Nat.le_of_ble_eq_true rfl, Nat.le_of_ble_eq_true rfl⟩ ⟨Nat.le_of_ble_eq_true rfl, Nat.le_of_ble_eq_true rfl⟩ hB rfl rfl hl rfl rfl (Nat.le_of_ble_eq_true rfl) d_Te_number_144) (fun _ => rfl) (fun y19 ey19 H locs hP hD hS => ?_)
        have hP : va_P g.1 vwCl (wTe g qte qteb y19 tb) H := hP
        have hD : va_D (inW ws0) (wTe g qte qteb y19 tb) := hD
        have hz := lett_z hz ey19
        refine lv_iload hx hb d_Te_number_147 (lv_at hl 0 rfl) ?_
        exact endI1 C hz hP hS d_Te_number_149
      · have hz := hz.trans (if_neg c17)
        exact k_Te_number_136 C () trivial _ hz _ _ ls hP hD hS (lv_sub hl [1, 2] rfl)
noncomputable def sp_Te_number_96 (t0p18 : Int32) (tp27 : IV) (p1 : Int32) (p2 : Int32) (tb : IV) (x4p52 : Int32)   : Int32 × IV := if t0p18 = 0 then (sp_Te_number_108 tp27 p1 p2 tb x4p52) else (sp_Te_number_108 tp27 p1 p2 tb (-x4p52))
def ok_Te_number_96 (t0p18 : Int32) (tp27 : IV) (p1 : Int32) (p2 : Int32) (tb : IV) (x4p52 : Int32)    : Prop := ((t0p18 = 0 → ok_Te_number_108 tp27 p1 p2 tb x4p52) ∧ (¬ (t0p18 = 0) → ok_Te_number_108 tp27 p1 p2 tb (-x4p52)))
set_option maxRecDepth 100000 in
set_option maxHeartbeats 4000000 in
theorem k_Te_number_96 {p : Program} {l : Launch} {e : Env} {s : State} {m : MethodId} {args : Array Value} {below : List Frame} {meth : Method} {c : Code} {g : GX} {qte : Nat} {qteb : Nat} {ws0 : va_W} {tp27 : IV} {tb : IV} {p1 : Int32} {p2 : Int32} {t0p18 : Int32} {x4p52 : Int32}  (C : Cx p s m args meth c (inW ws0) g "DecadeBridge$Text" b_Te_number (some .int) 6)  : HL_Te_number_96 p l e s m args below meth c g qte qteb ws0 tp27 tb p1 p2 t0p18 x4p52 (sp_Te_number_96 t0p18 tp27 p1 p2 tb x4p52 ) (ok_Te_number_96 t0p18 tp27 p1 p2 tb x4p52  ) := by
  intro _ hok z hz H locs ls hP hD hS hl
  obtain ⟨hx, hb, hr, hml, hown, hlk, hts, hK, hZo, hZ⟩ := id C
  unfold sp_Te_number_96 at hz
  unfold ok_Te_number_96 at hok
  refine lv_iload_n hx hb d_Te_number_96 rfl (lv_at hl 3 rfl) ?_
  refine lv_if_eq (tgt := 106) hx hb d_Te_number_97 (by decide) (fun c14 => ?_) (fun c14 => ?_)
  · have hz := hz.trans (if_pos c14)
    have hok := hok.1 c14
    refine lv_iload hx hb d_Te_number_106 (lv_at hl 4 rfl) ?_
    exact k_Te_number_108 C x4p52 hok _ hz _ _ ls hP hD hS (lv_sub hl [0, 1, 2] rfl)
  · have hz := hz.trans (if_neg c14)
    have hok := hok.2 c14
    refine lv_iload hx hb d_Te_number_100 (lv_at hl 4 rfl) ?_
    refine lv_ineg hx hb d_Te_number_102 ?_
    refine lv_goto (tgt := 108) hx hb d_Te_number_103 (by decide) ?_
    exact k_Te_number_108 C (-x4p52) hok _ hz _ _ ls hP hD hS (lv_sub hl [0, 1, 2] rfl)
noncomputable def bd_Te_number_52 (tp27 : IV) (t0p18 : Int32) (p1 : Int32) (p2 : Int32) (tb : IV) (r52 : Int32 → Int32 → (Int32 × IV)) (x4p52 : Int32) (x5p52 : Int32) : Int32 × IV := if (tp27 4) ≤ x5p52 then (sp_Te_number_96 t0p18 tp27 p1 p2 tb x4p52) else (if ((tp27 3) + (9 : Int32)) ≤ x5p52 then (sp_Te_number_96 t0p18 tp27 p1 p2 tb x4p52) else (lett (sp_Te_byteAt x5p52 tb) fun (y11 : Int32) => lett (((10 : Int32) * x4p52) + (y11 - (48 : Int32))) fun (v12 : Int32) => lett (x5p52 + (1 : Int32)) fun (v13 : Int32) => r52 v12 v13))
def okb_Te_number_52 (tp27 : IV) (t0p18 : Int32) (p1 : Int32) (p2 : Int32) (tb : IV) (r52 : Int32 → Int32 → (Int32 × IV)) (q52 : Int32 → Int32 → Prop) (x4p52 : Int32) (x5p52 : Int32) : Prop := (((tp27 4) ≤ x5p52 → ok_Te_number_96 t0p18 tp27 p1 p2 tb x4p52) ∧ (¬ ((tp27 4) ≤ x5p52) → ((((tp27 3) + (9 : Int32)) ≤ x5p52 → ok_Te_number_96 t0p18 tp27 p1 p2 tb x4p52) ∧ (¬ (((tp27 3) + (9 : Int32)) ≤ x5p52) → lett (sp_Te_byteAt x5p52 tb) fun (y11 : Int32) => lett (((10 : Int32) * x4p52) + (y11 - (48 : Int32))) fun (v12 : Int32) => lett (x5p52 + (1 : Int32)) fun (v13 : Int32) => q52 v12 v13))))
noncomputable def sp_Te_number_52 (tp27 : IV) (t0p18 : Int32) (p1 : Int32) (p2 : Int32) (tb : IV)  : Nat → Int32 → Int32 → (Int32 × IV)
  | 0 => fun _ _ => default
  | f + 1 => bd_Te_number_52 tp27 t0p18 p1 p2 tb  (sp_Te_number_52 tp27 t0p18 p1 p2 tb  f)
def ok_Te_number_52 (tp27 : IV) (t0p18 : Int32) (p1 : Int32) (p2 : Int32) (tb : IV)   : Nat → Int32 → Int32 → Prop
  | 0 => fun _ _ => False
  | f + 1 => okb_Te_number_52 tp27 t0p18 p1 p2 tb  (sp_Te_number_52 tp27 t0p18 p1 p2 tb  f)  (ok_Te_number_52 tp27 t0p18 p1 p2 tb   f)
set_option maxRecDepth 100000 in
set_option maxHeartbeats 4000000 in
theorem kb_Te_number_52 {p : Program} {l : Launch} {e : Env} {s : State} {m : MethodId} {args : Array Value} {below : List Frame} {meth : Method} {c : Code} {g : GX} {qte : Nat} {qteb : Nat} {ws0 : va_W} {tp27 : IV} {tb : IV} {p1 : Int32} {p2 : Int32} {t0p18 : Int32}  (C : Cx p s m args meth c (inW ws0) g "DecadeBridge$Text" b_Te_number (some .int) 6) {r52 : Int32 → Int32 → (Int32 × IV)} {q52 : Int32 → Int32 → Prop}  (ih52 : HL_Te_number_52 p l e s m args below meth c g qte qteb ws0 tp27 tb p1 p2 t0p18 r52 q52) : HL_Te_number_52 p l e s m args below meth c g qte qteb ws0 tp27 tb p1 p2 t0p18 (bd_Te_number_52 tp27 t0p18 p1 p2 tb  r52) (okb_Te_number_52 tp27 t0p18 p1 p2 tb  r52  q52) := by
  intro x4p52 x5p52 hok z hz H locs ls hP hD hS hl
  obtain ⟨hx, hb, hr, hml, hown, hlk, hts, hK, hZo, hZ⟩ := id C
  unfold bd_Te_number_52 at hz
  unfold okb_Te_number_52 at hok
  refine lv_iload hx hb d_Te_number_52 (lv_at hl 5 rfl) ?_
  refine lv_aload_n hx hb d_Te_number_54 rfl (lv_at hl 0 rfl) ?_
  refine gf C hP 0 4 fkTe rfl (by decide) rfl qf_Te_25 (gTe_4 _ _) d_Te_number_55 ?_
  refine lv_icmp_ge (tgt := 96) hx hb d_Te_number_58 (by decide) (fun c9 => ?_) (fun c9 => ?_)
  · have hz := hz.trans (if_pos c9)
    have hok := hok.1 c9
    exact k_Te_number_96 C () hok _ hz _ _ ls hP hD hS (lv_sub hl [0, 1, 2, 3, 4] rfl)
  · have hz := hz.trans (if_neg c9)
    have hok := hok.2 c9
    refine lv_iload hx hb d_Te_number_61 (lv_at hl 5 rfl) ?_
    refine lv_aload_n hx hb d_Te_number_63 rfl (lv_at hl 0 rfl) ?_
    refine gf C hP 0 3 fkTe rfl (by decide) rfl qf_Te_35 (gTe_3 _ _) d_Te_number_64 ?_
    refine lv_bipush (v := 9) hx hb d_Te_number_67 (by decide) ?_
    refine lv_iadd hx hb d_Te_number_69 ?_
    refine lv_icmp_ge (tgt := 96) hx hb d_Te_number_70 (by decide) (fun c10 => ?_) (fun c10 => ?_)
    · have hz := hz.trans (if_pos c10)
      have hok := hok.1 c10
      exact k_Te_number_96 C () hok _ hz _ _ ls hP hD hS (lv_sub hl [0, 1, 2, 3, 4] rfl)
    · have hz := hz.trans (if_neg c10)
      have hok := hok.2 c10
      refine lv_bipush (v := 10) hx hb d_Te_number_73 (by decide) ?_
      refine lv_iload hx hb d_Te_number_75 (lv_at hl 4 rfl) ?_
      refine lv_imul hx hb d_Te_number_77 ?_
      refine lv_aload_n hx hb d_Te_number_78 rfl (lv_at hl 0 rfl) ?_
      refine lv_iload hx hb d_Te_number_79 (lv_at hl 5 rfl) ?_
      have hB : SubW g (inW ws0) s (wTe g qte qteb tp27 tb) _ (List.range _) _ _ := (subF hP hD hS)
      refine goI0 hB (run_v C mf_Te_byteAt qm_Te_50 (c_Te_byteAt l g qte qteb tp27 tb x5p52) rfl rfl ⟨Nat.le_of_ble_eq_true rfl, Nat.le_of_ble_eq_true rfl⟩ ⟨Nat.le_of_ble_eq_true rfl, Nat.le_of_ble_eq_true rfl⟩ hB rfl rfl hl rfl rfl (Nat.le_of_ble_eq_true rfl) d_Te_number_81) (fun y11 ey11 H locs hP hS => ?_)
      have hz := lett_z hz ey11
      have hok := lett_o hok ey11
      refine lv_bipush (v := 48) hx hb d_Te_number_84 (by decide) ?_
      refine lv_isub hx hb d_Te_number_86 ?_
      refine lv_iadd hx hb d_Te_number_87 ?_
      refine lv_topi (fun v12 ev12 => ?_)
      have hz := lett_z hz ev12
      have hok := lett_o hok ev12
      refine lv_istore (lv' := [(4, .int v12), (0, .ref qte), (1, .int p1), (2, .int p2), (3, .int t0p18), (5, .int x5p52)]) hx hb d_Te_number_88 hl (by decide) rfl (fun ls hl => ?_)
      obtain ⟨v13, ev13⟩ : ∃ y : Int32, y = x5p52 + (1 : Int32) := ⟨_, rfl⟩
      have hz := lett_z hz ev13
      have hok := lett_o hok ev13
      refine lv_iinc (v := v13) (lv' := [(5, .int v13), (4, .int v12), (0, .ref qte), (1, .int p1), (2, .int p2), (3, .int t0p18)]) hx hb d_Te_number_90 hl (k := 5) rfl (by rw [ev13]; rfl) (by decide) rfl (fun ls hl => ?_)
      refine lv_goto (tgt := 52) hx hb d_Te_number_93 (by decide) ?_
      exact ih52 v12 v13 hok _ hz _ _ ls hP hD hS (lv_sub hl [2, 3, 4, 5, 1, 0] rfl)
theorem k_Te_number_52 {p : Program} {l : Launch} {e : Env} {s : State} {m : MethodId} {args : Array Value} {below : List Frame} {meth : Method} {c : Code} {g : GX} {qte : Nat} {qteb : Nat} {ws0 : va_W} {tp27 : IV} {tb : IV} {p1 : Int32} {p2 : Int32} {t0p18 : Int32}  (C : Cx p s m args meth c (inW ws0) g "DecadeBridge$Text" b_Te_number (some .int) 6) (f : Nat)  : HL_Te_number_52 p l e s m args below meth c g qte qteb ws0 tp27 tb p1 p2 t0p18 (sp_Te_number_52 tp27 t0p18 p1 p2 tb  f) (ok_Te_number_52 tp27 t0p18 p1 p2 tb   f) := by
  induction f with
  | zero => intro x4p52 x5p52 hok; exact False.elim hok
  | succ f ih => exact kb_Te_number_52 C  ih
noncomputable def sp_Te_number_27 (t0p18 : Int32) (p1 : Int32) (p2 : Int32) (tb : IV)  (tp27 : IV) : Int32 × IV := if (tp27 2) = (48 : Int32) then (lett (tp27 3) fun (v7 : Int32) => sp_Te_number_52 tp27 t0p18 p1 p2 tb big (0 : Int32) v7) else (lett (sp_Te_fail (1 : Int32) tp27) fun (y8 : IV) => (p1, y8))
def ok_Te_number_27 (t0p18 : Int32) (p1 : Int32) (p2 : Int32) (tb : IV)   (tp27 : IV) : Prop := (((tp27 2) = (48 : Int32) → lett (tp27 3) fun (v7 : Int32) => ok_Te_number_52 tp27 t0p18 p1 p2 tb big (0 : Int32) v7) ∧ (¬ ((tp27 2) = (48 : Int32)) → True))
set_option maxRecDepth 100000 in
set_option maxHeartbeats 4000000 in
theorem k_Te_number_27 {p : Program} {l : Launch} {e : Env} {s : State} {m : MethodId} {args : Array Value} {below : List Frame} {meth : Method} {c : Code} {g : GX} {qte : Nat} {qteb : Nat} {ws0 : va_W} {tb : IV} {p1 : Int32} {p2 : Int32} {t0p18 : Int32}  (C : Cx p s m args meth c (inW ws0) g "DecadeBridge$Text" b_Te_number (some .int) 6)  : HL_Te_number_27 p l e s m args below meth c g qte qteb ws0 tb p1 p2 t0p18 (sp_Te_number_27 t0p18 p1 p2 tb ) (ok_Te_number_27 t0p18 p1 p2 tb  ) := by
  intro tp27 hok z hz H locs ls hP hD hS hl
  obtain ⟨hx, hb, hr, hml, hown, hlk, hts, hK, hZo, hZ⟩ := id C
  unfold sp_Te_number_27 at hz
  unfold ok_Te_number_27 at hok
  refine lv_aload_n hx hb d_Te_number_27 rfl (lv_at hl 0 rfl) ?_
  refine gf C hP 0 2 fkTe rfl (by decide) rfl qf_Te_38 (gTe_2 _ _) d_Te_number_28 ?_
  refine lv_bipush (v := 48) hx hb d_Te_number_31 (by decide) ?_
  refine lv_icmp_eq (tgt := 43) hx hb d_Te_number_33 (by decide) (fun c6 => ?_) (fun c6 => ?_)
  · have hz := hz.trans (if_pos c6)
    have hok := hok.1 c6
    refine lv_iconst (v := 0) hx hb d_Te_number_43 (by decide) ?_
    refine lv_istore (lv' := [(4, .int (0 : Int32)), (0, .ref qte), (1, .int p1), (2, .int p2), (3, .int t0p18)]) hx hb d_Te_number_44 hl (by decide) rfl (fun ls hl => ?_)
    refine lv_aload_n hx hb d_Te_number_46 rfl (lv_at hl 1 rfl) ?_
    refine gf C hP 0 3 fkTe rfl (by decide) rfl qf_Te_35 (gTe_3 _ _) d_Te_number_47 ?_
    refine lv_topi (fun v7 ev7 => ?_)
    have hz := lett_z hz ev7
    have hok := lett_o hok ev7
    refine lv_istore (lv' := [(5, .int v7), (4, .int (0 : Int32)), (0, .ref qte), (1, .int p1), (2, .int p2), (3, .int t0p18)]) hx hb d_Te_number_50 hl (by decide) rfl (fun ls hl => ?_)
    exact k_Te_number_52 C big (0 : Int32) v7 hok _ hz _ _ ls hP hD hS (lv_sub hl [2, 3, 4, 5, 1, 0] rfl)
  · have hz := hz.trans (if_neg c6)
    refine lv_aload_n hx hb d_Te_number_36 rfl (lv_at hl 0 rfl) ?_
    refine lv_iconst (v := 1) hx hb d_Te_number_37 (by decide) ?_
    have hB : SubW g (inW ws0) s (wTe g qte qteb tp27 tb) _ (List.range _) _ _ := (subF hP hD hS)
    refine goVF hB (run_v C mf_Te_fail qm_Te_57 (c_Te_fail l g qte qteb tp27 tb (1 : Int32)) rfl rfl ⟨Nat.le_of_ble_eq_true rfl, Nat.le_of_ble_eq_true rfl⟩ ⟨Nat.le_of_ble_eq_true rfl, Nat.le_of_ble_eq_true rfl⟩ hB rfl rfl hl rfl rfl (Nat.le_of_ble_eq_true rfl) d_Te_number_38) (fun _ => rfl) (fun y8 ey8 H locs hP hD hS => ?_)
    have hP : va_P g.1 vwCl (wTe g qte qteb y8 tb) H := hP
    have hD : va_D (inW ws0) (wTe g qte qteb y8 tb) := hD
    have hz := lett_z hz ey8
    refine lv_iload_n hx hb d_Te_number_41 rfl (lv_at hl 1 rfl) ?_
    exact endI1 C hz hP hS d_Te_number_42
noncomputable def sp_Te_number_18 (p1 : Int32) (p2 : Int32) (tb : IV) (t : IV)  (t0p18 : Int32) : Int32 × IV := if t0p18 = 0 then (sp_Te_number_27 t0p18 p1 p2 tb t) else (lett (sp_Te_advance t tb) fun (y5 : IV) => sp_Te_number_27 t0p18 p1 p2 tb y5)
def ok_Te_number_18 (p1 : Int32) (p2 : Int32) (tb : IV) (t : IV)   (t0p18 : Int32) : Prop := ((t0p18 = 0 → ok_Te_number_27 t0p18 p1 p2 tb t) ∧ (¬ (t0p18 = 0) → (ok_Te_advance t tb) ∧ lett (sp_Te_advance t tb) fun (y5 : IV) => ok_Te_number_27 t0p18 p1 p2 tb y5))
set_option maxRecDepth 100000 in
set_option maxHeartbeats 4000000 in
theorem k_Te_number_18 {p : Program} {l : Launch} {e : Env} {s : State} {m : MethodId} {args : Array Value} {below : List Frame} {meth : Method} {c : Code} {g : GX} {qte : Nat} {qteb : Nat} {ws0 : va_W} {t : IV} {tb : IV} {p1 : Int32} {p2 : Int32}  (C : Cx p s m args meth c (inW ws0) g "DecadeBridge$Text" b_Te_number (some .int) 6)  : HL_Te_number_18 p l e s m args below meth c g qte qteb ws0 t tb p1 p2 (sp_Te_number_18 p1 p2 tb t ) (ok_Te_number_18 p1 p2 tb t  ) := by
  intro t0p18 hok z hz H locs ls hP hD hS hl
  obtain ⟨hx, hb, hr, hml, hown, hlk, hts, hK, hZo, hZ⟩ := id C
  unfold sp_Te_number_18 at hz
  unfold ok_Te_number_18 at hok
  refine lv_istore_n (lv' := [(3, .int t0p18), (0, .ref qte), (1, .int p1), (2, .int p2)]) hx hb d_Te_number_18 rfl hl (by decide) rfl (fun ls hl => ?_)
  refine lv_iload_n hx hb d_Te_number_19 rfl (lv_at hl 0 rfl) ?_
  refine lv_if_eq (tgt := 27) hx hb d_Te_number_20 (by decide) (fun c3 => ?_) (fun c3 => ?_)
  · have hz := hz.trans (if_pos c3)
    have hok := hok.1 c3
    exact k_Te_number_27 C t hok _ hz _ _ ls hP hD hS (lv_sub hl [1, 2, 3, 0] rfl)
  · have hz := hz.trans (if_neg c3)
    have hok := hok.2 c3
    refine lv_aload_n hx hb d_Te_number_23 rfl (lv_at hl 1 rfl) ?_
    have hs4 := hok.1
    have hok := hok.2
    have hB : SubW g (inW ws0) s (wTe g qte qteb t tb) _ (List.range _) _ _ := (subF hP hD hS)
    refine goVF hB (run_v C mf_Te_advance qm_Te_28 (c_Te_advance l g qte qteb t tb hs4) rfl rfl ⟨Nat.le_of_ble_eq_true rfl, Nat.le_of_ble_eq_true rfl⟩ ⟨Nat.le_of_ble_eq_true rfl, Nat.le_of_ble_eq_true rfl⟩ hB rfl rfl hl rfl rfl (Nat.le_of_ble_eq_true rfl) d_Te_number_24) (fun _ => rfl) (fun y5 ey5 H locs hP hD hS => ?_)
    have hP : va_P g.1 vwCl (wTe g qte qteb y5 tb) H := hP
    have hD : va_D (inW ws0) (wTe g qte qteb y5 tb) := hD
    have hz := lett_z hz ey5
    have hok := lett_o hok ey5
    exact k_Te_number_27 C y5 hok _ hz _ _ ls hP hD hS (lv_sub hl [1, 2, 3, 0] rfl)
noncomputable def sp_Te_number_17 (p1 : Int32) (p2 : Int32) (tb : IV) (t : IV)   : Int32 × IV := sp_Te_number_18 p1 p2 tb t (0 : Int32)
def ok_Te_number_17 (p1 : Int32) (p2 : Int32) (tb : IV) (t : IV)    : Prop := ok_Te_number_18 p1 p2 tb t (0 : Int32)
set_option maxRecDepth 100000 in
set_option maxHeartbeats 4000000 in
theorem k_Te_number_17 {p : Program} {l : Launch} {e : Env} {s : State} {m : MethodId} {args : Array Value} {below : List Frame} {meth : Method} {c : Code} {g : GX} {qte : Nat} {qteb : Nat} {ws0 : va_W} {t : IV} {tb : IV} {p1 : Int32} {p2 : Int32}  (C : Cx p s m args meth c (inW ws0) g "DecadeBridge$Text" b_Te_number (some .int) 6)  : HL_Te_number_17 p l e s m args below meth c g qte qteb ws0 t tb p1 p2 (sp_Te_number_17 p1 p2 tb t ) (ok_Te_number_17 p1 p2 tb t  ) := by
  intro _ hok z hz H locs ls hP hD hS hl
  obtain ⟨hx, hb, hr, hml, hown, hlk, hts, hK, hZo, hZ⟩ := id C
  unfold sp_Te_number_17 at hz
  unfold ok_Te_number_17 at hok
  refine lv_iconst (v := 0) hx hb d_Te_number_17 (by decide) ?_
  exact k_Te_number_18 C (0 : Int32) hok _ hz _ _ ls hP hD hS hl
noncomputable def sp_Te_number (p1 : Int32) (p2 : Int32) (t : IV) (tb : IV) : Int32 × IV := if 0 ≤ p1 then (sp_Te_number_17 p1 p2 tb t) else (if (t 2) = (45 : Int32) then (sp_Te_number_18 p1 p2 tb t (1 : Int32)) else (sp_Te_number_17 p1 p2 tb t))
def ok_Te_number (p1 : Int32) (p2 : Int32) (t : IV) (tb : IV) : Prop := ((0 ≤ p1 → ok_Te_number_17 p1 p2 tb t) ∧ (¬ (0 ≤ p1) → (((t 2) = (45 : Int32) → ok_Te_number_18 p1 p2 tb t (1 : Int32)) ∧ (¬ ((t 2) = (45 : Int32)) → ok_Te_number_17 p1 p2 tb t))))
set_option maxRecDepth 100000 in
set_option maxHeartbeats 4000000 in
theorem c_Te_number (l : Launch) (g : GX) (qte : Nat) (qteb : Nat) (t : IV) (tb : IV) (p1 : Int32) (p2 : Int32) (hok : ok_Te_number p1 p2 t tb) : Met l y_Te_number (wsY y_Te_number b_Te_number 6 (some .int)) rm_Te_number (CP g [.ref qte, .int p1, .int p2] (wTe g qte qteb t tb)) (CI g (wTe g qte qteb t tb) (fun u : IV => wTe g qte qteb u tb) (sp_Te_number p1 p2 t tb)) 0 0 (inW (wTe g qte qteb t tb)) := by
  refine Met.ofW (cc := b_Te_number) (maxL := 6) (ret := (some .int)) pn_Te rfl ?_
  intro p e s m args below meth c s₁ B hml hv
  obtain ⟨rfl, C, hP, hD, hS⟩ := enter "DecadeBridge$Text" rfl B hml hv
  obtain ⟨hx, hb, hr, hml, hown, hlk, hts, hK, hZo, hZ⟩ := id C
  refine entryW (lv := [(0, .ref qte), (1, .int p1), (2, .int p2)]) rfl (Nat.le_of_ble_eq_true rfl) (fun ls hl => ?_)
  obtain ⟨z, hz⟩ : ∃ z, z = sp_Te_number p1 p2 t tb := ⟨_, rfl⟩
  rw [← hz]
  unfold sp_Te_number at hz
  unfold ok_Te_number at hok
  refine lv_iload_n hx hb d_Te_number_0 rfl (lv_at hl 1 rfl) ?_
  refine lv_if_ge (tgt := 17) hx hb d_Te_number_1 (by decide) (fun c1 => ?_) (fun c1 => ?_)
  · have hz := hz.trans (if_pos c1)
    have hok := hok.1 c1
    exact k_Te_number_17 C () hok _ hz _ _ ls hP hD hS hl
  · have hz := hz.trans (if_neg c1)
    have hok := hok.2 c1
    refine lv_aload_n hx hb d_Te_number_4 rfl (lv_at hl 0 rfl) ?_
    refine gf C hP 0 2 fkTe rfl (by decide) rfl qf_Te_38 (gTe_2 _ _) d_Te_number_5 ?_
    refine lv_bipush (v := 45) hx hb d_Te_number_8 (by decide) ?_
    refine lv_icmp_ne (tgt := 17) hx hb d_Te_number_10 (by decide) (fun c2 => ?_) (fun c2 => ?_)
    · have hz := hz.trans (if_neg c2)
      have hok := hok.2 c2
      exact k_Te_number_17 C () hok _ hz _ _ ls hP hD hS hl
    · have hz := hz.trans (if_pos c2)
      have hok := hok.1 c2
      refine lv_iconst (v := 1) hx hb d_Te_number_13 (by decide) ?_
      refine lv_goto (tgt := 18) hx hb d_Te_number_14 (by decide) ?_
      exact k_Te_number_18 C (1 : Int32) hok _ hz _ _ ls hP hD hS hl
abbrev rm_Be_copy : Room := { frames := 3, cells := 0, slots := 0, locals := 66 }
def HL_Be_copy_37 (p : Program) (l : Launch) (e : Env) (s : State) (m : MethodId) (args : Array Value) (below : List Frame) (meth : Method) (c : Code) (g : GX) (qbe : Nat) (qci : Nat) (qrd : Nat) (qrs : Nat) (qrsr : Nat) (ua : Nat → Nat) (qbe2 : Nat) (qci2 : Nat) (qrd2 : Nat) (qrs2 : Nat) (qrs2r : Nat) (ub : Nat → Nat) (qpa : Nat) (qpae : Nat) (qpar : Nat) (qpau : Nat) (qpab : Nat) (ws0 : va_W) (ba_5 : IV) (y2 : IV × LV) (ea : IV) (eal : LV) (rar : NI) (ral : NL) (bb : IV) (cb : IV) (cbl : LV) (db : IV) (eb : IV) (ebl : LV) (rbr : NI) (rbl : NL) (w0 : IV) (w1 : IV) (w2 : IV) (w3 : IV) (w4 : IV) (sp : Int32 → IV → (IV × IV × LV × IV × IV × NI × NL)) (ok : Int32 → IV → Prop) : Prop := ∀ (x2p37 : Int32) (dap37 : IV), ok x2p37 dap37 → ∀ z : (IV × IV × LV × IV × IV × NI × NL), z = sp x2p37 dap37 → ∀ (H : Heap) (locs : List Loc) (ls : Array Slot), va_P g.1 vwCl (wBB g qbe qci qrd qrs qrsr ua qbe2 qci2 qrd2 qrs2 qrs2r ub qpa qpae qpar qpau qpab ba_5 y2.1 y2.2 dap37 ea eal rar ral bb cb cbl db eb ebl rbr rbl w0 w1 w2 w3 w4) H → va_D (inW ws0) (wBB g qbe qci qrd qrs qrsr ua qbe2 qci2 qrd2 qrs2 qrs2r ub qpa qpae qpar qpau qpab ba_5 y2.1 y2.2 dap37 ea eal rar ral bb cb cbl db eb ebl rbr rbl w0 w1 w2 w3 w4) → va_S (inW ws0) s.heap H locs → lv_has ls 3 [(0, .ref qbe), (1, .ref qbe2), (2, .int x2p37)] → W p l e rm_Be_copy s m args below meth c H locs 0 0 (MQ below (CV g ws0 (fun u : IV × IV × LV × IV × IV × NI × NL => wBB g qbe qci qrd qrs qrsr ua qbe2 qci2 qrd2 qrs2 qrs2r ub qpa qpae qpar qpau qpab u.1 u.2.1 u.2.2.1 u.2.2.2.1 u.2.2.2.2.1 eal u.2.2.2.2.2.1 u.2.2.2.2.2.2 bb cb cbl db eb ebl rbr rbl w0 w1 w2 w3 w4) z) args s 0 0 (inW ws0)) (F0 m 37 ls [])
def HL_Be_copy_73 (p : Program) (l : Launch) (e : Env) (s : State) (m : MethodId) (args : Array Value) (below : List Frame) (meth : Method) (c : Code) (g : GX) (qbe : Nat) (qci : Nat) (qrd : Nat) (qrs : Nat) (qrsr : Nat) (ua : Nat → Nat) (qbe2 : Nat) (qci2 : Nat) (qrd2 : Nat) (qrs2 : Nat) (qrs2r : Nat) (ub : Nat → Nat) (qpa : Nat) (qpae : Nat) (qpar : Nat) (qpau : Nat) (qpab : Nat) (ws0 : va_W) (ba_5 : IV) (y2 : IV × LV) (dap37 : IV) (ea : IV) (eal : LV) (rar : NI) (ral : NL) (bb : IV) (cb : IV) (cbl : LV) (db : IV) (eb : IV) (ebl : LV) (rbr : NI) (rbl : NL) (w0 : IV) (w1 : IV) (w2 : IV) (w3 : IV) (w4 : IV) (sp : (IV × IV × LV × IV × IV × NI × NL)) (ok : Prop) : Prop := ∀ (_ : Unit), ok → ∀ z : (IV × IV × LV × IV × IV × NI × NL), z = sp → ∀ (H : Heap) (locs : List Loc) (ls : Array Slot), va_P g.1 vwCl (wBB g qbe qci qrd qrs qrsr ua qbe2 qci2 qrd2 qrs2 qrs2r ub qpa qpae qpar qpau qpab ba_5 y2.1 y2.2 dap37 ea eal rar ral bb cb cbl db eb ebl rbr rbl w0 w1 w2 w3 w4) H → va_D (inW ws0) (wBB g qbe qci qrd qrs qrsr ua qbe2 qci2 qrd2 qrs2 qrs2r ub qpa qpae qpar qpau qpab ba_5 y2.1 y2.2 dap37 ea eal rar ral bb cb cbl db eb ebl rbr rbl w0 w1 w2 w3 w4) → va_S (inW ws0) s.heap H locs → lv_has ls 3 [(0, .ref qbe), (1, .ref qbe2)] → W p l e rm_Be_copy s m args below meth c H locs 0 0 (MQ below (CV g ws0 (fun u : IV × IV × LV × IV × IV × NI × NL => wBB g qbe qci qrd qrs qrsr ua qbe2 qci2 qrd2 qrs2 qrs2r ub qpa qpae qpar qpau qpab u.1 u.2.1 u.2.2.1 u.2.2.2.1 u.2.2.2.2.1 eal u.2.2.2.2.2.1 u.2.2.2.2.2.2 bb cb cbl db eb ebl rbr rbl w0 w1 w2 w3 w4) z) args s 0 0 (inW ws0)) (F0 m 73 ls [])
noncomputable def sp_Be_copy_73 (ea : IV) (rar : NI) (ral : NL) (eb : IV) (rbr : NI) (rbl : NL) (ba_5 : IV) (y2 : IV × LV) (dap37 : IV)   : IV × IV × LV × IV × IV × NI × NL := lett (sp_Rs_copy ea rar ral eb rbr rbl) fun (y12 : IV × NI × NL) => (ba_5, y2.1, y2.2, dap37, y12.1, y12.2.1, y12.2.2)
def ok_Be_copy_73 (ea : IV) (rar : NI) (ral : NL) (eb : IV) (rbr : NI) (rbl : NL) (ba_5 : IV) (y2 : IV × LV) (dap37 : IV)    : Prop := (ok_Rs_copy ea rar ral eb rbr rbl) ∧ True
set_option maxRecDepth 100000 in
set_option maxHeartbeats 4000000 in
theorem k_Be_copy_73 {p : Program} {l : Launch} {e : Env} {s : State} {m : MethodId} {args : Array Value} {below : List Frame} {meth : Method} {c : Code} {g : GX} {qbe : Nat} {qci : Nat} {qrd : Nat} {qrs : Nat} {qrsr : Nat} {ua : Nat → Nat} {qbe2 : Nat} {qci2 : Nat} {qrd2 : Nat} {qrs2 : Nat} {qrs2r : Nat} {ub : Nat → Nat} {qpa : Nat} {qpae : Nat} {qpar : Nat} {qpau : Nat} {qpab : Nat} {ws0 : va_W} {ba_5 : IV} {y2 : IV × LV} {dap37 : IV} {ea : IV} {eal : LV} {rar : NI} {ral : NL} {bb : IV} {cb : IV} {cbl : LV} {db : IV} {eb : IV} {ebl : LV} {rbr : NI} {rbl : NL} {w0 : IV} {w1 : IV} {w2 : IV} {w3 : IV} {w4 : IV}  (C : Cx p s m args meth c (inW ws0) g "DecadeBridge$Bench" b_Be_copy none 3)  : HL_Be_copy_73 p l e s m args below meth c g qbe qci qrd qrs qrsr ua qbe2 qci2 qrd2 qrs2 qrs2r ub qpa qpae qpar qpau qpab ws0 ba_5 y2 dap37 ea eal rar ral bb cb cbl db eb ebl rbr rbl w0 w1 w2 w3 w4 (sp_Be_copy_73 ea rar ral eb rbr rbl ba_5 y2 dap37 ) (ok_Be_copy_73 ea rar ral eb rbr rbl ba_5 y2 dap37  ) := by
  intro _ hok z hz H locs ls hP hD hS hl
  obtain ⟨hx, hb, hr, hml, hown, hlk, hts, hK, hZo, hZ⟩ := id C
  unfold sp_Be_copy_73 at hz
  unfold ok_Be_copy_73 at hok
  refine lv_aload_n hx hb d_Be_copy_73 rfl (lv_at hl 0 rfl) ?_
  refine gf C hP 0 6 fkBe rfl (by decide) rfl qf_Be_18 (gBe_6 _ _ _ _ _) d_Be_copy_74 ?_
  refine lv_aload_n hx hb d_Be_copy_77 rfl (lv_at hl 1 rfl) ?_
  refine gf C hP 25 6 fkBe rfl (by decide) rfl qf_Be_18 (gBe_6 _ _ _ _ _) d_Be_copy_78 ?_
  have hs11 := hok.1
  have hok := hok.2
  have hB : SubW g (inW ws0) s (wBB g qbe qci qrd qrs qrsr ua qbe2 qci2 qrd2 qrs2 qrs2r ub qpa qpae qpar qpau qpab ba_5 y2.1 y2.2 dap37 ea eal rar ral bb cb cbl db eb ebl rbr rbl w0 w1 w2 w3 w4) (wRR g qrs qrsr ua qrs2 qrs2r ub ea eal rar ral eb ebl rbr rbl) [3, 4, 5, 6, 7, 8, 9, 10, 11, 12, 13, 14, 15, 16, 17, 18, 19, 20, 21, 22, 23, 24, 28, 29, 30, 31, 32, 33, 34, 35, 36, 37, 38, 39, 40, 41, 42, 43, 44, 45, 46, 47, 48, 49] _ _ := ⟨rfl, rfl, hP, hD, hS⟩
  refine goV1 hB (run_v C mf_Rs_copy qm_Be_55 (c_Rs_copy l g qrs qrsr ua qrs2 qrs2r ub ea eal rar ral eb ebl rbr rbl hs11) rfl rfl ⟨Nat.le_of_ble_eq_true rfl, Nat.le_of_ble_eq_true rfl⟩ ⟨Nat.le_of_ble_eq_true rfl, Nat.le_of_ble_eq_true rfl⟩ hB rfl rfl hl rfl rfl (Nat.le_of_ble_eq_true rfl) d_Be_copy_81) (fun _ => rfl) (fun y12 ey12 H locs hP hD hS => ?_)
  have hP : va_P g.1 vwCl (wBB g qbe qci qrd qrs qrsr ua qbe2 qci2 qrd2 qrs2 qrs2r ub qpa qpae qpar qpau qpab ba_5 y2.1 y2.2 dap37 y12.1 eal y12.2.1 y12.2.2 bb cb cbl db eb ebl rbr rbl w0 w1 w2 w3 w4) H := cP (spq hB.1 hB.2.1 [0, 1, 2, 25, 26, 27, 50, 51, 52, 53, 54] 55 rfl rfl (by decide +kernel) rfl) hP
  have hD : va_D (inW ws0) (wBB g qbe qci qrd qrs qrsr ua qbe2 qci2 qrd2 qrs2 qrs2r ub qpa qpae qpar qpau qpab ba_5 y2.1 y2.2 dap37 y12.1 eal y12.2.1 y12.2.2 bb cb cbl db eb ebl rbr rbl w0 w1 w2 w3 w4) := cD (spq hB.1 hB.2.1 [0, 1, 2, 25, 26, 27, 50, 51, 52, 53, 54] 55 rfl rfl (by decide +kernel) rfl) hD
  have hz := lett_z hz ey12
  exact endV C hz hP hS d_Be_copy_84
noncomputable def bd_Be_copy_37 (ea : IV) (rar : NI) (ral : NL) (eb : IV) (rbr : NI) (rbl : NL) (ba_5 : IV) (y2 : IV × LV) (db : IV) (r37 : Int32 → IV → (IV × IV × LV × IV × IV × NI × NL)) (x2p37 : Int32) (dap37 : IV) : IV × IV × LV × IV × IV × NI × NL := if (10 : Int32) ≤ x2p37 then (sp_Be_copy_73 ea rar ral eb rbr rbl ba_5 y2 dap37) else (if (10 : Int32) ≤ x2p37 then (sp_Be_copy_73 ea rar ral eb rbr rbl ba_5 y2 dap37) else (lett (upd dap37 x2p37.toNatClampNeg (db x2p37.toNatClampNeg)) fun (da_9 : IV) => lett (x2p37 + (1 : Int32)) fun (v10 : Int32) => r37 v10 da_9))
def okb_Be_copy_37 (ea : IV) (rar : NI) (ral : NL) (eb : IV) (rbr : NI) (rbl : NL) (ba_5 : IV) (y2 : IV × LV) (db : IV) (r37 : Int32 → IV → (IV × IV × LV × IV × IV × NI × NL)) (q37 : Int32 → IV → Prop) (x2p37 : Int32) (dap37 : IV) : Prop := (((10 : Int32) ≤ x2p37 → ok_Be_copy_73 ea rar ral eb rbr rbl ba_5 y2 dap37) ∧ (¬ ((10 : Int32) ≤ x2p37) → (((10 : Int32) ≤ x2p37 → ok_Be_copy_73 ea rar ral eb rbr rbl ba_5 y2 dap37) ∧ (¬ ((10 : Int32) ≤ x2p37) → (vp_in x2p37 10) ∧ lett (upd dap37 x2p37.toNatClampNeg (db x2p37.toNatClampNeg)) fun (da_9 : IV) => lett (x2p37 + (1 : Int32)) fun (v10 : Int32) => q37 v10 da_9))))
noncomputable def sp_Be_copy_37 (ea : IV) (rar : NI) (ral : NL) (eb : IV) (rbr : NI) (rbl : NL) (ba_5 : IV) (y2 : IV × LV) (db : IV)  : Nat → Int32 → IV → (IV × IV × LV × IV × IV × NI × NL)
  | 0 => fun _ _ => default
  | f + 1 => bd_Be_copy_37 ea rar ral eb rbr rbl ba_5 y2 db  (sp_Be_copy_37 ea rar ral eb rbr rbl ba_5 y2 db  f)
def ok_Be_copy_37 (ea : IV) (rar : NI) (ral : NL) (eb : IV) (rbr : NI) (rbl : NL) (ba_5 : IV) (y2 : IV × LV) (db : IV)   : Nat → Int32 → IV → Prop
  | 0 => fun _ _ => False
  | f + 1 => okb_Be_copy_37 ea rar ral eb rbr rbl ba_5 y2 db  (sp_Be_copy_37 ea rar ral eb rbr rbl ba_5 y2 db  f)  (ok_Be_copy_37 ea rar ral eb rbr rbl ba_5 y2 db   f)
set_option maxRecDepth 100000 in
set_option maxHeartbeats 4000000 in
theorem kb_Be_copy_37 {p : Program} {l : Launch} {e : Env} {s : State} {m : MethodId} {args : Array Value} {below : List Frame} {meth : Method} {c : Code} {g : GX} {qbe : Nat} {qci : Nat} {qrd : Nat} {qrs : Nat} {qrsr : Nat} {ua : Nat → Nat} {qbe2 : Nat} {qci2 : Nat} {qrd2 : Nat} {qrs2 : Nat} {qrs2r : Nat} {ub : Nat → Nat} {qpa : Nat} {qpae : Nat} {qpar : Nat} {qpau : Nat} {qpab : Nat} {ws0 : va_W} {ba_5 : IV} {y2 : IV × LV} {ea : IV} {eal : LV} {rar : NI} {ral : NL} {bb : IV} {cb : IV} {cbl : LV} {db : IV} {eb : IV} {ebl : LV} {rbr : NI} {rbl : NL} {w0 : IV} {w1 : IV} {w2 : IV} {w3 : IV} {w4 : IV}  (C : Cx p s m args meth c (inW ws0) g "DecadeBridge$Bench" b_Be_copy none 3) {r37 : Int32 → IV → (IV × IV × LV × IV × IV × NI × NL)} {q37 : Int32 → IV → Prop}  (ih37 : HL_Be_copy_37 p l e s m args below meth c g qbe qci qrd qrs qrsr ua qbe2 qci2 qrd2 qrs2 qrs2r ub qpa qpae qpar qpau qpab ws0 ba_5 y2 ea eal rar ral bb cb cbl db eb ebl rbr rbl w0 w1 w2 w3 w4 r37 q37) : HL_Be_copy_37 p l e s m args below meth c g qbe qci qrd qrs qrsr ua qbe2 qci2 qrd2 qrs2 qrs2r ub qpa qpae qpar qpau qpab ws0 ba_5 y2 ea eal rar ral bb cb cbl db eb ebl rbr rbl w0 w1 w2 w3 w4 (bd_Be_copy_37 ea rar ral eb rbr rbl ba_5 y2 db  r37) (okb_Be_copy_37 ea rar ral eb rbr rbl ba_5 y2 db  r37  q37) := by
  intro x2p37 dap37 hok z hz H locs ls hP hD hS hl
  obtain ⟨hx, hb, hr, hml, hown, hlk, hts, hK, hZo, hZ⟩ := id C
  unfold bd_Be_copy_37 at hz
  unfold okb_Be_copy_37 at hok
  refine lv_iload_n hx hb d_Be_copy_37 rfl (lv_at hl 2 rfl) ?_
  refine lv_aload_n hx hb d_Be_copy_38 rfl (lv_at hl 0 rfl) ?_
  refine gf C hP 0 2 fkBe rfl (by decide) rfl qf_Be_11 (gBe_2 _ _ _ _ _) d_Be_copy_39 ?_
  refine alen C hP 2 rfl (t0 := 0) rfl (v := 10) rfl d_Be_copy_42 ?_
  refine lv_icmp_ge (tgt := 73) hx hb d_Be_copy_43 (by decide) (fun c6 => ?_) (fun c6 => ?_)
  · have hz := hz.trans (if_pos c6)
    have hok := hok.1 c6
    exact k_Be_copy_73 C () hok _ hz _ _ ls hP hD hS (lv_sub hl [0, 1] rfl)
  · have hz := hz.trans (if_neg c6)
    have hok := hok.2 c6
    refine lv_iload_n hx hb d_Be_copy_46 rfl (lv_at hl 2 rfl) ?_
    refine lv_aload_n hx hb d_Be_copy_47 rfl (lv_at hl 1 rfl) ?_
    refine gf C hP 25 2 fkBe rfl (by decide) rfl qf_Be_11 (gBe_2 _ _ _ _ _) d_Be_copy_48 ?_
    refine alen C hP 27 rfl (t0 := 0) rfl (v := 10) rfl d_Be_copy_51 ?_
    refine lv_icmp_ge (tgt := 73) hx hb d_Be_copy_52 (by decide) (fun c7 => ?_) (fun c7 => ?_)
    · have hz := hz.trans (if_pos c7)
      have hok := hok.1 c7
      exact k_Be_copy_73 C () hok _ hz _ _ ls hP hD hS (lv_sub hl [0, 1] rfl)
    · have hz := hz.trans (if_neg c7)
      have hok := hok.2 c7
      refine lv_aload_n hx hb d_Be_copy_55 rfl (lv_at hl 0 rfl) ?_
      refine gf C hP 0 2 fkBe rfl (by decide) rfl qf_Be_11 (gBe_2 _ _ _ _ _) d_Be_copy_56 ?_
      refine lv_iload_n hx hb d_Be_copy_59 rfl (lv_at hl 2 rfl) ?_
      refine lv_aload_n hx hb d_Be_copy_60 rfl (lv_at hl 1 rfl) ?_
      refine gf C hP 25 2 fkBe rfl (by decide) rfl qf_Be_11 (gBe_2 _ _ _ _ _) d_Be_copy_61 ?_
      refine lv_iload_n hx hb d_Be_copy_64 rfl (lv_at hl 2 rfl) ?_
      have hs8 := hok.1
      have hok := hok.2
      refine ldI C hP 27 rfl hs8 rfl d_Be_copy_65 ?_
      refine stI C hP hD hS 2 rfl hs8 rfl d_Be_copy_66 (fun da_9 eda_9 H locs hP hD hS => ?_)
      have hP : va_P g.1 vwCl (wBB g qbe qci qrd qrs qrsr ua qbe2 qci2 qrd2 qrs2 qrs2r ub qpa qpae qpar qpau qpab ba_5 y2.1 y2.2 da_9 ea eal rar ral bb cb cbl db eb ebl rbr rbl w0 w1 w2 w3 w4) H := hP
      have hD : va_D (inW ws0) (wBB g qbe qci qrd qrs qrsr ua qbe2 qci2 qrd2 qrs2 qrs2r ub qpa qpae qpar qpau qpab ba_5 y2.1 y2.2 da_9 ea eal rar ral bb cb cbl db eb ebl rbr rbl w0 w1 w2 w3 w4) := hD
      have hz := lett_z hz eda_9
      have hok := lett_o hok eda_9
      obtain ⟨v10, ev10⟩ : ∃ y : Int32, y = x2p37 + (1 : Int32) := ⟨_, rfl⟩
      have hz := lett_z hz ev10
      have hok := lett_o hok ev10
      refine lv_iinc (v := v10) (lv' := [(2, .int v10), (0, .ref qbe), (1, .ref qbe2)]) hx hb d_Be_copy_67 hl (k := 2) rfl (by rw [ev10]; rfl) (by decide) rfl (fun ls hl => ?_)
      refine lv_goto (tgt := 37) hx hb d_Be_copy_70 (by decide) ?_
      exact ih37 v10 da_9 hok _ hz _ _ ls hP hD hS (lv_sub hl [1, 2, 0] rfl)
theorem k_Be_copy_37 {p : Program} {l : Launch} {e : Env} {s : State} {m : MethodId} {args : Array Value} {below : List Frame} {meth : Method} {c : Code} {g : GX} {qbe : Nat} {qci : Nat} {qrd : Nat} {qrs : Nat} {qrsr : Nat} {ua : Nat → Nat} {qbe2 : Nat} {qci2 : Nat} {qrd2 : Nat} {qrs2 : Nat} {qrs2r : Nat} {ub : Nat → Nat} {qpa : Nat} {qpae : Nat} {qpar : Nat} {qpau : Nat} {qpab : Nat} {ws0 : va_W} {ba_5 : IV} {y2 : IV × LV} {ea : IV} {eal : LV} {rar : NI} {ral : NL} {bb : IV} {cb : IV} {cbl : LV} {db : IV} {eb : IV} {ebl : LV} {rbr : NI} {rbl : NL} {w0 : IV} {w1 : IV} {w2 : IV} {w3 : IV} {w4 : IV}  (C : Cx p s m args meth c (inW ws0) g "DecadeBridge$Bench" b_Be_copy none 3) (f : Nat)  : HL_Be_copy_37 p l e s m args below meth c g qbe qci qrd qrs qrsr ua qbe2 qci2 qrd2 qrs2 qrs2r ub qpa qpae qpar qpau qpab ws0 ba_5 y2 ea eal rar ral bb cb cbl db eb ebl rbr rbl w0 w1 w2 w3 w4 (sp_Be_copy_37 ea rar ral eb rbr rbl ba_5 y2 db  f) (ok_Be_copy_37 ea rar ral eb rbr rbl ba_5 y2 db   f) := by
  induction f with
  | zero => intro x2p37 dap37 hok; exact False.elim hok
  | succ f ih => exact kb_Be_copy_37 C  ih
noncomputable def sp_Be_copy (ba : IV) (ca : IV) (cal : LV) (da : IV) (ea : IV) (rar : NI) (ral : NL) (bb : IV) (cb : IV) (cbl : LV) (db : IV) (eb : IV) (rbr : NI) (rbl : NL) (w0 : IV) (w3 : IV) (w4 : IV) : IV × IV × LV × IV × IV × NI × NL := lett (sp_Ci_copy ca cal cb cbl w0 w3 w4) fun (y2 : IV × LV) => lett (upd ba 3 (bb 3)) fun (ba_3 : IV) => lett (upd ba_3 4 (bb 4)) fun (ba_4 : IV) => lett (upd ba_4 5 (bb 5)) fun (ba_5 : IV) => sp_Be_copy_37 ea rar ral eb rbr rbl ba_5 y2 db big (0 : Int32) da
def ok_Be_copy (ba : IV) (ca : IV) (cal : LV) (da : IV) (ea : IV) (rar : NI) (ral : NL) (bb : IV) (cb : IV) (cbl : LV) (db : IV) (eb : IV) (rbr : NI) (rbl : NL) (w0 : IV) (w3 : IV) (w4 : IV) : Prop := (ok_Ci_copy ca cb) ∧ lett (sp_Ci_copy ca cal cb cbl w0 w3 w4) fun (y2 : IV × LV) => lett (upd ba 3 (bb 3)) fun (ba_3 : IV) => lett (upd ba_3 4 (bb 4)) fun (ba_4 : IV) => lett (upd ba_4 5 (bb 5)) fun (ba_5 : IV) => ok_Be_copy_37 ea rar ral eb rbr rbl ba_5 y2 db big (0 : Int32) da
set_option maxRecDepth 100000 in
set_option maxHeartbeats 4000000 in
theorem c_Be_copy (l : Launch) (g : GX) (qbe : Nat) (qci : Nat) (qrd : Nat) (qrs : Nat) (qrsr : Nat) (ua : Nat → Nat) (qbe2 : Nat) (qci2 : Nat) (qrd2 : Nat) (qrs2 : Nat) (qrs2r : Nat) (ub : Nat → Nat) (qpa : Nat) (qpae : Nat) (qpar : Nat) (qpau : Nat) (qpab : Nat) (ba : IV) (ca : IV) (cal : LV) (da : IV) (ea : IV) (eal : LV) (rar : NI) (ral : NL) (bb : IV) (cb : IV) (cbl : LV) (db : IV) (eb : IV) (ebl : LV) (rbr : NI) (rbl : NL) (w0 : IV) (w1 : IV) (w2 : IV) (w3 : IV) (w4 : IV)  (hok : ok_Be_copy ba ca cal da ea rar ral bb cb cbl db eb rbr rbl w0 w3 w4) : Met l y_Be_copy (wsY y_Be_copy b_Be_copy 3 none) rm_Be_copy (CP g [.ref qbe, .ref qbe2] (wBB g qbe qci qrd qrs qrsr ua qbe2 qci2 qrd2 qrs2 qrs2r ub qpa qpae qpar qpau qpab ba ca cal da ea eal rar ral bb cb cbl db eb ebl rbr rbl w0 w1 w2 w3 w4)) (CV g (wBB g qbe qci qrd qrs qrsr ua qbe2 qci2 qrd2 qrs2 qrs2r ub qpa qpae qpar qpau qpab ba ca cal da ea eal rar ral bb cb cbl db eb ebl rbr rbl w0 w1 w2 w3 w4) (fun u : IV × IV × LV × IV × IV × NI × NL => wBB g qbe qci qrd qrs qrsr ua qbe2 qci2 qrd2 qrs2 qrs2r ub qpa qpae qpar qpau qpab u.1 u.2.1 u.2.2.1 u.2.2.2.1 u.2.2.2.2.1 eal u.2.2.2.2.2.1 u.2.2.2.2.2.2 bb cb cbl db eb ebl rbr rbl w0 w1 w2 w3 w4) (sp_Be_copy ba ca cal da ea rar ral bb cb cbl db eb rbr rbl w0 w3 w4)) 0 0 (inW (wBB g qbe qci qrd qrs qrsr ua qbe2 qci2 qrd2 qrs2 qrs2r ub qpa qpae qpar qpau qpab ba ca cal da ea eal rar ral bb cb cbl db eb ebl rbr rbl w0 w1 w2 w3 w4)) := by
  refine Met.ofW (cc := b_Be_copy) (maxL := 3) (ret := none) pn_Be rfl ?_
  intro p e s m args below meth c s₁ B hml hv
  obtain ⟨rfl, C, hP, hD, hS⟩ := enter "DecadeBridge$Bench" rfl B hml hv
  obtain ⟨hx, hb, hr, hml, hown, hlk, hts, hK, hZo, hZ⟩ := id C
  refine entryW (lv := [(0, .ref qbe), (1, .ref qbe2)]) rfl (Nat.le_of_ble_eq_true rfl) (fun ls hl => ?_)
  obtain ⟨z, hz⟩ : ∃ z, z = sp_Be_copy ba ca cal da ea rar ral bb cb cbl db eb rbr rbl w0 w3 w4 := ⟨_, rfl⟩
  rw [← hz]
  unfold sp_Be_copy at hz
  unfold ok_Be_copy at hok
  refine lv_aload_n hx hb d_Be_copy_0 rfl (lv_at hl 0 rfl) ?_
  refine gf C hP 0 0 fkBe rfl (by decide) rfl qf_Be_31 (gBe_0 _ _ _ _ _) d_Be_copy_1 ?_
  refine lv_aload_n hx hb d_Be_copy_4 rfl (lv_at hl 1 rfl) ?_
  refine gf C hP 25 0 fkBe rfl (by decide) rfl qf_Be_31 (gBe_0 _ _ _ _ _) d_Be_copy_5 ?_
  have hs1 := hok.1
  have hok := hok.2
  have hB : SubW g (inW (wBB g qbe qci qrd qrs qrsr ua qbe2 qci2 qrd2 qrs2 qrs2r ub qpa qpae qpar qpau qpab ba ca cal da ea eal rar ral bb cb cbl db eb ebl rbr rbl w0 w1 w2 w3 w4)) s (wBB g qbe qci qrd qrs qrsr ua qbe2 qci2 qrd2 qrs2 qrs2r ub qpa qpae qpar qpau qpab ba ca cal da ea eal rar ral bb cb cbl db eb ebl rbr rbl w0 w1 w2 w3 w4) (wCC g qci qci2 qpa qpae qpar qpau qpab ca cal cb cbl w0 w1 w2 w3 w4) [1, 26, 50, 51, 52, 53, 54] _ _ := ⟨rfl, rfl, hP, hD, hS⟩
  refine goV1 hB (run_v C mf_Ci_copy qm_Be_51 (c_Ci_copy l g qci qci2 qpa qpae qpar qpau qpab ca cal cb cbl w0 w1 w2 w3 w4 hs1) rfl rfl ⟨Nat.le_of_ble_eq_true rfl, Nat.le_of_ble_eq_true rfl⟩ ⟨Nat.le_of_ble_eq_true rfl, Nat.le_of_ble_eq_true rfl⟩ hB rfl rfl hl rfl rfl (Nat.le_of_ble_eq_true rfl) d_Be_copy_8) (fun _ => rfl) (fun y2 ey2 H locs hP hD hS => ?_)
  have hP : va_P g.1 vwCl (wBB g qbe qci qrd qrs qrsr ua qbe2 qci2 qrd2 qrs2 qrs2r ub qpa qpae qpar qpau qpab ba y2.1 y2.2 da ea eal rar ral bb cb cbl db eb ebl rbr rbl w0 w1 w2 w3 w4) H := cP (spq hB.1 hB.2.1 [0, 2, 3, 4, 5, 6, 7, 8, 9, 10, 11, 12, 13, 14, 15, 16, 17, 18, 19, 20, 21, 22, 23, 24, 25, 27, 28, 29, 30, 31, 32, 33, 34, 35, 36, 37, 38, 39, 40, 41, 42, 43, 44, 45, 46, 47, 48, 49] 55 rfl rfl (by decide +kernel) rfl) hP
  have hD : va_D (inW (wBB g qbe qci qrd qrs qrsr ua qbe2 qci2 qrd2 qrs2 qrs2r ub qpa qpae qpar qpau qpab ba ca cal da ea eal rar ral bb cb cbl db eb ebl rbr rbl w0 w1 w2 w3 w4)) (wBB g qbe qci qrd qrs qrsr ua qbe2 qci2 qrd2 qrs2 qrs2r ub qpa qpae qpar qpau qpab ba y2.1 y2.2 da ea eal rar ral bb cb cbl db eb ebl rbr rbl w0 w1 w2 w3 w4) := cD (spq hB.1 hB.2.1 [0, 2, 3, 4, 5, 6, 7, 8, 9, 10, 11, 12, 13, 14, 15, 16, 17, 18, 19, 20, 21, 22, 23, 24, 25, 27, 28, 29, 30, 31, 32, 33, 34, 35, 36, 37, 38, 39, 40, 41, 42, 43, 44, 45, 46, 47, 48, 49] 55 rfl rfl (by decide +kernel) rfl) hD
  have hz := lett_z hz ey2
  have hok := lett_o hok ey2
  refine lv_aload_n hx hb d_Be_copy_11 rfl (lv_at hl 0 rfl) ?_
  refine lv_aload_n hx hb d_Be_copy_12 rfl (lv_at hl 1 rfl) ?_
  refine gf C hP 25 3 fkBe rfl (by decide) rfl qf_Be_38 (gBe_3 _ _ _ _ _) d_Be_copy_13 ?_
  refine pfI C hP hD hS 0 3 fkBe rfl (by decide) rfl qf_Be_38 rfl rfl rfl (Nat.le_of_ble_eq_true rfl) (ff := fun o => fBe qci qpa qrd qrs o) (sBe_3 _ _ _ _ _ _) d_Be_copy_16 (fun ba_3 eba_3 H locs hP hD hS => ?_)
  have hP : va_P g.1 vwCl (wBB g qbe qci qrd qrs qrsr ua qbe2 qci2 qrd2 qrs2 qrs2r ub qpa qpae qpar qpau qpab ba_3 y2.1 y2.2 da ea eal rar ral bb cb cbl db eb ebl rbr rbl w0 w1 w2 w3 w4) H := hP
  have hD : va_D (inW (wBB g qbe qci qrd qrs qrsr ua qbe2 qci2 qrd2 qrs2 qrs2r ub qpa qpae qpar qpau qpab ba ca cal da ea eal rar ral bb cb cbl db eb ebl rbr rbl w0 w1 w2 w3 w4)) (wBB g qbe qci qrd qrs qrsr ua qbe2 qci2 qrd2 qrs2 qrs2r ub qpa qpae qpar qpau qpab ba_3 y2.1 y2.2 da ea eal rar ral bb cb cbl db eb ebl rbr rbl w0 w1 w2 w3 w4) := hD
  have hz := lett_z hz eba_3
  have hok := lett_o hok eba_3
  refine lv_aload_n hx hb d_Be_copy_19 rfl (lv_at hl 0 rfl) ?_
  refine lv_aload_n hx hb d_Be_copy_20 rfl (lv_at hl 1 rfl) ?_
  refine gf C hP 25 4 fkBe rfl (by decide) rfl qf_Be_42 (gBe_4 _ _ _ _ _) d_Be_copy_21 ?_
  refine pfI C hP hD hS 0 4 fkBe rfl (by decide) rfl qf_Be_42 rfl rfl rfl (Nat.le_of_ble_eq_true rfl) (ff := fun o => fBe qci qpa qrd qrs o) (sBe_4 _ _ _ _ _ _) d_Be_copy_24 (fun ba_4 eba_4 H locs hP hD hS => ?_)
  have hP : va_P g.1 vwCl (wBB g qbe qci qrd qrs qrsr ua qbe2 qci2 qrd2 qrs2 qrs2r ub qpa qpae qpar qpau qpab ba_4 y2.1 y2.2 da ea eal rar ral bb cb cbl db eb ebl rbr rbl w0 w1 w2 w3 w4) H := hP
  have hD : va_D (inW (wBB g qbe qci qrd qrs qrsr ua qbe2 qci2 qrd2 qrs2 qrs2r ub qpa qpae qpar qpau qpab ba ca cal da ea eal rar ral bb cb cbl db eb ebl rbr rbl w0 w1 w2 w3 w4)) (wBB g qbe qci qrd qrs qrsr ua qbe2 qci2 qrd2 qrs2 qrs2r ub qpa qpae qpar qpau qpab ba_4 y2.1 y2.2 da ea eal rar ral bb cb cbl db eb ebl rbr rbl w0 w1 w2 w3 w4) := hD
  have hz := lett_z hz eba_4
  have hok := lett_o hok eba_4
  refine lv_aload_n hx hb d_Be_copy_27 rfl (lv_at hl 0 rfl) ?_
  refine lv_aload_n hx hb d_Be_copy_28 rfl (lv_at hl 1 rfl) ?_
  refine gf C hP 25 5 fkBe rfl (by decide) rfl qf_Be_45 (gBe_5 _ _ _ _ _) d_Be_copy_29 ?_
  refine pfI C hP hD hS 0 5 fkBe rfl (by decide) rfl qf_Be_45 rfl rfl rfl (Nat.le_of_ble_eq_true rfl) (ff := fun o => fBe qci qpa qrd qrs o) (sBe_5 _ _ _ _ _ _) d_Be_copy_32 (fun ba_5 eba_5 H locs hP hD hS => ?_)
  have hP : va_P g.1 vwCl (wBB g qbe qci qrd qrs qrsr ua qbe2 qci2 qrd2 qrs2 qrs2r ub qpa qpae qpar qpau qpab ba_5 y2.1 y2.2 da ea eal rar ral bb cb cbl db eb ebl rbr rbl w0 w1 w2 w3 w4) H := hP
  have hD : va_D (inW (wBB g qbe qci qrd qrs qrsr ua qbe2 qci2 qrd2 qrs2 qrs2r ub qpa qpae qpar qpau qpab ba ca cal da ea eal rar ral bb cb cbl db eb ebl rbr rbl w0 w1 w2 w3 w4)) (wBB g qbe qci qrd qrs qrsr ua qbe2 qci2 qrd2 qrs2 qrs2r ub qpa qpae qpar qpau qpab ba_5 y2.1 y2.2 da ea eal rar ral bb cb cbl db eb ebl rbr rbl w0 w1 w2 w3 w4) := hD
  have hz := lett_z hz eba_5
  have hok := lett_o hok eba_5
  refine lv_iconst (v := 0) hx hb d_Be_copy_35 (by decide) ?_
  refine lv_istore_n (lv' := [(2, .int (0 : Int32)), (0, .ref qbe), (1, .ref qbe2)]) hx hb d_Be_copy_36 rfl hl (by decide) rfl (fun ls hl => ?_)
  exact k_Be_copy_37 C big (0 : Int32) da hok _ hz _ _ ls hP hD hS (lv_sub hl [1, 2, 0] rfl)
abbrev rm_Be_makeReading : Room := { frames := 2, cells := 0, slots := 0, locals := 53 }
def HL_Be_makeReading_68 (p : Program) (l : Launch) (e : Env) (s : State) (m : MethodId) (args : Array Value) (below : List Frame) (meth : Method) (c : Code) (g : GX) (qbe : Nat) (qci : Nat) (qrd : Nat) (qrs : Nat) (qrsr : Nat) (ua : Nat → Nat) (qpa : Nat) (qpae : Nat) (qpar : Nat) (qpau : Nat) (qpab : Nat) (ws0 : va_W) (ba : IV) (y3 : Int32 × IV) (cal : LV) (da : IV) (ea : IV) (eal : LV) (rar : NI) (ral : NL) (w0 : IV) (w1 : IV) (w2 : IV) (w3 : IV) (w4 : IV) (sp : Int64 → (Int32 × IV × IV × LV × IV)) (ok : Int64 → Prop) : Prop := ∀ (x1p68 : Int64), ok x1p68 → ∀ z : (Int32 × IV × IV × LV × IV), z = sp x1p68 → ∀ (H : Heap) (locs : List Loc) (ls : Array Slot), va_P g.1 vwCl (wBe g qbe qci qrd qrs qrsr ua qpa qpae qpar qpau qpab ba y3.2 cal da ea eal rar ral w0 w1 w2 w3 w4) H → va_D (inW ws0) (wBe g qbe qci qrd qrs qrsr ua qpa qpae qpar qpau qpab ba y3.2 cal da ea eal rar ral w0 w1 w2 w3 w4) → va_S (inW ws0) s.heap H locs → lv_has ls 5 [(0, .ref qbe), (1, .long x1p68)] → W p l e rm_Be_makeReading s m args below meth c H locs 0 0 (MQ below (CI g ws0 (fun u : IV × IV × LV × IV => wBe g qbe qci qrd qrs qrsr ua qpa qpae qpar qpau qpab u.1 u.2.1 u.2.2.1 u.2.2.2 ea eal rar ral w0 w1 w2 w3 w4) z) args s 0 0 (inW ws0)) (F0 m 68 ls [])
def HL_Be_makeReading_92 (p : Program) (l : Launch) (e : Env) (s : State) (m : MethodId) (args : Array Value) (below : List Frame) (meth : Method) (c : Code) (g : GX) (qbe : Nat) (qci : Nat) (qrd : Nat) (qrs : Nat) (qrsr : Nat) (ua : Nat → Nat) (qpa : Nat) (qpae : Nat) (qpar : Nat) (qpau : Nat) (qpab : Nat) (ws0 : va_W) (ba : IV) (y3 : Int32 × IV) (cal : LV) (da : IV) (ea : IV) (eal : LV) (rar : NI) (ral : NL) (w0 : IV) (w1 : IV) (w2 : IV) (w3 : IV) (w4 : IV) (sp : Int64 → (Int32 × IV × IV × LV × IV)) (ok : Int64 → Prop) : Prop := ∀ (x1p92 : Int64), ok x1p92 → ∀ z : (Int32 × IV × IV × LV × IV), z = sp x1p92 → ∀ (H : Heap) (locs : List Loc) (ls : Array Slot), va_P g.1 vwCl (wBe g qbe qci qrd qrs qrsr ua qpa qpae qpar qpau qpab ba y3.2 cal da ea eal rar ral w0 w1 w2 w3 w4) H → va_D (inW ws0) (wBe g qbe qci qrd qrs qrsr ua qpa qpae qpar qpau qpab ba y3.2 cal da ea eal rar ral w0 w1 w2 w3 w4) → va_S (inW ws0) s.heap H locs → lv_has ls 5 [(0, .ref qbe), (1, .long x1p92)] → W p l e rm_Be_makeReading s m args below meth c H locs 0 0 (MQ below (CI g ws0 (fun u : IV × IV × LV × IV => wBe g qbe qci qrd qrs qrsr ua qpa qpae qpar qpau qpab u.1 u.2.1 u.2.2.1 u.2.2.2 ea eal rar ral w0 w1 w2 w3 w4) z) args s 0 0 (inW ws0)) (F0 m 92 ls [])
def HL_Be_makeReading_104 (p : Program) (l : Launch) (e : Env) (s : State) (m : MethodId) (args : Array Value) (below : List Frame) (meth : Method) (c : Code) (g : GX) (qbe : Nat) (qci : Nat) (qrd : Nat) (qrs : Nat) (qrsr : Nat) (ua : Nat → Nat) (qpa : Nat) (qpae : Nat) (qpar : Nat) (qpau : Nat) (qpab : Nat) (ws0 : va_W) (ba : IV) (y3 : Int32 × IV) (cal : LV) (ea : IV) (eal : LV) (rar : NI) (ral : NL) (w0 : IV) (w1 : IV) (w2 : IV) (w3 : IV) (w4 : IV) (x1p92 : Int64) (sp : Int32 → IV → (Int32 × IV × IV × LV × IV)) (ok : Int32 → IV → Prop) : Prop := ∀ (x4p104 : Int32) (dap104 : IV), ok x4p104 dap104 → ∀ z : (Int32 × IV × IV × LV × IV), z = sp x4p104 dap104 → ∀ (H : Heap) (locs : List Loc) (ls : Array Slot), va_P g.1 vwCl (wBe g qbe qci qrd qrs qrsr ua qpa qpae qpar qpau qpab ba y3.2 cal dap104 ea eal rar ral w0 w1 w2 w3 w4) H → va_D (inW ws0) (wBe g qbe qci qrd qrs qrsr ua qpa qpae qpar qpau qpab ba y3.2 cal dap104 ea eal rar ral w0 w1 w2 w3 w4) → va_S (inW ws0) s.heap H locs → lv_has ls 5 [(0, .ref qbe), (3, .int x1p92.toInt32), (4, .int x4p104)] → W p l e rm_Be_makeReading s m args below meth c H locs 0 0 (MQ below (CI g ws0 (fun u : IV × IV × LV × IV => wBe g qbe qci qrd qrs qrsr ua qpa qpae qpar qpau qpab u.1 u.2.1 u.2.2.1 u.2.2.2 ea eal rar ral w0 w1 w2 w3 w4) z) args s 0 0 (inW ws0)) (F0 m 104 ls [])
def HL_Be_makeReading_131 (p : Program) (l : Launch) (e : Env) (s : State) (m : MethodId) (args : Array Value) (below : List Frame) (meth : Method) (c : Code) (g : GX) (qbe : Nat) (qci : Nat) (qrd : Nat) (qrs : Nat) (qrsr : Nat) (ua : Nat → Nat) (qpa : Nat) (qpae : Nat) (qpar : Nat) (qpau : Nat) (qpab : Nat) (ws0 : va_W) (ba : IV) (y3 : Int32 × IV) (cal : LV) (dap104 : IV) (ea : IV) (eal : LV) (rar : NI) (ral : NL) (w0 : IV) (w1 : IV) (w2 : IV) (w3 : IV) (w4 : IV) (x1p92 : Int64) (sp : (Int32 × IV × IV × LV × IV)) (ok : Prop) : Prop := ∀ (_ : Unit), ok → ∀ z : (Int32 × IV × IV × LV × IV), z = sp → ∀ (H : Heap) (locs : List Loc) (ls : Array Slot), va_P g.1 vwCl (wBe g qbe qci qrd qrs qrsr ua qpa qpae qpar qpau qpab ba y3.2 cal dap104 ea eal rar ral w0 w1 w2 w3 w4) H → va_D (inW ws0) (wBe g qbe qci qrd qrs qrsr ua qpa qpae qpar qpau qpab ba y3.2 cal dap104 ea eal rar ral w0 w1 w2 w3 w4) → va_S (inW ws0) s.heap H locs → lv_has ls 5 [(0, .ref qbe), (3, .int x1p92.toInt32)] → W p l e rm_Be_makeReading s m args below meth c H locs 0 0 (MQ below (CI g ws0 (fun u : IV × IV × LV × IV => wBe g qbe qci qrd qrs qrsr ua qpa qpae qpar qpau qpab u.1 u.2.1 u.2.2.1 u.2.2.2 ea eal rar ral w0 w1 w2 w3 w4) z) args s 0 0 (inW ws0)) (F0 m 131 ls [])
def HL_Be_makeReading_159 (p : Program) (l : Launch) (e : Env) (s : State) (m : MethodId) (args : Array Value) (below : List Frame) (meth : Method) (c : Code) (g : GX) (qbe : Nat) (qci : Nat) (qrd : Nat) (qrs : Nat) (qrsr : Nat) (ua : Nat → Nat) (qpa : Nat) (qpae : Nat) (qpar : Nat) (qpau : Nat) (qpab : Nat) (ws0 : va_W) (ba : IV) (y3 : Int32 × IV) (cal : LV) (da_15 : IV) (ea : IV) (eal : LV) (rar : NI) (ral : NL) (w0 : IV) (w1 : IV) (w2 : IV) (w3 : IV) (w4 : IV) (x1p92 : Int64) (sp : Int32 → (Int32 × IV × IV × LV × IV)) (ok : Int32 → Prop) : Prop := ∀ (t1p159 : Int32), ok t1p159 → ∀ z : (Int32 × IV × IV × LV × IV), z = sp t1p159 → ∀ (H : Heap) (locs : List Loc) (ls : Array Slot), va_P g.1 vwCl (wBe g qbe qci qrd qrs qrsr ua qpa qpae qpar qpau qpab ba y3.2 cal da_15 ea eal rar ral w0 w1 w2 w3 w4) H → va_D (inW ws0) (wBe g qbe qci qrd qrs qrsr ua qpa qpae qpar qpau qpab ba y3.2 cal da_15 ea eal rar ral w0 w1 w2 w3 w4) → va_S (inW ws0) s.heap H locs → lv_has ls 5 [(0, .ref qbe), (3, .int x1p92.toInt32)] → W p l e rm_Be_makeReading s m args below meth c H locs 0 0 (MQ below (CI g ws0 (fun u : IV × IV × LV × IV => wBe g qbe qci qrd qrs qrsr ua qpa qpae qpar qpau qpab u.1 u.2.1 u.2.2.1 u.2.2.2 ea eal rar ral w0 w1 w2 w3 w4) z) args s 0 0 (inW ws0)) (F0 m 159 ls [.int t1p159, .ref qbe])
def HL_Be_makeReading_190 (p : Program) (l : Launch) (e : Env) (s : State) (m : MethodId) (args : Array Value) (below : List Frame) (meth : Method) (c : Code) (g : GX) (qbe : Nat) (qci : Nat) (qrd : Nat) (qrs : Nat) (qrsr : Nat) (ua : Nat → Nat) (qpa : Nat) (qpae : Nat) (qpar : Nat) (qpau : Nat) (qpab : Nat) (ws0 : va_W) (y3 : Int32 × IV) (cal : LV) (da_15 : IV) (ea : IV) (eal : LV) (rar : NI) (ral : NL) (w0 : IV) (w1 : IV) (w2 : IV) (w3 : IV) (w4 : IV) (x1p92 : Int64) (sp : IV → (Int32 × IV × IV × LV × IV)) (ok : IV → Prop) : Prop := ∀ (bap190 : IV), ok bap190 → ∀ z : (Int32 × IV × IV × LV × IV), z = sp bap190 → ∀ (H : Heap) (locs : List Loc) (ls : Array Slot), va_P g.1 vwCl (wBe g qbe qci qrd qrs qrsr ua qpa qpae qpar qpau qpab bap190 y3.2 cal da_15 ea eal rar ral w0 w1 w2 w3 w4) H → va_D (inW ws0) (wBe g qbe qci qrd qrs qrsr ua qpa qpae qpar qpau qpab bap190 y3.2 cal da_15 ea eal rar ral w0 w1 w2 w3 w4) → va_S (inW ws0) s.heap H locs → lv_has ls 5 [(0, .ref qbe), (3, .int x1p92.toInt32)] → W p l e rm_Be_makeReading s m args below meth c H locs 0 0 (MQ below (CI g ws0 (fun u : IV × IV × LV × IV => wBe g qbe qci qrd qrs qrsr ua qpa qpae qpar qpau qpab u.1 u.2.1 u.2.2.1 u.2.2.2 ea eal rar ral w0 w1 w2 w3 w4) z) args s 0 0 (inW ws0)) (F0 m 190 ls [])
noncomputable def sp_Be_makeReading_190 (y3 : Int32 × IV) (cal : LV) (w0 : IV) (w3 : IV) (w4 : IV) (x1p92 : Int64) (da_15 : IV)  (bap190 : IV) : Int32 × IV × IV × LV × IV := lett (sp_Ci_tick (1 : Int32) y3.2 cal w0 w3 w4) fun (y23 : IV × LV) => (x1p92.toInt32, (bap190, y23.1, y23.2, da_15))
def ok_Be_makeReading_190 (y3 : Int32 × IV) (cal : LV) (w0 : IV) (w3 : IV) (w4 : IV) (x1p92 : Int64) (da_15 : IV)   (bap190 : IV) : Prop := (ok_Ci_tick (1 : Int32) y3.2 cal w0 w3 w4) ∧ True
set_option maxRecDepth 100000 in
set_option maxHeartbeats 4000000 in
theorem k_Be_makeReading_190 {p : Program} {l : Launch} {e : Env} {s : State} {m : MethodId} {args : Array Value} {below : List Frame} {meth : Method} {c : Code} {g : GX} {qbe : Nat} {qci : Nat} {qrd : Nat} {qrs : Nat} {qrsr : Nat} {ua : Nat → Nat} {qpa : Nat} {qpae : Nat} {qpar : Nat} {qpau : Nat} {qpab : Nat} {ws0 : va_W} {y3 : Int32 × IV} {cal : LV} {da_15 : IV} {ea : IV} {eal : LV} {rar : NI} {ral : NL} {w0 : IV} {w1 : IV} {w2 : IV} {w3 : IV} {w4 : IV} {x1p92 : Int64}  (C : Cx p s m args meth c (inW ws0) g "DecadeBridge$Bench" b_Be_makeReading (some .int) 5)  : HL_Be_makeReading_190 p l e s m args below meth c g qbe qci qrd qrs qrsr ua qpa qpae qpar qpau qpab ws0 y3 cal da_15 ea eal rar ral w0 w1 w2 w3 w4 x1p92 (sp_Be_makeReading_190 y3 cal w0 w3 w4 x1p92 da_15 ) (ok_Be_makeReading_190 y3 cal w0 w3 w4 x1p92 da_15  ) := by
  intro bap190 hok z hz H locs ls hP hD hS hl
  obtain ⟨hx, hb, hr, hml, hown, hlk, hts, hK, hZo, hZ⟩ := id C
  unfold sp_Be_makeReading_190 at hz
  unfold ok_Be_makeReading_190 at hok
  refine lv_aload_n hx hb d_Be_makeReading_190 rfl (lv_at hl 0 rfl) ?_
  refine gf C hP 0 0 fkBe rfl (by decide) rfl qf_Be_31 (gBe_0 _ _ _ _ _) d_Be_makeReading_191 ?_
  refine lv_iconst (v := 1) hx hb d_Be_makeReading_194 (by decide) ?_
  have hs22 := hok.1
  have hok := hok.2
  have hB : SubW g (inW ws0) s (wBe g qbe qci qrd qrs qrsr ua qpa qpae qpar qpau qpab bap190 y3.2 cal da_15 ea eal rar ral w0 w1 w2 w3 w4) (wCi g qci qpa qpae qpar qpau qpab y3.2 cal w0 w1 w2 w3 w4) [1, 25, 26, 27, 28, 29] _ _ := ⟨rfl, rfl, hP, hD, hS⟩
  refine goV1 hB (run_v C mf_Ci_tick qm_Be_94 (c_Ci_tick l g qci qpa qpae qpar qpau qpab y3.2 cal w0 w1 w2 w3 w4 (1 : Int32) hs22) rfl rfl ⟨Nat.le_of_ble_eq_true rfl, Nat.le_of_ble_eq_true rfl⟩ ⟨Nat.le_of_ble_eq_true rfl, Nat.le_of_ble_eq_true rfl⟩ hB rfl rfl hl rfl rfl (Nat.le_of_ble_eq_true rfl) d_Be_makeReading_195) (fun _ => rfl) (fun y23 ey23 H locs hP hD hS => ?_)
  have hP : va_P g.1 vwCl (wBe g qbe qci qrd qrs qrsr ua qpa qpae qpar qpau qpab bap190 y23.1 y23.2 da_15 ea eal rar ral w0 w1 w2 w3 w4) H := cP (spq hB.1 hB.2.1 [0, 2, 3, 4, 5, 6, 7, 8, 9, 10, 11, 12, 13, 14, 15, 16, 17, 18, 19, 20, 21, 22, 23, 24] 30 rfl rfl (by decide +kernel) rfl) hP
  have hD : va_D (inW ws0) (wBe g qbe qci qrd qrs qrsr ua qpa qpae qpar qpau qpab bap190 y23.1 y23.2 da_15 ea eal rar ral w0 w1 w2 w3 w4) := cD (spq hB.1 hB.2.1 [0, 2, 3, 4, 5, 6, 7, 8, 9, 10, 11, 12, 13, 14, 15, 16, 17, 18, 19, 20, 21, 22, 23, 24] 30 rfl rfl (by decide +kernel) rfl) hD
  have hz := lett_z hz ey23
  refine lv_iload_n hx hb d_Be_makeReading_198 rfl (lv_at hl 1 rfl) ?_
  exact endI1 C hz hP hS d_Be_makeReading_199
noncomputable def sp_Be_makeReading_159 (ba : IV) (x1p92 : Int64) (w0 : IV) (y3 : Int32 × IV) (cal : LV) (w3 : IV) (w4 : IV) (da_15 : IV)  (t1p159 : Int32) : Int32 × IV × IV × LV × IV := lett (upd ba 3 t1p159) fun (ba_17 : IV) => lett (upd ba_17 4 ((ba_17 4) + (1 : Int32))) fun (ba_18 : IV) => lett (sp_Be_isNull x1p92.toInt32 w0) fun (y19 : Int32) => if y19 = 0 then (sp_Be_makeReading_190 y3 cal w0 w3 w4 x1p92 da_15 ba_18) else (lett (upd ba_18 5 ((ba_18 5) + (1 : Int32))) fun (ba_21 : IV) => sp_Be_makeReading_190 y3 cal w0 w3 w4 x1p92 da_15 ba_21)
def ok_Be_makeReading_159 (ba : IV) (x1p92 : Int64) (w0 : IV) (y3 : Int32 × IV) (cal : LV) (w3 : IV) (w4 : IV) (da_15 : IV)   (t1p159 : Int32) : Prop := lett (upd ba 3 t1p159) fun (ba_17 : IV) => lett (upd ba_17 4 ((ba_17 4) + (1 : Int32))) fun (ba_18 : IV) => lett (sp_Be_isNull x1p92.toInt32 w0) fun (y19 : Int32) => ((y19 = 0 → ok_Be_makeReading_190 y3 cal w0 w3 w4 x1p92 da_15 ba_18) ∧ (¬ (y19 = 0) → lett (upd ba_18 5 ((ba_18 5) + (1 : Int32))) fun (ba_21 : IV) => ok_Be_makeReading_190 y3 cal w0 w3 w4 x1p92 da_15 ba_21))
set_option maxRecDepth 100000 in
set_option maxHeartbeats 4000000 in
theorem k_Be_makeReading_159 {p : Program} {l : Launch} {e : Env} {s : State} {m : MethodId} {args : Array Value} {below : List Frame} {meth : Method} {c : Code} {g : GX} {qbe : Nat} {qci : Nat} {qrd : Nat} {qrs : Nat} {qrsr : Nat} {ua : Nat → Nat} {qpa : Nat} {qpae : Nat} {qpar : Nat} {qpau : Nat} {qpab : Nat} {ws0 : va_W} {ba : IV} {y3 : Int32 × IV} {cal : LV} {da_15 : IV} {ea : IV} {eal : LV} {rar : NI} {ral : NL} {w0 : IV} {w1 : IV} {w2 : IV} {w3 : IV} {w4 : IV} {x1p92 : Int64}  (C : Cx p s m args meth c (inW ws0) g "DecadeBridge$Bench" b_Be_makeReading (some .int) 5)  : HL_Be_makeReading_159 p l e s m args below meth c g qbe qci qrd qrs qrsr ua qpa qpae qpar qpau qpab ws0 ba y3 cal da_15 ea eal rar ral w0 w1 w2 w3 w4 x1p92 (sp_Be_makeReading_159 ba x1p92 w0 y3 cal w3 w4 da_15 ) (ok_Be_makeReading_159 ba x1p92 w0 y3 cal w3 w4 da_15  ) := by
  intro t1p159 hok z hz H locs ls hP hD hS hl
  obtain ⟨hx, hb, hr, hml, hown, hlk, hts, hK, hZo, hZ⟩ := id C
  unfold sp_Be_makeReading_159 at hz
  unfold ok_Be_makeReading_159 at hok
  refine pfI C hP hD hS 0 3 fkBe rfl (by decide) rfl qf_Be_38 rfl rfl rfl (Nat.le_of_ble_eq_true rfl) (ff := fun o => fBe qci qpa qrd qrs o) (sBe_3 _ _ _ _ _ _) d_Be_makeReading_159 (fun ba_17 eba_17 H locs hP hD hS => ?_)
  have hP : va_P g.1 vwCl (wBe g qbe qci qrd qrs qrsr ua qpa qpae qpar qpau qpab ba_17 y3.2 cal da_15 ea eal rar ral w0 w1 w2 w3 w4) H := hP
  have hD : va_D (inW ws0) (wBe g qbe qci qrd qrs qrsr ua qpa qpae qpar qpau qpab ba_17 y3.2 cal da_15 ea eal rar ral w0 w1 w2 w3 w4) := hD
  have hz := lett_z hz eba_17
  have hok := lett_o hok eba_17
  refine lv_aload_n hx hb d_Be_makeReading_162 rfl (lv_at hl 0 rfl) ?_
  refine lv_dup hx hb d_Be_makeReading_163 rfl ?_
  refine gf C hP 0 4 fkBe rfl (by decide) rfl qf_Be_42 (gBe_4 _ _ _ _ _) d_Be_makeReading_164 ?_
  refine lv_iconst (v := 1) hx hb d_Be_makeReading_167 (by decide) ?_
  refine lv_iadd hx hb d_Be_makeReading_168 ?_
  refine pfI C hP hD hS 0 4 fkBe rfl (by decide) rfl qf_Be_42 rfl rfl rfl (Nat.le_of_ble_eq_true rfl) (ff := fun o => fBe qci qpa qrd qrs o) (sBe_4 _ _ _ _ _ _) d_Be_makeReading_169 (fun ba_18 eba_18 H locs hP hD hS => ?_)
  have hP : va_P g.1 vwCl (wBe g qbe qci qrd qrs qrsr ua qpa qpae qpar qpau qpab ba_18 y3.2 cal da_15 ea eal rar ral w0 w1 w2 w3 w4) H := hP
  have hD : va_D (inW ws0) (wBe g qbe qci qrd qrs qrsr ua qpa qpae qpar qpau qpab ba_18 y3.2 cal da_15 ea eal rar ral w0 w1 w2 w3 w4) := hD
  have hz := lett_z hz eba_18
  have hok := lett_o hok eba_18
  refine lv_aload_n hx hb d_Be_makeReading_172 rfl (lv_at hl 0 rfl) ?_
  refine lv_iload_n hx hb d_Be_makeReading_173 rfl (lv_at hl 1 rfl) ?_
  have hB : SubW g (inW ws0) s (wBe g qbe qci qrd qrs qrsr ua qpa qpae qpar qpau qpab ba_18 y3.2 cal da_15 ea eal rar ral w0 w1 w2 w3 w4) _ (List.range _) _ _ := (subF hP hD hS)
  refine goI0 hB (run_v C mf_Be_isNull qm_Be_72 (c_Be_isNull l g qbe qci qrd qrs qrsr ua qpa qpae qpar qpau qpab ba_18 y3.2 cal da_15 ea eal rar ral w0 w1 w2 w3 w4 x1p92.toInt32) rfl rfl ⟨Nat.le_of_ble_eq_true rfl, Nat.le_of_ble_eq_true rfl⟩ ⟨Nat.le_of_ble_eq_true rfl, Nat.le_of_ble_eq_true rfl⟩ hB rfl rfl hl rfl rfl (Nat.le_of_ble_eq_true rfl) d_Be_makeReading_174) (fun y19 ey19 H locs hP hS => ?_)
  have hz := lett_z hz ey19
  have hok := lett_o hok ey19
  refine lv_if_eq (tgt := 190) hx hb d_Be_makeReading_177 (by decide) (fun c20 => ?_) (fun c20 => ?_)
  · have hz := hz.trans (if_pos c20)
    have hok := hok.1 c20
    exact k_Be_makeReading_190 C ba_18 hok _ hz _ _ ls hP hD hS hl
  · have hz := hz.trans (if_neg c20)
    have hok := hok.2 c20
    refine lv_aload_n hx hb d_Be_makeReading_180 rfl (lv_at hl 0 rfl) ?_
    refine lv_dup hx hb d_Be_makeReading_181 rfl ?_
    refine gf C hP 0 5 fkBe rfl (by decide) rfl qf_Be_45 (gBe_5 _ _ _ _ _) d_Be_makeReading_182 ?_
    refine lv_iconst (v := 1) hx hb d_Be_makeReading_185 (by decide) ?_
    refine lv_iadd hx hb d_Be_makeReading_186 ?_
    refine pfI C hP hD hS 0 5 fkBe rfl (by decide) rfl qf_Be_45 rfl rfl rfl (Nat.le_of_ble_eq_true rfl) (ff := fun o => fBe qci qpa qrd qrs o) (sBe_5 _ _ _ _ _ _) d_Be_makeReading_187 (fun ba_21 eba_21 H locs hP hD hS => ?_)
    have hP : va_P g.1 vwCl (wBe g qbe qci qrd qrs qrsr ua qpa qpae qpar qpau qpab ba_21 y3.2 cal da_15 ea eal rar ral w0 w1 w2 w3 w4) H := hP
    have hD : va_D (inW ws0) (wBe g qbe qci qrd qrs qrsr ua qpa qpae qpar qpau qpab ba_21 y3.2 cal da_15 ea eal rar ral w0 w1 w2 w3 w4) := hD
    have hz := lett_z hz eba_21
    have hok := lett_o hok eba_21
    exact k_Be_makeReading_190 C ba_21 hok _ hz _ _ ls hP hD hS hl
noncomputable def sp_Be_makeReading_131 (dap104 : IV) (x1p92 : Int64) (ba : IV) (w0 : IV) (y3 : Int32 × IV) (cal : LV) (w3 : IV) (w4 : IV)   : Int32 × IV × IV × LV × IV := lett (upd dap104 0 x1p92.toInt32) fun (da_15 : IV) => if (10 : Int32) ≤ (ba 3) then (sp_Be_makeReading_159 ba x1p92 w0 y3 cal w3 w4 da_15 (10 : Int32)) else (sp_Be_makeReading_159 ba x1p92 w0 y3 cal w3 w4 da_15 ((ba 3) + (1 : Int32)))
def ok_Be_makeReading_131 (dap104 : IV) (x1p92 : Int64) (ba : IV) (w0 : IV) (y3 : Int32 × IV) (cal : LV) (w3 : IV) (w4 : IV)    : Prop := lett (upd dap104 0 x1p92.toInt32) fun (da_15 : IV) => (((10 : Int32) ≤ (ba 3) → ok_Be_makeReading_159 ba x1p92 w0 y3 cal w3 w4 da_15 (10 : Int32)) ∧ (¬ ((10 : Int32) ≤ (ba 3)) → ok_Be_makeReading_159 ba x1p92 w0 y3 cal w3 w4 da_15 ((ba 3) + (1 : Int32))))
set_option maxRecDepth 100000 in
set_option maxHeartbeats 4000000 in
theorem k_Be_makeReading_131 {p : Program} {l : Launch} {e : Env} {s : State} {m : MethodId} {args : Array Value} {below : List Frame} {meth : Method} {c : Code} {g : GX} {qbe : Nat} {qci : Nat} {qrd : Nat} {qrs : Nat} {qrsr : Nat} {ua : Nat → Nat} {qpa : Nat} {qpae : Nat} {qpar : Nat} {qpau : Nat} {qpab : Nat} {ws0 : va_W} {ba : IV} {y3 : Int32 × IV} {cal : LV} {dap104 : IV} {ea : IV} {eal : LV} {rar : NI} {ral : NL} {w0 : IV} {w1 : IV} {w2 : IV} {w3 : IV} {w4 : IV} {x1p92 : Int64}  (C : Cx p s m args meth c (inW ws0) g "DecadeBridge$Bench" b_Be_makeReading (some .int) 5)  : HL_Be_makeReading_131 p l e s m args below meth c g qbe qci qrd qrs qrsr ua qpa qpae qpar qpau qpab ws0 ba y3 cal dap104 ea eal rar ral w0 w1 w2 w3 w4 x1p92 (sp_Be_makeReading_131 dap104 x1p92 ba w0 y3 cal w3 w4 ) (ok_Be_makeReading_131 dap104 x1p92 ba w0 y3 cal w3 w4  ) := by
  intro _ hok z hz H locs ls hP hD hS hl
  obtain ⟨hx, hb, hr, hml, hown, hlk, hts, hK, hZo, hZ⟩ := id C
  unfold sp_Be_makeReading_131 at hz
  unfold ok_Be_makeReading_131 at hok
  refine lv_aload_n hx hb d_Be_makeReading_131 rfl (lv_at hl 0 rfl) ?_
  refine gf C hP 0 2 fkBe rfl (by decide) rfl qf_Be_11 (gBe_2 _ _ _ _ _) d_Be_makeReading_132 ?_
  refine lv_iconst (v := 0) hx hb d_Be_makeReading_135 (by decide) ?_
  refine lv_iload_n hx hb d_Be_makeReading_136 rfl (lv_at hl 1 rfl) ?_
  refine stI C hP hD hS 2 rfl vi_0_10 cn_0 d_Be_makeReading_137 (fun da_15 eda_15 H locs hP hD hS => ?_)
  have hP : va_P g.1 vwCl (wBe g qbe qci qrd qrs qrsr ua qpa qpae qpar qpau qpab ba y3.2 cal da_15 ea eal rar ral w0 w1 w2 w3 w4) H := hP
  have hD : va_D (inW ws0) (wBe g qbe qci qrd qrs qrsr ua qpa qpae qpar qpau qpab ba y3.2 cal da_15 ea eal rar ral w0 w1 w2 w3 w4) := hD
  have hz := lett_z hz eda_15
  have hok := lett_o hok eda_15
  refine lv_aload_n hx hb d_Be_makeReading_138 rfl (lv_at hl 0 rfl) ?_
  refine lv_aload_n hx hb d_Be_makeReading_139 rfl (lv_at hl 0 rfl) ?_
  refine gf C hP 0 3 fkBe rfl (by decide) rfl qf_Be_38 (gBe_3 _ _ _ _ _) d_Be_makeReading_140 ?_
  refine lv_bipush (v := 10) hx hb d_Be_makeReading_143 (by decide) ?_
  refine lv_icmp_ge (tgt := 157) hx hb d_Be_makeReading_145 (by decide) (fun c16 => ?_) (fun c16 => ?_)
  · have hz := hz.trans (if_pos c16)
    have hok := hok.1 c16
    refine lv_bipush (v := 10) hx hb d_Be_makeReading_157 (by decide) ?_
    exact k_Be_makeReading_159 C (10 : Int32) hok _ hz _ _ ls hP hD hS hl
  · have hz := hz.trans (if_neg c16)
    have hok := hok.2 c16
    refine lv_aload_n hx hb d_Be_makeReading_148 rfl (lv_at hl 0 rfl) ?_
    refine gf C hP 0 3 fkBe rfl (by decide) rfl qf_Be_38 (gBe_3 _ _ _ _ _) d_Be_makeReading_149 ?_
    refine lv_iconst (v := 1) hx hb d_Be_makeReading_152 (by decide) ?_
    refine lv_iadd hx hb d_Be_makeReading_153 ?_
    refine lv_goto (tgt := 159) hx hb d_Be_makeReading_154 (by decide) ?_
    exact k_Be_makeReading_159 C ((ba 3) + (1 : Int32)) hok _ hz _ _ ls hP hD hS hl
noncomputable def bd_Be_makeReading_104 (x1p92 : Int64) (ba : IV) (w0 : IV) (y3 : Int32 × IV) (cal : LV) (w3 : IV) (w4 : IV) (r104 : Int32 → IV → (Int32 × IV × IV × LV × IV)) (x4p104 : Int32) (dap104 : IV) : Int32 × IV × IV × LV × IV := if x4p104 ≤ 0 then (sp_Be_makeReading_131 dap104 x1p92 ba w0 y3 cal w3 w4) else (lett (upd dap104 x4p104.toNatClampNeg (dap104 (x4p104 - (1 : Int32)).toNatClampNeg)) fun (da_13 : IV) => lett (x4p104 + (-1 : Int32)) fun (v14 : Int32) => r104 v14 da_13)
def okb_Be_makeReading_104 (x1p92 : Int64) (ba : IV) (w0 : IV) (y3 : Int32 × IV) (cal : LV) (w3 : IV) (w4 : IV) (r104 : Int32 → IV → (Int32 × IV × IV × LV × IV)) (q104 : Int32 → IV → Prop) (x4p104 : Int32) (dap104 : IV) : Prop := ((x4p104 ≤ 0 → ok_Be_makeReading_131 dap104 x1p92 ba w0 y3 cal w3 w4) ∧ (¬ (x4p104 ≤ 0) → (vp_in (x4p104 - (1 : Int32)) 10) ∧ (vp_in x4p104 10) ∧ lett (upd dap104 x4p104.toNatClampNeg (dap104 (x4p104 - (1 : Int32)).toNatClampNeg)) fun (da_13 : IV) => lett (x4p104 + (-1 : Int32)) fun (v14 : Int32) => q104 v14 da_13))
noncomputable def sp_Be_makeReading_104 (x1p92 : Int64) (ba : IV) (w0 : IV) (y3 : Int32 × IV) (cal : LV) (w3 : IV) (w4 : IV)  : Nat → Int32 → IV → (Int32 × IV × IV × LV × IV)
  | 0 => fun _ _ => default
  | f + 1 => bd_Be_makeReading_104 x1p92 ba w0 y3 cal w3 w4  (sp_Be_makeReading_104 x1p92 ba w0 y3 cal w3 w4  f)
def ok_Be_makeReading_104 (x1p92 : Int64) (ba : IV) (w0 : IV) (y3 : Int32 × IV) (cal : LV) (w3 : IV) (w4 : IV)   : Nat → Int32 → IV → Prop
  | 0 => fun _ _ => False
  | f + 1 => okb_Be_makeReading_104 x1p92 ba w0 y3 cal w3 w4  (sp_Be_makeReading_104 x1p92 ba w0 y3 cal w3 w4  f)  (ok_Be_makeReading_104 x1p92 ba w0 y3 cal w3 w4   f)
set_option maxRecDepth 100000 in
set_option maxHeartbeats 4000000 in
theorem kb_Be_makeReading_104 {p : Program} {l : Launch} {e : Env} {s : State} {m : MethodId} {args : Array Value} {below : List Frame} {meth : Method} {c : Code} {g : GX} {qbe : Nat} {qci : Nat} {qrd : Nat} {qrs : Nat} {qrsr : Nat} {ua : Nat → Nat} {qpa : Nat} {qpae : Nat} {qpar : Nat} {qpau : Nat} {qpab : Nat} {ws0 : va_W} {ba : IV} {y3 : Int32 × IV} {cal : LV} {ea : IV} {eal : LV} {rar : NI} {ral : NL} {w0 : IV} {w1 : IV} {w2 : IV} {w3 : IV} {w4 : IV} {x1p92 : Int64}  (C : Cx p s m args meth c (inW ws0) g "DecadeBridge$Bench" b_Be_makeReading (some .int) 5) {r104 : Int32 → IV → (Int32 × IV × IV × LV × IV)} {q104 : Int32 → IV → Prop}  (ih104 : HL_Be_makeReading_104 p l e s m args below meth c g qbe qci qrd qrs qrsr ua qpa qpae qpar qpau qpab ws0 ba y3 cal ea eal rar ral w0 w1 w2 w3 w4 x1p92 r104 q104) : HL_Be_makeReading_104 p l e s m args below meth c g qbe qci qrd qrs qrsr ua qpa qpae qpar qpau qpab ws0 ba y3 cal ea eal rar ral w0 w1 w2 w3 w4 x1p92 (bd_Be_makeReading_104 x1p92 ba w0 y3 cal w3 w4  r104) (okb_Be_makeReading_104 x1p92 ba w0 y3 cal w3 w4  r104  q104) := by
  intro x4p104 dap104 hok z hz H locs ls hP hD hS hl
  obtain ⟨hx, hb, hr, hml, hown, hlk, hts, hK, hZo, hZ⟩ := id C
  unfold bd_Be_makeReading_104 at hz
  unfold okb_Be_makeReading_104 at hok
  refine lv_iload hx hb d_Be_makeReading_104 (lv_at hl 2 rfl) ?_
  refine lv_if_le (tgt := 131) hx hb d_Be_makeReading_106 (by decide) (fun c10 => ?_) (fun c10 => ?_)
  · have hz := hz.trans (if_pos c10)
    have hok := hok.1 c10
    exact k_Be_makeReading_131 C () hok _ hz _ _ ls hP hD hS (lv_sub hl [0, 1] rfl)
  · have hz := hz.trans (if_neg c10)
    have hok := hok.2 c10
    refine lv_aload_n hx hb d_Be_makeReading_109 rfl (lv_at hl 0 rfl) ?_
    refine gf C hP 0 2 fkBe rfl (by decide) rfl qf_Be_11 (gBe_2 _ _ _ _ _) d_Be_makeReading_110 ?_
    refine lv_iload hx hb d_Be_makeReading_113 (lv_at hl 2 rfl) ?_
    refine lv_aload_n hx hb d_Be_makeReading_115 rfl (lv_at hl 0 rfl) ?_
    refine gf C hP 0 2 fkBe rfl (by decide) rfl qf_Be_11 (gBe_2 _ _ _ _ _) d_Be_makeReading_116 ?_
    refine lv_iload hx hb d_Be_makeReading_119 (lv_at hl 2 rfl) ?_
    refine lv_iconst (v := 1) hx hb d_Be_makeReading_121 (by decide) ?_
    refine lv_isub hx hb d_Be_makeReading_122 ?_
    have hs11 := hok.1
    have hok := hok.2
    refine ldI C hP 2 rfl hs11 rfl d_Be_makeReading_123 ?_
    have hs12 := hok.1
    have hok := hok.2
    refine stI C hP hD hS 2 rfl hs12 rfl d_Be_makeReading_124 (fun da_13 eda_13 H locs hP hD hS => ?_)
    have hP : va_P g.1 vwCl (wBe g qbe qci qrd qrs qrsr ua qpa qpae qpar qpau qpab ba y3.2 cal da_13 ea eal rar ral w0 w1 w2 w3 w4) H := hP
    have hD : va_D (inW ws0) (wBe g qbe qci qrd qrs qrsr ua qpa qpae qpar qpau qpab ba y3.2 cal da_13 ea eal rar ral w0 w1 w2 w3 w4) := hD
    have hz := lett_z hz eda_13
    have hok := lett_o hok eda_13
    obtain ⟨v14, ev14⟩ : ∃ y : Int32, y = x4p104 + (-1 : Int32) := ⟨_, rfl⟩
    have hz := lett_z hz ev14
    have hok := lett_o hok ev14
    refine lv_iinc (v := v14) (lv' := [(4, .int v14), (0, .ref qbe), (3, .int x1p92.toInt32)]) hx hb d_Be_makeReading_125 hl (k := 2) rfl (by rw [ev14]; rfl) (by decide) rfl (fun ls hl => ?_)
    refine lv_goto (tgt := 104) hx hb d_Be_makeReading_128 (by decide) ?_
    exact ih104 v14 da_13 hok _ hz _ _ ls hP hD hS (lv_sub hl [1, 2, 0] rfl)
theorem k_Be_makeReading_104 {p : Program} {l : Launch} {e : Env} {s : State} {m : MethodId} {args : Array Value} {below : List Frame} {meth : Method} {c : Code} {g : GX} {qbe : Nat} {qci : Nat} {qrd : Nat} {qrs : Nat} {qrsr : Nat} {ua : Nat → Nat} {qpa : Nat} {qpae : Nat} {qpar : Nat} {qpau : Nat} {qpab : Nat} {ws0 : va_W} {ba : IV} {y3 : Int32 × IV} {cal : LV} {ea : IV} {eal : LV} {rar : NI} {ral : NL} {w0 : IV} {w1 : IV} {w2 : IV} {w3 : IV} {w4 : IV} {x1p92 : Int64}  (C : Cx p s m args meth c (inW ws0) g "DecadeBridge$Bench" b_Be_makeReading (some .int) 5) (f : Nat)  : HL_Be_makeReading_104 p l e s m args below meth c g qbe qci qrd qrs qrsr ua qpa qpae qpar qpau qpab ws0 ba y3 cal ea eal rar ral w0 w1 w2 w3 w4 x1p92 (sp_Be_makeReading_104 x1p92 ba w0 y3 cal w3 w4  f) (ok_Be_makeReading_104 x1p92 ba w0 y3 cal w3 w4   f) := by
  induction f with
  | zero => intro x4p104 dap104 hok; exact False.elim hok
  | succ f ih => exact kb_Be_makeReading_104 C  ih
noncomputable def sp_Be_makeReading_92 (ba : IV) (w0 : IV) (y3 : Int32 × IV) (cal : LV) (w3 : IV) (w4 : IV) (da : IV)  (x1p92 : Int64) : Int32 × IV × IV × LV × IV := lett ((10 : Int32) - (1 : Int32)) fun (v9 : Int32) => sp_Be_makeReading_104 x1p92 ba w0 y3 cal w3 w4 big v9 da
def ok_Be_makeReading_92 (ba : IV) (w0 : IV) (y3 : Int32 × IV) (cal : LV) (w3 : IV) (w4 : IV) (da : IV)   (x1p92 : Int64) : Prop := lett ((10 : Int32) - (1 : Int32)) fun (v9 : Int32) => ok_Be_makeReading_104 x1p92 ba w0 y3 cal w3 w4 big v9 da
set_option maxRecDepth 100000 in
set_option maxHeartbeats 4000000 in
theorem k_Be_makeReading_92 {p : Program} {l : Launch} {e : Env} {s : State} {m : MethodId} {args : Array Value} {below : List Frame} {meth : Method} {c : Code} {g : GX} {qbe : Nat} {qci : Nat} {qrd : Nat} {qrs : Nat} {qrsr : Nat} {ua : Nat → Nat} {qpa : Nat} {qpae : Nat} {qpar : Nat} {qpau : Nat} {qpab : Nat} {ws0 : va_W} {ba : IV} {y3 : Int32 × IV} {cal : LV} {da : IV} {ea : IV} {eal : LV} {rar : NI} {ral : NL} {w0 : IV} {w1 : IV} {w2 : IV} {w3 : IV} {w4 : IV}  (C : Cx p s m args meth c (inW ws0) g "DecadeBridge$Bench" b_Be_makeReading (some .int) 5)  : HL_Be_makeReading_92 p l e s m args below meth c g qbe qci qrd qrs qrsr ua qpa qpae qpar qpau qpab ws0 ba y3 cal da ea eal rar ral w0 w1 w2 w3 w4 (sp_Be_makeReading_92 ba w0 y3 cal w3 w4 da ) (ok_Be_makeReading_92 ba w0 y3 cal w3 w4 da  ) := by
  intro x1p92 hok z hz H locs ls hP hD hS hl
  obtain ⟨hx, hb, hr, hml, hown, hlk, hts, hK, hZo, hZ⟩ := id C
  unfold sp_Be_makeReading_92 at hz
  unfold ok_Be_makeReading_92 at hok
  refine lv_lload_n hx hb d_Be_makeReading_92 rfl (lv_at hl 1 rfl) ?_
  refine lv_l2i hx hb d_Be_makeReading_93 rfl ?_
  refine lv_istore_n (lv' := [(3, .int x1p92.toInt32), (0, .ref qbe), (1, .long x1p92)]) hx hb d_Be_makeReading_94 rfl hl (by decide) rfl (fun ls hl => ?_)
  refine lv_aload_n hx hb d_Be_makeReading_95 rfl (lv_at hl 1 rfl) ?_
  refine gf C hP 0 2 fkBe rfl (by decide) rfl qf_Be_11 (gBe_2 _ _ _ _ _) d_Be_makeReading_96 ?_
  refine alen C hP 2 rfl (t0 := 0) rfl (v := 10) rfl d_Be_makeReading_99 ?_
  refine lv_iconst (v := 1) hx hb d_Be_makeReading_100 (by decide) ?_
  refine lv_isub hx hb d_Be_makeReading_101 ?_
  refine lv_topi (fun v9 ev9 => ?_)
  have hz := lett_z hz ev9
  have hok := lett_o hok ev9
  refine lv_istore (lv' := [(4, .int v9), (3, .int x1p92.toInt32), (0, .ref qbe), (1, .long x1p92)]) hx hb d_Be_makeReading_102 hl (by decide) rfl (fun ls hl => ?_)
  exact k_Be_makeReading_104 C big v9 da hok _ hz _ _ ls hP hD hS (lv_sub hl [2, 1, 0] rfl)
noncomputable def sp_Be_makeReading_68 (w0 : IV) (ba : IV) (y3 : Int32 × IV) (cal : LV) (w3 : IV) (w4 : IV) (da : IV)  (x1p68 : Int64) : Int32 × IV × IV × LV × IV := if ((-(w0 13)).toInt64) ≤ x1p68 then (sp_Be_makeReading_92 ba w0 y3 cal w3 w4 da x1p68) else (lett ((-(w0 13)).toInt64) fun (v8 : Int64) => sp_Be_makeReading_92 ba w0 y3 cal w3 w4 da v8)
def ok_Be_makeReading_68 (w0 : IV) (ba : IV) (y3 : Int32 × IV) (cal : LV) (w3 : IV) (w4 : IV) (da : IV)   (x1p68 : Int64) : Prop := ((((-(w0 13)).toInt64) ≤ x1p68 → ok_Be_makeReading_92 ba w0 y3 cal w3 w4 da x1p68) ∧ (¬ (((-(w0 13)).toInt64) ≤ x1p68) → lett ((-(w0 13)).toInt64) fun (v8 : Int64) => ok_Be_makeReading_92 ba w0 y3 cal w3 w4 da v8))
set_option maxRecDepth 100000 in
set_option maxHeartbeats 4000000 in
theorem k_Be_makeReading_68 {p : Program} {l : Launch} {e : Env} {s : State} {m : MethodId} {args : Array Value} {below : List Frame} {meth : Method} {c : Code} {g : GX} {qbe : Nat} {qci : Nat} {qrd : Nat} {qrs : Nat} {qrsr : Nat} {ua : Nat → Nat} {qpa : Nat} {qpae : Nat} {qpar : Nat} {qpau : Nat} {qpab : Nat} {ws0 : va_W} {ba : IV} {y3 : Int32 × IV} {cal : LV} {da : IV} {ea : IV} {eal : LV} {rar : NI} {ral : NL} {w0 : IV} {w1 : IV} {w2 : IV} {w3 : IV} {w4 : IV}  (C : Cx p s m args meth c (inW ws0) g "DecadeBridge$Bench" b_Be_makeReading (some .int) 5)  : HL_Be_makeReading_68 p l e s m args below meth c g qbe qci qrd qrs qrsr ua qpa qpae qpar qpau qpab ws0 ba y3 cal da ea eal rar ral w0 w1 w2 w3 w4 (sp_Be_makeReading_68 w0 ba y3 cal w3 w4 da ) (ok_Be_makeReading_68 w0 ba y3 cal w3 w4 da  ) := by
  intro x1p68 hok z hz H locs ls hP hD hS hl
  obtain ⟨hx, hb, hr, hml, hown, hlk, hts, hK, hZo, hZ⟩ := id C
  unfold sp_Be_makeReading_68 at hz
  unfold ok_Be_makeReading_68 at hok
  refine lv_lload_n hx hb d_Be_makeReading_68 rfl (lv_at hl 1 rfl) ?_
  refine lv_aload_n hx hb d_Be_makeReading_69 rfl (lv_at hl 0 rfl) ?_
  refine gf C hP 0 1 fkBe rfl (by decide) rfl qf_Be_22 (gBe_1 _ _ _ _ _) d_Be_makeReading_70 ?_
  refine gf C hP 25 13 fkPa rfl (by decide) rfl qf_Be_91 (gPa_13 _ _ _ _ _) d_Be_makeReading_73 ?_
  refine lv_ineg hx hb d_Be_makeReading_76 ?_
  refine lv_i2l hx hb d_Be_makeReading_77 rfl ?_
  refine lc_ge (tgt := 92) hx hb d_Be_makeReading_78 d_Be_makeReading_79 (by decide) (fun c7 => ?_) (fun c7 => ?_)
  · have hz := hz.trans (if_pos c7)
    have hok := hok.1 c7
    exact k_Be_makeReading_92 C x1p68 hok _ hz _ _ ls hP hD hS hl
  · have hz := hz.trans (if_neg c7)
    have hok := hok.2 c7
    refine lv_aload_n hx hb d_Be_makeReading_82 rfl (lv_at hl 0 rfl) ?_
    refine gf C hP 0 1 fkBe rfl (by decide) rfl qf_Be_22 (gBe_1 _ _ _ _ _) d_Be_makeReading_83 ?_
    refine gf C hP 25 13 fkPa rfl (by decide) rfl qf_Be_91 (gPa_13 _ _ _ _ _) d_Be_makeReading_86 ?_
    refine lv_ineg hx hb d_Be_makeReading_89 ?_
    refine lv_i2l hx hb d_Be_makeReading_90 rfl ?_
    refine lv_topl (fun v8 ev8 => ?_)
    have hz := lett_z hz ev8
    have hok := lett_o hok ev8
    refine lv_lstore_n (lv' := [(1, .long v8), (0, .ref qbe)]) hx hb d_Be_makeReading_91 rfl hl (by decide) rfl (fun ls hl => ?_)
    exact k_Be_makeReading_92 C v8 hok _ hz _ _ ls hP hD hS (lv_sub hl [1, 0] rfl)
noncomputable def sp_Be_makeReading (ba : IV) (ca : IV) (cal : LV) (da : IV) (w0 : IV) (w3 : IV) (w4 : IV) : Int32 × IV × IV × LV × IV := lett (sp_Ci_imbalance ca) fun (y1 : Int64) => lett (sp_Ci_draw (((2 : Int32) * (w0 14)) + (1 : Int32)) ca) fun (y3 : Int32 × IV) => lett (((y1 + ((ca 9).toInt64)) + y3.1.toInt64) - ((w0 14).toInt64)) fun (v4 : Int64) => if v4 ≤ ((w0 13).toInt64) then (sp_Be_makeReading_68 w0 ba y3 cal w3 w4 da v4) else (lett ((w0 13).toInt64) fun (v6 : Int64) => sp_Be_makeReading_68 w0 ba y3 cal w3 w4 da v6)
def ok_Be_makeReading (ba : IV) (ca : IV) (cal : LV) (da : IV) (w0 : IV) (w3 : IV) (w4 : IV) : Prop := lett (sp_Ci_imbalance ca) fun (y1 : Int64) => (ok_Ci_draw (((2 : Int32) * (w0 14)) + (1 : Int32)) ca) ∧ lett (sp_Ci_draw (((2 : Int32) * (w0 14)) + (1 : Int32)) ca) fun (y3 : Int32 × IV) => lett (((y1 + ((ca 9).toInt64)) + y3.1.toInt64) - ((w0 14).toInt64)) fun (v4 : Int64) => ((v4 ≤ ((w0 13).toInt64) → ok_Be_makeReading_68 w0 ba y3 cal w3 w4 da v4) ∧ (¬ (v4 ≤ ((w0 13).toInt64)) → lett ((w0 13).toInt64) fun (v6 : Int64) => ok_Be_makeReading_68 w0 ba y3 cal w3 w4 da v6))
set_option maxRecDepth 100000 in
set_option maxHeartbeats 4000000 in
theorem c_Be_makeReading (l : Launch) (g : GX) (qbe : Nat) (qci : Nat) (qrd : Nat) (qrs : Nat) (qrsr : Nat) (ua : Nat → Nat) (qpa : Nat) (qpae : Nat) (qpar : Nat) (qpau : Nat) (qpab : Nat) (ba : IV) (ca : IV) (cal : LV) (da : IV) (ea : IV) (eal : LV) (rar : NI) (ral : NL) (w0 : IV) (w1 : IV) (w2 : IV) (w3 : IV) (w4 : IV)  (hok : ok_Be_makeReading ba ca cal da w0 w3 w4) : Met l y_Be_makeReading (wsY y_Be_makeReading b_Be_makeReading 5 (some .int)) rm_Be_makeReading (CP g [.ref qbe] (wBe g qbe qci qrd qrs qrsr ua qpa qpae qpar qpau qpab ba ca cal da ea eal rar ral w0 w1 w2 w3 w4)) (CI g (wBe g qbe qci qrd qrs qrsr ua qpa qpae qpar qpau qpab ba ca cal da ea eal rar ral w0 w1 w2 w3 w4) (fun u : IV × IV × LV × IV => wBe g qbe qci qrd qrs qrsr ua qpa qpae qpar qpau qpab u.1 u.2.1 u.2.2.1 u.2.2.2 ea eal rar ral w0 w1 w2 w3 w4) (sp_Be_makeReading ba ca cal da w0 w3 w4)) 0 0 (inW (wBe g qbe qci qrd qrs qrsr ua qpa qpae qpar qpau qpab ba ca cal da ea eal rar ral w0 w1 w2 w3 w4)) := by
  refine Met.ofW (cc := b_Be_makeReading) (maxL := 5) (ret := (some .int)) pn_Be rfl ?_
  intro p e s m args below meth c s₁ B hml hv
  obtain ⟨rfl, C, hP, hD, hS⟩ := enter "DecadeBridge$Bench" rfl B hml hv
  obtain ⟨hx, hb, hr, hml, hown, hlk, hts, hK, hZo, hZ⟩ := id C
  refine entryW (lv := [(0, .ref qbe)]) rfl (Nat.le_of_ble_eq_true rfl) (fun ls hl => ?_)
  obtain ⟨z, hz⟩ : ∃ z, z = sp_Be_makeReading ba ca cal da w0 w3 w4 := ⟨_, rfl⟩
  rw [← hz]
  unfold sp_Be_makeReading at hz
  unfold ok_Be_makeReading at hok
  refine lv_aload_n hx hb d_Be_makeReading_0 rfl (lv_at hl 0 rfl) ?_
  refine gf C hP 0 0 fkBe rfl (by decide) rfl qf_Be_31 (gBe_0 _ _ _ _ _) d_Be_makeReading_1 ?_
  have hB : SubW g (inW (wBe g qbe qci qrd qrs qrsr ua qpa qpae qpar qpau qpab ba ca cal da ea eal rar ral w0 w1 w2 w3 w4)) s (wBe g qbe qci qrd qrs qrsr ua qpa qpae qpar qpau qpab ba ca cal da ea eal rar ral w0 w1 w2 w3 w4) (wCi g qci qpa qpae qpar qpau qpab ca cal w0 w1 w2 w3 w4) [1, 25, 26, 27, 28, 29] _ _ := ⟨rfl, rfl, hP, hD, hS⟩
  refine goL0 hB (run_v C mf_Ci_imbalance qm_Be_81 (c_Ci_imbalance l g qci qpa qpae qpar qpau qpab ca cal w0 w1 w2 w3 w4) rfl rfl ⟨Nat.le_of_ble_eq_true rfl, Nat.le_of_ble_eq_true rfl⟩ ⟨Nat.le_of_ble_eq_true rfl, Nat.le_of_ble_eq_true rfl⟩ hB rfl rfl hl rfl rfl (Nat.le_of_ble_eq_true rfl) d_Be_makeReading_4) (fun y1 ey1 H locs hP hS => ?_)
  have hz := lett_z hz ey1
  have hok := lett_o hok ey1
  refine lv_aload_n hx hb d_Be_makeReading_7 rfl (lv_at hl 0 rfl) ?_
  refine gf C hP 0 0 fkBe rfl (by decide) rfl qf_Be_31 (gBe_0 _ _ _ _ _) d_Be_makeReading_8 ?_
  refine gf C hP 1 9 fkCi rfl (by decide) rfl qf_Be_85 (gCi_9 _ _ _) d_Be_makeReading_11 ?_
  refine lv_i2l hx hb d_Be_makeReading_14 rfl ?_
  refine lv_ladd hx hb d_Be_makeReading_15 ?_
  refine lv_aload_n hx hb d_Be_makeReading_16 rfl (lv_at hl 0 rfl) ?_
  refine gf C hP 0 0 fkBe rfl (by decide) rfl qf_Be_31 (gBe_0 _ _ _ _ _) d_Be_makeReading_17 ?_
  refine lv_iconst (v := 2) hx hb d_Be_makeReading_20 (by decide) ?_
  refine lv_aload_n hx hb d_Be_makeReading_21 rfl (lv_at hl 0 rfl) ?_
  refine gf C hP 0 1 fkBe rfl (by decide) rfl qf_Be_22 (gBe_1 _ _ _ _ _) d_Be_makeReading_22 ?_
  refine gf C hP 25 14 fkPa rfl (by decide) rfl qf_Be_76 (gPa_14 _ _ _ _ _) d_Be_makeReading_25 ?_
  refine lv_imul hx hb d_Be_makeReading_28 ?_
  refine lv_iconst (v := 1) hx hb d_Be_makeReading_29 (by decide) ?_
  refine lv_iadd hx hb d_Be_makeReading_30 ?_
  have hs2 := hok.1
  have hok := hok.2
  have hB : SubW g (inW (wBe g qbe qci qrd qrs qrsr ua qpa qpae qpar qpau qpab ba ca cal da ea eal rar ral w0 w1 w2 w3 w4)) s (wBe g qbe qci qrd qrs qrsr ua qpa qpae qpar qpau qpab ba ca cal da ea eal rar ral w0 w1 w2 w3 w4) (wCi g qci qpa qpae qpar qpau qpab ca cal w0 w1 w2 w3 w4) [1, 25, 26, 27, 28, 29] _ _ := ⟨rfl, rfl, hP, hD, hS⟩
  refine goI1 hB (run_v C mf_Ci_draw qm_Be_88 (c_Ci_draw l g qci qpa qpae qpar qpau qpab ca cal w0 w1 w2 w3 w4 (((2 : Int32) * (w0 14)) + (1 : Int32)) hs2) rfl rfl ⟨Nat.le_of_ble_eq_true rfl, Nat.le_of_ble_eq_true rfl⟩ ⟨Nat.le_of_ble_eq_true rfl, Nat.le_of_ble_eq_true rfl⟩ hB rfl rfl hl rfl rfl (Nat.le_of_ble_eq_true rfl) d_Be_makeReading_31) (fun _ => rfl) (fun y3 ey3 H locs hP hD hS => ?_)
  have hP : va_P g.1 vwCl (wBe g qbe qci qrd qrs qrsr ua qpa qpae qpar qpau qpab ba y3.2 cal da ea eal rar ral w0 w1 w2 w3 w4) H := cP (spq hB.1 hB.2.1 [0, 2, 3, 4, 5, 6, 7, 8, 9, 10, 11, 12, 13, 14, 15, 16, 17, 18, 19, 20, 21, 22, 23, 24] 30 rfl rfl (by decide +kernel) rfl) hP
  have hD : va_D (inW (wBe g qbe qci qrd qrs qrsr ua qpa qpae qpar qpau qpab ba ca cal da ea eal rar ral w0 w1 w2 w3 w4)) (wBe g qbe qci qrd qrs qrsr ua qpa qpae qpar qpau qpab ba y3.2 cal da ea eal rar ral w0 w1 w2 w3 w4) := cD (spq hB.1 hB.2.1 [0, 2, 3, 4, 5, 6, 7, 8, 9, 10, 11, 12, 13, 14, 15, 16, 17, 18, 19, 20, 21, 22, 23, 24] 30 rfl rfl (by decide +kernel) rfl) hD
  have hz := lett_z hz ey3
  have hok := lett_o hok ey3
  refine lv_i2l hx hb d_Be_makeReading_34 rfl ?_
  refine lv_ladd hx hb d_Be_makeReading_35 ?_
  refine lv_aload_n hx hb d_Be_makeReading_36 rfl (lv_at hl 0 rfl) ?_
  refine gf C hP 0 1 fkBe rfl (by decide) rfl qf_Be_22 (gBe_1 _ _ _ _ _) d_Be_makeReading_37 ?_
  refine gf C hP 25 14 fkPa rfl (by decide) rfl qf_Be_76 (gPa_14 _ _ _ _ _) d_Be_makeReading_40 ?_
  refine lv_i2l hx hb d_Be_makeReading_43 rfl ?_
  refine lv_lsub hx hb d_Be_makeReading_44 ?_
  refine lv_topl (fun v4 ev4 => ?_)
  have hz := lett_z hz ev4
  have hok := lett_o hok ev4
  refine lv_lstore_n (lv' := [(1, .long v4), (0, .ref qbe)]) hx hb d_Be_makeReading_45 rfl hl (by decide) rfl (fun ls hl => ?_)
  refine lv_lload_n hx hb d_Be_makeReading_46 rfl (lv_at hl 0 rfl) ?_
  refine lv_aload_n hx hb d_Be_makeReading_47 rfl (lv_at hl 1 rfl) ?_
  refine gf C hP 0 1 fkBe rfl (by decide) rfl qf_Be_22 (gBe_1 _ _ _ _ _) d_Be_makeReading_48 ?_
  refine gf C hP 25 13 fkPa rfl (by decide) rfl qf_Be_91 (gPa_13 _ _ _ _ _) d_Be_makeReading_51 ?_
  refine lv_i2l hx hb d_Be_makeReading_54 rfl ?_
  refine lc_le (tgt := 68) hx hb d_Be_makeReading_55 d_Be_makeReading_56 (by decide) (fun c5 => ?_) (fun c5 => ?_)
  · have hz := hz.trans (if_pos c5)
    have hok := hok.1 c5
    exact k_Be_makeReading_68 C v4 hok _ hz _ _ ls hP hD hS (lv_sub hl [1, 0] rfl)
  · have hz := hz.trans (if_neg c5)
    have hok := hok.2 c5
    refine lv_aload_n hx hb d_Be_makeReading_59 rfl (lv_at hl 1 rfl) ?_
    refine gf C hP 0 1 fkBe rfl (by decide) rfl qf_Be_22 (gBe_1 _ _ _ _ _) d_Be_makeReading_60 ?_
    refine gf C hP 25 13 fkPa rfl (by decide) rfl qf_Be_91 (gPa_13 _ _ _ _ _) d_Be_makeReading_63 ?_
    refine lv_i2l hx hb d_Be_makeReading_66 rfl ?_
    refine lv_topl (fun v6 ev6 => ?_)
    have hz := lett_z hz ev6
    have hok := lett_o hok ev6
    refine lv_lstore_n (lv' := [(1, .long v6), (0, .ref qbe)]) hx hb d_Be_makeReading_67 rfl hl (by decide) rfl (fun ls hl => ?_)
    exact k_Be_makeReading_68 C v6 hok _ hz _ _ ls hP hD hS (lv_sub hl [1, 0] rfl)
abbrev rm_Be_makeReadings : Room := { frames := 3, cells := 0, slots := 0, locals := 77 }
def HL_Be_makeReadings_2 (p : Program) (l : Launch) (e : Env) (s : State) (m : MethodId) (args : Array Value) (below : List Frame) (meth : Method) (c : Code) (g : GX) (qbe : Nat) (qci : Nat) (qrd : Nat) (qrs : Nat) (qrsr : Nat) (ua : Nat → Nat) (qpa : Nat) (qpae : Nat) (qpar : Nat) (qpau : Nat) (qpab : Nat) (ws0 : va_W) (ea : IV) (eal : LV) (rar : NI) (ral : NL) (w0 : IV) (w1 : IV) (w2 : IV) (w3 : IV) (w4 : IV) (p1 : Int32) (sp : Int32 → IV → IV → LV → IV → (Int32 × IV × IV × LV × IV)) (ok : Int32 → IV → IV → LV → IV → Prop) : Prop := ∀ (x2p2 : Int32) (bap2 : IV) (cap2 : IV) (calp2 : LV) (dap2 : IV), ok x2p2 bap2 cap2 calp2 dap2 → ∀ z : (Int32 × IV × IV × LV × IV), z = sp x2p2 bap2 cap2 calp2 dap2 → ∀ (H : Heap) (locs : List Loc) (ls : Array Slot), va_P g.1 vwCl (wBe g qbe qci qrd qrs qrsr ua qpa qpae qpar qpau qpab bap2 cap2 calp2 dap2 ea eal rar ral w0 w1 w2 w3 w4) H → va_D (inW ws0) (wBe g qbe qci qrd qrs qrsr ua qpa qpae qpar qpau qpab bap2 cap2 calp2 dap2 ea eal rar ral w0 w1 w2 w3 w4) → va_S (inW ws0) s.heap H locs → lv_has ls 3 [(0, .ref qbe), (1, .int p1), (2, .int x2p2)] → W p l e rm_Be_makeReadings s m args below meth c H locs 0 0 (MQ below (CI g ws0 (fun u : IV × IV × LV × IV => wBe g qbe qci qrd qrs qrsr ua qpa qpae qpar qpau qpab u.1 u.2.1 u.2.2.1 u.2.2.2 ea eal rar ral w0 w1 w2 w3 w4) z) args s 0 0 (inW ws0)) (F0 m 2 ls [])
noncomputable def bd_Be_makeReadings_2 (p1 : Int32) (w0 : IV) (w3 : IV) (w4 : IV) (r2 : Int32 → IV → IV → LV → IV → (Int32 × IV × IV × LV × IV)) (x2p2 : Int32) (bap2 : IV) (cap2 : IV) (calp2 : LV) (dap2 : IV) : Int32 × IV × IV × LV × IV := if p1 ≤ x2p2 then (((1 : Int32), (bap2, cap2, calp2, dap2))) else (lett (sp_Ci_whyBlocked cap2 w0) fun (y2 : Int32) => if y2 = 0 then (lett (sp_Be_makeReading bap2 cap2 calp2 dap2 w0 w3 w4) fun (y5 : Int32 × IV × IV × LV × IV) => lett (x2p2 + (1 : Int32)) fun (v6 : Int32) => r2 v6 y5.2.1 y5.2.2.1 y5.2.2.2.1 y5.2.2.2.2) else (((0 : Int32), (bap2, cap2, calp2, dap2))))
def okb_Be_makeReadings_2 (p1 : Int32) (w0 : IV) (w3 : IV) (w4 : IV) (r2 : Int32 → IV → IV → LV → IV → (Int32 × IV × IV × LV × IV)) (q2 : Int32 → IV → IV → LV → IV → Prop) (x2p2 : Int32) (bap2 : IV) (cap2 : IV) (calp2 : LV) (dap2 : IV) : Prop := ((p1 ≤ x2p2 → True) ∧ (¬ (p1 ≤ x2p2) → lett (sp_Ci_whyBlocked cap2 w0) fun (y2 : Int32) => ((y2 = 0 → (ok_Be_makeReading bap2 cap2 calp2 dap2 w0 w3 w4) ∧ lett (sp_Be_makeReading bap2 cap2 calp2 dap2 w0 w3 w4) fun (y5 : Int32 × IV × IV × LV × IV) => lett (x2p2 + (1 : Int32)) fun (v6 : Int32) => q2 v6 y5.2.1 y5.2.2.1 y5.2.2.2.1 y5.2.2.2.2) ∧ (¬ (y2 = 0) → True))))
noncomputable def sp_Be_makeReadings_2 (p1 : Int32) (w0 : IV) (w3 : IV) (w4 : IV)  : Nat → Int32 → IV → IV → LV → IV → (Int32 × IV × IV × LV × IV)
  | 0 => fun _ _ _ _ _ => default
  | f + 1 => bd_Be_makeReadings_2 p1 w0 w3 w4  (sp_Be_makeReadings_2 p1 w0 w3 w4  f)
def ok_Be_makeReadings_2 (p1 : Int32) (w0 : IV) (w3 : IV) (w4 : IV)   : Nat → Int32 → IV → IV → LV → IV → Prop
  | 0 => fun _ _ _ _ _ => False
  | f + 1 => okb_Be_makeReadings_2 p1 w0 w3 w4  (sp_Be_makeReadings_2 p1 w0 w3 w4  f)  (ok_Be_makeReadings_2 p1 w0 w3 w4   f)
set_option maxRecDepth 100000 in
set_option maxHeartbeats 4000000 in
theorem kb_Be_makeReadings_2 {p : Program} {l : Launch} {e : Env} {s : State} {m : MethodId} {args : Array Value} {below : List Frame} {meth : Method} {c : Code} {g : GX} {qbe : Nat} {qci : Nat} {qrd : Nat} {qrs : Nat} {qrsr : Nat} {ua : Nat → Nat} {qpa : Nat} {qpae : Nat} {qpar : Nat} {qpau : Nat} {qpab : Nat} {ws0 : va_W} {ea : IV} {eal : LV} {rar : NI} {ral : NL} {w0 : IV} {w1 : IV} {w2 : IV} {w3 : IV} {w4 : IV} {p1 : Int32}  (C : Cx p s m args meth c (inW ws0) g "DecadeBridge$Bench" b_Be_makeReadings (some .boolean) 3) {r2 : Int32 → IV → IV → LV → IV → (Int32 × IV × IV × LV × IV)} {q2 : Int32 → IV → IV → LV → IV → Prop}  (ih2 : HL_Be_makeReadings_2 p l e s m args below meth c g qbe qci qrd qrs qrsr ua qpa qpae qpar qpau qpab ws0 ea eal rar ral w0 w1 w2 w3 w4 p1 r2 q2) : HL_Be_makeReadings_2 p l e s m args below meth c g qbe qci qrd qrs qrsr ua qpa qpae qpar qpau qpab ws0 ea eal rar ral w0 w1 w2 w3 w4 p1 (bd_Be_makeReadings_2 p1 w0 w3 w4  r2) (okb_Be_makeReadings_2 p1 w0 w3 w4  r2  q2) := by
  intro x2p2 bap2 cap2 calp2 dap2 hok z hz H locs ls hP hD hS hl
  obtain ⟨hx, hb, hr, hml, hown, hlk, hts, hK, hZo, hZ⟩ := id C
  unfold bd_Be_makeReadings_2 at hz
  unfold okb_Be_makeReadings_2 at hok
  refine lv_iload_n hx hb d_Be_makeReadings_2 rfl (lv_at hl 2 rfl) ?_
  refine lv_iload_n hx hb d_Be_makeReadings_3 rfl (lv_at hl 1 rfl) ?_
  refine lv_icmp_ge (tgt := 30) hx hb d_Be_makeReadings_4 (by decide) (fun c1 => ?_) (fun c1 => ?_)
  · have hz := hz.trans (if_pos c1)
    refine lv_iconst (v := 1) hx hb d_Be_makeReadings_30 (by decide) ?_
    exact endZ1 C hz hP hS rfl d_Be_makeReadings_31
  · have hz := hz.trans (if_neg c1)
    have hok := hok.2 c1
    refine lv_aload_n hx hb d_Be_makeReadings_7 rfl (lv_at hl 0 rfl) ?_
    refine gf C hP 0 0 fkBe rfl (by decide) rfl qf_Be_31 (gBe_0 _ _ _ _ _) d_Be_makeReadings_8 ?_
    have hB : SubW g (inW ws0) s (wBe g qbe qci qrd qrs qrsr ua qpa qpae qpar qpau qpab bap2 cap2 calp2 dap2 ea eal rar ral w0 w1 w2 w3 w4) (wCi g qci qpa qpae qpar qpau qpab cap2 calp2 w0 w1 w2 w3 w4) [1, 25, 26, 27, 28, 29] _ _ := ⟨rfl, rfl, hP, hD, hS⟩
    refine goI0 hB (run_v C mf_Ci_whyBlocked qm_Be_98 (c_Ci_whyBlocked l g qci qpa qpae qpar qpau qpab cap2 calp2 w0 w1 w2 w3 w4) rfl rfl ⟨Nat.le_of_ble_eq_true rfl, Nat.le_of_ble_eq_true rfl⟩ ⟨Nat.le_of_ble_eq_true rfl, Nat.le_of_ble_eq_true rfl⟩ hB rfl rfl hl rfl rfl (Nat.le_of_ble_eq_true rfl) d_Be_makeReadings_11) (fun y2 ey2 H locs hP hS => ?_)
    have hz := lett_z hz ey2
    have hok := lett_o hok ey2
    refine lv_if_eq (tgt := 19) hx hb d_Be_makeReadings_14 (by decide) (fun c3 => ?_) (fun c3 => ?_)
    · have hz := hz.trans (if_pos c3)
      have hok := hok.1 c3
      refine lv_aload_n hx hb d_Be_makeReadings_19 rfl (lv_at hl 0 rfl) ?_
      have hs4 := hok.1
      have hok := hok.2
      have hB : SubW g (inW ws0) s (wBe g qbe qci qrd qrs qrsr ua qpa qpae qpar qpau qpab bap2 cap2 calp2 dap2 ea eal rar ral w0 w1 w2 w3 w4) _ (List.range _) _ _ := (subF hP hD hS)
      refine goIF hB (run_v C mf_Be_makeReading qm_Be_102 (c_Be_makeReading l g qbe qci qrd qrs qrsr ua qpa qpae qpar qpau qpab bap2 cap2 calp2 dap2 ea eal rar ral w0 w1 w2 w3 w4 hs4) rfl rfl ⟨Nat.le_of_ble_eq_true rfl, Nat.le_of_ble_eq_true rfl⟩ ⟨Nat.le_of_ble_eq_true rfl, Nat.le_of_ble_eq_true rfl⟩ hB rfl rfl hl rfl rfl (Nat.le_of_ble_eq_true rfl) d_Be_makeReadings_20) (fun _ => rfl) (fun y5 ey5 H locs hP hD hS => ?_)
      have hP : va_P g.1 vwCl (wBe g qbe qci qrd qrs qrsr ua qpa qpae qpar qpau qpab y5.2.1 y5.2.2.1 y5.2.2.2.1 y5.2.2.2.2 ea eal rar ral w0 w1 w2 w3 w4) H := hP
      have hD : va_D (inW ws0) (wBe g qbe qci qrd qrs qrsr ua qpa qpae qpar qpau qpab y5.2.1 y5.2.2.1 y5.2.2.2.1 y5.2.2.2.2 ea eal rar ral w0 w1 w2 w3 w4) := hD
      have hz := lett_z hz ey5
      have hok := lett_o hok ey5
      refine lv_pop hx hb d_Be_makeReadings_23 rfl ?_
      obtain ⟨v6, ev6⟩ : ∃ y : Int32, y = x2p2 + (1 : Int32) := ⟨_, rfl⟩
      have hz := lett_z hz ev6
      have hok := lett_o hok ev6
      refine lv_iinc (v := v6) (lv' := [(2, .int v6), (0, .ref qbe), (1, .int p1)]) hx hb d_Be_makeReadings_24 hl (k := 2) rfl (by rw [ev6]; rfl) (by decide) rfl (fun ls hl => ?_)
      refine lv_goto (tgt := 2) hx hb d_Be_makeReadings_27 (by decide) ?_
      exact ih2 v6 y5.2.1 y5.2.2.1 y5.2.2.2.1 y5.2.2.2.2 hok _ hz _ _ ls hP hD hS (lv_sub hl [1, 2, 0] rfl)
    · have hz := hz.trans (if_neg c3)
      refine lv_iconst (v := 0) hx hb d_Be_makeReadings_17 (by decide) ?_
      exact endZ1 C hz hP hS rfl d_Be_makeReadings_18
theorem k_Be_makeReadings_2 {p : Program} {l : Launch} {e : Env} {s : State} {m : MethodId} {args : Array Value} {below : List Frame} {meth : Method} {c : Code} {g : GX} {qbe : Nat} {qci : Nat} {qrd : Nat} {qrs : Nat} {qrsr : Nat} {ua : Nat → Nat} {qpa : Nat} {qpae : Nat} {qpar : Nat} {qpau : Nat} {qpab : Nat} {ws0 : va_W} {ea : IV} {eal : LV} {rar : NI} {ral : NL} {w0 : IV} {w1 : IV} {w2 : IV} {w3 : IV} {w4 : IV} {p1 : Int32}  (C : Cx p s m args meth c (inW ws0) g "DecadeBridge$Bench" b_Be_makeReadings (some .boolean) 3) (f : Nat)  : HL_Be_makeReadings_2 p l e s m args below meth c g qbe qci qrd qrs qrsr ua qpa qpae qpar qpau qpab ws0 ea eal rar ral w0 w1 w2 w3 w4 p1 (sp_Be_makeReadings_2 p1 w0 w3 w4  f) (ok_Be_makeReadings_2 p1 w0 w3 w4   f) := by
  induction f with
  | zero => intro x2p2 bap2 cap2 calp2 dap2 hok; exact False.elim hok
  | succ f ih => exact kb_Be_makeReadings_2 C  ih
noncomputable def sp_Be_makeReadings (p1 : Int32) (ba : IV) (ca : IV) (cal : LV) (da : IV) (w0 : IV) (w3 : IV) (w4 : IV) : Int32 × IV × IV × LV × IV := sp_Be_makeReadings_2 p1 w0 w3 w4 big (0 : Int32) ba ca cal da
def ok_Be_makeReadings (p1 : Int32) (ba : IV) (ca : IV) (cal : LV) (da : IV) (w0 : IV) (w3 : IV) (w4 : IV) : Prop := ok_Be_makeReadings_2 p1 w0 w3 w4 big (0 : Int32) ba ca cal da
set_option maxRecDepth 100000 in
set_option maxHeartbeats 4000000 in
theorem c_Be_makeReadings (l : Launch) (g : GX) (qbe : Nat) (qci : Nat) (qrd : Nat) (qrs : Nat) (qrsr : Nat) (ua : Nat → Nat) (qpa : Nat) (qpae : Nat) (qpar : Nat) (qpau : Nat) (qpab : Nat) (ba : IV) (ca : IV) (cal : LV) (da : IV) (ea : IV) (eal : LV) (rar : NI) (ral : NL) (w0 : IV) (w1 : IV) (w2 : IV) (w3 : IV) (w4 : IV) (p1 : Int32) (hok : ok_Be_makeReadings p1 ba ca cal da w0 w3 w4) : Met l y_Be_makeReadings (wsY y_Be_makeReadings b_Be_makeReadings 3 (some .boolean)) rm_Be_makeReadings (CP g [.ref qbe, .int p1] (wBe g qbe qci qrd qrs qrsr ua qpa qpae qpar qpau qpab ba ca cal da ea eal rar ral w0 w1 w2 w3 w4)) (CI g (wBe g qbe qci qrd qrs qrsr ua qpa qpae qpar qpau qpab ba ca cal da ea eal rar ral w0 w1 w2 w3 w4) (fun u : IV × IV × LV × IV => wBe g qbe qci qrd qrs qrsr ua qpa qpae qpar qpau qpab u.1 u.2.1 u.2.2.1 u.2.2.2 ea eal rar ral w0 w1 w2 w3 w4) (sp_Be_makeReadings p1 ba ca cal da w0 w3 w4)) 0 0 (inW (wBe g qbe qci qrd qrs qrsr ua qpa qpae qpar qpau qpab ba ca cal da ea eal rar ral w0 w1 w2 w3 w4)) := by
  refine Met.ofW (cc := b_Be_makeReadings) (maxL := 3) (ret := (some .boolean)) pn_Be rfl ?_
  intro p e s m args below meth c s₁ B hml hv
  obtain ⟨rfl, C, hP, hD, hS⟩ := enter "DecadeBridge$Bench" rfl B hml hv
  obtain ⟨hx, hb, hr, hml, hown, hlk, hts, hK, hZo, hZ⟩ := id C
  refine entryW (lv := [(0, .ref qbe), (1, .int p1)]) rfl (Nat.le_of_ble_eq_true rfl) (fun ls hl => ?_)
  obtain ⟨z, hz⟩ : ∃ z, z = sp_Be_makeReadings p1 ba ca cal da w0 w3 w4 := ⟨_, rfl⟩
  rw [← hz]
  unfold sp_Be_makeReadings at hz
  unfold ok_Be_makeReadings at hok
  refine lv_iconst (v := 0) hx hb d_Be_makeReadings_0 (by decide) ?_
  refine lv_istore_n (lv' := [(2, .int (0 : Int32)), (0, .ref qbe), (1, .int p1)]) hx hb d_Be_makeReadings_1 rfl hl (by decide) rfl (fun ls hl => ?_)
  exact k_Be_makeReadings_2 C big (0 : Int32) ba ca cal da hok _ hz _ _ ls hP hD hS (lv_sub hl [1, 2, 0] rfl)
abbrev rm_Be_passTime : Room := { frames := 2, cells := 0, slots := 0, locals := 53 }
def HL_Be_passTime_2 (p : Program) (l : Launch) (e : Env) (s : State) (m : MethodId) (args : Array Value) (below : List Frame) (meth : Method) (c : Code) (g : GX) (qbe : Nat) (qci : Nat) (qrd : Nat) (qrs : Nat) (qrsr : Nat) (ua : Nat → Nat) (qpa : Nat) (qpae : Nat) (qpar : Nat) (qpau : Nat) (qpab : Nat) (ws0 : va_W) (ba : IV) (da : IV) (ea : IV) (eal : LV) (rar : NI) (ral : NL) (w0 : IV) (w1 : IV) (w2 : IV) (w3 : IV) (w4 : IV) (p1 : Int32) (sp : Int32 → IV → LV → (IV × LV)) (ok : Int32 → IV → LV → Prop) : Prop := ∀ (x2p2 : Int32) (cap2 : IV) (calp2 : LV), ok x2p2 cap2 calp2 → ∀ z : (IV × LV), z = sp x2p2 cap2 calp2 → ∀ (H : Heap) (locs : List Loc) (ls : Array Slot), va_P g.1 vwCl (wBe g qbe qci qrd qrs qrsr ua qpa qpae qpar qpau qpab ba cap2 calp2 da ea eal rar ral w0 w1 w2 w3 w4) H → va_D (inW ws0) (wBe g qbe qci qrd qrs qrsr ua qpa qpae qpar qpau qpab ba cap2 calp2 da ea eal rar ral w0 w1 w2 w3 w4) → va_S (inW ws0) s.heap H locs → lv_has ls 3 [(0, .ref qbe), (1, .int p1), (2, .int x2p2)] → W p l e rm_Be_passTime s m args below meth c H locs 0 0 (MQ below (CV g ws0 (fun u : IV × LV => wBe g qbe qci qrd qrs qrsr ua qpa qpae qpar qpau qpab ba u.1 u.2 da ea eal rar ral w0 w1 w2 w3 w4) z) args s 0 0 (inW ws0)) (F0 m 2 ls [])
noncomputable def bd_Be_passTime_2 (p1 : Int32) (w0 : IV) (w3 : IV) (w4 : IV) (r2 : Int32 → IV → LV → (IV × LV)) (x2p2 : Int32) (cap2 : IV) (calp2 : LV) : IV × LV := if p1 ≤ x2p2 then ((cap2, calp2)) else (lett (sp_Ci_tick (0 : Int32) cap2 calp2 w0 w3 w4) fun (y3 : IV × LV) => lett (x2p2 + (1 : Int32)) fun (v4 : Int32) => r2 v4 y3.1 y3.2)
def okb_Be_passTime_2 (p1 : Int32) (w0 : IV) (w3 : IV) (w4 : IV) (r2 : Int32 → IV → LV → (IV × LV)) (q2 : Int32 → IV → LV → Prop) (x2p2 : Int32) (cap2 : IV) (calp2 : LV) : Prop := ((p1 ≤ x2p2 → True) ∧ (¬ (p1 ≤ x2p2) → (ok_Ci_tick (0 : Int32) cap2 calp2 w0 w3 w4) ∧ lett (sp_Ci_tick (0 : Int32) cap2 calp2 w0 w3 w4) fun (y3 : IV × LV) => lett (x2p2 + (1 : Int32)) fun (v4 : Int32) => q2 v4 y3.1 y3.2))
noncomputable def sp_Be_passTime_2 (p1 : Int32) (w0 : IV) (w3 : IV) (w4 : IV)  : Nat → Int32 → IV → LV → (IV × LV)
  | 0 => fun _ _ _ => default
  | f + 1 => bd_Be_passTime_2 p1 w0 w3 w4  (sp_Be_passTime_2 p1 w0 w3 w4  f)
def ok_Be_passTime_2 (p1 : Int32) (w0 : IV) (w3 : IV) (w4 : IV)   : Nat → Int32 → IV → LV → Prop
  | 0 => fun _ _ _ => False
  | f + 1 => okb_Be_passTime_2 p1 w0 w3 w4  (sp_Be_passTime_2 p1 w0 w3 w4  f)  (ok_Be_passTime_2 p1 w0 w3 w4   f)
set_option maxRecDepth 100000 in
set_option maxHeartbeats 4000000 in
theorem kb_Be_passTime_2 {p : Program} {l : Launch} {e : Env} {s : State} {m : MethodId} {args : Array Value} {below : List Frame} {meth : Method} {c : Code} {g : GX} {qbe : Nat} {qci : Nat} {qrd : Nat} {qrs : Nat} {qrsr : Nat} {ua : Nat → Nat} {qpa : Nat} {qpae : Nat} {qpar : Nat} {qpau : Nat} {qpab : Nat} {ws0 : va_W} {ba : IV} {da : IV} {ea : IV} {eal : LV} {rar : NI} {ral : NL} {w0 : IV} {w1 : IV} {w2 : IV} {w3 : IV} {w4 : IV} {p1 : Int32}  (C : Cx p s m args meth c (inW ws0) g "DecadeBridge$Bench" b_Be_passTime none 3) {r2 : Int32 → IV → LV → (IV × LV)} {q2 : Int32 → IV → LV → Prop}  (ih2 : HL_Be_passTime_2 p l e s m args below meth c g qbe qci qrd qrs qrsr ua qpa qpae qpar qpau qpab ws0 ba da ea eal rar ral w0 w1 w2 w3 w4 p1 r2 q2) : HL_Be_passTime_2 p l e s m args below meth c g qbe qci qrd qrs qrsr ua qpa qpae qpar qpau qpab ws0 ba da ea eal rar ral w0 w1 w2 w3 w4 p1 (bd_Be_passTime_2 p1 w0 w3 w4  r2) (okb_Be_passTime_2 p1 w0 w3 w4  r2  q2) := by
  intro x2p2 cap2 calp2 hok z hz H locs ls hP hD hS hl
  obtain ⟨hx, hb, hr, hml, hown, hlk, hts, hK, hZo, hZ⟩ := id C
  unfold bd_Be_passTime_2 at hz
  unfold okb_Be_passTime_2 at hok
  refine lv_iload_n hx hb d_Be_passTime_2 rfl (lv_at hl 2 rfl) ?_
  refine lv_iload_n hx hb d_Be_passTime_3 rfl (lv_at hl 1 rfl) ?_
  refine lv_icmp_ge (tgt := 21) hx hb d_Be_passTime_4 (by decide) (fun c1 => ?_) (fun c1 => ?_)
  · have hz := hz.trans (if_pos c1)
    exact endV C hz hP hS d_Be_passTime_21
  · have hz := hz.trans (if_neg c1)
    have hok := hok.2 c1
    refine lv_aload_n hx hb d_Be_passTime_7 rfl (lv_at hl 0 rfl) ?_
    refine gf C hP 0 0 fkBe rfl (by decide) rfl qf_Be_31 (gBe_0 _ _ _ _ _) d_Be_passTime_8 ?_
    refine lv_iconst (v := 0) hx hb d_Be_passTime_11 (by decide) ?_
    have hs2 := hok.1
    have hok := hok.2
    have hB : SubW g (inW ws0) s (wBe g qbe qci qrd qrs qrsr ua qpa qpae qpar qpau qpab ba cap2 calp2 da ea eal rar ral w0 w1 w2 w3 w4) (wCi g qci qpa qpae qpar qpau qpab cap2 calp2 w0 w1 w2 w3 w4) [1, 25, 26, 27, 28, 29] _ _ := ⟨rfl, rfl, hP, hD, hS⟩
    refine goV1 hB (run_v C mf_Ci_tick qm_Be_94 (c_Ci_tick l g qci qpa qpae qpar qpau qpab cap2 calp2 w0 w1 w2 w3 w4 (0 : Int32) hs2) rfl rfl ⟨Nat.le_of_ble_eq_true rfl, Nat.le_of_ble_eq_true rfl⟩ ⟨Nat.le_of_ble_eq_true rfl, Nat.le_of_ble_eq_true rfl⟩ hB rfl rfl hl rfl rfl (Nat.le_of_ble_eq_true rfl) d_Be_passTime_12) (fun _ => rfl) (fun y3 ey3 H locs hP hD hS => ?_)
    have hP : va_P g.1 vwCl (wBe g qbe qci qrd qrs qrsr ua qpa qpae qpar qpau qpab ba y3.1 y3.2 da ea eal rar ral w0 w1 w2 w3 w4) H := cP (spq hB.1 hB.2.1 [0, 2, 3, 4, 5, 6, 7, 8, 9, 10, 11, 12, 13, 14, 15, 16, 17, 18, 19, 20, 21, 22, 23, 24] 30 rfl rfl (by decide +kernel) rfl) hP
    have hD : va_D (inW ws0) (wBe g qbe qci qrd qrs qrsr ua qpa qpae qpar qpau qpab ba y3.1 y3.2 da ea eal rar ral w0 w1 w2 w3 w4) := cD (spq hB.1 hB.2.1 [0, 2, 3, 4, 5, 6, 7, 8, 9, 10, 11, 12, 13, 14, 15, 16, 17, 18, 19, 20, 21, 22, 23, 24] 30 rfl rfl (by decide +kernel) rfl) hD
    have hz := lett_z hz ey3
    have hok := lett_o hok ey3
    obtain ⟨v4, ev4⟩ : ∃ y : Int32, y = x2p2 + (1 : Int32) := ⟨_, rfl⟩
    have hz := lett_z hz ev4
    have hok := lett_o hok ev4
    refine lv_iinc (v := v4) (lv' := [(2, .int v4), (0, .ref qbe), (1, .int p1)]) hx hb d_Be_passTime_15 hl (k := 2) rfl (by rw [ev4]; rfl) (by decide) rfl (fun ls hl => ?_)
    refine lv_goto (tgt := 2) hx hb d_Be_passTime_18 (by decide) ?_
    exact ih2 v4 y3.1 y3.2 hok _ hz _ _ ls hP hD hS (lv_sub hl [1, 2, 0] rfl)
theorem k_Be_passTime_2 {p : Program} {l : Launch} {e : Env} {s : State} {m : MethodId} {args : Array Value} {below : List Frame} {meth : Method} {c : Code} {g : GX} {qbe : Nat} {qci : Nat} {qrd : Nat} {qrs : Nat} {qrsr : Nat} {ua : Nat → Nat} {qpa : Nat} {qpae : Nat} {qpar : Nat} {qpau : Nat} {qpab : Nat} {ws0 : va_W} {ba : IV} {da : IV} {ea : IV} {eal : LV} {rar : NI} {ral : NL} {w0 : IV} {w1 : IV} {w2 : IV} {w3 : IV} {w4 : IV} {p1 : Int32}  (C : Cx p s m args meth c (inW ws0) g "DecadeBridge$Bench" b_Be_passTime none 3) (f : Nat)  : HL_Be_passTime_2 p l e s m args below meth c g qbe qci qrd qrs qrsr ua qpa qpae qpar qpau qpab ws0 ba da ea eal rar ral w0 w1 w2 w3 w4 p1 (sp_Be_passTime_2 p1 w0 w3 w4  f) (ok_Be_passTime_2 p1 w0 w3 w4   f) := by
  induction f with
  | zero => intro x2p2 cap2 calp2 hok; exact False.elim hok
  | succ f ih => exact kb_Be_passTime_2 C  ih
noncomputable def sp_Be_passTime (p1 : Int32) (ca : IV) (cal : LV) (w0 : IV) (w3 : IV) (w4 : IV) : IV × LV := sp_Be_passTime_2 p1 w0 w3 w4 big (0 : Int32) ca cal
def ok_Be_passTime (p1 : Int32) (ca : IV) (cal : LV) (w0 : IV) (w3 : IV) (w4 : IV) : Prop := ok_Be_passTime_2 p1 w0 w3 w4 big (0 : Int32) ca cal
set_option maxRecDepth 100000 in
set_option maxHeartbeats 4000000 in
theorem c_Be_passTime (l : Launch) (g : GX) (qbe : Nat) (qci : Nat) (qrd : Nat) (qrs : Nat) (qrsr : Nat) (ua : Nat → Nat) (qpa : Nat) (qpae : Nat) (qpar : Nat) (qpau : Nat) (qpab : Nat) (ba : IV) (ca : IV) (cal : LV) (da : IV) (ea : IV) (eal : LV) (rar : NI) (ral : NL) (w0 : IV) (w1 : IV) (w2 : IV) (w3 : IV) (w4 : IV) (p1 : Int32) (hok : ok_Be_passTime p1 ca cal w0 w3 w4) : Met l y_Be_passTime (wsY y_Be_passTime b_Be_passTime 3 none) rm_Be_passTime (CP g [.ref qbe, .int p1] (wBe g qbe qci qrd qrs qrsr ua qpa qpae qpar qpau qpab ba ca cal da ea eal rar ral w0 w1 w2 w3 w4)) (CV g (wBe g qbe qci qrd qrs qrsr ua qpa qpae qpar qpau qpab ba ca cal da ea eal rar ral w0 w1 w2 w3 w4) (fun u : IV × LV => wBe g qbe qci qrd qrs qrsr ua qpa qpae qpar qpau qpab ba u.1 u.2 da ea eal rar ral w0 w1 w2 w3 w4) (sp_Be_passTime p1 ca cal w0 w3 w4)) 0 0 (inW (wBe g qbe qci qrd qrs qrsr ua qpa qpae qpar qpau qpab ba ca cal da ea eal rar ral w0 w1 w2 w3 w4)) := by
  refine Met.ofW (cc := b_Be_passTime) (maxL := 3) (ret := none) pn_Be rfl ?_
  intro p e s m args below meth c s₁ B hml hv
  obtain ⟨rfl, C, hP, hD, hS⟩ := enter "DecadeBridge$Bench" rfl B hml hv
  obtain ⟨hx, hb, hr, hml, hown, hlk, hts, hK, hZo, hZ⟩ := id C
  refine entryW (lv := [(0, .ref qbe), (1, .int p1)]) rfl (Nat.le_of_ble_eq_true rfl) (fun ls hl => ?_)
  obtain ⟨z, hz⟩ : ∃ z, z = sp_Be_passTime p1 ca cal w0 w3 w4 := ⟨_, rfl⟩
  rw [← hz]
  unfold sp_Be_passTime at hz
  unfold ok_Be_passTime at hok
  refine lv_iconst (v := 0) hx hb d_Be_passTime_0 (by decide) ?_
  refine lv_istore_n (lv' := [(2, .int (0 : Int32)), (0, .ref qbe), (1, .int p1)]) hx hb d_Be_passTime_1 rfl hl (by decide) rfl (fun ls hl => ?_)
  exact k_Be_passTime_2 C big (0 : Int32) ca cal hok _ hz _ _ ls hP hD hS (lv_sub hl [1, 2, 0] rfl)
abbrev rm_Be_takeLook : Room := { frames := 3, cells := 0, slots := 0, locals := 77 }
def HL_Be_takeLook_40 (p : Program) (l : Launch) (e : Env) (s : State) (m : MethodId) (args : Array Value) (below : List Frame) (meth : Method) (c : Code) (g : GX) (qbe : Nat) (qci : Nat) (qrd : Nat) (qrs : Nat) (qrsr : Nat) (ua : Nat → Nat) (qpa : Nat) (qpae : Nat) (qpar : Nat) (qpau : Nat) (qpab : Nat) (ws0 : va_W) (y2 : Int32 × IV × IV × LV × IV) (ea : IV) (eal : LV) (rar : NI) (ral : NL) (w0 : IV) (w1 : IV) (w2 : IV) (w3 : IV) (w4 : IV) (sp : Int32 → (Int32 × IV × IV × LV × IV)) (ok : Int32 → Prop) : Prop := ∀ (t1p40 : Int32), ok t1p40 → ∀ z : (Int32 × IV × IV × LV × IV), z = sp t1p40 → ∀ (H : Heap) (locs : List Loc) (ls : Array Slot), va_P g.1 vwCl (wBe g qbe qci qrd qrs qrsr ua qpa qpae qpar qpau qpab y2.2.1 y2.2.2.1 y2.2.2.2.1 y2.2.2.2.2 ea eal rar ral w0 w1 w2 w3 w4) H → va_D (inW ws0) (wBe g qbe qci qrd qrs qrsr ua qpa qpae qpar qpau qpab y2.2.1 y2.2.2.1 y2.2.2.2.1 y2.2.2.2.2 ea eal rar ral w0 w1 w2 w3 w4) → va_S (inW ws0) s.heap H locs → lv_has ls 4 [(0, .ref qbe), (2, .int y2.1)] → W p l e rm_Be_takeLook s m args below meth c H locs 0 0 (MQ below (CI g ws0 (fun u : IV × IV × LV × IV => wBe g qbe qci qrd qrs qrsr ua qpa qpae qpar qpau qpab u.1 u.2.1 u.2.2.1 u.2.2.2 ea eal rar ral w0 w1 w2 w3 w4) z) args s 0 0 (inW ws0)) (F0 m 40 ls [.int t1p40, .ref qci])
def HL_Be_takeLook_67 (p : Program) (l : Launch) (e : Env) (s : State) (m : MethodId) (args : Array Value) (below : List Frame) (meth : Method) (c : Code) (g : GX) (qbe : Nat) (qci : Nat) (qrd : Nat) (qrs : Nat) (qrsr : Nat) (ua : Nat → Nat) (qpa : Nat) (qpae : Nat) (qpar : Nat) (qpau : Nat) (qpab : Nat) (ws0 : va_W) (y10 : Int32 × IV × IV × LV × IV) (ea : IV) (eal : LV) (rar : NI) (ral : NL) (w0 : IV) (w1 : IV) (w2 : IV) (w3 : IV) (w4 : IV) (y2 : Int32 × IV × IV × LV × IV) (sp : Int32 → (Int32 × IV × IV × LV × IV)) (ok : Int32 → Prop) : Prop := ∀ (t1p67 : Int32), ok t1p67 → ∀ z : (Int32 × IV × IV × LV × IV), z = sp t1p67 → ∀ (H : Heap) (locs : List Loc) (ls : Array Slot), va_P g.1 vwCl (wBe g qbe qci qrd qrs qrsr ua qpa qpae qpar qpau qpab y10.2.1 y10.2.2.1 y10.2.2.2.1 y10.2.2.2.2 ea eal rar ral w0 w1 w2 w3 w4) H → va_D (inW ws0) (wBe g qbe qci qrd qrs qrsr ua qpa qpae qpar qpau qpab y10.2.1 y10.2.2.1 y10.2.2.2.1 y10.2.2.2.2 ea eal rar ral w0 w1 w2 w3 w4) → va_S (inW ws0) s.heap H locs → lv_has ls 4 [(2, .int y2.1), (3, .int y10.1)] → W p l e rm_Be_takeLook s m args below meth c H locs 0 0 (MQ below (CI g ws0 (fun u : IV × IV × LV × IV => wBe g qbe qci qrd qrs qrsr ua qpa qpae qpar qpau qpab u.1 u.2.1 u.2.2.1 u.2.2.2 ea eal rar ral w0 w1 w2 w3 w4) z) args s 0 0 (inW ws0)) (F0 m 67 ls [.int t1p67, .ref qci])
noncomputable def sp_Be_takeLook_67 (y10 : Int32 × IV × IV × LV × IV) (y2 : Int32 × IV × IV × LV × IV)  (t1p67 : Int32) : Int32 × IV × IV × LV × IV := lett (upd y10.2.2.1 6 t1p67) fun (ca_13 : IV) => ((y2.1 - y10.1) / (2 : Int32), (y10.2.1, ca_13, y10.2.2.2.1, y10.2.2.2.2))
def ok_Be_takeLook_67 (y10 : Int32 × IV × IV × LV × IV) (y2 : Int32 × IV × IV × LV × IV)   (t1p67 : Int32) : Prop := (isB t1p67) ∧ True
set_option maxRecDepth 100000 in
set_option maxHeartbeats 4000000 in
theorem k_Be_takeLook_67 {p : Program} {l : Launch} {e : Env} {s : State} {m : MethodId} {args : Array Value} {below : List Frame} {meth : Method} {c : Code} {g : GX} {qbe : Nat} {qci : Nat} {qrd : Nat} {qrs : Nat} {qrsr : Nat} {ua : Nat → Nat} {qpa : Nat} {qpae : Nat} {qpar : Nat} {qpau : Nat} {qpab : Nat} {ws0 : va_W} {y10 : Int32 × IV × IV × LV × IV} {ea : IV} {eal : LV} {rar : NI} {ral : NL} {w0 : IV} {w1 : IV} {w2 : IV} {w3 : IV} {w4 : IV} {y2 : Int32 × IV × IV × LV × IV}  (C : Cx p s m args meth c (inW ws0) g "DecadeBridge$Bench" b_Be_takeLook (some .int) 4)  : HL_Be_takeLook_67 p l e s m args below meth c g qbe qci qrd qrs qrsr ua qpa qpae qpar qpau qpab ws0 y10 ea eal rar ral w0 w1 w2 w3 w4 y2 (sp_Be_takeLook_67 y10 y2 ) (ok_Be_takeLook_67 y10 y2  ) := by
  intro t1p67 hok z hz H locs ls hP hD hS hl
  obtain ⟨hx, hb, hr, hml, hown, hlk, hts, hK, hZo, hZ⟩ := id C
  unfold sp_Be_takeLook_67 at hz
  unfold ok_Be_takeLook_67 at hok
  have hs12 := hok.1
  have hok := hok.2
  refine pfI C hP hD hS 1 6 fkCi rfl (by decide) rfl qf_Be_105 rfl (isB_nar hs12) (isB_fit hs12) (Nat.le_of_ble_eq_true rfl) (ff := fun o => fCi qpa o y10.2.2.2.1) (sCi_6 _ _ _ _) d_Be_takeLook_67 (fun ca_13 eca_13 H locs hP hD hS => ?_)
  have hP : va_P g.1 vwCl (wBe g qbe qci qrd qrs qrsr ua qpa qpae qpar qpau qpab y10.2.1 ca_13 y10.2.2.2.1 y10.2.2.2.2 ea eal rar ral w0 w1 w2 w3 w4) H := hP
  have hD : va_D (inW ws0) (wBe g qbe qci qrd qrs qrsr ua qpa qpae qpar qpau qpab y10.2.1 ca_13 y10.2.2.2.1 y10.2.2.2.2 ea eal rar ral w0 w1 w2 w3 w4) := hD
  have hz := lett_z hz eca_13
  refine lv_iload_n hx hb d_Be_takeLook_70 rfl (lv_at hl 0 rfl) ?_
  refine lv_iload_n hx hb d_Be_takeLook_71 rfl (lv_at hl 1 rfl) ?_
  refine lv_isub hx hb d_Be_takeLook_72 ?_
  refine lv_iconst (v := 2) hx hb d_Be_takeLook_73 (by decide) ?_
  refine lv_idiv hx hb d_Be_takeLook_74 (by decide) ?_
  exact endI1 C hz hP hS d_Be_takeLook_75
noncomputable def sp_Be_takeLook_40 (y2 : Int32 × IV × IV × LV × IV) (w0 : IV) (w3 : IV) (w4 : IV)  (t1p40 : Int32) : Int32 × IV × IV × LV × IV := lett (upd y2.2.2.1 6 t1p40) fun (ca_8 : IV) => lett (sp_Be_makeReading y2.2.1 ca_8 y2.2.2.2.1 y2.2.2.2.2 w0 w3 w4) fun (y10 : Int32 × IV × IV × LV × IV) => if (y10.2.2.1 6) = 0 then (sp_Be_takeLook_67 y10 y2 (1 : Int32)) else (sp_Be_takeLook_67 y10 y2 (0 : Int32))
def ok_Be_takeLook_40 (y2 : Int32 × IV × IV × LV × IV) (w0 : IV) (w3 : IV) (w4 : IV)   (t1p40 : Int32) : Prop := (isB t1p40) ∧ lett (upd y2.2.2.1 6 t1p40) fun (ca_8 : IV) => (ok_Be_makeReading y2.2.1 ca_8 y2.2.2.2.1 y2.2.2.2.2 w0 w3 w4) ∧ lett (sp_Be_makeReading y2.2.1 ca_8 y2.2.2.2.1 y2.2.2.2.2 w0 w3 w4) fun (y10 : Int32 × IV × IV × LV × IV) => (((y10.2.2.1 6) = 0 → ok_Be_takeLook_67 y10 y2 (1 : Int32)) ∧ (¬ ((y10.2.2.1 6) = 0) → ok_Be_takeLook_67 y10 y2 (0 : Int32)))
set_option maxRecDepth 100000 in
set_option maxHeartbeats 4000000 in
theorem k_Be_takeLook_40 {p : Program} {l : Launch} {e : Env} {s : State} {m : MethodId} {args : Array Value} {below : List Frame} {meth : Method} {c : Code} {g : GX} {qbe : Nat} {qci : Nat} {qrd : Nat} {qrs : Nat} {qrsr : Nat} {ua : Nat → Nat} {qpa : Nat} {qpae : Nat} {qpar : Nat} {qpau : Nat} {qpab : Nat} {ws0 : va_W} {y2 : Int32 × IV × IV × LV × IV} {ea : IV} {eal : LV} {rar : NI} {ral : NL} {w0 : IV} {w1 : IV} {w2 : IV} {w3 : IV} {w4 : IV}  (C : Cx p s m args meth c (inW ws0) g "DecadeBridge$Bench" b_Be_takeLook (some .int) 4)  : HL_Be_takeLook_40 p l e s m args below meth c g qbe qci qrd qrs qrsr ua qpa qpae qpar qpau qpab ws0 y2 ea eal rar ral w0 w1 w2 w3 w4 (sp_Be_takeLook_40 y2 w0 w3 w4 ) (ok_Be_takeLook_40 y2 w0 w3 w4  ) := by
  intro t1p40 hok z hz H locs ls hP hD hS hl
  obtain ⟨hx, hb, hr, hml, hown, hlk, hts, hK, hZo, hZ⟩ := id C
  unfold sp_Be_takeLook_40 at hz
  unfold ok_Be_takeLook_40 at hok
  have hs7 := hok.1
  have hok := hok.2
  refine pfI C hP hD hS 1 6 fkCi rfl (by decide) rfl qf_Be_105 rfl (isB_nar hs7) (isB_fit hs7) (Nat.le_of_ble_eq_true rfl) (ff := fun o => fCi qpa o y2.2.2.2.1) (sCi_6 _ _ _ _) d_Be_takeLook_40 (fun ca_8 eca_8 H locs hP hD hS => ?_)
  have hP : va_P g.1 vwCl (wBe g qbe qci qrd qrs qrsr ua qpa qpae qpar qpau qpab y2.2.1 ca_8 y2.2.2.2.1 y2.2.2.2.2 ea eal rar ral w0 w1 w2 w3 w4) H := hP
  have hD : va_D (inW ws0) (wBe g qbe qci qrd qrs qrsr ua qpa qpae qpar qpau qpab y2.2.1 ca_8 y2.2.2.2.1 y2.2.2.2.2 ea eal rar ral w0 w1 w2 w3 w4) := hD
  have hz := lett_z hz eca_8
  have hok := lett_o hok eca_8
  refine lv_aload_n hx hb d_Be_takeLook_43 rfl (lv_at hl 0 rfl) ?_
  have hs9 := hok.1
  have hok := hok.2
  have hB : SubW g (inW ws0) s (wBe g qbe qci qrd qrs qrsr ua qpa qpae qpar qpau qpab y2.2.1 ca_8 y2.2.2.2.1 y2.2.2.2.2 ea eal rar ral w0 w1 w2 w3 w4) _ (List.range _) _ _ := (subF hP hD hS)
  refine goIF hB (run_v C mf_Be_makeReading qm_Be_102 (c_Be_makeReading l g qbe qci qrd qrs qrsr ua qpa qpae qpar qpau qpab y2.2.1 ca_8 y2.2.2.2.1 y2.2.2.2.2 ea eal rar ral w0 w1 w2 w3 w4 hs9) rfl rfl ⟨Nat.le_of_ble_eq_true rfl, Nat.le_of_ble_eq_true rfl⟩ ⟨Nat.le_of_ble_eq_true rfl, Nat.le_of_ble_eq_true rfl⟩ hB rfl rfl hl rfl rfl (Nat.le_of_ble_eq_true rfl) d_Be_takeLook_44) (fun _ => rfl) (fun y10 ey10 H locs hP hD hS => ?_)
  have hP : va_P g.1 vwCl (wBe g qbe qci qrd qrs qrsr ua qpa qpae qpar qpau qpab y10.2.1 y10.2.2.1 y10.2.2.2.1 y10.2.2.2.2 ea eal rar ral w0 w1 w2 w3 w4) H := hP
  have hD : va_D (inW ws0) (wBe g qbe qci qrd qrs qrsr ua qpa qpae qpar qpau qpab y10.2.1 y10.2.2.1 y10.2.2.2.1 y10.2.2.2.2 ea eal rar ral w0 w1 w2 w3 w4) := hD
  have hz := lett_z hz ey10
  have hok := lett_o hok ey10
  refine lv_istore_n (lv' := [(3, .int y10.1), (0, .ref qbe), (2, .int y2.1)]) hx hb d_Be_takeLook_47 rfl hl (by decide) rfl (fun ls hl => ?_)
  refine lv_aload_n hx hb d_Be_takeLook_48 rfl (lv_at hl 1 rfl) ?_
  refine gf C hP 0 0 fkBe rfl (by decide) rfl qf_Be_31 (gBe_0 _ _ _ _ _) d_Be_takeLook_49 ?_
  refine lv_aload_n hx hb d_Be_takeLook_52 rfl (lv_at hl 1 rfl) ?_
  refine gf C hP 0 0 fkBe rfl (by decide) rfl qf_Be_31 (gBe_0 _ _ _ _ _) d_Be_takeLook_53 ?_
  refine gf C hP 1 6 fkCi rfl (by decide) rfl qf_Be_105 (gCi_6 _ _ _) d_Be_takeLook_56 ?_
  refine lv_if_ne (tgt := 66) hx hb d_Be_takeLook_59 (by decide) (fun c11 => ?_) (fun c11 => ?_)
  · have hz := hz.trans (if_neg c11)
    have hok := hok.2 c11
    refine lv_iconst (v := 0) hx hb d_Be_takeLook_66 (by decide) ?_
    exact k_Be_takeLook_67 C (0 : Int32) hok _ hz _ _ ls hP hD hS (lv_sub hl [2, 0] rfl)
  · have hz := hz.trans (if_pos c11)
    have hok := hok.1 c11
    refine lv_iconst (v := 1) hx hb d_Be_takeLook_62 (by decide) ?_
    refine lv_goto (tgt := 67) hx hb d_Be_takeLook_63 (by decide) ?_
    exact k_Be_takeLook_67 C (1 : Int32) hok _ hz _ _ ls hP hD hS (lv_sub hl [2, 0] rfl)
noncomputable def sp_Be_takeLook (p1 : Int32) (ba : IV) (ca : IV) (cal : LV) (da : IV) (w0 : IV) (w3 : IV) (w4 : IV) : Int32 × IV × IV × LV × IV := lett (sp_Be_makeReading ba ca cal da w0 w3 w4) fun (y2 : Int32 × IV × IV × LV × IV) => if p1 = 0 then ((y2.1, (y2.2.1, y2.2.2.1, y2.2.2.2.1, y2.2.2.2.2))) else (lett (sp_Ci_whyBlocked y2.2.2.1 w0) fun (y4 : Int32) => if y4 = 0 then (if (y2.2.2.1 6) = 0 then (sp_Be_takeLook_40 y2 w0 w3 w4 (1 : Int32)) else (sp_Be_takeLook_40 y2 w0 w3 w4 (0 : Int32))) else ((y2.1, (y2.2.1, y2.2.2.1, y2.2.2.2.1, y2.2.2.2.2))))
def ok_Be_takeLook (p1 : Int32) (ba : IV) (ca : IV) (cal : LV) (da : IV) (w0 : IV) (w3 : IV) (w4 : IV) : Prop := (ok_Be_makeReading ba ca cal da w0 w3 w4) ∧ lett (sp_Be_makeReading ba ca cal da w0 w3 w4) fun (y2 : Int32 × IV × IV × LV × IV) => ((p1 = 0 → True) ∧ (¬ (p1 = 0) → lett (sp_Ci_whyBlocked y2.2.2.1 w0) fun (y4 : Int32) => ((y4 = 0 → (((y2.2.2.1 6) = 0 → ok_Be_takeLook_40 y2 w0 w3 w4 (1 : Int32)) ∧ (¬ ((y2.2.2.1 6) = 0) → ok_Be_takeLook_40 y2 w0 w3 w4 (0 : Int32)))) ∧ (¬ (y4 = 0) → True))))
set_option maxRecDepth 100000 in
set_option maxHeartbeats 4000000 in
theorem c_Be_takeLook (l : Launch) (g : GX) (qbe : Nat) (qci : Nat) (qrd : Nat) (qrs : Nat) (qrsr : Nat) (ua : Nat → Nat) (qpa : Nat) (qpae : Nat) (qpar : Nat) (qpau : Nat) (qpab : Nat) (ba : IV) (ca : IV) (cal : LV) (da : IV) (ea : IV) (eal : LV) (rar : NI) (ral : NL) (w0 : IV) (w1 : IV) (w2 : IV) (w3 : IV) (w4 : IV) (p1 : Int32) (hok : ok_Be_takeLook p1 ba ca cal da w0 w3 w4) : Met l y_Be_takeLook (wsY y_Be_takeLook b_Be_takeLook 4 (some .int)) rm_Be_takeLook (CP g [.ref qbe, .int p1] (wBe g qbe qci qrd qrs qrsr ua qpa qpae qpar qpau qpab ba ca cal da ea eal rar ral w0 w1 w2 w3 w4)) (CI g (wBe g qbe qci qrd qrs qrsr ua qpa qpae qpar qpau qpab ba ca cal da ea eal rar ral w0 w1 w2 w3 w4) (fun u : IV × IV × LV × IV => wBe g qbe qci qrd qrs qrsr ua qpa qpae qpar qpau qpab u.1 u.2.1 u.2.2.1 u.2.2.2 ea eal rar ral w0 w1 w2 w3 w4) (sp_Be_takeLook p1 ba ca cal da w0 w3 w4)) 0 0 (inW (wBe g qbe qci qrd qrs qrsr ua qpa qpae qpar qpau qpab ba ca cal da ea eal rar ral w0 w1 w2 w3 w4)) := by
  refine Met.ofW (cc := b_Be_takeLook) (maxL := 4) (ret := (some .int)) pn_Be rfl ?_
  intro p e s m args below meth c s₁ B hml hv
  obtain ⟨rfl, C, hP, hD, hS⟩ := enter "DecadeBridge$Bench" rfl B hml hv
  obtain ⟨hx, hb, hr, hml, hown, hlk, hts, hK, hZo, hZ⟩ := id C
  refine entryW (lv := [(0, .ref qbe), (1, .int p1)]) rfl (Nat.le_of_ble_eq_true rfl) (fun ls hl => ?_)
  obtain ⟨z, hz⟩ : ∃ z, z = sp_Be_takeLook p1 ba ca cal da w0 w3 w4 := ⟨_, rfl⟩
  rw [← hz]
  unfold sp_Be_takeLook at hz
  unfold ok_Be_takeLook at hok
  refine lv_aload_n hx hb d_Be_takeLook_0 rfl (lv_at hl 0 rfl) ?_
  have hs1 := hok.1
  have hok := hok.2
  have hB : SubW g (inW (wBe g qbe qci qrd qrs qrsr ua qpa qpae qpar qpau qpab ba ca cal da ea eal rar ral w0 w1 w2 w3 w4)) s (wBe g qbe qci qrd qrs qrsr ua qpa qpae qpar qpau qpab ba ca cal da ea eal rar ral w0 w1 w2 w3 w4) _ (List.range _) _ _ := (subF hP hD hS)
  refine goIF hB (run_v C mf_Be_makeReading qm_Be_102 (c_Be_makeReading l g qbe qci qrd qrs qrsr ua qpa qpae qpar qpau qpab ba ca cal da ea eal rar ral w0 w1 w2 w3 w4 hs1) rfl rfl ⟨Nat.le_of_ble_eq_true rfl, Nat.le_of_ble_eq_true rfl⟩ ⟨Nat.le_of_ble_eq_true rfl, Nat.le_of_ble_eq_true rfl⟩ hB rfl rfl hl rfl rfl (Nat.le_of_ble_eq_true rfl) d_Be_takeLook_1) (fun _ => rfl) (fun y2 ey2 H locs hP hD hS => ?_)
  have hP : va_P g.1 vwCl (wBe g qbe qci qrd qrs qrsr ua qpa qpae qpar qpau qpab y2.2.1 y2.2.2.1 y2.2.2.2.1 y2.2.2.2.2 ea eal rar ral w0 w1 w2 w3 w4) H := hP
  have hD : va_D (inW (wBe g qbe qci qrd qrs qrsr ua qpa qpae qpar qpau qpab ba ca cal da ea eal rar ral w0 w1 w2 w3 w4)) (wBe g qbe qci qrd qrs qrsr ua qpa qpae qpar qpau qpab y2.2.1 y2.2.2.1 y2.2.2.2.1 y2.2.2.2.2 ea eal rar ral w0 w1 w2 w3 w4) := hD
  have hz := lett_z hz ey2
  have hok := lett_o hok ey2
  refine lv_istore_n (lv' := [(2, .int y2.1), (0, .ref qbe), (1, .int p1)]) hx hb d_Be_takeLook_4 rfl hl (by decide) rfl (fun ls hl => ?_)
  refine lv_iload_n hx hb d_Be_takeLook_5 rfl (lv_at hl 2 rfl) ?_
  refine lv_if_eq (tgt := 19) hx hb d_Be_takeLook_6 (by decide) (fun c3 => ?_) (fun c3 => ?_)
  · have hz := hz.trans (if_pos c3)
    refine lv_iload_n hx hb d_Be_takeLook_19 rfl (lv_at hl 0 rfl) ?_
    exact endI1 C hz hP hS d_Be_takeLook_20
  · have hz := hz.trans (if_neg c3)
    have hok := hok.2 c3
    refine lv_aload_n hx hb d_Be_takeLook_9 rfl (lv_at hl 1 rfl) ?_
    refine gf C hP 0 0 fkBe rfl (by decide) rfl qf_Be_31 (gBe_0 _ _ _ _ _) d_Be_takeLook_10 ?_
    have hB : SubW g (inW (wBe g qbe qci qrd qrs qrsr ua qpa qpae qpar qpau qpab ba ca cal da ea eal rar ral w0 w1 w2 w3 w4)) s (wBe g qbe qci qrd qrs qrsr ua qpa qpae qpar qpau qpab y2.2.1 y2.2.2.1 y2.2.2.2.1 y2.2.2.2.2 ea eal rar ral w0 w1 w2 w3 w4) (wCi g qci qpa qpae qpar qpau qpab y2.2.2.1 y2.2.2.2.1 w0 w1 w2 w3 w4) [1, 25, 26, 27, 28, 29] _ _ := ⟨rfl, rfl, hP, hD, hS⟩
    refine goI0 hB (run_v C mf_Ci_whyBlocked qm_Be_98 (c_Ci_whyBlocked l g qci qpa qpae qpar qpau qpab y2.2.2.1 y2.2.2.2.1 w0 w1 w2 w3 w4) rfl rfl ⟨Nat.le_of_ble_eq_true rfl, Nat.le_of_ble_eq_true rfl⟩ ⟨Nat.le_of_ble_eq_true rfl, Nat.le_of_ble_eq_true rfl⟩ hB rfl rfl hl rfl rfl (Nat.le_of_ble_eq_true rfl) d_Be_takeLook_13) (fun y4 ey4 H locs hP hS => ?_)
    have hz := lett_z hz ey4
    have hok := lett_o hok ey4
    refine lv_if_eq (tgt := 21) hx hb d_Be_takeLook_16 (by decide) (fun c5 => ?_) (fun c5 => ?_)
    · have hz := hz.trans (if_pos c5)
      have hok := hok.1 c5
      refine lv_aload_n hx hb d_Be_takeLook_21 rfl (lv_at hl 1 rfl) ?_
      refine gf C hP 0 0 fkBe rfl (by decide) rfl qf_Be_31 (gBe_0 _ _ _ _ _) d_Be_takeLook_22 ?_
      refine lv_aload_n hx hb d_Be_takeLook_25 rfl (lv_at hl 1 rfl) ?_
      refine gf C hP 0 0 fkBe rfl (by decide) rfl qf_Be_31 (gBe_0 _ _ _ _ _) d_Be_takeLook_26 ?_
      refine gf C hP 1 6 fkCi rfl (by decide) rfl qf_Be_105 (gCi_6 _ _ _) d_Be_takeLook_29 ?_
      refine lv_if_ne (tgt := 39) hx hb d_Be_takeLook_32 (by decide) (fun c6 => ?_) (fun c6 => ?_)
      · have hz := hz.trans (if_neg c6)
        have hok := hok.2 c6
        refine lv_iconst (v := 0) hx hb d_Be_takeLook_39 (by decide) ?_
        exact k_Be_takeLook_40 C (0 : Int32) hok _ hz _ _ ls hP hD hS (lv_sub hl [1, 0] rfl)
      · have hz := hz.trans (if_pos c6)
        have hok := hok.1 c6
        refine lv_iconst (v := 1) hx hb d_Be_takeLook_35 (by decide) ?_
        refine lv_goto (tgt := 40) hx hb d_Be_takeLook_36 (by decide) ?_
        exact k_Be_takeLook_40 C (1 : Int32) hok _ hz _ _ ls hP hD hS (lv_sub hl [1, 0] rfl)
    · have hz := hz.trans (if_neg c5)
      refine lv_iload_n hx hb d_Be_takeLook_19 rfl (lv_at hl 0 rfl) ?_
      exact endI1 C hz hP hS d_Be_takeLook_20
abbrev rm_Be_seekBalance : Room := { frames := 4, cells := 0, slots := 0, locals := 100 }
def HL_Be_seekBalance_10 (p : Program) (l : Launch) (e : Env) (s : State) (m : MethodId) (args : Array Value) (below : List Frame) (meth : Method) (c : Code) (g : GX) (qbe : Nat) (qci : Nat) (qrd : Nat) (qrs : Nat) (qrsr : Nat) (ua : Nat → Nat) (qpa : Nat) (qpae : Nat) (qpar : Nat) (qpau : Nat) (qpab : Nat) (ws0 : va_W) (ea : IV) (eal : LV) (rar : NI) (ral : NL) (w0 : IV) (w1 : IV) (w2 : IV) (w3 : IV) (w4 : IV) (p1 : Int32) (sp : Int32 → IV → IV → LV → IV → (Int32 × IV × IV × LV × IV × IV × NI × NL)) (ok : Int32 → IV → IV → LV → IV → Prop) : Prop := ∀ (x2p10 : Int32) (bap10 : IV) (cap10 : IV) (calp10 : LV) (dap10 : IV), ok x2p10 bap10 cap10 calp10 dap10 → ∀ z : (Int32 × IV × IV × LV × IV × IV × NI × NL), z = sp x2p10 bap10 cap10 calp10 dap10 → ∀ (H : Heap) (locs : List Loc) (ls : Array Slot), va_P g.1 vwCl (wBe g qbe qci qrd qrs qrsr ua qpa qpae qpar qpau qpab bap10 cap10 calp10 dap10 ea eal rar ral w0 w1 w2 w3 w4) H → va_D (inW ws0) (wBe g qbe qci qrd qrs qrsr ua qpa qpae qpar qpau qpab bap10 cap10 calp10 dap10 ea eal rar ral w0 w1 w2 w3 w4) → va_S (inW ws0) s.heap H locs → lv_has ls 6 [(0, .ref qbe), (1, .int p1), (2, .int x2p10)] → W p l e rm_Be_seekBalance s m args below meth c H locs 0 0 (MQ below (CI g ws0 (fun u : IV × IV × LV × IV × IV × NI × NL => wBe g qbe qci qrd qrs qrsr ua qpa qpae qpar qpau qpab u.1 u.2.1 u.2.2.1 u.2.2.2.1 u.2.2.2.2.1 eal u.2.2.2.2.2.1 u.2.2.2.2.2.2 w0 w1 w2 w3 w4) z) args s 0 0 (inW ws0)) (F0 m 10 ls [])
def HL_Be_seekBalance_33 (p : Program) (l : Launch) (e : Env) (s : State) (m : MethodId) (args : Array Value) (below : List Frame) (meth : Method) (c : Code) (g : GX) (qbe : Nat) (qci : Nat) (qrd : Nat) (qrs : Nat) (qrsr : Nat) (ua : Nat → Nat) (qpa : Nat) (qpae : Nat) (qpar : Nat) (qpau : Nat) (qpab : Nat) (ws0 : va_W) (ea : IV) (eal : LV) (rar : NI) (ral : NL) (w0 : IV) (w1 : IV) (w2 : IV) (w3 : IV) (w4 : IV) (p1 : Int32) (x2p10 : Int32) (y5 : Int32) (sp : Int32 → IV → IV → LV → IV → (Int32 × IV × IV × LV × IV × IV × NI × NL)) (ok : Int32 → IV → IV → LV → IV → Prop) : Prop := ∀ (x4p33 : Int32) (bap33 : IV) (cap33 : IV) (calp33 : LV) (dap33 : IV), ok x4p33 bap33 cap33 calp33 dap33 → ∀ z : (Int32 × IV × IV × LV × IV × IV × NI × NL), z = sp x4p33 bap33 cap33 calp33 dap33 → ∀ (H : Heap) (locs : List Loc) (ls : Array Slot), va_P g.1 vwCl (wBe g qbe qci qrd qrs qrsr ua qpa qpae qpar qpau qpab bap33 cap33 calp33 dap33 ea eal rar ral w0 w1 w2 w3 w4) H → va_D (inW ws0) (wBe g qbe qci qrd qrs qrsr ua qpa qpae qpar qpau qpab bap33 cap33 calp33 dap33 ea eal rar ral w0 w1 w2 w3 w4) → va_S (inW ws0) s.heap H locs → lv_has ls 6 [(0, .ref qbe), (1, .int p1), (2, .int x2p10), (3, .int y5), (4, .int x4p33)] → W p l e rm_Be_seekBalance s m args below meth c H locs 0 0 (MQ below (CI g ws0 (fun u : IV × IV × LV × IV × IV × NI × NL => wBe g qbe qci qrd qrs qrsr ua qpa qpae qpar qpau qpab u.1 u.2.1 u.2.2.1 u.2.2.2.1 u.2.2.2.2.1 eal u.2.2.2.2.2.1 u.2.2.2.2.2.2 w0 w1 w2 w3 w4) z) args s 0 0 (inW ws0)) (F0 m 33 ls [])
def HL_Be_seekBalance_84 (p : Program) (l : Launch) (e : Env) (s : State) (m : MethodId) (args : Array Value) (below : List Frame) (meth : Method) (c : Code) (g : GX) (qbe : Nat) (qci : Nat) (qrd : Nat) (qrs : Nat) (qrsr : Nat) (ua : Nat → Nat) (qpa : Nat) (qpae : Nat) (qpar : Nat) (qpau : Nat) (qpab : Nat) (ws0 : va_W) (y12 : Int32 × IV × IV × LV × IV) (ea : IV) (eal : LV) (rar : NI) (ral : NL) (w0 : IV) (w1 : IV) (w2 : IV) (w3 : IV) (w4 : IV) (sp : (Int32 × IV × IV × LV × IV × IV × NI × NL)) (ok : Prop) : Prop := ∀ (_ : Unit), ok → ∀ z : (Int32 × IV × IV × LV × IV × IV × NI × NL), z = sp → ∀ (H : Heap) (locs : List Loc) (ls : Array Slot), va_P g.1 vwCl (wBe g qbe qci qrd qrs qrsr ua qpa qpae qpar qpau qpab y12.2.1 y12.2.2.1 y12.2.2.2.1 y12.2.2.2.2 ea eal rar ral w0 w1 w2 w3 w4) H → va_D (inW ws0) (wBe g qbe qci qrd qrs qrsr ua qpa qpae qpar qpau qpab y12.2.1 y12.2.2.1 y12.2.2.2.1 y12.2.2.2.2 ea eal rar ral w0 w1 w2 w3 w4) → va_S (inW ws0) s.heap H locs → lv_has ls 6 [(0, .ref qbe)] → W p l e rm_Be_seekBalance s m args below meth c H locs 0 0 (MQ below (CI g ws0 (fun u : IV × IV × LV × IV × IV × NI × NL => wBe g qbe qci qrd qrs qrsr ua qpa qpae qpar qpau qpab u.1 u.2.1 u.2.2.1 u.2.2.2.1 u.2.2.2.2.1 eal u.2.2.2.2.2.1 u.2.2.2.2.2.2 w0 w1 w2 w3 w4) z) args s 0 0 (inW ws0)) (F0 m 84 ls [])
def HL_Be_seekBalance_108 (p : Program) (l : Launch) (e : Env) (s : State) (m : MethodId) (args : Array Value) (below : List Frame) (meth : Method) (c : Code) (g : GX) (qbe : Nat) (qci : Nat) (qrd : Nat) (qrs : Nat) (qrsr : Nat) (ua : Nat → Nat) (qpa : Nat) (qpae : Nat) (qpar : Nat) (qpau : Nat) (qpab : Nat) (ws0 : va_W) (y12 : Int32 × IV × IV × LV × IV) (ea : IV) (eal : LV) (rar : NI) (ral : NL) (w0 : IV) (w1 : IV) (w2 : IV) (w3 : IV) (w4 : IV) (p1 : Int32) (x2p10 : Int32) (y5 : Int32) (x4p33 : Int32) (sp : Int32 → (Int32 × IV × IV × LV × IV × IV × NI × NL)) (ok : Int32 → Prop) : Prop := ∀ (t0p108 : Int32), ok t0p108 → ∀ z : (Int32 × IV × IV × LV × IV × IV × NI × NL), z = sp t0p108 → ∀ (H : Heap) (locs : List Loc) (ls : Array Slot), va_P g.1 vwCl (wBe g qbe qci qrd qrs qrsr ua qpa qpae qpar qpau qpab y12.2.1 y12.2.2.1 y12.2.2.2.1 y12.2.2.2.2 ea eal rar ral w0 w1 w2 w3 w4) H → va_D (inW ws0) (wBe g qbe qci qrd qrs qrsr ua qpa qpae qpar qpau qpab y12.2.1 y12.2.2.1 y12.2.2.2.1 y12.2.2.2.2 ea eal rar ral w0 w1 w2 w3 w4) → va_S (inW ws0) s.heap H locs → lv_has ls 6 [(0, .ref qbe), (1, .int p1), (2, .int x2p10), (3, .int y5), (4, .int x4p33)] → W p l e rm_Be_seekBalance s m args below meth c H locs 0 0 (MQ below (CI g ws0 (fun u : IV × IV × LV × IV × IV × NI × NL => wBe g qbe qci qrd qrs qrsr ua qpa qpae qpar qpau qpab u.1 u.2.1 u.2.2.1 u.2.2.2.1 u.2.2.2.2.1 eal u.2.2.2.2.2.1 u.2.2.2.2.2.2 w0 w1 w2 w3 w4) z) args s 0 0 (inW ws0)) (F0 m 108 ls [.int t0p108])
def HL_Be_seekBalance_118 (p : Program) (l : Launch) (e : Env) (s : State) (m : MethodId) (args : Array Value) (below : List Frame) (meth : Method) (c : Code) (g : GX) (qbe : Nat) (qci : Nat) (qrd : Nat) (qrs : Nat) (qrsr : Nat) (ua : Nat → Nat) (qpa : Nat) (qpae : Nat) (qpar : Nat) (qpau : Nat) (qpab : Nat) (ws0 : va_W) (y12 : Int32 × IV × IV × LV × IV) (ea : IV) (eal : LV) (rar : NI) (ral : NL) (w0 : IV) (w1 : IV) (w2 : IV) (w3 : IV) (w4 : IV) (p1 : Int32) (x2p10 : Int32) (y5 : Int32) (sp : (Int32 × IV × IV × LV × IV × IV × NI × NL)) (ok : Prop) : Prop := ∀ (_ : Unit), ok → ∀ z : (Int32 × IV × IV × LV × IV × IV × NI × NL), z = sp → ∀ (H : Heap) (locs : List Loc) (ls : Array Slot), va_P g.1 vwCl (wBe g qbe qci qrd qrs qrsr ua qpa qpae qpar qpau qpab y12.2.1 y12.2.2.1 y12.2.2.2.1 y12.2.2.2.2 ea eal rar ral w0 w1 w2 w3 w4) H → va_D (inW ws0) (wBe g qbe qci qrd qrs qrsr ua qpa qpae qpar qpau qpab y12.2.1 y12.2.2.1 y12.2.2.2.1 y12.2.2.2.2 ea eal rar ral w0 w1 w2 w3 w4) → va_S (inW ws0) s.heap H locs → lv_has ls 6 [(0, .ref qbe), (1, .int p1), (2, .int x2p10), (3, .int y5)] → W p l e rm_Be_seekBalance s m args below meth c H locs 0 0 (MQ below (CI g ws0 (fun u : IV × IV × LV × IV × IV × NI × NL => wBe g qbe qci qrd qrs qrsr ua qpa qpae qpar qpau qpab u.1 u.2.1 u.2.2.1 u.2.2.2.1 u.2.2.2.2.1 eal u.2.2.2.2.2.1 u.2.2.2.2.2.2 w0 w1 w2 w3 w4) z) args s 0 0 (inW ws0)) (F0 m 118 ls [])
def HL_Be_seekBalance_143 (p : Program) (l : Launch) (e : Env) (s : State) (m : MethodId) (args : Array Value) (below : List Frame) (meth : Method) (c : Code) (g : GX) (qbe : Nat) (qci : Nat) (qrd : Nat) (qrs : Nat) (qrsr : Nat) (ua : Nat → Nat) (qpa : Nat) (qpae : Nat) (qpar : Nat) (qpau : Nat) (qpab : Nat) (ws0 : va_W) (ea : IV) (eal : LV) (rar : NI) (ral : NL) (w0 : IV) (w1 : IV) (w2 : IV) (w3 : IV) (w4 : IV) (p1 : Int32) (x2p10 : Int32) (sp : IV → IV → LV → IV → (Int32 × IV × IV × LV × IV × IV × NI × NL)) (ok : IV → IV → LV → IV → Prop) : Prop := ∀ (bap143 : IV) (cap143 : IV) (calp143 : LV) (dap143 : IV), ok bap143 cap143 calp143 dap143 → ∀ z : (Int32 × IV × IV × LV × IV × IV × NI × NL), z = sp bap143 cap143 calp143 dap143 → ∀ (H : Heap) (locs : List Loc) (ls : Array Slot), va_P g.1 vwCl (wBe g qbe qci qrd qrs qrsr ua qpa qpae qpar qpau qpab bap143 cap143 calp143 dap143 ea eal rar ral w0 w1 w2 w3 w4) H → va_D (inW ws0) (wBe g qbe qci qrd qrs qrsr ua qpa qpae qpar qpau qpab bap143 cap143 calp143 dap143 ea eal rar ral w0 w1 w2 w3 w4) → va_S (inW ws0) s.heap H locs → lv_has ls 6 [(0, .ref qbe), (1, .int p1), (2, .int x2p10)] → W p l e rm_Be_seekBalance s m args below meth c H locs 0 0 (MQ below (CI g ws0 (fun u : IV × IV × LV × IV × IV × NI × NL => wBe g qbe qci qrd qrs qrsr ua qpa qpae qpar qpau qpab u.1 u.2.1 u.2.2.1 u.2.2.2.1 u.2.2.2.2.1 eal u.2.2.2.2.2.1 u.2.2.2.2.2.2 w0 w1 w2 w3 w4) z) args s 0 0 (inW ws0)) (F0 m 143 ls [])
def HL_Be_seekBalance_149 (p : Program) (l : Launch) (e : Env) (s : State) (m : MethodId) (args : Array Value) (below : List Frame) (meth : Method) (c : Code) (g : GX) (qbe : Nat) (qci : Nat) (qrd : Nat) (qrs : Nat) (qrsr : Nat) (ua : Nat → Nat) (qpa : Nat) (qpae : Nat) (qpar : Nat) (qpau : Nat) (qpab : Nat) (ws0 : va_W) (bap10 : IV) (cap10 : IV) (calp10 : LV) (dap10 : IV) (ea : IV) (eal : LV) (rar : NI) (ral : NL) (w0 : IV) (w1 : IV) (w2 : IV) (w3 : IV) (w4 : IV) (sp : (Int32 × IV × IV × LV × IV × IV × NI × NL)) (ok : Prop) : Prop := ∀ (_ : Unit), ok → ∀ z : (Int32 × IV × IV × LV × IV × IV × NI × NL), z = sp → ∀ (H : Heap) (locs : List Loc) (ls : Array Slot), va_P g.1 vwCl (wBe g qbe qci qrd qrs qrsr ua qpa qpae qpar qpau qpab bap10 cap10 calp10 dap10 ea eal rar ral w0 w1 w2 w3 w4) H → va_D (inW ws0) (wBe g qbe qci qrd qrs qrsr ua qpa qpae qpar qpau qpab bap10 cap10 calp10 dap10 ea eal rar ral w0 w1 w2 w3 w4) → va_S (inW ws0) s.heap H locs → lv_has ls 6 [(0, .ref qbe)] → W p l e rm_Be_seekBalance s m args below meth c H locs 0 0 (MQ below (CI g ws0 (fun u : IV × IV × LV × IV × IV × NI × NL => wBe g qbe qci qrd qrs qrsr ua qpa qpae qpar qpau qpab u.1 u.2.1 u.2.2.1 u.2.2.2.1 u.2.2.2.2.1 eal u.2.2.2.2.2.1 u.2.2.2.2.2.2 w0 w1 w2 w3 w4) z) args s 0 0 (inW ws0)) (F0 m 149 ls [])
noncomputable def sp_Be_seekBalance_149 (w0 : IV) (cap10 : IV) (bap10 : IV) (calp10 : LV) (dap10 : IV) (ea : IV) (rar : NI) (ral : NL) (w2 : IV)   : Int32 × IV × IV × LV × IV × IV × NI × NL := lett (sp_Pa_settings w0) fun (y24 : Int32) => if (cap10 5) = (y24 - (1 : Int32)) then (((3 : Int32), (bap10, cap10, calp10, dap10, ea, rar, ral))) else (if (cap10 5) = 0 then (((4 : Int32), (bap10, cap10, calp10, dap10, ea, rar, ral))) else (lett (sp_Rs_add (2 : Int32) ea rar ral cap10 w0 w2) fun (y28 : IV × NI × NL) => ((2 : Int32), (bap10, cap10, calp10, dap10, y28.1, y28.2.1, y28.2.2))))
def ok_Be_seekBalance_149 (w0 : IV) (cap10 : IV) (bap10 : IV) (calp10 : LV) (dap10 : IV) (ea : IV) (rar : NI) (ral : NL) (w2 : IV)    : Prop := (ok_Pa_settings w0) ∧ lett (sp_Pa_settings w0) fun (y24 : Int32) => (((cap10 5) = (y24 - (1 : Int32)) → True) ∧ (¬ ((cap10 5) = (y24 - (1 : Int32))) → (((cap10 5) = 0 → True) ∧ (¬ ((cap10 5) = 0) → (ok_Rs_add (2 : Int32) ea rar ral cap10 w0 w2) ∧ True))))
set_option maxRecDepth 100000 in
set_option maxHeartbeats 4000000 in
theorem k_Be_seekBalance_149 {p : Program} {l : Launch} {e : Env} {s : State} {m : MethodId} {args : Array Value} {below : List Frame} {meth : Method} {c : Code} {g : GX} {qbe : Nat} {qci : Nat} {qrd : Nat} {qrs : Nat} {qrsr : Nat} {ua : Nat → Nat} {qpa : Nat} {qpae : Nat} {qpar : Nat} {qpau : Nat} {qpab : Nat} {ws0 : va_W} {bap10 : IV} {cap10 : IV} {calp10 : LV} {dap10 : IV} {ea : IV} {eal : LV} {rar : NI} {ral : NL} {w0 : IV} {w1 : IV} {w2 : IV} {w3 : IV} {w4 : IV}  (C : Cx p s m args meth c (inW ws0) g "DecadeBridge$Bench" b_Be_seekBalance (some .int) 6)  : HL_Be_seekBalance_149 p l e s m args below meth c g qbe qci qrd qrs qrsr ua qpa qpae qpar qpau qpab ws0 bap10 cap10 calp10 dap10 ea eal rar ral w0 w1 w2 w3 w4 (sp_Be_seekBalance_149 w0 cap10 bap10 calp10 dap10 ea rar ral w2 ) (ok_Be_seekBalance_149 w0 cap10 bap10 calp10 dap10 ea rar ral w2  ) := by
  intro _ hok z hz H locs ls hP hD hS hl
  obtain ⟨hx, hb, hr, hml, hown, hlk, hts, hK, hZo, hZ⟩ := id C
  unfold sp_Be_seekBalance_149 at hz
  unfold ok_Be_seekBalance_149 at hok
  refine lv_aload_n hx hb d_Be_seekBalance_149 rfl (lv_at hl 0 rfl) ?_
  refine gf C hP 0 0 fkBe rfl (by decide) rfl qf_Be_31 (gBe_0 _ _ _ _ _) d_Be_seekBalance_150 ?_
  refine gf C hP 1 5 fkCi rfl (by decide) rfl qf_Be_119 (gCi_5 _ _ _) d_Be_seekBalance_153 ?_
  refine lv_aload_n hx hb d_Be_seekBalance_156 rfl (lv_at hl 0 rfl) ?_
  refine gf C hP 0 1 fkBe rfl (by decide) rfl qf_Be_22 (gBe_1 _ _ _ _ _) d_Be_seekBalance_157 ?_
  have hs23 := hok.1
  have hok := hok.2
  have hB : SubW g (inW ws0) s (wBe g qbe qci qrd qrs qrsr ua qpa qpae qpar qpau qpab bap10 cap10 calp10 dap10 ea eal rar ral w0 w1 w2 w3 w4) (wPa g qpa qpae qpar qpau qpab w0 w1 w2 w3 w4) [25, 26, 27, 28, 29] _ _ := ⟨rfl, rfl, hP, hD, hS⟩
  refine goI0 hB (run_v C mf_Pa_settings qm_Be_130 (c_Pa_settings l g qpa qpae qpar qpau qpab w0 w1 w2 w3 w4 hs23) rfl rfl ⟨Nat.le_of_ble_eq_true rfl, Nat.le_of_ble_eq_true rfl⟩ ⟨Nat.le_of_ble_eq_true rfl, Nat.le_of_ble_eq_true rfl⟩ hB rfl rfl hl rfl rfl (Nat.le_of_ble_eq_true rfl) d_Be_seekBalance_160) (fun y24 ey24 H locs hP hS => ?_)
  have hz := lett_z hz ey24
  have hok := lett_o hok ey24
  refine lv_iconst (v := 1) hx hb d_Be_seekBalance_163 (by decide) ?_
  refine lv_isub hx hb d_Be_seekBalance_164 ?_
  refine lv_icmp_ne (tgt := 170) hx hb d_Be_seekBalance_165 (by decide) (fun c25 => ?_) (fun c25 => ?_)
  · have hz := hz.trans (if_neg c25)
    have hok := hok.2 c25
    refine lv_aload_n hx hb d_Be_seekBalance_170 rfl (lv_at hl 0 rfl) ?_
    refine gf C hP 0 0 fkBe rfl (by decide) rfl qf_Be_31 (gBe_0 _ _ _ _ _) d_Be_seekBalance_171 ?_
    refine gf C hP 1 5 fkCi rfl (by decide) rfl qf_Be_119 (gCi_5 _ _ _) d_Be_seekBalance_174 ?_
    refine lv_if_ne (tgt := 182) hx hb d_Be_seekBalance_177 (by decide) (fun c26 => ?_) (fun c26 => ?_)
    · have hz := hz.trans (if_neg c26)
      have hok := hok.2 c26
      refine lv_aload_n hx hb d_Be_seekBalance_182 rfl (lv_at hl 0 rfl) ?_
      refine gf C hP 0 6 fkBe rfl (by decide) rfl qf_Be_18 (gBe_6 _ _ _ _ _) d_Be_seekBalance_183 ?_
      refine lv_aload_n hx hb d_Be_seekBalance_186 rfl (lv_at hl 0 rfl) ?_
      refine gf C hP 0 0 fkBe rfl (by decide) rfl qf_Be_31 (gBe_0 _ _ _ _ _) d_Be_seekBalance_187 ?_
      refine lv_iconst (v := 2) hx hb d_Be_seekBalance_190 (by decide) ?_
      have hs27 := hok.1
      have hok := hok.2
      have hB : SubW g (inW ws0) s (wBe g qbe qci qrd qrs qrsr ua qpa qpae qpar qpau qpab bap10 cap10 calp10 dap10 ea eal rar ral w0 w1 w2 w3 w4) (wRsC g qrs qrsr ua qci qpa qpae qpar qpau qpab ea eal rar ral cap10 calp10 w0 w1 w2 w3 w4) [3, 4, 5, 6, 7, 8, 9, 10, 11, 12, 13, 14, 15, 16, 17, 18, 19, 20, 21, 22, 23, 24, 1, 25, 26, 27, 28, 29] _ _ := ⟨rfl, rfl, hP, hD, hS⟩
      refine goV1 hB (run_v C mf_Rs_add qm_Be_126 (c_Rs_add l g qrs qrsr ua qci qpa qpae qpar qpau qpab ea eal rar ral cap10 calp10 w0 w1 w2 w3 w4 (2 : Int32) hs27) rfl rfl ⟨Nat.le_of_ble_eq_true rfl, Nat.le_of_ble_eq_true rfl⟩ ⟨Nat.le_of_ble_eq_true rfl, Nat.le_of_ble_eq_true rfl⟩ hB rfl rfl hl rfl rfl (Nat.le_of_ble_eq_true rfl) d_Be_seekBalance_191) (fun _ => rfl) (fun y28 ey28 H locs hP hD hS => ?_)
      have hP : va_P g.1 vwCl (wBe g qbe qci qrd qrs qrsr ua qpa qpae qpar qpau qpab bap10 cap10 calp10 dap10 y28.1 eal y28.2.1 y28.2.2 w0 w1 w2 w3 w4) H := cP (spq hB.1 hB.2.1 [0, 2] 30 rfl rfl (by decide +kernel) rfl) hP
      have hD : va_D (inW ws0) (wBe g qbe qci qrd qrs qrsr ua qpa qpae qpar qpau qpab bap10 cap10 calp10 dap10 y28.1 eal y28.2.1 y28.2.2 w0 w1 w2 w3 w4) := cD (spq hB.1 hB.2.1 [0, 2] 30 rfl rfl (by decide +kernel) rfl) hD
      have hz := lett_z hz ey28
      refine lv_iconst (v := 2) hx hb d_Be_seekBalance_194 (by decide) ?_
      exact endI1 C hz hP hS d_Be_seekBalance_195
    · have hz := hz.trans (if_pos c26)
      refine lv_iconst (v := 4) hx hb d_Be_seekBalance_180 (by decide) ?_
      exact endI1 C hz hP hS d_Be_seekBalance_181
  · have hz := hz.trans (if_pos c25)
    refine lv_iconst (v := 3) hx hb d_Be_seekBalance_168 (by decide) ?_
    exact endI1 C hz hP hS d_Be_seekBalance_169
noncomputable def sp_Be_seekBalance_143 (x2p10 : Int32) (r10 : Int32 → IV → IV → LV → IV → (Int32 × IV × IV × LV × IV × IV × NI × NL)) (bap143 : IV) (cap143 : IV) (calp143 : LV) (dap143 : IV) : Int32 × IV × IV × LV × IV × IV × NI × NL := lett (x2p10 + (1 : Int32)) fun (v22 : Int32) => r10 v22 bap143 cap143 calp143 dap143
def ok_Be_seekBalance_143 (x2p10 : Int32) (r10 : Int32 → IV → IV → LV → IV → (Int32 × IV × IV × LV × IV × IV × NI × NL)) (q10 : Int32 → IV → IV → LV → IV → Prop) (bap143 : IV) (cap143 : IV) (calp143 : LV) (dap143 : IV) : Prop := lett (x2p10 + (1 : Int32)) fun (v22 : Int32) => q10 v22 bap143 cap143 calp143 dap143
set_option maxRecDepth 100000 in
set_option maxHeartbeats 4000000 in
theorem k_Be_seekBalance_143 {p : Program} {l : Launch} {e : Env} {s : State} {m : MethodId} {args : Array Value} {below : List Frame} {meth : Method} {c : Code} {g : GX} {qbe : Nat} {qci : Nat} {qrd : Nat} {qrs : Nat} {qrsr : Nat} {ua : Nat → Nat} {qpa : Nat} {qpae : Nat} {qpar : Nat} {qpau : Nat} {qpab : Nat} {ws0 : va_W} {ea : IV} {eal : LV} {rar : NI} {ral : NL} {w0 : IV} {w1 : IV} {w2 : IV} {w3 : IV} {w4 : IV} {p1 : Int32} {x2p10 : Int32} {r10 : Int32 → IV → IV → LV → IV → (Int32 × IV × IV × LV × IV × IV × NI × NL)} {q10 : Int32 → IV → IV → LV → IV → Prop} (C : Cx p s m args meth c (inW ws0) g "DecadeBridge$Bench" b_Be_seekBalance (some .int) 6) (ih10 : HL_Be_seekBalance_10 p l e s m args below meth c g qbe qci qrd qrs qrsr ua qpa qpae qpar qpau qpab ws0 ea eal rar ral w0 w1 w2 w3 w4 p1 r10 q10) : HL_Be_seekBalance_143 p l e s m args below meth c g qbe qci qrd qrs qrsr ua qpa qpae qpar qpau qpab ws0 ea eal rar ral w0 w1 w2 w3 w4 p1 x2p10 (sp_Be_seekBalance_143 x2p10 r10) (ok_Be_seekBalance_143 x2p10 r10 q10) := by
  intro bap143 cap143 calp143 dap143 hok z hz H locs ls hP hD hS hl
  obtain ⟨hx, hb, hr, hml, hown, hlk, hts, hK, hZo, hZ⟩ := id C
  unfold sp_Be_seekBalance_143 at hz
  unfold ok_Be_seekBalance_143 at hok
  obtain ⟨v22, ev22⟩ : ∃ y : Int32, y = x2p10 + (1 : Int32) := ⟨_, rfl⟩
  have hz := lett_z hz ev22
  have hok := lett_o hok ev22
  refine lv_iinc (v := v22) (lv' := [(2, .int v22), (0, .ref qbe), (1, .int p1)]) hx hb d_Be_seekBalance_143 hl (k := 2) rfl (by rw [ev22]; rfl) (by decide) rfl (fun ls hl => ?_)
  refine lv_goto (tgt := 10) hx hb d_Be_seekBalance_146 (by decide) ?_
  exact ih10 v22 bap143 cap143 calp143 dap143 hok _ hz _ _ ls hP hD hS (lv_sub hl [1, 2, 0] rfl)
noncomputable def sp_Be_seekBalance_118 (y12 : Int32 × IV × IV × LV × IV) (y5 : Int32) (w0 : IV) (w1 : IV) (w3 : IV) (w4 : IV) (x2p10 : Int32) (r10 : Int32 → IV → IV → LV → IV → (Int32 × IV × IV × LV × IV × IV × NI × NL))  : Int32 × IV × IV × LV × IV × IV × NI × NL := lett (sp_Ci_dial ((y12.2.2.1 5) - y5) y12.2.2.1 w0 w1 w3 w4) fun (y21 : IV) => sp_Be_seekBalance_143 x2p10 r10 y12.2.1 y21 y12.2.2.2.1 y12.2.2.2.2
def ok_Be_seekBalance_118 (y12 : Int32 × IV × IV × LV × IV) (y5 : Int32) (w0 : IV) (w1 : IV) (w3 : IV) (w4 : IV) (x2p10 : Int32) (r10 : Int32 → IV → IV → LV → IV → (Int32 × IV × IV × LV × IV × IV × NI × NL)) (q10 : Int32 → IV → IV → LV → IV → Prop)  : Prop := (ok_Ci_dial ((y12.2.2.1 5) - y5) y12.2.2.1 w0 w1) ∧ lett (sp_Ci_dial ((y12.2.2.1 5) - y5) y12.2.2.1 w0 w1 w3 w4) fun (y21 : IV) => ok_Be_seekBalance_143 x2p10 r10 q10 y12.2.1 y21 y12.2.2.2.1 y12.2.2.2.2
set_option maxRecDepth 100000 in
set_option maxHeartbeats 4000000 in
theorem k_Be_seekBalance_118 {p : Program} {l : Launch} {e : Env} {s : State} {m : MethodId} {args : Array Value} {below : List Frame} {meth : Method} {c : Code} {g : GX} {qbe : Nat} {qci : Nat} {qrd : Nat} {qrs : Nat} {qrsr : Nat} {ua : Nat → Nat} {qpa : Nat} {qpae : Nat} {qpar : Nat} {qpau : Nat} {qpab : Nat} {ws0 : va_W} {y12 : Int32 × IV × IV × LV × IV} {ea : IV} {eal : LV} {rar : NI} {ral : NL} {w0 : IV} {w1 : IV} {w2 : IV} {w3 : IV} {w4 : IV} {p1 : Int32} {x2p10 : Int32} {y5 : Int32} {r10 : Int32 → IV → IV → LV → IV → (Int32 × IV × IV × LV × IV × IV × NI × NL)} {q10 : Int32 → IV → IV → LV → IV → Prop} (C : Cx p s m args meth c (inW ws0) g "DecadeBridge$Bench" b_Be_seekBalance (some .int) 6) (ih10 : HL_Be_seekBalance_10 p l e s m args below meth c g qbe qci qrd qrs qrsr ua qpa qpae qpar qpau qpab ws0 ea eal rar ral w0 w1 w2 w3 w4 p1 r10 q10) : HL_Be_seekBalance_118 p l e s m args below meth c g qbe qci qrd qrs qrsr ua qpa qpae qpar qpau qpab ws0 y12 ea eal rar ral w0 w1 w2 w3 w4 p1 x2p10 y5 (sp_Be_seekBalance_118 y12 y5 w0 w1 w3 w4 x2p10 r10) (ok_Be_seekBalance_118 y12 y5 w0 w1 w3 w4 x2p10 r10 q10) := by
  intro _ hok z hz H locs ls hP hD hS hl
  obtain ⟨hx, hb, hr, hml, hown, hlk, hts, hK, hZo, hZ⟩ := id C
  unfold sp_Be_seekBalance_118 at hz
  unfold ok_Be_seekBalance_118 at hok
  refine lv_aload_n hx hb d_Be_seekBalance_118 rfl (lv_at hl 0 rfl) ?_
  refine gf C hP 0 0 fkBe rfl (by decide) rfl qf_Be_31 (gBe_0 _ _ _ _ _) d_Be_seekBalance_119 ?_
  refine lv_aload_n hx hb d_Be_seekBalance_122 rfl (lv_at hl 0 rfl) ?_
  refine gf C hP 0 0 fkBe rfl (by decide) rfl qf_Be_31 (gBe_0 _ _ _ _ _) d_Be_seekBalance_123 ?_
  refine gf C hP 1 5 fkCi rfl (by decide) rfl qf_Be_119 (gCi_5 _ _ _) d_Be_seekBalance_126 ?_
  refine lv_iload_n hx hb d_Be_seekBalance_129 rfl (lv_at hl 3 rfl) ?_
  refine lv_isub hx hb d_Be_seekBalance_130 ?_
  have hs20 := hok.1
  have hok := hok.2
  have hB : SubW g (inW ws0) s (wBe g qbe qci qrd qrs qrsr ua qpa qpae qpar qpau qpab y12.2.1 y12.2.2.1 y12.2.2.2.1 y12.2.2.2.2 ea eal rar ral w0 w1 w2 w3 w4) (wCi g qci qpa qpae qpar qpau qpab y12.2.2.1 y12.2.2.2.1 w0 w1 w2 w3 w4) [1, 25, 26, 27, 28, 29] _ _ := ⟨rfl, rfl, hP, hD, hS⟩
  refine goV1 hB (run_v C mf_Ci_dial qm_Be_109 (c_Ci_dial l g qci qpa qpae qpar qpau qpab y12.2.2.1 y12.2.2.2.1 w0 w1 w2 w3 w4 ((y12.2.2.1 5) - y5) hs20) rfl rfl ⟨Nat.le_of_ble_eq_true rfl, Nat.le_of_ble_eq_true rfl⟩ ⟨Nat.le_of_ble_eq_true rfl, Nat.le_of_ble_eq_true rfl⟩ hB rfl rfl hl rfl rfl (Nat.le_of_ble_eq_true rfl) d_Be_seekBalance_131) (fun _ => rfl) (fun y21 ey21 H locs hP hD hS => ?_)
  have hP : va_P g.1 vwCl (wBe g qbe qci qrd qrs qrsr ua qpa qpae qpar qpau qpab y12.2.1 y21 y12.2.2.2.1 y12.2.2.2.2 ea eal rar ral w0 w1 w2 w3 w4) H := cP (spq hB.1 hB.2.1 [0, 2, 3, 4, 5, 6, 7, 8, 9, 10, 11, 12, 13, 14, 15, 16, 17, 18, 19, 20, 21, 22, 23, 24] 30 rfl rfl (by decide +kernel) rfl) hP
  have hD : va_D (inW ws0) (wBe g qbe qci qrd qrs qrsr ua qpa qpae qpar qpau qpab y12.2.1 y21 y12.2.2.2.1 y12.2.2.2.2 ea eal rar ral w0 w1 w2 w3 w4) := cD (spq hB.1 hB.2.1 [0, 2, 3, 4, 5, 6, 7, 8, 9, 10, 11, 12, 13, 14, 15, 16, 17, 18, 19, 20, 21, 22, 23, 24] 30 rfl rfl (by decide +kernel) rfl) hD
  have hz := lett_z hz ey21
  have hok := lett_o hok ey21
  refine lv_goto (tgt := 143) hx hb d_Be_seekBalance_134 (by decide) ?_
  exact k_Be_seekBalance_143 C ih10 y12.2.1 y21 y12.2.2.2.1 y12.2.2.2.2 hok _ hz _ _ ls hP hD hS (lv_sub hl [0, 1, 2] rfl)
noncomputable def sp_Be_seekBalance_108 (y12 : Int32 × IV × IV × LV × IV) (y5 : Int32) (w0 : IV) (w1 : IV) (w3 : IV) (w4 : IV) (x2p10 : Int32) (x4p33 : Int32) (r10 : Int32 → IV → IV → LV → IV → (Int32 × IV × IV × LV × IV × IV × NI × NL)) (r33 : Int32 → IV → IV → LV → IV → (Int32 × IV × IV × LV × IV × IV × NI × NL)) (t0p108 : Int32) : Int32 × IV × IV × LV × IV × IV × NI × NL := if t0p108 = (y12.2.2.1 6) then (sp_Be_seekBalance_118 y12 y5 w0 w1 w3 w4 x2p10 r10) else (lett (x4p33 + (1 : Int32)) fun (v19 : Int32) => r33 v19 y12.2.1 y12.2.2.1 y12.2.2.2.1 y12.2.2.2.2)
def ok_Be_seekBalance_108 (y12 : Int32 × IV × IV × LV × IV) (y5 : Int32) (w0 : IV) (w1 : IV) (w3 : IV) (w4 : IV) (x2p10 : Int32) (x4p33 : Int32) (r10 : Int32 → IV → IV → LV → IV → (Int32 × IV × IV × LV × IV × IV × NI × NL)) (r33 : Int32 → IV → IV → LV → IV → (Int32 × IV × IV × LV × IV × IV × NI × NL)) (q10 : Int32 → IV → IV → LV → IV → Prop) (q33 : Int32 → IV → IV → LV → IV → Prop) (t0p108 : Int32) : Prop := ((t0p108 = (y12.2.2.1 6) → ok_Be_seekBalance_118 y12 y5 w0 w1 w3 w4 x2p10 r10 q10) ∧ (¬ (t0p108 = (y12.2.2.1 6)) → lett (x4p33 + (1 : Int32)) fun (v19 : Int32) => q33 v19 y12.2.1 y12.2.2.1 y12.2.2.2.1 y12.2.2.2.2))
set_option maxRecDepth 100000 in
set_option maxHeartbeats 4000000 in
theorem k_Be_seekBalance_108 {p : Program} {l : Launch} {e : Env} {s : State} {m : MethodId} {args : Array Value} {below : List Frame} {meth : Method} {c : Code} {g : GX} {qbe : Nat} {qci : Nat} {qrd : Nat} {qrs : Nat} {qrsr : Nat} {ua : Nat → Nat} {qpa : Nat} {qpae : Nat} {qpar : Nat} {qpau : Nat} {qpab : Nat} {ws0 : va_W} {y12 : Int32 × IV × IV × LV × IV} {ea : IV} {eal : LV} {rar : NI} {ral : NL} {w0 : IV} {w1 : IV} {w2 : IV} {w3 : IV} {w4 : IV} {p1 : Int32} {x2p10 : Int32} {y5 : Int32} {x4p33 : Int32} {r10 : Int32 → IV → IV → LV → IV → (Int32 × IV × IV × LV × IV × IV × NI × NL)} {q10 : Int32 → IV → IV → LV → IV → Prop} {r33 : Int32 → IV → IV → LV → IV → (Int32 × IV × IV × LV × IV × IV × NI × NL)} {q33 : Int32 → IV → IV → LV → IV → Prop} (C : Cx p s m args meth c (inW ws0) g "DecadeBridge$Bench" b_Be_seekBalance (some .int) 6) (ih10 : HL_Be_seekBalance_10 p l e s m args below meth c g qbe qci qrd qrs qrsr ua qpa qpae qpar qpau qpab ws0 ea eal rar ral w0 w1 w2 w3 w4 p1 r10 q10) (ih33 : HL_Be_seekBalance_33 p l e s m args below meth c g qbe qci qrd qrs qrsr ua qpa qpae qpar qpau qpab ws0 ea eal rar ral w0 w1 w2 w3 w4 p1 x2p10 y5 r33 q33) : HL_Be_seekBalance_108 p l e s m args below meth c g qbe qci qrd qrs qrsr ua qpa qpae qpar qpau qpab ws0 y12 ea eal rar ral w0 w1 w2 w3 w4 p1 x2p10 y5 x4p33 (sp_Be_seekBalance_108 y12 y5 w0 w1 w3 w4 x2p10 x4p33 r10 r33) (ok_Be_seekBalance_108 y12 y5 w0 w1 w3 w4 x2p10 x4p33 r10 r33 q10 q33) := by
  intro t0p108 hok z hz H locs ls hP hD hS hl
  obtain ⟨hx, hb, hr, hml, hown, hlk, hts, hK, hZo, hZ⟩ := id C
  unfold sp_Be_seekBalance_108 at hz
  unfold ok_Be_seekBalance_108 at hok
  refine lv_aload_n hx hb d_Be_seekBalance_108 rfl (lv_at hl 0 rfl) ?_
  refine gf C hP 0 0 fkBe rfl (by decide) rfl qf_Be_31 (gBe_0 _ _ _ _ _) d_Be_seekBalance_109 ?_
  refine gf C hP 1 6 fkCi rfl (by decide) rfl qf_Be_105 (gCi_6 _ _ _) d_Be_seekBalance_112 ?_
  refine lv_icmp_ne (tgt := 137) hx hb d_Be_seekBalance_115 (by decide) (fun c18 => ?_) (fun c18 => ?_)
  · have hz := hz.trans (if_neg c18)
    have hok := hok.2 c18
    obtain ⟨v19, ev19⟩ : ∃ y : Int32, y = x4p33 + (1 : Int32) := ⟨_, rfl⟩
    have hz := lett_z hz ev19
    have hok := lett_o hok ev19
    refine lv_iinc (v := v19) (lv' := [(4, .int v19), (0, .ref qbe), (1, .int p1), (2, .int x2p10), (3, .int y5)]) hx hb d_Be_seekBalance_137 hl (k := 4) rfl (by rw [ev19]; rfl) (by decide) rfl (fun ls hl => ?_)
    refine lv_goto (tgt := 33) hx hb d_Be_seekBalance_140 (by decide) ?_
    exact ih33 v19 y12.2.1 y12.2.2.1 y12.2.2.2.1 y12.2.2.2.2 hok _ hz _ _ ls hP hD hS (lv_sub hl [1, 2, 3, 4, 0] rfl)
  · have hz := hz.trans (if_pos c18)
    have hok := hok.1 c18
    exact k_Be_seekBalance_118 C ih10 () hok _ hz _ _ ls hP hD hS (lv_sub hl [0, 1, 2, 3] rfl)
noncomputable def sp_Be_seekBalance_84 (ea : IV) (rar : NI) (ral : NL) (y12 : Int32 × IV × IV × LV × IV) (w0 : IV) (w2 : IV)   : Int32 × IV × IV × LV × IV × IV × NI × NL := lett (sp_Rs_add (1 : Int32) ea rar ral y12.2.2.1 w0 w2) fun (y17 : IV × NI × NL) => ((1 : Int32), (y12.2.1, y12.2.2.1, y12.2.2.2.1, y12.2.2.2.2, y17.1, y17.2.1, y17.2.2))
def ok_Be_seekBalance_84 (ea : IV) (rar : NI) (ral : NL) (y12 : Int32 × IV × IV × LV × IV) (w0 : IV) (w2 : IV)    : Prop := (ok_Rs_add (1 : Int32) ea rar ral y12.2.2.1 w0 w2) ∧ True
set_option maxRecDepth 100000 in
set_option maxHeartbeats 4000000 in
theorem k_Be_seekBalance_84 {p : Program} {l : Launch} {e : Env} {s : State} {m : MethodId} {args : Array Value} {below : List Frame} {meth : Method} {c : Code} {g : GX} {qbe : Nat} {qci : Nat} {qrd : Nat} {qrs : Nat} {qrsr : Nat} {ua : Nat → Nat} {qpa : Nat} {qpae : Nat} {qpar : Nat} {qpau : Nat} {qpab : Nat} {ws0 : va_W} {y12 : Int32 × IV × IV × LV × IV} {ea : IV} {eal : LV} {rar : NI} {ral : NL} {w0 : IV} {w1 : IV} {w2 : IV} {w3 : IV} {w4 : IV}  (C : Cx p s m args meth c (inW ws0) g "DecadeBridge$Bench" b_Be_seekBalance (some .int) 6)  : HL_Be_seekBalance_84 p l e s m args below meth c g qbe qci qrd qrs qrsr ua qpa qpae qpar qpau qpab ws0 y12 ea eal rar ral w0 w1 w2 w3 w4 (sp_Be_seekBalance_84 ea rar ral y12 w0 w2 ) (ok_Be_seekBalance_84 ea rar ral y12 w0 w2  ) := by
  intro _ hok z hz H locs ls hP hD hS hl
  obtain ⟨hx, hb, hr, hml, hown, hlk, hts, hK, hZo, hZ⟩ := id C
  unfold sp_Be_seekBalance_84 at hz
  unfold ok_Be_seekBalance_84 at hok
  refine lv_aload_n hx hb d_Be_seekBalance_84 rfl (lv_at hl 0 rfl) ?_
  refine gf C hP 0 6 fkBe rfl (by decide) rfl qf_Be_18 (gBe_6 _ _ _ _ _) d_Be_seekBalance_85 ?_
  refine lv_aload_n hx hb d_Be_seekBalance_88 rfl (lv_at hl 0 rfl) ?_
  refine gf C hP 0 0 fkBe rfl (by decide) rfl qf_Be_31 (gBe_0 _ _ _ _ _) d_Be_seekBalance_89 ?_
  refine lv_iconst (v := 1) hx hb d_Be_seekBalance_92 (by decide) ?_
  have hs16 := hok.1
  have hok := hok.2
  have hB : SubW g (inW ws0) s (wBe g qbe qci qrd qrs qrsr ua qpa qpae qpar qpau qpab y12.2.1 y12.2.2.1 y12.2.2.2.1 y12.2.2.2.2 ea eal rar ral w0 w1 w2 w3 w4) (wRsC g qrs qrsr ua qci qpa qpae qpar qpau qpab ea eal rar ral y12.2.2.1 y12.2.2.2.1 w0 w1 w2 w3 w4) [3, 4, 5, 6, 7, 8, 9, 10, 11, 12, 13, 14, 15, 16, 17, 18, 19, 20, 21, 22, 23, 24, 1, 25, 26, 27, 28, 29] _ _ := ⟨rfl, rfl, hP, hD, hS⟩
  refine goV1 hB (run_v C mf_Rs_add qm_Be_126 (c_Rs_add l g qrs qrsr ua qci qpa qpae qpar qpau qpab ea eal rar ral y12.2.2.1 y12.2.2.2.1 w0 w1 w2 w3 w4 (1 : Int32) hs16) rfl rfl ⟨Nat.le_of_ble_eq_true rfl, Nat.le_of_ble_eq_true rfl⟩ ⟨Nat.le_of_ble_eq_true rfl, Nat.le_of_ble_eq_true rfl⟩ hB rfl rfl hl rfl rfl (Nat.le_of_ble_eq_true rfl) d_Be_seekBalance_93) (fun _ => rfl) (fun y17 ey17 H locs hP hD hS => ?_)
  have hP : va_P g.1 vwCl (wBe g qbe qci qrd qrs qrsr ua qpa qpae qpar qpau qpab y12.2.1 y12.2.2.1 y12.2.2.2.1 y12.2.2.2.2 y17.1 eal y17.2.1 y17.2.2 w0 w1 w2 w3 w4) H := cP (spq hB.1 hB.2.1 [0, 2] 30 rfl rfl (by decide +kernel) rfl) hP
  have hD : va_D (inW ws0) (wBe g qbe qci qrd qrs qrsr ua qpa qpae qpar qpau qpab y12.2.1 y12.2.2.1 y12.2.2.2.1 y12.2.2.2.2 y17.1 eal y17.2.1 y17.2.2 w0 w1 w2 w3 w4) := cD (spq hB.1 hB.2.1 [0, 2] 30 rfl rfl (by decide +kernel) rfl) hD
  have hz := lett_z hz ey17
  refine lv_iconst (v := 1) hx hb d_Be_seekBalance_96 (by decide) ?_
  exact endI1 C hz hP hS d_Be_seekBalance_97
noncomputable def bd_Be_seekBalance_33 (x2p10 : Int32) (y5 : Int32) (w0 : IV) (w1 : IV) (w3 : IV) (w4 : IV) (p1 : Int32) (ea : IV) (rar : NI) (ral : NL) (w2 : IV) (r10 : Int32 → IV → IV → LV → IV → (Int32 × IV × IV × LV × IV × IV × NI × NL)) (r33 : Int32 → IV → IV → LV → IV → (Int32 × IV × IV × LV × IV × IV × NI × NL)) (x4p33 : Int32) (bap33 : IV) (cap33 : IV) (calp33 : LV) (dap33 : IV) : Int32 × IV × IV × LV × IV × IV × NI × NL := if (9 : Int32) < x4p33 then (sp_Be_seekBalance_143 x2p10 r10 bap33 cap33 calp33 dap33) else (lett (sp_Ci_dial ((cap33 5) + y5) cap33 w0 w1 w3 w4) fun (y8 : IV) => lett (sp_Ci_whyBlocked y8 w0) fun (y9 : Int32) => if y9 = 0 then (lett (sp_Be_takeLook p1 bap33 y8 calp33 dap33 w0 w3 w4) fun (y12 : Int32 × IV × IV × LV × IV) => lett (sp_Be_isNull y12.1 w0) fun (y13 : Int32) => if y13 = 0 then (if y12.1 ≤ 0 then (sp_Be_seekBalance_108 y12 y5 w0 w1 w3 w4 x2p10 x4p33 r10 r33 (0 : Int32)) else (sp_Be_seekBalance_108 y12 y5 w0 w1 w3 w4 x2p10 x4p33 r10 r33 (1 : Int32))) else (sp_Be_seekBalance_84 ea rar ral y12 w0 w2)) else (((5 : Int32), (bap33, y8, calp33, dap33, ea, rar, ral))))
def okb_Be_seekBalance_33 (x2p10 : Int32) (y5 : Int32) (w0 : IV) (w1 : IV) (w3 : IV) (w4 : IV) (p1 : Int32) (ea : IV) (rar : NI) (ral : NL) (w2 : IV) (r10 : Int32 → IV → IV → LV → IV → (Int32 × IV × IV × LV × IV × IV × NI × NL)) (r33 : Int32 → IV → IV → LV → IV → (Int32 × IV × IV × LV × IV × IV × NI × NL)) (q10 : Int32 → IV → IV → LV → IV → Prop) (q33 : Int32 → IV → IV → LV → IV → Prop) (x4p33 : Int32) (bap33 : IV) (cap33 : IV) (calp33 : LV) (dap33 : IV) : Prop := (((9 : Int32) < x4p33 → ok_Be_seekBalance_143 x2p10 r10 q10 bap33 cap33 calp33 dap33) ∧ (¬ ((9 : Int32) < x4p33) → (ok_Ci_dial ((cap33 5) + y5) cap33 w0 w1) ∧ lett (sp_Ci_dial ((cap33 5) + y5) cap33 w0 w1 w3 w4) fun (y8 : IV) => lett (sp_Ci_whyBlocked y8 w0) fun (y9 : Int32) => ((y9 = 0 → (ok_Be_takeLook p1 bap33 y8 calp33 dap33 w0 w3 w4) ∧ lett (sp_Be_takeLook p1 bap33 y8 calp33 dap33 w0 w3 w4) fun (y12 : Int32 × IV × IV × LV × IV) => lett (sp_Be_isNull y12.1 w0) fun (y13 : Int32) => ((y13 = 0 → ((y12.1 ≤ 0 → ok_Be_seekBalance_108 y12 y5 w0 w1 w3 w4 x2p10 x4p33 r10 r33 q10 q33 (0 : Int32)) ∧ (¬ (y12.1 ≤ 0) → ok_Be_seekBalance_108 y12 y5 w0 w1 w3 w4 x2p10 x4p33 r10 r33 q10 q33 (1 : Int32)))) ∧ (¬ (y13 = 0) → ok_Be_seekBalance_84 ea rar ral y12 w0 w2))) ∧ (¬ (y9 = 0) → True))))
noncomputable def sp_Be_seekBalance_33 (x2p10 : Int32) (y5 : Int32) (w0 : IV) (w1 : IV) (w3 : IV) (w4 : IV) (p1 : Int32) (ea : IV) (rar : NI) (ral : NL) (w2 : IV) (r10 : Int32 → IV → IV → LV → IV → (Int32 × IV × IV × LV × IV × IV × NI × NL)) : Nat → Int32 → IV → IV → LV → IV → (Int32 × IV × IV × LV × IV × IV × NI × NL)
  | 0 => fun _ _ _ _ _ => default
  | f + 1 => bd_Be_seekBalance_33 x2p10 y5 w0 w1 w3 w4 p1 ea rar ral w2 r10 (sp_Be_seekBalance_33 x2p10 y5 w0 w1 w3 w4 p1 ea rar ral w2 r10 f)
def ok_Be_seekBalance_33 (x2p10 : Int32) (y5 : Int32) (w0 : IV) (w1 : IV) (w3 : IV) (w4 : IV) (p1 : Int32) (ea : IV) (rar : NI) (ral : NL) (w2 : IV) (r10 : Int32 → IV → IV → LV → IV → (Int32 × IV × IV × LV × IV × IV × NI × NL)) (q10 : Int32 → IV → IV → LV → IV → Prop) : Nat → Int32 → IV → IV → LV → IV → Prop
  | 0 => fun _ _ _ _ _ => False
  | f + 1 => okb_Be_seekBalance_33 x2p10 y5 w0 w1 w3 w4 p1 ea rar ral w2 r10 (sp_Be_seekBalance_33 x2p10 y5 w0 w1 w3 w4 p1 ea rar ral w2 r10 f) q10 (ok_Be_seekBalance_33 x2p10 y5 w0 w1 w3 w4 p1 ea rar ral w2 r10 q10 f)
set_option maxRecDepth 100000 in
set_option maxHeartbeats 4000000 in
theorem kb_Be_seekBalance_33 {p : Program} {l : Launch} {e : Env} {s : State} {m : MethodId} {args : Array Value} {below : List Frame} {meth : Method} {c : Code} {g : GX} {qbe : Nat} {qci : Nat} {qrd : Nat} {qrs : Nat} {qrsr : Nat} {ua : Nat → Nat} {qpa : Nat} {qpae : Nat} {qpar : Nat} {qpau : Nat} {qpab : Nat} {ws0 : va_W} {ea : IV} {eal : LV} {rar : NI} {ral : NL} {w0 : IV} {w1 : IV} {w2 : IV} {w3 : IV} {w4 : IV} {p1 : Int32} {x2p10 : Int32} {y5 : Int32} {r10 : Int32 → IV → IV → LV → IV → (Int32 × IV × IV × LV × IV × IV × NI × NL)} {q10 : Int32 → IV → IV → LV → IV → Prop} (C : Cx p s m args meth c (inW ws0) g "DecadeBridge$Bench" b_Be_seekBalance (some .int) 6) {r33 : Int32 → IV → IV → LV → IV → (Int32 × IV × IV × LV × IV × IV × NI × NL)} {q33 : Int32 → IV → IV → LV → IV → Prop} (ih10 : HL_Be_seekBalance_10 p l e s m args below meth c g qbe qci qrd qrs qrsr ua qpa qpae qpar qpau qpab ws0 ea eal rar ral w0 w1 w2 w3 w4 p1 r10 q10) (ih33 : HL_Be_seekBalance_33 p l e s m args below meth c g qbe qci qrd qrs qrsr ua qpa qpae qpar qpau qpab ws0 ea eal rar ral w0 w1 w2 w3 w4 p1 x2p10 y5 r33 q33) : HL_Be_seekBalance_33 p l e s m args below meth c g qbe qci qrd qrs qrsr ua qpa qpae qpar qpau qpab ws0 ea eal rar ral w0 w1 w2 w3 w4 p1 x2p10 y5 (bd_Be_seekBalance_33 x2p10 y5 w0 w1 w3 w4 p1 ea rar ral w2 r10 r33) (okb_Be_seekBalance_33 x2p10 y5 w0 w1 w3 w4 p1 ea rar ral w2 r10 r33 q10 q33) := by
  intro x4p33 bap33 cap33 calp33 dap33 hok z hz H locs ls hP hD hS hl
  obtain ⟨hx, hb, hr, hml, hown, hlk, hts, hK, hZo, hZ⟩ := id C
  unfold bd_Be_seekBalance_33 at hz
  unfold okb_Be_seekBalance_33 at hok
  refine lv_iload hx hb d_Be_seekBalance_33 (lv_at hl 4 rfl) ?_
  refine lv_bipush (v := 9) hx hb d_Be_seekBalance_35 (by decide) ?_
  refine lv_icmp_gt (tgt := 143) hx hb d_Be_seekBalance_37 (by decide) (fun c6 => ?_) (fun c6 => ?_)
  · have hz := hz.trans (if_pos c6)
    have hok := hok.1 c6
    exact k_Be_seekBalance_143 C ih10 bap33 cap33 calp33 dap33 hok _ hz _ _ ls hP hD hS (lv_sub hl [0, 1, 2] rfl)
  · have hz := hz.trans (if_neg c6)
    have hok := hok.2 c6
    refine lv_aload_n hx hb d_Be_seekBalance_40 rfl (lv_at hl 0 rfl) ?_
    refine gf C hP 0 0 fkBe rfl (by decide) rfl qf_Be_31 (gBe_0 _ _ _ _ _) d_Be_seekBalance_41 ?_
    refine lv_aload_n hx hb d_Be_seekBalance_44 rfl (lv_at hl 0 rfl) ?_
    refine gf C hP 0 0 fkBe rfl (by decide) rfl qf_Be_31 (gBe_0 _ _ _ _ _) d_Be_seekBalance_45 ?_
    refine gf C hP 1 5 fkCi rfl (by decide) rfl qf_Be_119 (gCi_5 _ _ _) d_Be_seekBalance_48 ?_
    refine lv_iload_n hx hb d_Be_seekBalance_51 rfl (lv_at hl 3 rfl) ?_
    refine lv_iadd hx hb d_Be_seekBalance_52 ?_
    have hs7 := hok.1
    have hok := hok.2
    have hB : SubW g (inW ws0) s (wBe g qbe qci qrd qrs qrsr ua qpa qpae qpar qpau qpab bap33 cap33 calp33 dap33 ea eal rar ral w0 w1 w2 w3 w4) (wCi g qci qpa qpae qpar qpau qpab cap33 calp33 w0 w1 w2 w3 w4) [1, 25, 26, 27, 28, 29] _ _ := ⟨rfl, rfl, hP, hD, hS⟩
    refine goV1 hB (run_v C mf_Ci_dial qm_Be_109 (c_Ci_dial l g qci qpa qpae qpar qpau qpab cap33 calp33 w0 w1 w2 w3 w4 ((cap33 5) + y5) hs7) rfl rfl ⟨Nat.le_of_ble_eq_true rfl, Nat.le_of_ble_eq_true rfl⟩ ⟨Nat.le_of_ble_eq_true rfl, Nat.le_of_ble_eq_true rfl⟩ hB rfl rfl hl rfl rfl (Nat.le_of_ble_eq_true rfl) d_Be_seekBalance_53) (fun _ => rfl) (fun y8 ey8 H locs hP hD hS => ?_)
    have hP : va_P g.1 vwCl (wBe g qbe qci qrd qrs qrsr ua qpa qpae qpar qpau qpab bap33 y8 calp33 dap33 ea eal rar ral w0 w1 w2 w3 w4) H := cP (spq hB.1 hB.2.1 [0, 2, 3, 4, 5, 6, 7, 8, 9, 10, 11, 12, 13, 14, 15, 16, 17, 18, 19, 20, 21, 22, 23, 24] 30 rfl rfl (by decide +kernel) rfl) hP
    have hD : va_D (inW ws0) (wBe g qbe qci qrd qrs qrsr ua qpa qpae qpar qpau qpab bap33 y8 calp33 dap33 ea eal rar ral w0 w1 w2 w3 w4) := cD (spq hB.1 hB.2.1 [0, 2, 3, 4, 5, 6, 7, 8, 9, 10, 11, 12, 13, 14, 15, 16, 17, 18, 19, 20, 21, 22, 23, 24] 30 rfl rfl (by decide +kernel) rfl) hD
    have hz := lett_z hz ey8
    have hok := lett_o hok ey8
    refine lv_aload_n hx hb d_Be_seekBalance_56 rfl (lv_at hl 0 rfl) ?_
    refine gf C hP 0 0 fkBe rfl (by decide) rfl qf_Be_31 (gBe_0 _ _ _ _ _) d_Be_seekBalance_57 ?_
    have hB : SubW g (inW ws0) s (wBe g qbe qci qrd qrs qrsr ua qpa qpae qpar qpau qpab bap33 y8 calp33 dap33 ea eal rar ral w0 w1 w2 w3 w4) (wCi g qci qpa qpae qpar qpau qpab y8 calp33 w0 w1 w2 w3 w4) [1, 25, 26, 27, 28, 29] _ _ := ⟨rfl, rfl, hP, hD, hS⟩
    refine goI0 hB (run_v C mf_Ci_whyBlocked qm_Be_98 (c_Ci_whyBlocked l g qci qpa qpae qpar qpau qpab y8 calp33 w0 w1 w2 w3 w4) rfl rfl ⟨Nat.le_of_ble_eq_true rfl, Nat.le_of_ble_eq_true rfl⟩ ⟨Nat.le_of_ble_eq_true rfl, Nat.le_of_ble_eq_true rfl⟩ hB rfl rfl hl rfl rfl (Nat.le_of_ble_eq_true rfl) d_Be_seekBalance_60) (fun y9 ey9 H locs hP hS => ?_)
    have hz := lett_z hz ey9
    have hok := lett_o hok ey9
    refine lv_if_eq (tgt := 68) hx hb d_Be_seekBalance_63 (by decide) (fun c10 => ?_) (fun c10 => ?_)
    · have hz := hz.trans (if_pos c10)
      have hok := hok.1 c10
      refine lv_aload_n hx hb d_Be_seekBalance_68 rfl (lv_at hl 0 rfl) ?_
      refine lv_iload_n hx hb d_Be_seekBalance_69 rfl (lv_at hl 1 rfl) ?_
      have hs11 := hok.1
      have hok := hok.2
      have hB : SubW g (inW ws0) s (wBe g qbe qci qrd qrs qrsr ua qpa qpae qpar qpau qpab bap33 y8 calp33 dap33 ea eal rar ral w0 w1 w2 w3 w4) _ (List.range _) _ _ := (subF hP hD hS)
      refine goIF hB (run_v C mf_Be_takeLook qm_Be_122 (c_Be_takeLook l g qbe qci qrd qrs qrsr ua qpa qpae qpar qpau qpab bap33 y8 calp33 dap33 ea eal rar ral w0 w1 w2 w3 w4 p1 hs11) rfl rfl ⟨Nat.le_of_ble_eq_true rfl, Nat.le_of_ble_eq_true rfl⟩ ⟨Nat.le_of_ble_eq_true rfl, Nat.le_of_ble_eq_true rfl⟩ hB rfl rfl hl rfl rfl (Nat.le_of_ble_eq_true rfl) d_Be_seekBalance_70) (fun _ => rfl) (fun y12 ey12 H locs hP hD hS => ?_)
      have hP : va_P g.1 vwCl (wBe g qbe qci qrd qrs qrsr ua qpa qpae qpar qpau qpab y12.2.1 y12.2.2.1 y12.2.2.2.1 y12.2.2.2.2 ea eal rar ral w0 w1 w2 w3 w4) H := hP
      have hD : va_D (inW ws0) (wBe g qbe qci qrd qrs qrsr ua qpa qpae qpar qpau qpab y12.2.1 y12.2.2.1 y12.2.2.2.1 y12.2.2.2.2 ea eal rar ral w0 w1 w2 w3 w4) := hD
      have hz := lett_z hz ey12
      have hok := lett_o hok ey12
      refine lv_istore (lv' := [(5, .int y12.1), (0, .ref qbe), (1, .int p1), (2, .int x2p10), (3, .int y5), (4, .int x4p33)]) hx hb d_Be_seekBalance_73 hl (by decide) rfl (fun ls hl => ?_)
      refine lv_aload_n hx hb d_Be_seekBalance_75 rfl (lv_at hl 1 rfl) ?_
      refine lv_iload hx hb d_Be_seekBalance_76 (lv_at hl 0 rfl) ?_
      have hB : SubW g (inW ws0) s (wBe g qbe qci qrd qrs qrsr ua qpa qpae qpar qpau qpab y12.2.1 y12.2.2.1 y12.2.2.2.1 y12.2.2.2.2 ea eal rar ral w0 w1 w2 w3 w4) _ (List.range _) _ _ := (subF hP hD hS)
      refine goI0 hB (run_v C mf_Be_isNull qm_Be_72 (c_Be_isNull l g qbe qci qrd qrs qrsr ua qpa qpae qpar qpau qpab y12.2.1 y12.2.2.1 y12.2.2.2.1 y12.2.2.2.2 ea eal rar ral w0 w1 w2 w3 w4 y12.1) rfl rfl ⟨Nat.le_of_ble_eq_true rfl, Nat.le_of_ble_eq_true rfl⟩ ⟨Nat.le_of_ble_eq_true rfl, Nat.le_of_ble_eq_true rfl⟩ hB rfl rfl hl rfl rfl (Nat.le_of_ble_eq_true rfl) d_Be_seekBalance_78) (fun y13 ey13 H locs hP hS => ?_)
      have hz := lett_z hz ey13
      have hok := lett_o hok ey13
      refine lv_if_eq (tgt := 98) hx hb d_Be_seekBalance_81 (by decide) (fun c14 => ?_) (fun c14 => ?_)
      · have hz := hz.trans (if_pos c14)
        have hok := hok.1 c14
        refine lv_iload hx hb d_Be_seekBalance_98 (lv_at hl 0 rfl) ?_
        refine lv_if_le (tgt := 107) hx hb d_Be_seekBalance_100 (by decide) (fun c15 => ?_) (fun c15 => ?_)
        · have hz := hz.trans (if_pos c15)
          have hok := hok.1 c15
          refine lv_iconst (v := 0) hx hb d_Be_seekBalance_107 (by decide) ?_
          exact k_Be_seekBalance_108 C ih10 ih33 (0 : Int32) hok _ hz _ _ ls hP hD hS (lv_sub hl [1, 2, 3, 4, 5] rfl)
        · have hz := hz.trans (if_neg c15)
          have hok := hok.2 c15
          refine lv_iconst (v := 1) hx hb d_Be_seekBalance_103 (by decide) ?_
          refine lv_goto (tgt := 108) hx hb d_Be_seekBalance_104 (by decide) ?_
          exact k_Be_seekBalance_108 C ih10 ih33 (1 : Int32) hok _ hz _ _ ls hP hD hS (lv_sub hl [1, 2, 3, 4, 5] rfl)
      · have hz := hz.trans (if_neg c14)
        have hok := hok.2 c14
        exact k_Be_seekBalance_84 C () hok _ hz _ _ ls hP hD hS (lv_sub hl [1] rfl)
    · have hz := hz.trans (if_neg c10)
      refine lv_iconst (v := 5) hx hb d_Be_seekBalance_66 (by decide) ?_
      exact endI1 C hz hP hS d_Be_seekBalance_67
theorem k_Be_seekBalance_33 {p : Program} {l : Launch} {e : Env} {s : State} {m : MethodId} {args : Array Value} {below : List Frame} {meth : Method} {c : Code} {g : GX} {qbe : Nat} {qci : Nat} {qrd : Nat} {qrs : Nat} {qrsr : Nat} {ua : Nat → Nat} {qpa : Nat} {qpae : Nat} {qpar : Nat} {qpau : Nat} {qpab : Nat} {ws0 : va_W} {ea : IV} {eal : LV} {rar : NI} {ral : NL} {w0 : IV} {w1 : IV} {w2 : IV} {w3 : IV} {w4 : IV} {p1 : Int32} {x2p10 : Int32} {y5 : Int32} {r10 : Int32 → IV → IV → LV → IV → (Int32 × IV × IV × LV × IV × IV × NI × NL)} {q10 : Int32 → IV → IV → LV → IV → Prop} (C : Cx p s m args meth c (inW ws0) g "DecadeBridge$Bench" b_Be_seekBalance (some .int) 6) (f : Nat) (ih10 : HL_Be_seekBalance_10 p l e s m args below meth c g qbe qci qrd qrs qrsr ua qpa qpae qpar qpau qpab ws0 ea eal rar ral w0 w1 w2 w3 w4 p1 r10 q10) : HL_Be_seekBalance_33 p l e s m args below meth c g qbe qci qrd qrs qrsr ua qpa qpae qpar qpau qpab ws0 ea eal rar ral w0 w1 w2 w3 w4 p1 x2p10 y5 (sp_Be_seekBalance_33 x2p10 y5 w0 w1 w3 w4 p1 ea rar ral w2 r10 f) (ok_Be_seekBalance_33 x2p10 y5 w0 w1 w3 w4 p1 ea rar ral w2 r10 q10 f) := by
  induction f with
  | zero => intro x4p33 bap33 cap33 calp33 dap33 hok; exact False.elim hok
  | succ f ih => exact kb_Be_seekBalance_33 C ih10 ih
noncomputable def bd_Be_seekBalance_10 (w0 : IV) (ea : IV) (rar : NI) (ral : NL) (w2 : IV) (w1 : IV) (w3 : IV) (w4 : IV) (p1 : Int32) (r10 : Int32 → IV → IV → LV → IV → (Int32 × IV × IV × LV × IV × IV × NI × NL)) (x2p10 : Int32) (bap10 : IV) (cap10 : IV) (calp10 : LV) (dap10 : IV) : Int32 × IV × IV × LV × IV × IV × NI × NL := if (w0 0) ≤ x2p10 then (sp_Be_seekBalance_149 w0 cap10 bap10 calp10 dap10 ea rar ral w2) else (lett (sp_Pa_weightOf x2p10 w0) fun (y5 : Int32) => sp_Be_seekBalance_33 x2p10 y5 w0 w1 w3 w4 p1 ea rar ral w2 r10 big (1 : Int32) bap10 cap10 calp10 dap10)
def okb_Be_seekBalance_10 (w0 : IV) (ea : IV) (rar : NI) (ral : NL) (w2 : IV) (w1 : IV) (w3 : IV) (w4 : IV) (p1 : Int32) (r10 : Int32 → IV → IV → LV → IV → (Int32 × IV × IV × LV × IV × IV × NI × NL)) (q10 : Int32 → IV → IV → LV → IV → Prop) (x2p10 : Int32) (bap10 : IV) (cap10 : IV) (calp10 : LV) (dap10 : IV) : Prop := (((w0 0) ≤ x2p10 → ok_Be_seekBalance_149 w0 cap10 bap10 calp10 dap10 ea rar ral w2) ∧ (¬ ((w0 0) ≤ x2p10) → (ok_Pa_weightOf x2p10 w0) ∧ lett (sp_Pa_weightOf x2p10 w0) fun (y5 : Int32) => ok_Be_seekBalance_33 x2p10 y5 w0 w1 w3 w4 p1 ea rar ral w2 r10 q10 big (1 : Int32) bap10 cap10 calp10 dap10))
noncomputable def sp_Be_seekBalance_10 (w0 : IV) (ea : IV) (rar : NI) (ral : NL) (w2 : IV) (w1 : IV) (w3 : IV) (w4 : IV) (p1 : Int32)  : Nat → Int32 → IV → IV → LV → IV → (Int32 × IV × IV × LV × IV × IV × NI × NL)
  | 0 => fun _ _ _ _ _ => default
  | f + 1 => bd_Be_seekBalance_10 w0 ea rar ral w2 w1 w3 w4 p1  (sp_Be_seekBalance_10 w0 ea rar ral w2 w1 w3 w4 p1  f)
def ok_Be_seekBalance_10 (w0 : IV) (ea : IV) (rar : NI) (ral : NL) (w2 : IV) (w1 : IV) (w3 : IV) (w4 : IV) (p1 : Int32)   : Nat → Int32 → IV → IV → LV → IV → Prop
  | 0 => fun _ _ _ _ _ => False
  | f + 1 => okb_Be_seekBalance_10 w0 ea rar ral w2 w1 w3 w4 p1  (sp_Be_seekBalance_10 w0 ea rar ral w2 w1 w3 w4 p1  f)  (ok_Be_seekBalance_10 w0 ea rar ral w2 w1 w3 w4 p1   f)
set_option maxRecDepth 100000 in
set_option maxHeartbeats 4000000 in
theorem kb_Be_seekBalance_10 {p : Program} {l : Launch} {e : Env} {s : State} {m : MethodId} {args : Array Value} {below : List Frame} {meth : Method} {c : Code} {g : GX} {qbe : Nat} {qci : Nat} {qrd : Nat} {qrs : Nat} {qrsr : Nat} {ua : Nat → Nat} {qpa : Nat} {qpae : Nat} {qpar : Nat} {qpau : Nat} {qpab : Nat} {ws0 : va_W} {ea : IV} {eal : LV} {rar : NI} {ral : NL} {w0 : IV} {w1 : IV} {w2 : IV} {w3 : IV} {w4 : IV} {p1 : Int32}  (C : Cx p s m args meth c (inW ws0) g "DecadeBridge$Bench" b_Be_seekBalance (some .int) 6) {r10 : Int32 → IV → IV → LV → IV → (Int32 × IV × IV × LV × IV × IV × NI × NL)} {q10 : Int32 → IV → IV → LV → IV → Prop}  (ih10 : HL_Be_seekBalance_10 p l e s m args below meth c g qbe qci qrd qrs qrsr ua qpa qpae qpar qpau qpab ws0 ea eal rar ral w0 w1 w2 w3 w4 p1 r10 q10) : HL_Be_seekBalance_10 p l e s m args below meth c g qbe qci qrd qrs qrsr ua qpa qpae qpar qpau qpab ws0 ea eal rar ral w0 w1 w2 w3 w4 p1 (bd_Be_seekBalance_10 w0 ea rar ral w2 w1 w3 w4 p1  r10) (okb_Be_seekBalance_10 w0 ea rar ral w2 w1 w3 w4 p1  r10  q10) := by
  intro x2p10 bap10 cap10 calp10 dap10 hok z hz H locs ls hP hD hS hl
  obtain ⟨hx, hb, hr, hml, hown, hlk, hts, hK, hZo, hZ⟩ := id C
  unfold bd_Be_seekBalance_10 at hz
  unfold okb_Be_seekBalance_10 at hok
  refine lv_iload_n hx hb d_Be_seekBalance_10 rfl (lv_at hl 2 rfl) ?_
  refine lv_aload_n hx hb d_Be_seekBalance_11 rfl (lv_at hl 0 rfl) ?_
  refine gf C hP 0 1 fkBe rfl (by decide) rfl qf_Be_22 (gBe_1 _ _ _ _ _) d_Be_seekBalance_12 ?_
  refine gf C hP 25 0 fkPa rfl (by decide) rfl qf_Be_113 (gPa_0 _ _ _ _ _) d_Be_seekBalance_15 ?_
  refine lv_icmp_ge (tgt := 149) hx hb d_Be_seekBalance_18 (by decide) (fun c3 => ?_) (fun c3 => ?_)
  · have hz := hz.trans (if_pos c3)
    have hok := hok.1 c3
    exact k_Be_seekBalance_149 C () hok _ hz _ _ ls hP hD hS (lv_sub hl [0] rfl)
  · have hz := hz.trans (if_neg c3)
    have hok := hok.2 c3
    refine lv_aload_n hx hb d_Be_seekBalance_21 rfl (lv_at hl 0 rfl) ?_
    refine gf C hP 0 1 fkBe rfl (by decide) rfl qf_Be_22 (gBe_1 _ _ _ _ _) d_Be_seekBalance_22 ?_
    refine lv_iload_n hx hb d_Be_seekBalance_25 rfl (lv_at hl 2 rfl) ?_
    have hs4 := hok.1
    have hok := hok.2
    have hB : SubW g (inW ws0) s (wBe g qbe qci qrd qrs qrsr ua qpa qpae qpar qpau qpab bap10 cap10 calp10 dap10 ea eal rar ral w0 w1 w2 w3 w4) (wPa g qpa qpae qpar qpau qpab w0 w1 w2 w3 w4) [25, 26, 27, 28, 29] _ _ := ⟨rfl, rfl, hP, hD, hS⟩
    refine goI0 hB (run_v C mf_Pa_weightOf qm_Be_116 (c_Pa_weightOf l g qpa qpae qpar qpau qpab w0 w1 w2 w3 w4 x2p10 hs4) rfl rfl ⟨Nat.le_of_ble_eq_true rfl, Nat.le_of_ble_eq_true rfl⟩ ⟨Nat.le_of_ble_eq_true rfl, Nat.le_of_ble_eq_true rfl⟩ hB rfl rfl hl rfl rfl (Nat.le_of_ble_eq_true rfl) d_Be_seekBalance_26) (fun y5 ey5 H locs hP hS => ?_)
    have hz := lett_z hz ey5
    have hok := lett_o hok ey5
    refine lv_istore_n (lv' := [(3, .int y5), (0, .ref qbe), (1, .int p1), (2, .int x2p10)]) hx hb d_Be_seekBalance_29 rfl hl (by decide) rfl (fun ls hl => ?_)
    refine lv_iconst (v := 1) hx hb d_Be_seekBalance_30 (by decide) ?_
    refine lv_istore (lv' := [(4, .int (1 : Int32)), (3, .int y5), (0, .ref qbe), (1, .int p1), (2, .int x2p10)]) hx hb d_Be_seekBalance_31 hl (by decide) rfl (fun ls hl => ?_)
    exact k_Be_seekBalance_33 C big ih10 (1 : Int32) bap10 cap10 calp10 dap10 hok _ hz _ _ ls hP hD hS (lv_sub hl [2, 3, 4, 1, 0] rfl)
theorem k_Be_seekBalance_10 {p : Program} {l : Launch} {e : Env} {s : State} {m : MethodId} {args : Array Value} {below : List Frame} {meth : Method} {c : Code} {g : GX} {qbe : Nat} {qci : Nat} {qrd : Nat} {qrs : Nat} {qrsr : Nat} {ua : Nat → Nat} {qpa : Nat} {qpae : Nat} {qpar : Nat} {qpau : Nat} {qpab : Nat} {ws0 : va_W} {ea : IV} {eal : LV} {rar : NI} {ral : NL} {w0 : IV} {w1 : IV} {w2 : IV} {w3 : IV} {w4 : IV} {p1 : Int32}  (C : Cx p s m args meth c (inW ws0) g "DecadeBridge$Bench" b_Be_seekBalance (some .int) 6) (f : Nat)  : HL_Be_seekBalance_10 p l e s m args below meth c g qbe qci qrd qrs qrsr ua qpa qpae qpar qpau qpab ws0 ea eal rar ral w0 w1 w2 w3 w4 p1 (sp_Be_seekBalance_10 w0 ea rar ral w2 w1 w3 w4 p1  f) (ok_Be_seekBalance_10 w0 ea rar ral w2 w1 w3 w4 p1   f) := by
  induction f with
  | zero => intro x2p10 bap10 cap10 calp10 dap10 hok; exact False.elim hok
  | succ f ih => exact kb_Be_seekBalance_10 C  ih
noncomputable def sp_Be_seekBalance (p1 : Int32) (ba : IV) (ca : IV) (cal : LV) (da : IV) (ea : IV) (rar : NI) (ral : NL) (w0 : IV) (w1 : IV) (w2 : IV) (w3 : IV) (w4 : IV) : Int32 × IV × IV × LV × IV × IV × NI × NL := lett (sp_Ci_dial (0 : Int32) ca w0 w1 w3 w4) fun (y2 : IV) => sp_Be_seekBalance_10 w0 ea rar ral w2 w1 w3 w4 p1 big (0 : Int32) ba y2 cal da
def ok_Be_seekBalance (p1 : Int32) (ba : IV) (ca : IV) (cal : LV) (da : IV) (ea : IV) (rar : NI) (ral : NL) (w0 : IV) (w1 : IV) (w2 : IV) (w3 : IV) (w4 : IV) : Prop := (ok_Ci_dial (0 : Int32) ca w0 w1) ∧ lett (sp_Ci_dial (0 : Int32) ca w0 w1 w3 w4) fun (y2 : IV) => ok_Be_seekBalance_10 w0 ea rar ral w2 w1 w3 w4 p1 big (0 : Int32) ba y2 cal da
set_option maxRecDepth 100000 in
set_option maxHeartbeats 4000000 in
theorem c_Be_seekBalance (l : Launch) (g : GX) (qbe : Nat) (qci : Nat) (qrd : Nat) (qrs : Nat) (qrsr : Nat) (ua : Nat → Nat) (qpa : Nat) (qpae : Nat) (qpar : Nat) (qpau : Nat) (qpab : Nat) (ba : IV) (ca : IV) (cal : LV) (da : IV) (ea : IV) (eal : LV) (rar : NI) (ral : NL) (w0 : IV) (w1 : IV) (w2 : IV) (w3 : IV) (w4 : IV) (p1 : Int32) (hok : ok_Be_seekBalance p1 ba ca cal da ea rar ral w0 w1 w2 w3 w4) : Met l y_Be_seekBalance (wsY y_Be_seekBalance b_Be_seekBalance 6 (some .int)) rm_Be_seekBalance (CP g [.ref qbe, .int p1] (wBe g qbe qci qrd qrs qrsr ua qpa qpae qpar qpau qpab ba ca cal da ea eal rar ral w0 w1 w2 w3 w4)) (CI g (wBe g qbe qci qrd qrs qrsr ua qpa qpae qpar qpau qpab ba ca cal da ea eal rar ral w0 w1 w2 w3 w4) (fun u : IV × IV × LV × IV × IV × NI × NL => wBe g qbe qci qrd qrs qrsr ua qpa qpae qpar qpau qpab u.1 u.2.1 u.2.2.1 u.2.2.2.1 u.2.2.2.2.1 eal u.2.2.2.2.2.1 u.2.2.2.2.2.2 w0 w1 w2 w3 w4) (sp_Be_seekBalance p1 ba ca cal da ea rar ral w0 w1 w2 w3 w4)) 0 0 (inW (wBe g qbe qci qrd qrs qrsr ua qpa qpae qpar qpau qpab ba ca cal da ea eal rar ral w0 w1 w2 w3 w4)) := by
  refine Met.ofW (cc := b_Be_seekBalance) (maxL := 6) (ret := (some .int)) pn_Be rfl ?_
  intro p e s m args below meth c s₁ B hml hv
  obtain ⟨rfl, C, hP, hD, hS⟩ := enter "DecadeBridge$Bench" rfl B hml hv
  obtain ⟨hx, hb, hr, hml, hown, hlk, hts, hK, hZo, hZ⟩ := id C
  refine entryW (lv := [(0, .ref qbe), (1, .int p1)]) rfl (Nat.le_of_ble_eq_true rfl) (fun ls hl => ?_)
  obtain ⟨z, hz⟩ : ∃ z, z = sp_Be_seekBalance p1 ba ca cal da ea rar ral w0 w1 w2 w3 w4 := ⟨_, rfl⟩
  rw [← hz]
  unfold sp_Be_seekBalance at hz
  unfold ok_Be_seekBalance at hok
  refine lv_aload_n hx hb d_Be_seekBalance_0 rfl (lv_at hl 0 rfl) ?_
  refine gf C hP 0 0 fkBe rfl (by decide) rfl qf_Be_31 (gBe_0 _ _ _ _ _) d_Be_seekBalance_1 ?_
  refine lv_iconst (v := 0) hx hb d_Be_seekBalance_4 (by decide) ?_
  have hs1 := hok.1
  have hok := hok.2
  have hB : SubW g (inW (wBe g qbe qci qrd qrs qrsr ua qpa qpae qpar qpau qpab ba ca cal da ea eal rar ral w0 w1 w2 w3 w4)) s (wBe g qbe qci qrd qrs qrsr ua qpa qpae qpar qpau qpab ba ca cal da ea eal rar ral w0 w1 w2 w3 w4) (wCi g qci qpa qpae qpar qpau qpab ca cal w0 w1 w2 w3 w4) [1, 25, 26, 27, 28, 29] _ _ := ⟨rfl, rfl, hP, hD, hS⟩
  refine goV1 hB (run_v C mf_Ci_dial qm_Be_109 (c_Ci_dial l g qci qpa qpae qpar qpau qpab ca cal w0 w1 w2 w3 w4 (0 : Int32) hs1) rfl rfl ⟨Nat.le_of_ble_eq_true rfl, Nat.le_of_ble_eq_true rfl⟩ ⟨Nat.le_of_ble_eq_true rfl, Nat.le_of_ble_eq_true rfl⟩ hB rfl rfl hl rfl rfl (Nat.le_of_ble_eq_true rfl) d_Be_seekBalance_5) (fun _ => rfl) (fun y2 ey2 H locs hP hD hS => ?_)
  have hP : va_P g.1 vwCl (wBe g qbe qci qrd qrs qrsr ua qpa qpae qpar qpau qpab ba y2 cal da ea eal rar ral w0 w1 w2 w3 w4) H := cP (spq hB.1 hB.2.1 [0, 2, 3, 4, 5, 6, 7, 8, 9, 10, 11, 12, 13, 14, 15, 16, 17, 18, 19, 20, 21, 22, 23, 24] 30 rfl rfl (by decide +kernel) rfl) hP
  have hD : va_D (inW (wBe g qbe qci qrd qrs qrsr ua qpa qpae qpar qpau qpab ba ca cal da ea eal rar ral w0 w1 w2 w3 w4)) (wBe g qbe qci qrd qrs qrsr ua qpa qpae qpar qpau qpab ba y2 cal da ea eal rar ral w0 w1 w2 w3 w4) := cD (spq hB.1 hB.2.1 [0, 2, 3, 4, 5, 6, 7, 8, 9, 10, 11, 12, 13, 14, 15, 16, 17, 18, 19, 20, 21, 22, 23, 24] 30 rfl rfl (by decide +kernel) rfl) hD
  have hz := lett_z hz ey2
  have hok := lett_o hok ey2
  refine lv_iconst (v := 0) hx hb d_Be_seekBalance_8 (by decide) ?_
  refine lv_istore_n (lv' := [(2, .int (0 : Int32)), (0, .ref qbe), (1, .int p1)]) hx hb d_Be_seekBalance_9 rfl hl (by decide) rfl (fun ls hl => ?_)
  exact k_Be_seekBalance_10 C big (0 : Int32) ba y2 cal da hok _ hz _ _ ls hP hD hS (lv_sub hl [1, 2, 0] rfl)
abbrev rm_Ci_reset : Room := { frames := 2, cells := 0, slots := 0, locals := 49 }
noncomputable def sp_Ci_reset (ca : IV) (cal : LV) (w0 : IV) (w1 : IV) (w2 : IV) (w3 : IV) (w4 : IV) : IV × LV := lett (upd ca 3 (w0 11)) fun (ca_1 : IV) => lett (upd ca_1 6 (0 : Int32)) fun (ca_2 : IV) => lett (upd ca_2 7 (0 : Int32)) fun (ca_3 : IV) => lett (upd ca_3 8 (0 : Int32)) fun (ca_4 : IV) => lett (upd ca_4 9 (w0 16)) fun (ca_5 : IV) => lett (upd ca_5 10 (0 : Int32)) fun (ca_6 : IV) => lett (upd ca_6 11 (w0 17)) fun (ca_7 : IV) => lett (vp_updL cal 12 (0 : Int64)) fun (cal_8 : LV) => lett (upd ca_7 4 (2 : Int32)) fun (ca_9 : IV) => lett (sp_Ci_choose (0 : Int32) (0 : Int32) ca_9 w2) fun (y10 : IV) => lett (sp_Ci_dial (0 : Int32) y10 w0 w1 w3 w4) fun (y12 : IV) => (y12, cal_8)
def ok_Ci_reset (ca : IV) (cal : LV) (w0 : IV) (w1 : IV) (w2 : IV) : Prop := lett (upd ca 3 (w0 11)) fun (ca_1 : IV) => lett (upd ca_1 6 (0 : Int32)) fun (ca_2 : IV) => lett (upd ca_2 7 (0 : Int32)) fun (ca_3 : IV) => lett (upd ca_3 8 (0 : Int32)) fun (ca_4 : IV) => lett (upd ca_4 9 (w0 16)) fun (ca_5 : IV) => lett (upd ca_5 10 (0 : Int32)) fun (ca_6 : IV) => lett (upd ca_6 11 (w0 17)) fun (ca_7 : IV) => lett (vp_updL cal 12 (0 : Int64)) fun (cal_8 : LV) => lett (upd ca_7 4 (2 : Int32)) fun (ca_9 : IV) => lett (sp_Ci_choose (0 : Int32) (0 : Int32) ca_9 w2) fun (y10 : IV) => (ok_Ci_dial (0 : Int32) y10 w0 w1) ∧ True
set_option maxRecDepth 100000 in
set_option maxHeartbeats 4000000 in
theorem c_Ci_reset (l : Launch) (g : GX) (qci : Nat) (qpa : Nat) (qpae : Nat) (qpar : Nat) (qpau : Nat) (qpab : Nat) (ca : IV) (cal : LV) (w0 : IV) (w1 : IV) (w2 : IV) (w3 : IV) (w4 : IV)  (hok : ok_Ci_reset ca cal w0 w1 w2) : Met l y_Ci_reset (wsY y_Ci_reset b_Ci_reset 1 none) rm_Ci_reset (CP g [.ref qci] (wCi g qci qpa qpae qpar qpau qpab ca cal w0 w1 w2 w3 w4)) (CV g (wCi g qci qpa qpae qpar qpau qpab ca cal w0 w1 w2 w3 w4) (fun u : IV × LV => wCi g qci qpa qpae qpar qpau qpab u.1 u.2 w0 w1 w2 w3 w4) (sp_Ci_reset ca cal w0 w1 w2 w3 w4)) 0 0 (inW (wCi g qci qpa qpae qpar qpau qpab ca cal w0 w1 w2 w3 w4)) := by
  refine Met.ofW (cc := b_Ci_reset) (maxL := 1) (ret := none) pn_Ci rfl ?_
  intro p e s m args below meth c s₁ B hml hv
  obtain ⟨rfl, C, hP, hD, hS⟩ := enter "DecadeBridge$Circuit" rfl B hml hv
  obtain ⟨hx, hb, hr, hml, hown, hlk, hts, hK, hZo, hZ⟩ := id C
  refine entryW (lv := [(0, .ref qci)]) rfl (Nat.le_of_ble_eq_true rfl) (fun ls hl => ?_)
  obtain ⟨z, hz⟩ : ∃ z, z = sp_Ci_reset ca cal w0 w1 w2 w3 w4 := ⟨_, rfl⟩
  rw [← hz]
  unfold sp_Ci_reset at hz
  unfold ok_Ci_reset at hok
  refine lv_aload_n hx hb d_Ci_reset_0 rfl (lv_at hl 0 rfl) ?_
  refine lv_aload_n hx hb d_Ci_reset_1 rfl (lv_at hl 0 rfl) ?_
  refine gf C hP 0 0 fkCi rfl (by decide) rfl qf_Ci_7 (gCi_0 _ _ _) d_Ci_reset_2 ?_
  refine gf C hP 1 11 fkPa rfl (by decide) rfl qf_Ci_16 (gPa_11 _ _ _ _ _) d_Ci_reset_5 ?_
  refine pfI C hP hD hS 0 3 fkCi rfl (by decide) rfl qf_Ci_22 rfl rfl rfl (Nat.le_of_ble_eq_true rfl) (ff := fun o => fCi qpa o cal) (sCi_3 _ _ _ _) d_Ci_reset_8 (fun ca_1 eca_1 H locs hP hD hS => ?_)
  have hP : va_P g.1 vwCl (wCi g qci qpa qpae qpar qpau qpab ca_1 cal w0 w1 w2 w3 w4) H := hP
  have hD : va_D (inW (wCi g qci qpa qpae qpar qpau qpab ca cal w0 w1 w2 w3 w4)) (wCi g qci qpa qpae qpar qpau qpab ca_1 cal w0 w1 w2 w3 w4) := hD
  have hz := lett_z hz eca_1
  have hok := lett_o hok eca_1
  refine lv_aload_n hx hb d_Ci_reset_11 rfl (lv_at hl 0 rfl) ?_
  refine lv_iconst (v := 0) hx hb d_Ci_reset_12 (by decide) ?_
  refine pfI C hP hD hS 0 6 fkCi rfl (by decide) rfl qf_Ci_23 rfl rfl rfl (Nat.le_of_ble_eq_true rfl) (ff := fun o => fCi qpa o cal) (sCi_6 _ _ _ _) d_Ci_reset_13 (fun ca_2 eca_2 H locs hP hD hS => ?_)
  have hP : va_P g.1 vwCl (wCi g qci qpa qpae qpar qpau qpab ca_2 cal w0 w1 w2 w3 w4) H := hP
  have hD : va_D (inW (wCi g qci qpa qpae qpar qpau qpab ca cal w0 w1 w2 w3 w4)) (wCi g qci qpa qpae qpar qpau qpab ca_2 cal w0 w1 w2 w3 w4) := hD
  have hz := lett_z hz eca_2
  have hok := lett_o hok eca_2
  refine lv_aload_n hx hb d_Ci_reset_16 rfl (lv_at hl 0 rfl) ?_
  refine lv_iconst (v := 0) hx hb d_Ci_reset_17 (by decide) ?_
  refine pfI C hP hD hS 0 7 fkCi rfl (by decide) rfl qf_Ci_27 rfl rfl rfl (Nat.le_of_ble_eq_true rfl) (ff := fun o => fCi qpa o cal) (sCi_7 _ _ _ _) d_Ci_reset_18 (fun ca_3 eca_3 H locs hP hD hS => ?_)
  have hP : va_P g.1 vwCl (wCi g qci qpa qpae qpar qpau qpab ca_3 cal w0 w1 w2 w3 w4) H := hP
  have hD : va_D (inW (wCi g qci qpa qpae qpar qpau qpab ca cal w0 w1 w2 w3 w4)) (wCi g qci qpa qpae qpar qpau qpab ca_3 cal w0 w1 w2 w3 w4) := hD
  have hz := lett_z hz eca_3
  have hok := lett_o hok eca_3
  refine lv_aload_n hx hb d_Ci_reset_21 rfl (lv_at hl 0 rfl) ?_
  refine lv_iconst (v := 0) hx hb d_Ci_reset_22 (by decide) ?_
  refine pfI C hP hD hS 0 8 fkCi rfl (by decide) rfl qf_Ci_30 rfl rfl rfl (Nat.le_of_ble_eq_true rfl) (ff := fun o => fCi qpa o cal) (sCi_8 _ _ _ _) d_Ci_reset_23 (fun ca_4 eca_4 H locs hP hD hS => ?_)
  have hP : va_P g.1 vwCl (wCi g qci qpa qpae qpar qpau qpab ca_4 cal w0 w1 w2 w3 w4) H := hP
  have hD : va_D (inW (wCi g qci qpa qpae qpar qpau qpab ca cal w0 w1 w2 w3 w4)) (wCi g qci qpa qpae qpar qpau qpab ca_4 cal w0 w1 w2 w3 w4) := hD
  have hz := lett_z hz eca_4
  have hok := lett_o hok eca_4
  refine lv_aload_n hx hb d_Ci_reset_26 rfl (lv_at hl 0 rfl) ?_
  refine lv_aload_n hx hb d_Ci_reset_27 rfl (lv_at hl 0 rfl) ?_
  refine gf C hP 0 0 fkCi rfl (by decide) rfl qf_Ci_7 (gCi_0 _ _ _) d_Ci_reset_28 ?_
  refine gf C hP 1 16 fkPa rfl (by decide) rfl qf_Ci_33 (gPa_16 _ _ _ _ _) d_Ci_reset_31 ?_
  refine pfI C hP hD hS 0 9 fkCi rfl (by decide) rfl qf_Ci_36 rfl rfl rfl (Nat.le_of_ble_eq_true rfl) (ff := fun o => fCi qpa o cal) (sCi_9 _ _ _ _) d_Ci_reset_34 (fun ca_5 eca_5 H locs hP hD hS => ?_)
  have hP : va_P g.1 vwCl (wCi g qci qpa qpae qpar qpau qpab ca_5 cal w0 w1 w2 w3 w4) H := hP
  have hD : va_D (inW (wCi g qci qpa qpae qpar qpau qpab ca cal w0 w1 w2 w3 w4)) (wCi g qci qpa qpae qpar qpau qpab ca_5 cal w0 w1 w2 w3 w4) := hD
  have hz := lett_z hz eca_5
  have hok := lett_o hok eca_5
  refine lv_aload_n hx hb d_Ci_reset_37 rfl (lv_at hl 0 rfl) ?_
  refine lv_iconst (v := 0) hx hb d_Ci_reset_38 (by decide) ?_
  refine pfI C hP hD hS 0 10 fkCi rfl (by decide) rfl qf_Ci_37 rfl rfl rfl (Nat.le_of_ble_eq_true rfl) (ff := fun o => fCi qpa o cal) (sCi_10 _ _ _ _) d_Ci_reset_39 (fun ca_6 eca_6 H locs hP hD hS => ?_)
  have hP : va_P g.1 vwCl (wCi g qci qpa qpae qpar qpau qpab ca_6 cal w0 w1 w2 w3 w4) H := hP
  have hD : va_D (inW (wCi g qci qpa qpae qpar qpau qpab ca cal w0 w1 w2 w3 w4)) (wCi g qci qpa qpae qpar qpau qpab ca_6 cal w0 w1 w2 w3 w4) := hD
  have hz := lett_z hz eca_6
  have hok := lett_o hok eca_6
  refine lv_aload_n hx hb d_Ci_reset_42 rfl (lv_at hl 0 rfl) ?_
  refine lv_aload_n hx hb d_Ci_reset_43 rfl (lv_at hl 0 rfl) ?_
  refine gf C hP 0 0 fkCi rfl (by decide) rfl qf_Ci_7 (gCi_0 _ _ _) d_Ci_reset_44 ?_
  refine gf C hP 1 17 fkPa rfl (by decide) rfl qf_Ci_40 (gPa_17 _ _ _ _ _) d_Ci_reset_47 ?_
  refine pfI C hP hD hS 0 11 fkCi rfl (by decide) rfl qf_Ci_43 rfl rfl rfl (Nat.le_of_ble_eq_true rfl) (ff := fun o => fCi qpa o cal) (sCi_11 _ _ _ _) d_Ci_reset_50 (fun ca_7 eca_7 H locs hP hD hS => ?_)
  have hP : va_P g.1 vwCl (wCi g qci qpa qpae qpar qpau qpab ca_7 cal w0 w1 w2 w3 w4) H := hP
  have hD : va_D (inW (wCi g qci qpa qpae qpar qpau qpab ca cal w0 w1 w2 w3 w4)) (wCi g qci qpa qpae qpar qpau qpab ca_7 cal w0 w1 w2 w3 w4) := hD
  have hz := lett_z hz eca_7
  have hok := lett_o hok eca_7
  refine lv_aload_n hx hb d_Ci_reset_53 rfl (lv_at hl 0 rfl) ?_
  refine lv_lconst (v := 0) hx hb d_Ci_reset_54 (by decide) ?_
  refine pfL C hP hD hS 0 12 fkCi rfl (by decide) rfl qf_Ci_46 rfl rfl rfl (Nat.le_of_ble_eq_true rfl) (ff := fun o => fCi qpa ca_7 o) (sCi_12 _ _ _ _) d_Ci_reset_55 (fun cal_8 ecal_8 H locs hP hD hS => ?_)
  have hP : va_P g.1 vwCl (wCi g qci qpa qpae qpar qpau qpab ca_7 cal_8 w0 w1 w2 w3 w4) H := hP
  have hD : va_D (inW (wCi g qci qpa qpae qpar qpau qpab ca cal w0 w1 w2 w3 w4)) (wCi g qci qpa qpae qpar qpau qpab ca_7 cal_8 w0 w1 w2 w3 w4) := hD
  have hz := lett_z hz ecal_8
  have hok := lett_o hok ecal_8
  refine lv_aload_n hx hb d_Ci_reset_58 rfl (lv_at hl 0 rfl) ?_
  refine lv_iconst (v := 2) hx hb d_Ci_reset_59 (by decide) ?_
  refine pfI C hP hD hS 0 4 fkCi rfl (by decide) rfl qf_Ci_50 rfl rfl rfl (Nat.le_of_ble_eq_true rfl) (ff := fun o => fCi qpa o cal_8) (sCi_4 _ _ _ _) d_Ci_reset_60 (fun ca_9 eca_9 H locs hP hD hS => ?_)
  have hP : va_P g.1 vwCl (wCi g qci qpa qpae qpar qpau qpab ca_9 cal_8 w0 w1 w2 w3 w4) H := hP
  have hD : va_D (inW (wCi g qci qpa qpae qpar qpau qpab ca cal w0 w1 w2 w3 w4)) (wCi g qci qpa qpae qpar qpau qpab ca_9 cal_8 w0 w1 w2 w3 w4) := hD
  have hz := lett_z hz eca_9
  have hok := lett_o hok eca_9
  refine lv_aload_n hx hb d_Ci_reset_63 rfl (lv_at hl 0 rfl) ?_
  refine lv_iconst (v := 0) hx hb d_Ci_reset_64 (by decide) ?_
  refine lv_iconst (v := 0) hx hb d_Ci_reset_65 (by decide) ?_
  have hB : SubW g (inW (wCi g qci qpa qpae qpar qpau qpab ca cal w0 w1 w2 w3 w4)) s (wCi g qci qpa qpae qpar qpau qpab ca_9 cal_8 w0 w1 w2 w3 w4) _ (List.range _) _ _ := (subF hP hD hS)
  refine goVF hB (run_v C mf_Ci_choose qm_Ci_53 (c_Ci_choose l g qci qpa qpae qpar qpau qpab ca_9 cal_8 w0 w1 w2 w3 w4 (0 : Int32) (0 : Int32)) rfl rfl ⟨Nat.le_of_ble_eq_true rfl, Nat.le_of_ble_eq_true rfl⟩ ⟨Nat.le_of_ble_eq_true rfl, Nat.le_of_ble_eq_true rfl⟩ hB rfl rfl hl rfl rfl (Nat.le_of_ble_eq_true rfl) d_Ci_reset_66) (fun _ => rfl) (fun y10 ey10 H locs hP hD hS => ?_)
  have hP : va_P g.1 vwCl (wCi g qci qpa qpae qpar qpau qpab y10 cal_8 w0 w1 w2 w3 w4) H := hP
  have hD : va_D (inW (wCi g qci qpa qpae qpar qpau qpab ca cal w0 w1 w2 w3 w4)) (wCi g qci qpa qpae qpar qpau qpab y10 cal_8 w0 w1 w2 w3 w4) := hD
  have hz := lett_z hz ey10
  have hok := lett_o hok ey10
  refine lv_aload_n hx hb d_Ci_reset_69 rfl (lv_at hl 0 rfl) ?_
  refine lv_iconst (v := 0) hx hb d_Ci_reset_70 (by decide) ?_
  have hs11 := hok.1
  have hok := hok.2
  have hB : SubW g (inW (wCi g qci qpa qpae qpar qpau qpab ca cal w0 w1 w2 w3 w4)) s (wCi g qci qpa qpae qpar qpau qpab y10 cal_8 w0 w1 w2 w3 w4) _ (List.range _) _ _ := (subF hP hD hS)
  refine goVF hB (run_v C mf_Ci_dial qm_Ci_57 (c_Ci_dial l g qci qpa qpae qpar qpau qpab y10 cal_8 w0 w1 w2 w3 w4 (0 : Int32) hs11) rfl rfl ⟨Nat.le_of_ble_eq_true rfl, Nat.le_of_ble_eq_true rfl⟩ ⟨Nat.le_of_ble_eq_true rfl, Nat.le_of_ble_eq_true rfl⟩ hB rfl rfl hl rfl rfl (Nat.le_of_ble_eq_true rfl) d_Ci_reset_71) (fun _ => rfl) (fun y12 ey12 H locs hP hD hS => ?_)
  have hP : va_P g.1 vwCl (wCi g qci qpa qpae qpar qpau qpab y12 cal_8 w0 w1 w2 w3 w4) H := hP
  have hD : va_D (inW (wCi g qci qpa qpae qpar qpau qpab ca cal w0 w1 w2 w3 w4)) (wCi g qci qpa qpae qpar qpau qpab y12 cal_8 w0 w1 w2 w3 w4) := hD
  have hz := lett_z hz ey12
  exact endV C hz hP hS d_Ci_reset_74
abbrev rm_Pr_closeBracket : Room := { frames := 3, cells := 0, slots := 0, locals := 64 }
def HL_Pr_closeBracket_54 (p : Program) (l : Launch) (e : Env) (s : State) (m : MethodId) (args : Array Value) (below : List Frame) (meth : Method) (c : Code) (g : GX) (qpr : Nat) (qpro : Nat) (qprf : Nat) (qprs : Nat) (qprb : Nat) (qprn : Nat) (qprt : Nat) (qte : Nat) (qteb : Nat) (ws0 : va_W) (pi_3 : IV) (po : IV) (pf : IV) (ps : IV) (pn : IV) (pt : IV) (y2 : IV) (tb : IV) (sp : IV → (IV × IV × IV)) (ok : IV → Prop) : Prop := ∀ (pbp54 : IV), ok pbp54 → ∀ z : (IV × IV × IV), z = sp pbp54 → ∀ (H : Heap) (locs : List Loc) (ls : Array Slot), va_P g.1 vwCl (wPr g qpr qpro qprf qprs qprb qprn qprt qte qteb pi_3 po pf ps pbp54 pn pt y2 tb) H → va_D (inW ws0) (wPr g qpr qpro qprf qprs qprb qprn qprt qte qteb pi_3 po pf ps pbp54 pn pt y2 tb) → va_S (inW ws0) s.heap H locs → lv_has ls 2 [(0, .ref qpr)] → W p l e rm_Pr_closeBracket s m args below meth c H locs 0 0 (MQ below (CV g ws0 (fun u : IV × IV × IV => wPr g qpr qpro qprf qprs qprb qprn qprt qte qteb u.1 po pf ps u.2.1 pn pt u.2.2 tb) z) args s 0 0 (inW ws0)) (F0 m 54 ls [])
noncomputable def sp_Pr_closeBracket_54 (y2 : IV) (tb : IV) (pi_3 : IV)  (pbp54 : IV) : IV × IV × IV := lett (sp_Te_takeSign (59 : Int32) y2 tb) fun (y9 : IV) => (pi_3, pbp54, y9)
def ok_Pr_closeBracket_54 (y2 : IV) (tb : IV) (pi_3 : IV)   (pbp54 : IV) : Prop := (ok_Te_takeSign (59 : Int32) y2 tb) ∧ True
set_option maxRecDepth 100000 in
set_option maxHeartbeats 4000000 in
theorem k_Pr_closeBracket_54 {p : Program} {l : Launch} {e : Env} {s : State} {m : MethodId} {args : Array Value} {below : List Frame} {meth : Method} {c : Code} {g : GX} {qpr : Nat} {qpro : Nat} {qprf : Nat} {qprs : Nat} {qprb : Nat} {qprn : Nat} {qprt : Nat} {qte : Nat} {qteb : Nat} {ws0 : va_W} {pi_3 : IV} {po : IV} {pf : IV} {ps : IV} {pn : IV} {pt : IV} {y2 : IV} {tb : IV}  (C : Cx p s m args meth c (inW ws0) g "DecadeBridge$Protocol" b_Pr_closeBracket none 2)  : HL_Pr_closeBracket_54 p l e s m args below meth c g qpr qpro qprf qprs qprb qprn qprt qte qteb ws0 pi_3 po pf ps pn pt y2 tb (sp_Pr_closeBracket_54 y2 tb pi_3 ) (ok_Pr_closeBracket_54 y2 tb pi_3  ) := by
  intro pbp54 hok z hz H locs ls hP hD hS hl
  obtain ⟨hx, hb, hr, hml, hown, hlk, hts, hK, hZo, hZ⟩ := id C
  unfold sp_Pr_closeBracket_54 at hz
  unfold ok_Pr_closeBracket_54 at hok
  refine lv_aload_n hx hb d_Pr_closeBracket_54 rfl (lv_at hl 0 rfl) ?_
  refine gf C hP 0 0 fkPr rfl (by decide) rfl qf_Pr_30 (gPr_0 _ _ _ _ _ _ _ _) d_Pr_closeBracket_55 ?_
  refine lv_bipush (v := 59) hx hb d_Pr_closeBracket_58 (by decide) ?_
  have hs8 := hok.1
  have hok := hok.2
  have hB : SubW g (inW ws0) s (wPr g qpr qpro qprf qprs qprb qprn qprt qte qteb pi_3 po pf ps pbp54 pn pt y2 tb) (wTe g qte qteb y2 tb) [7, 8] _ _ := ⟨rfl, rfl, hP, hD, hS⟩
  refine goV1 hB (run_v C mf_Te_takeSign qm_Pr_66 (c_Te_takeSign l g qte qteb y2 tb (59 : Int32) hs8) rfl rfl ⟨Nat.le_of_ble_eq_true rfl, Nat.le_of_ble_eq_true rfl⟩ ⟨Nat.le_of_ble_eq_true rfl, Nat.le_of_ble_eq_true rfl⟩ hB rfl rfl hl rfl rfl (Nat.le_of_ble_eq_true rfl) d_Pr_closeBracket_60) (fun _ => rfl) (fun y9 ey9 H locs hP hD hS => ?_)
  have hP : va_P g.1 vwCl (wPr g qpr qpro qprf qprs qprb qprn qprt qte qteb pi_3 po pf ps pbp54 pn pt y9 tb) H := cP (spq hB.1 hB.2.1 [0, 1, 2, 3, 4, 5, 6] 9 rfl rfl (by decide +kernel) rfl) hP
  have hD : va_D (inW ws0) (wPr g qpr qpro qprf qprs qprb qprn qprt qte qteb pi_3 po pf ps pbp54 pn pt y9 tb) := cD (spq hB.1 hB.2.1 [0, 1, 2, 3, 4, 5, 6] 9 rfl rfl (by decide +kernel) rfl) hD
  have hz := lett_z hz ey9
  exact endV C hz hP hS d_Pr_closeBracket_63
noncomputable def sp_Pr_closeBracket (pi : IV) (pb : IV) (pn : IV) (t : IV) (tb : IV) : IV × IV × IV := lett (sp_Te_takeSign (41 : Int32) t tb) fun (y2 : IV) => lett (upd pi 8 ((pi 8) - (1 : Int32))) fun (pi_3 : IV) => lett (sp_Pr_inRow2 (pi_3 8) pn) fun (y4 : Int32) => if y4 < 0 then (sp_Pr_closeBracket_54 y2 tb pi_3 pb) else (if (30 : Int32) ≤ y4 then (sp_Pr_closeBracket_54 y2 tb pi_3 pb) else (lett (upd pb y4.toNatClampNeg (pi_3 7)) fun (pb_7 : IV) => sp_Pr_closeBracket_54 y2 tb pi_3 pb_7))
def ok_Pr_closeBracket (pi : IV) (pb : IV) (pn : IV) (t : IV) (tb : IV) : Prop := (ok_Te_takeSign (41 : Int32) t tb) ∧ lett (sp_Te_takeSign (41 : Int32) t tb) fun (y2 : IV) => lett (upd pi 8 ((pi 8) - (1 : Int32))) fun (pi_3 : IV) => lett (sp_Pr_inRow2 (pi_3 8) pn) fun (y4 : Int32) => ((y4 < 0 → ok_Pr_closeBracket_54 y2 tb pi_3 pb) ∧ (¬ (y4 < 0) → (((30 : Int32) ≤ y4 → ok_Pr_closeBracket_54 y2 tb pi_3 pb) ∧ (¬ ((30 : Int32) ≤ y4) → lett (upd pb y4.toNatClampNeg (pi_3 7)) fun (pb_7 : IV) => ok_Pr_closeBracket_54 y2 tb pi_3 pb_7))))
set_option maxRecDepth 100000 in
set_option maxHeartbeats 4000000 in
theorem c_Pr_closeBracket (l : Launch) (g : GX) (qpr : Nat) (qpro : Nat) (qprf : Nat) (qprs : Nat) (qprb : Nat) (qprn : Nat) (qprt : Nat) (qte : Nat) (qteb : Nat) (pi : IV) (po : IV) (pf : IV) (ps : IV) (pb : IV) (pn : IV) (pt : IV) (t : IV) (tb : IV)  (hok : ok_Pr_closeBracket pi pb pn t tb) : Met l y_Pr_closeBracket (wsY y_Pr_closeBracket b_Pr_closeBracket 2 none) rm_Pr_closeBracket (CP g [.ref qpr] (wPr g qpr qpro qprf qprs qprb qprn qprt qte qteb pi po pf ps pb pn pt t tb)) (CV g (wPr g qpr qpro qprf qprs qprb qprn qprt qte qteb pi po pf ps pb pn pt t tb) (fun u : IV × IV × IV => wPr g qpr qpro qprf qprs qprb qprn qprt qte qteb u.1 po pf ps u.2.1 pn pt u.2.2 tb) (sp_Pr_closeBracket pi pb pn t tb)) 0 0 (inW (wPr g qpr qpro qprf qprs qprb qprn qprt qte qteb pi po pf ps pb pn pt t tb)) := by
  refine Met.ofW (cc := b_Pr_closeBracket) (maxL := 2) (ret := none) pn_Pr rfl ?_
  intro p e s m args below meth c s₁ B hml hv
  obtain ⟨rfl, C, hP, hD, hS⟩ := enter "DecadeBridge$Protocol" rfl B hml hv
  obtain ⟨hx, hb, hr, hml, hown, hlk, hts, hK, hZo, hZ⟩ := id C
  refine entryW (lv := [(0, .ref qpr)]) rfl (Nat.le_of_ble_eq_true rfl) (fun ls hl => ?_)
  obtain ⟨z, hz⟩ : ∃ z, z = sp_Pr_closeBracket pi pb pn t tb := ⟨_, rfl⟩
  rw [← hz]
  unfold sp_Pr_closeBracket at hz
  unfold ok_Pr_closeBracket at hok
  refine lv_aload_n hx hb d_Pr_closeBracket_0 rfl (lv_at hl 0 rfl) ?_
  refine gf C hP 0 0 fkPr rfl (by decide) rfl qf_Pr_30 (gPr_0 _ _ _ _ _ _ _ _) d_Pr_closeBracket_1 ?_
  refine lv_bipush (v := 41) hx hb d_Pr_closeBracket_4 (by decide) ?_
  have hs1 := hok.1
  have hok := hok.2
  have hB : SubW g (inW (wPr g qpr qpro qprf qprs qprb qprn qprt qte qteb pi po pf ps pb pn pt t tb)) s (wPr g qpr qpro qprf qprs qprb qprn qprt qte qteb pi po pf ps pb pn pt t tb) (wTe g qte qteb t tb) [7, 8] _ _ := ⟨rfl, rfl, hP, hD, hS⟩
  refine goV1 hB (run_v C mf_Te_takeSign qm_Pr_66 (c_Te_takeSign l g qte qteb t tb (41 : Int32) hs1) rfl rfl ⟨Nat.le_of_ble_eq_true rfl, Nat.le_of_ble_eq_true rfl⟩ ⟨Nat.le_of_ble_eq_true rfl, Nat.le_of_ble_eq_true rfl⟩ hB rfl rfl hl rfl rfl (Nat.le_of_ble_eq_true rfl) d_Pr_closeBracket_6) (fun _ => rfl) (fun y2 ey2 H locs hP hD hS => ?_)
  have hP : va_P g.1 vwCl (wPr g qpr qpro qprf qprs qprb qprn qprt qte qteb pi po pf ps pb pn pt y2 tb) H := cP (spq hB.1 hB.2.1 [0, 1, 2, 3, 4, 5, 6] 9 rfl rfl (by decide +kernel) rfl) hP
  have hD : va_D (inW (wPr g qpr qpro qprf qprs qprb qprn qprt qte qteb pi po pf ps pb pn pt t tb)) (wPr g qpr qpro qprf qprs qprb qprn qprt qte qteb pi po pf ps pb pn pt y2 tb) := cD (spq hB.1 hB.2.1 [0, 1, 2, 3, 4, 5, 6] 9 rfl rfl (by decide +kernel) rfl) hD
  have hz := lett_z hz ey2
  have hok := lett_o hok ey2
  refine lv_aload_n hx hb d_Pr_closeBracket_9 rfl (lv_at hl 0 rfl) ?_
  refine lv_dup hx hb d_Pr_closeBracket_10 rfl ?_
  refine gf C hP 0 8 fkPr rfl (by decide) rfl qf_Pr_42 (gPr_8 _ _ _ _ _ _ _ _) d_Pr_closeBracket_11 ?_
  refine lv_iconst (v := 1) hx hb d_Pr_closeBracket_14 (by decide) ?_
  refine lv_isub hx hb d_Pr_closeBracket_15 ?_
  refine pfI C hP hD hS 0 8 fkPr rfl (by decide) rfl qf_Pr_42 rfl rfl rfl (Nat.le_of_ble_eq_true rfl) (ff := fun o => fPr qte qpro qprf qprs qprb qprn qprt o) (sPr_8 _ _ _ _ _ _ _ _ _) d_Pr_closeBracket_16 (fun pi_3 epi_3 H locs hP hD hS => ?_)
  have hP : va_P g.1 vwCl (wPr g qpr qpro qprf qprs qprb qprn qprt qte qteb pi_3 po pf ps pb pn pt y2 tb) H := hP
  have hD : va_D (inW (wPr g qpr qpro qprf qprs qprb qprn qprt qte qteb pi po pf ps pb pn pt t tb)) (wPr g qpr qpro qprf qprs qprb qprn qprt qte qteb pi_3 po pf ps pb pn pt y2 tb) := hD
  have hz := lett_z hz epi_3
  have hok := lett_o hok epi_3
  refine lv_aload_n hx hb d_Pr_closeBracket_19 rfl (lv_at hl 0 rfl) ?_
  refine gf C hP 0 5 fkPr rfl (by decide) rfl qf_Pr_24 (gPr_5 _ _ _ _ _ _ _ _) d_Pr_closeBracket_20 ?_
  refine lv_aload_n hx hb d_Pr_closeBracket_23 rfl (lv_at hl 0 rfl) ?_
  refine gf C hP 0 8 fkPr rfl (by decide) rfl qf_Pr_42 (gPr_8 _ _ _ _ _ _ _ _) d_Pr_closeBracket_24 ?_
  have hB : SubW g (inW (wPr g qpr qpro qprf qprs qprb qprn qprt qte qteb pi po pf ps pb pn pt t tb)) s (wPr g qpr qpro qprf qprs qprb qprn qprt qte qteb pi_3 po pf ps pb pn pt y2 tb) (wA2 g qprn pn) [5] _ _ := ⟨rfl, rfl, hP, hD, hS⟩
  refine goI0 hB (run_s C mf_Pr_inRow qm_Pr_34 (c_Pr_inRow2 l g qprn pn (pi_3 8)) rfl rfl ⟨Nat.le_of_ble_eq_true rfl, Nat.le_of_ble_eq_true rfl⟩ ⟨Nat.le_of_ble_eq_true rfl, Nat.le_of_ble_eq_true rfl⟩ hB hl rfl rfl (Nat.le_of_ble_eq_true rfl) d_Pr_closeBracket_27) (fun y4 ey4 H locs hP hS => ?_)
  have hz := lett_z hz ey4
  have hok := lett_o hok ey4
  refine lv_istore_n (lv' := [(1, .int y4), (0, .ref qpr)]) hx hb d_Pr_closeBracket_30 rfl hl (by decide) rfl (fun ls hl => ?_)
  refine lv_iload_n hx hb d_Pr_closeBracket_31 rfl (lv_at hl 0 rfl) ?_
  refine lv_if_lt (tgt := 54) hx hb d_Pr_closeBracket_32 (by decide) (fun c5 => ?_) (fun c5 => ?_)
  · have hz := hz.trans (if_pos c5)
    have hok := hok.1 c5
    exact k_Pr_closeBracket_54 C pb hok _ hz _ _ ls hP hD hS (lv_sub hl [1] rfl)
  · have hz := hz.trans (if_neg c5)
    have hok := hok.2 c5
    refine lv_iload_n hx hb d_Pr_closeBracket_35 rfl (lv_at hl 0 rfl) ?_
    refine lv_aload_n hx hb d_Pr_closeBracket_36 rfl (lv_at hl 1 rfl) ?_
    refine gf C hP 0 4 fkPr rfl (by decide) rfl qf_Pr_21 (gPr_4 _ _ _ _ _ _ _ _) d_Pr_closeBracket_37 ?_
    refine alen C hP 4 rfl (t0 := 0) rfl (v := 30) rfl d_Pr_closeBracket_40 ?_
    refine lv_icmp_ge (tgt := 54) hx hb d_Pr_closeBracket_41 (by decide) (fun c6 => ?_) (fun c6 => ?_)
    · have hz := hz.trans (if_pos c6)
      have hok := hok.1 c6
      exact k_Pr_closeBracket_54 C pb hok _ hz _ _ ls hP hD hS (lv_sub hl [1] rfl)
    · have hz := hz.trans (if_neg c6)
      have hok := hok.2 c6
      refine lv_aload_n hx hb d_Pr_closeBracket_44 rfl (lv_at hl 1 rfl) ?_
      refine gf C hP 0 4 fkPr rfl (by decide) rfl qf_Pr_21 (gPr_4 _ _ _ _ _ _ _ _) d_Pr_closeBracket_45 ?_
      refine lv_iload_n hx hb d_Pr_closeBracket_48 rfl (lv_at hl 0 rfl) ?_
      refine lv_aload_n hx hb d_Pr_closeBracket_49 rfl (lv_at hl 1 rfl) ?_
      refine gf C hP 0 7 fkPr rfl (by decide) rfl qf_Pr_38 (gPr_7 _ _ _ _ _ _ _ _) d_Pr_closeBracket_50 ?_
      refine stI C hP hD hS 4 rfl (vi2 (vlo c5) (vhi c6) (by decide)) rfl d_Pr_closeBracket_53 (fun pb_7 epb_7 H locs hP hD hS => ?_)
      have hP : va_P g.1 vwCl (wPr g qpr qpro qprf qprs qprb qprn qprt qte qteb pi_3 po pf ps pb_7 pn pt y2 tb) H := hP
      have hD : va_D (inW (wPr g qpr qpro qprf qprs qprb qprn qprt qte qteb pi po pf ps pb pn pt t tb)) (wPr g qpr qpro qprf qprs qprb qprn qprt qte qteb pi_3 po pf ps pb_7 pn pt y2 tb) := hD
      have hz := lett_z hz epb_7
      have hok := lett_o hok epb_7
      exact k_Pr_closeBracket_54 C pb_7 hok _ hz _ _ ls hP hD hS (lv_sub hl [1] rfl)
abbrev rm_Pr_orderHere : Room := { frames := 5, cells := 0, slots := 0, locals := 107 }
def HL_Pr_orderHere_2 (p : Program) (l : Launch) (e : Env) (s : State) (m : MethodId) (args : Array Value) (below : List Frame) (meth : Method) (c : Code) (g : GX) (qpr : Nat) (qpro : Nat) (qprf : Nat) (qprs : Nat) (qprb : Nat) (qprn : Nat) (qprt : Nat) (qte : Nat) (qteb : Nat) (pi : IV) (po : IV) (pf : IV) (ps : IV) (pb : IV) (pn : IV) (pt : IV) (t : IV) (tb : IV) (sp : Int32 → Int32) (ok : Int32 → Prop) : Prop := ∀ (x1p2 : Int32), ok x1p2 → ∀ z : Int32, z = sp x1p2 → ∀ (H : Heap) (locs : List Loc) (ls : Array Slot), va_P g.1 vwCl (wPr g qpr qpro qprf qprs qprb qprn qprt qte qteb pi po pf ps pb pn pt t tb) H → va_D (inW (wPr g qpr qpro qprf qprs qprb qprn qprt qte qteb pi po pf ps pb pn pt t tb)) (wPr g qpr qpro qprf qprs qprb qprn qprt qte qteb pi po pf ps pb pn pt t tb) → va_S (inW (wPr g qpr qpro qprf qprs qprb qprn qprt qte qteb pi po pf ps pb pn pt t tb)) s.heap H locs → lv_has ls 2 [(0, .ref qpr), (1, .int x1p2)] → W p l e rm_Pr_orderHere s m args below meth c H locs 0 0 (MQ below (CI0 g (wPr g qpr qpro qprf qprs qprb qprn qprt qte qteb pi po pf ps pb pn pt t tb) z) args s 0 0 (inW (wPr g qpr qpro qprf qprs qprb qprn qprt qte qteb pi po pf ps pb pn pt t tb))) (F0 m 2 ls [])
noncomputable def bd_Pr_orderHere_2 (t : IV) (tb : IV) (r2 : Int32 → Int32) (x1p2 : Int32) : Int32 := if (9 : Int32) < x1p2 then ((-1 : Int32)) else (lett (sp_Pr_wordOf x1p2) fun (y2 : Nat) => lett (sp_Te_isWord y2 t tb) fun (y4 : Int32) => if y4 = 0 then (lett (x1p2 + (1 : Int32)) fun (v6 : Int32) => r2 v6) else (x1p2))
def okb_Pr_orderHere_2 (t : IV) (tb : IV) (r2 : Int32 → Int32) (q2 : Int32 → Prop) (x1p2 : Int32) : Prop := (((9 : Int32) < x1p2 → True) ∧ (¬ ((9 : Int32) < x1p2) → lett (sp_Pr_wordOf x1p2) fun (y2 : Nat) => (ok_Te_isWord y2 t tb) ∧ lett (sp_Te_isWord y2 t tb) fun (y4 : Int32) => ((y4 = 0 → lett (x1p2 + (1 : Int32)) fun (v6 : Int32) => q2 v6) ∧ (¬ (y4 = 0) → True))))
noncomputable def sp_Pr_orderHere_2 (t : IV) (tb : IV)  : Nat → Int32 → Int32
  | 0 => fun _ => default
  | f + 1 => bd_Pr_orderHere_2 t tb  (sp_Pr_orderHere_2 t tb  f)
def ok_Pr_orderHere_2 (t : IV) (tb : IV)   : Nat → Int32 → Prop
  | 0 => fun _ => False
  | f + 1 => okb_Pr_orderHere_2 t tb  (sp_Pr_orderHere_2 t tb  f)  (ok_Pr_orderHere_2 t tb   f)
set_option maxRecDepth 100000 in
set_option maxHeartbeats 4000000 in
theorem kb_Pr_orderHere_2 {p : Program} {l : Launch} {e : Env} {s : State} {m : MethodId} {args : Array Value} {below : List Frame} {meth : Method} {c : Code} {g : GX} {qpr : Nat} {qpro : Nat} {qprf : Nat} {qprs : Nat} {qprb : Nat} {qprn : Nat} {qprt : Nat} {qte : Nat} {qteb : Nat} {pi : IV} {po : IV} {pf : IV} {ps : IV} {pb : IV} {pn : IV} {pt : IV} {t : IV} {tb : IV}  (C : Cx p s m args meth c (inW (wPr g qpr qpro qprf qprs qprb qprn qprt qte qteb pi po pf ps pb pn pt t tb)) g "DecadeBridge$Protocol" b_Pr_orderHere (some .int) 2) {r2 : Int32 → Int32} {q2 : Int32 → Prop}  (ih2 : HL_Pr_orderHere_2 p l e s m args below meth c g qpr qpro qprf qprs qprb qprn qprt qte qteb pi po pf ps pb pn pt t tb r2 q2) : HL_Pr_orderHere_2 p l e s m args below meth c g qpr qpro qprf qprs qprb qprn qprt qte qteb pi po pf ps pb pn pt t tb (bd_Pr_orderHere_2 t tb  r2) (okb_Pr_orderHere_2 t tb  r2  q2) := by
  intro x1p2 hok z hz H locs ls hP hD hS hl
  obtain ⟨hx, hb, hr, hml, hown, hlk, hts, hK, hZo, hZ⟩ := id C
  unfold bd_Pr_orderHere_2 at hz
  unfold okb_Pr_orderHere_2 at hok
  refine lv_iload_n hx hb d_Pr_orderHere_2 rfl (lv_at hl 1 rfl) ?_
  refine lv_bipush (v := 9) hx hb d_Pr_orderHere_3 (by decide) ?_
  refine lv_icmp_gt (tgt := 30) hx hb d_Pr_orderHere_5 (by decide) (fun c1 => ?_) (fun c1 => ?_)
  · have hz := hz.trans (if_pos c1)
    refine lv_iconst (v := -1) hx hb d_Pr_orderHere_30 (by decide) ?_
    exact endI0 C hz hP hS d_Pr_orderHere_31
  · have hz := hz.trans (if_neg c1)
    have hok := hok.2 c1
    refine lv_aload_n hx hb d_Pr_orderHere_8 rfl (lv_at hl 0 rfl) ?_
    refine gf C hP 0 0 fkPr rfl (by decide) rfl qf_Pr_30 (gPr_0 _ _ _ _ _ _ _ _) d_Pr_orderHere_9 ?_
    refine lv_iload_n hx hb d_Pr_orderHere_12 rfl (lv_at hl 1 rfl) ?_
    have hB : SubW g (inW (wPr g qpr qpro qprf qprs qprb qprn qprt qte qteb pi po pf ps pb pn pt t tb)) s (wPr g qpr qpro qprf qprs qprb qprn qprt qte qteb pi po pf ps pb pn pt t tb) (wNil g ) [] _ _ := ⟨rfl, rfl, hP, hD, hS⟩
    refine goS0 hB (run_s C mf_Pr_wordOf qm_Pr_84 (c_Pr_wordOf l g x1p2) rfl rfl ⟨Nat.le_of_ble_eq_true rfl, Nat.le_of_ble_eq_true rfl⟩ ⟨Nat.le_of_ble_eq_true rfl, Nat.le_of_ble_eq_true rfl⟩ hB hl rfl rfl (Nat.le_of_ble_eq_true rfl) d_Pr_orderHere_13) (fun y2 ey2 H locs hP hS => ?_)
    have hz := lett_z hz ey2
    have hok := lett_o hok ey2
    have hs3 := hok.1
    have hok := hok.2
    have hB : SubW g (inW (wPr g qpr qpro qprf qprs qprb qprn qprt qte qteb pi po pf ps pb pn pt t tb)) s (wPr g qpr qpro qprf qprs qprb qprn qprt qte qteb pi po pf ps pb pn pt t tb) (wTe g qte qteb t tb) [7, 8] _ _ := ⟨rfl, rfl, hP, hD, hS⟩
    refine goI0 hB (run_v C mf_Te_isWord qm_Pr_88 (c_Te_isWord l g qte qteb t tb y2 hs3) rfl rfl ⟨Nat.le_of_ble_eq_true rfl, Nat.le_of_ble_eq_true rfl⟩ ⟨Nat.le_of_ble_eq_true rfl, Nat.le_of_ble_eq_true rfl⟩ hB rfl rfl hl rfl rfl (Nat.le_of_ble_eq_true rfl) d_Pr_orderHere_16) (fun y4 ey4 H locs hP hS => ?_)
    have hz := lett_z hz ey4
    have hok := lett_o hok ey4
    refine lv_if_eq (tgt := 24) hx hb d_Pr_orderHere_19 (by decide) (fun c5 => ?_) (fun c5 => ?_)
    · have hz := hz.trans (if_pos c5)
      have hok := hok.1 c5
      obtain ⟨v6, ev6⟩ : ∃ y : Int32, y = x1p2 + (1 : Int32) := ⟨_, rfl⟩
      have hz := lett_z hz ev6
      have hok := lett_o hok ev6
      refine lv_iinc (v := v6) (lv' := [(1, .int v6), (0, .ref qpr)]) hx hb d_Pr_orderHere_24 hl (k := 1) rfl (by rw [ev6]; rfl) (by decide) rfl (fun ls hl => ?_)
      refine lv_goto (tgt := 2) hx hb d_Pr_orderHere_27 (by decide) ?_
      exact ih2 v6 hok _ hz _ _ ls hP hD hS (lv_sub hl [1, 0] rfl)
    · have hz := hz.trans (if_neg c5)
      refine lv_iload_n hx hb d_Pr_orderHere_22 rfl (lv_at hl 1 rfl) ?_
      exact endI0 C hz hP hS d_Pr_orderHere_23
theorem k_Pr_orderHere_2 {p : Program} {l : Launch} {e : Env} {s : State} {m : MethodId} {args : Array Value} {below : List Frame} {meth : Method} {c : Code} {g : GX} {qpr : Nat} {qpro : Nat} {qprf : Nat} {qprs : Nat} {qprb : Nat} {qprn : Nat} {qprt : Nat} {qte : Nat} {qteb : Nat} {pi : IV} {po : IV} {pf : IV} {ps : IV} {pb : IV} {pn : IV} {pt : IV} {t : IV} {tb : IV}  (C : Cx p s m args meth c (inW (wPr g qpr qpro qprf qprs qprb qprn qprt qte qteb pi po pf ps pb pn pt t tb)) g "DecadeBridge$Protocol" b_Pr_orderHere (some .int) 2) (f : Nat)  : HL_Pr_orderHere_2 p l e s m args below meth c g qpr qpro qprf qprs qprb qprn qprt qte qteb pi po pf ps pb pn pt t tb (sp_Pr_orderHere_2 t tb  f) (ok_Pr_orderHere_2 t tb   f) := by
  induction f with
  | zero => intro x1p2 hok; exact False.elim hok
  | succ f ih => exact kb_Pr_orderHere_2 C  ih
noncomputable def sp_Pr_orderHere (t : IV) (tb : IV) : Int32 := sp_Pr_orderHere_2 t tb big (0 : Int32)
def ok_Pr_orderHere (t : IV) (tb : IV) : Prop := ok_Pr_orderHere_2 t tb big (0 : Int32)
set_option maxRecDepth 100000 in
set_option maxHeartbeats 4000000 in
theorem c_Pr_orderHere (l : Launch) (g : GX) (qpr : Nat) (qpro : Nat) (qprf : Nat) (qprs : Nat) (qprb : Nat) (qprn : Nat) (qprt : Nat) (qte : Nat) (qteb : Nat) (pi : IV) (po : IV) (pf : IV) (ps : IV) (pb : IV) (pn : IV) (pt : IV) (t : IV) (tb : IV)  (hok : ok_Pr_orderHere t tb) : Met l y_Pr_orderHere (wsY y_Pr_orderHere b_Pr_orderHere 2 (some .int)) rm_Pr_orderHere (CP g [.ref qpr] (wPr g qpr qpro qprf qprs qprb qprn qprt qte qteb pi po pf ps pb pn pt t tb)) (CI0 g (wPr g qpr qpro qprf qprs qprb qprn qprt qte qteb pi po pf ps pb pn pt t tb) (sp_Pr_orderHere t tb)) 0 0 (inW (wPr g qpr qpro qprf qprs qprb qprn qprt qte qteb pi po pf ps pb pn pt t tb)) := by
  refine Met.ofW (cc := b_Pr_orderHere) (maxL := 2) (ret := (some .int)) pn_Pr rfl ?_
  intro p e s m args below meth c s₁ B hml hv
  obtain ⟨rfl, C, hP, hD, hS⟩ := enter "DecadeBridge$Protocol" rfl B hml hv
  obtain ⟨hx, hb, hr, hml, hown, hlk, hts, hK, hZo, hZ⟩ := id C
  refine entryW (lv := [(0, .ref qpr)]) rfl (Nat.le_of_ble_eq_true rfl) (fun ls hl => ?_)
  obtain ⟨z, hz⟩ : ∃ z, z = sp_Pr_orderHere t tb := ⟨_, rfl⟩
  rw [← hz]
  unfold sp_Pr_orderHere at hz
  unfold ok_Pr_orderHere at hok
  refine lv_iconst (v := 0) hx hb d_Pr_orderHere_0 (by decide) ?_
  refine lv_istore_n (lv' := [(1, .int (0 : Int32)), (0, .ref qpr)]) hx hb d_Pr_orderHere_1 rfl hl (by decide) rfl (fun ls hl => ?_)
  exact k_Pr_orderHere_2 C big (0 : Int32) hok _ hz _ _ ls hP hD hS (lv_sub hl [1, 0] rfl)
abbrev rm_Pr_takeNumbers : Room := { frames := 5, cells := 0, slots := 0, locals := 107 }
def HL_Pr_takeNumbers_289 (p : Program) (l : Launch) (e : Env) (s : State) (m : MethodId) (args : Array Value) (below : List Frame) (meth : Method) (c : Code) (g : GX) (qpr : Nat) (qpro : Nat) (qprf : Nat) (qprs : Nat) (qprb : Nat) (qprn : Nat) (qprt : Nat) (qte : Nat) (qteb : Nat) (ws0 : va_W) (pi : IV) (po : IV) (pf_4 : IV) (ps_5 : IV) (pb : IV) (pn : IV) (pt : IV) (tb : IV) (sp : IV → (IV × IV × IV)) (ok : IV → Prop) : Prop := ∀ (tp289 : IV), ok tp289 → ∀ z : (IV × IV × IV), z = sp tp289 → ∀ (H : Heap) (locs : List Loc) (ls : Array Slot), va_P g.1 vwCl (wPr g qpr qpro qprf qprs qprb qprn qprt qte qteb pi po pf_4 ps_5 pb pn pt tp289 tb) H → va_D (inW ws0) (wPr g qpr qpro qprf qprs qprb qprn qprt qte qteb pi po pf_4 ps_5 pb pn pt tp289 tb) → va_S (inW ws0) s.heap H locs → lv_has ls 3 [(0, .ref qpr)] → W p l e rm_Pr_takeNumbers s m args below meth c H locs 0 0 (MQ below (CV g ws0 (fun u : IV × IV × IV => wPr g qpr qpro qprf qprs qprb qprn qprt qte qteb pi po u.1 u.2.1 pb pn pt u.2.2 tb) z) args s 0 0 (inW ws0)) (F0 m 289 ls [])
noncomputable def sp_Pr_takeNumbers_289 (tb : IV) (pf_4 : IV) (ps_5 : IV)  (tp289 : IV) : IV × IV × IV := lett (sp_Te_advance tp289 tb) fun (y42 : IV) => (pf_4, ps_5, y42)
def ok_Pr_takeNumbers_289 (tb : IV) (pf_4 : IV) (ps_5 : IV)   (tp289 : IV) : Prop := (ok_Te_advance tp289 tb) ∧ True
set_option maxRecDepth 100000 in
set_option maxHeartbeats 4000000 in
theorem k_Pr_takeNumbers_289 {p : Program} {l : Launch} {e : Env} {s : State} {m : MethodId} {args : Array Value} {below : List Frame} {meth : Method} {c : Code} {g : GX} {qpr : Nat} {qpro : Nat} {qprf : Nat} {qprs : Nat} {qprb : Nat} {qprn : Nat} {qprt : Nat} {qte : Nat} {qteb : Nat} {ws0 : va_W} {pi : IV} {po : IV} {pf_4 : IV} {ps_5 : IV} {pb : IV} {pn : IV} {pt : IV} {tb : IV}  (C : Cx p s m args meth c (inW ws0) g "DecadeBridge$Protocol" b_Pr_takeNumbers none 3)  : HL_Pr_takeNumbers_289 p l e s m args below meth c g qpr qpro qprf qprs qprb qprn qprt qte qteb ws0 pi po pf_4 ps_5 pb pn pt tb (sp_Pr_takeNumbers_289 tb pf_4 ps_5 ) (ok_Pr_takeNumbers_289 tb pf_4 ps_5  ) := by
  intro tp289 hok z hz H locs ls hP hD hS hl
  obtain ⟨hx, hb, hr, hml, hown, hlk, hts, hK, hZo, hZ⟩ := id C
  unfold sp_Pr_takeNumbers_289 at hz
  unfold ok_Pr_takeNumbers_289 at hok
  refine lv_aload_n hx hb d_Pr_takeNumbers_289 rfl (lv_at hl 0 rfl) ?_
  refine gf C hP 0 0 fkPr rfl (by decide) rfl qf_Pr_30 (gPr_0 _ _ _ _ _ _ _ _) d_Pr_takeNumbers_290 ?_
  have hs41 := hok.1
  have hok := hok.2
  have hB : SubW g (inW ws0) s (wPr g qpr qpro qprf qprs qprb qprn qprt qte qteb pi po pf_4 ps_5 pb pn pt tp289 tb) (wTe g qte qteb tp289 tb) [7, 8] _ _ := ⟨rfl, rfl, hP, hD, hS⟩
  refine goV1 hB (run_v C mf_Te_advance qm_Pr_74 (c_Te_advance l g qte qteb tp289 tb hs41) rfl rfl ⟨Nat.le_of_ble_eq_true rfl, Nat.le_of_ble_eq_true rfl⟩ ⟨Nat.le_of_ble_eq_true rfl, Nat.le_of_ble_eq_true rfl⟩ hB rfl rfl hl rfl rfl (Nat.le_of_ble_eq_true rfl) d_Pr_takeNumbers_293) (fun _ => rfl) (fun y42 ey42 H locs hP hD hS => ?_)
  have hP : va_P g.1 vwCl (wPr g qpr qpro qprf qprs qprb qprn qprt qte qteb pi po pf_4 ps_5 pb pn pt y42 tb) H := cP (spq hB.1 hB.2.1 [0, 1, 2, 3, 4, 5, 6] 9 rfl rfl (by decide +kernel) rfl) hP
  have hD : va_D (inW ws0) (wPr g qpr qpro qprf qprs qprb qprn qprt qte qteb pi po pf_4 ps_5 pb pn pt y42 tb) := cD (spq hB.1 hB.2.1 [0, 1, 2, 3, 4, 5, 6] 9 rfl rfl (by decide +kernel) rfl) hD
  have hz := lett_z hz ey42
  refine lv_goto (tgt := 299) hx hb d_Pr_takeNumbers_296 (by decide) ?_
  exact endV C hz hP hS d_Pr_takeNumbers_299
noncomputable def sp_Pr_takeNumbers (p1 : Int32) (p2 : Int32) (pf : IV) (ps : IV) (t : IV) (tb : IV) : IV × IV × IV := if p1 < 0 then ((pf, ps, t)) else (if (30 : Int32) ≤ p1 then ((pf, ps, t)) else (if p1 < (30 : Int32) then (lett (upd pf p1.toNatClampNeg (0 : Int32)) fun (pf_4 : IV) => lett (upd ps p1.toNatClampNeg (0 : Int32)) fun (ps_5 : IV) => if p2 = (0 : Int32) then (lett (sp_Te_number (0 : Int32) (4 : Int32) t tb) fun (y7 : Int32 × IV) => lett (upd pf_4 p1.toNatClampNeg y7.1) fun (pf_8 : IV) => lett (sp_Te_number (0 : Int32) (4 : Int32) y7.2 tb) fun (y10 : Int32 × IV) => lett (upd ps_5 p1.toNatClampNeg y10.1) fun (ps_11 : IV) => (pf_8, ps_11, y10.2)) else (if p2 = (1 : Int32) then (lett (sp_Te_number (0 : Int32) (20000 : Int32) t tb) fun (y13 : Int32 × IV) => lett (upd pf_4 p1.toNatClampNeg y13.1) fun (pf_14 : IV) => (pf_14, ps_5, y13.2)) else (if p2 = (2 : Int32) then (lett (sp_Te_number (0 : Int32) (9999 : Int32) t tb) fun (y16 : Int32 × IV) => lett (upd pf_4 p1.toNatClampNeg y16.1) fun (pf_17 : IV) => (pf_17, ps_5, y16.2)) else (if p2 = (3 : Int32) then ((pf_4, ps_5, t)) else (if p2 = (4 : Int32) then (lett (sp_Te_number (2 : Int32) (3 : Int32) t tb) fun (y19 : Int32 × IV) => lett (upd pf_4 p1.toNatClampNeg y19.1) fun (pf_20 : IV) => (pf_20, ps_5, y19.2)) else (if p2 = (5 : Int32) then (lett (sp_Te_number (1 : Int32) (99 : Int32) t tb) fun (y22 : Int32 × IV) => lett (upd pf_4 p1.toNatClampNeg y22.1) fun (pf_23 : IV) => (pf_23, ps_5, y22.2)) else (if p2 = (6 : Int32) then (lett (sp_Te_number (1 : Int32) (20 : Int32) t tb) fun (y25 : Int32 × IV) => lett (upd pf_4 p1.toNatClampNeg y25.1) fun (pf_26 : IV) => (pf_26, ps_5, y25.2)) else (if p2 = (7 : Int32) then (lett (sp_Te_isWord 18 t tb) fun (y28 : Int32) => if y28 = 0 then ((pf_4, ps_5, t)) else (lett (upd pf_4 p1.toNatClampNeg (1 : Int32)) fun (pf_30 : IV) => lett (sp_Te_advance t tb) fun (y32 : IV) => (pf_30, ps_5, y32))) else (if p2 = (8 : Int32) then (lett (sp_Te_number (0 : Int32) (20 : Int32) t tb) fun (y34 : Int32 × IV) => lett (upd pf_4 p1.toNatClampNeg y34.1) fun (pf_35 : IV) => (pf_35, ps_5, y34.2)) else (if p2 = (9 : Int32) then (lett (sp_Te_isWord 19 t tb) fun (y37 : Int32) => if y37 = 0 then (lett (sp_Te_fail (1 : Int32) t) fun (y39 : IV) => sp_Pr_takeNumbers_289 tb pf_4 ps_5 y39) else (sp_Pr_takeNumbers_289 tb pf_4 ps_5 t)) else ((pf_4, ps_5, t)))))))))))) else ((pf, ps, t))))
def ok_Pr_takeNumbers (p1 : Int32) (p2 : Int32) (pf : IV) (ps : IV) (t : IV) (tb : IV) : Prop := ((p1 < 0 → True) ∧ (¬ (p1 < 0) → (((30 : Int32) ≤ p1 → True) ∧ (¬ ((30 : Int32) ≤ p1) → ((p1 < (30 : Int32) → lett (upd pf p1.toNatClampNeg (0 : Int32)) fun (pf_4 : IV) => lett (upd ps p1.toNatClampNeg (0 : Int32)) fun (ps_5 : IV) => ((p2 = (0 : Int32) → (ok_Te_number (0 : Int32) (4 : Int32) t tb) ∧ lett (sp_Te_number (0 : Int32) (4 : Int32) t tb) fun (y7 : Int32 × IV) => lett (upd pf_4 p1.toNatClampNeg y7.1) fun (pf_8 : IV) => (ok_Te_number (0 : Int32) (4 : Int32) y7.2 tb) ∧ True) ∧ (¬ (p2 = (0 : Int32)) → ((p2 = (1 : Int32) → (ok_Te_number (0 : Int32) (20000 : Int32) t tb) ∧ True) ∧ (¬ (p2 = (1 : Int32)) → ((p2 = (2 : Int32) → (ok_Te_number (0 : Int32) (9999 : Int32) t tb) ∧ True) ∧ (¬ (p2 = (2 : Int32)) → ((p2 = (3 : Int32) → True) ∧ (¬ (p2 = (3 : Int32)) → ((p2 = (4 : Int32) → (ok_Te_number (2 : Int32) (3 : Int32) t tb) ∧ True) ∧ (¬ (p2 = (4 : Int32)) → ((p2 = (5 : Int32) → (ok_Te_number (1 : Int32) (99 : Int32) t tb) ∧ True) ∧ (¬ (p2 = (5 : Int32)) → ((p2 = (6 : Int32) → (ok_Te_number (1 : Int32) (20 : Int32) t tb) ∧ True) ∧ (¬ (p2 = (6 : Int32)) → ((p2 = (7 : Int32) → (ok_Te_isWord 18 t tb) ∧ lett (sp_Te_isWord 18 t tb) fun (y28 : Int32) => ((y28 = 0 → True) ∧ (¬ (y28 = 0) → lett (upd pf_4 p1.toNatClampNeg (1 : Int32)) fun (pf_30 : IV) => (ok_Te_advance t tb) ∧ True))) ∧ (¬ (p2 = (7 : Int32)) → ((p2 = (8 : Int32) → (ok_Te_number (0 : Int32) (20 : Int32) t tb) ∧ True) ∧ (¬ (p2 = (8 : Int32)) → ((p2 = (9 : Int32) → (ok_Te_isWord 19 t tb) ∧ lett (sp_Te_isWord 19 t tb) fun (y37 : Int32) => ((y37 = 0 → lett (sp_Te_fail (1 : Int32) t) fun (y39 : IV) => ok_Pr_takeNumbers_289 tb pf_4 ps_5 y39) ∧ (¬ (y37 = 0) → ok_Pr_takeNumbers_289 tb pf_4 ps_5 t))) ∧ (¬ (p2 = (9 : Int32)) → True))))))))))))))))))))) ∧ (¬ (p1 < (30 : Int32)) → True))))))
set_option maxRecDepth 100000 in
set_option maxHeartbeats 4000000 in
theorem c_Pr_takeNumbers (l : Launch) (g : GX) (qpr : Nat) (qpro : Nat) (qprf : Nat) (qprs : Nat) (qprb : Nat) (qprn : Nat) (qprt : Nat) (qte : Nat) (qteb : Nat) (pi : IV) (po : IV) (pf : IV) (ps : IV) (pb : IV) (pn : IV) (pt : IV) (t : IV) (tb : IV) (p1 : Int32) (p2 : Int32) (hok : ok_Pr_takeNumbers p1 p2 pf ps t tb) : Met l y_Pr_takeNumbers (wsY y_Pr_takeNumbers b_Pr_takeNumbers 3 none) rm_Pr_takeNumbers (CP g [.ref qpr, .int p1, .int p2] (wPr g qpr qpro qprf qprs qprb qprn qprt qte qteb pi po pf ps pb pn pt t tb)) (CV g (wPr g qpr qpro qprf qprs qprb qprn qprt qte qteb pi po pf ps pb pn pt t tb) (fun u : IV × IV × IV => wPr g qpr qpro qprf qprs qprb qprn qprt qte qteb pi po u.1 u.2.1 pb pn pt u.2.2 tb) (sp_Pr_takeNumbers p1 p2 pf ps t tb)) 0 0 (inW (wPr g qpr qpro qprf qprs qprb qprn qprt qte qteb pi po pf ps pb pn pt t tb)) := by
  refine Met.ofW (cc := b_Pr_takeNumbers) (maxL := 3) (ret := none) pn_Pr rfl ?_
  intro p e s m args below meth c s₁ B hml hv
  obtain ⟨rfl, C, hP, hD, hS⟩ := enter "DecadeBridge$Protocol" rfl B hml hv
  obtain ⟨hx, hb, hr, hml, hown, hlk, hts, hK, hZo, hZ⟩ := id C
  refine entryW (lv := [(0, .ref qpr), (1, .int p1), (2, .int p2)]) rfl (Nat.le_of_ble_eq_true rfl) (fun ls hl => ?_)
  obtain ⟨z, hz⟩ : ∃ z, z = sp_Pr_takeNumbers p1 p2 pf ps t tb := ⟨_, rfl⟩
  rw [← hz]
  unfold sp_Pr_takeNumbers at hz
  unfold ok_Pr_takeNumbers at hok
  refine lv_iload_n hx hb d_Pr_takeNumbers_0 rfl (lv_at hl 1 rfl) ?_
  refine lv_if_lt (tgt := 22) hx hb d_Pr_takeNumbers_1 (by decide) (fun c1 => ?_) (fun c1 => ?_)
  · have hz := hz.trans (if_pos c1)
    exact endV C hz hP hS d_Pr_takeNumbers_22
  · have hz := hz.trans (if_neg c1)
    have hok := hok.2 c1
    refine lv_iload_n hx hb d_Pr_takeNumbers_4 rfl (lv_at hl 1 rfl) ?_
    refine lv_aload_n hx hb d_Pr_takeNumbers_5 rfl (lv_at hl 0 rfl) ?_
    refine gf C hP 0 2 fkPr rfl (by decide) rfl qf_Pr_15 (gPr_2 _ _ _ _ _ _ _ _) d_Pr_takeNumbers_6 ?_
    refine alen C hP 2 rfl (t0 := 0) rfl (v := 30) rfl d_Pr_takeNumbers_9 ?_
    refine lv_icmp_ge (tgt := 22) hx hb d_Pr_takeNumbers_10 (by decide) (fun c2 => ?_) (fun c2 => ?_)
    · have hz := hz.trans (if_pos c2)
      exact endV C hz hP hS d_Pr_takeNumbers_22
    · have hz := hz.trans (if_neg c2)
      have hok := hok.2 c2
      refine lv_iload_n hx hb d_Pr_takeNumbers_13 rfl (lv_at hl 1 rfl) ?_
      refine lv_aload_n hx hb d_Pr_takeNumbers_14 rfl (lv_at hl 0 rfl) ?_
      refine gf C hP 0 3 fkPr rfl (by decide) rfl qf_Pr_18 (gPr_3 _ _ _ _ _ _ _ _) d_Pr_takeNumbers_15 ?_
      refine alen C hP 3 rfl (t0 := 0) rfl (v := 30) rfl d_Pr_takeNumbers_18 ?_
      refine lv_icmp_lt (tgt := 23) hx hb d_Pr_takeNumbers_19 (by decide) (fun c3 => ?_) (fun c3 => ?_)
      · have hz := hz.trans (if_pos c3)
        have hok := hok.1 c3
        refine lv_aload_n hx hb d_Pr_takeNumbers_23 rfl (lv_at hl 0 rfl) ?_
        refine gf C hP 0 2 fkPr rfl (by decide) rfl qf_Pr_15 (gPr_2 _ _ _ _ _ _ _ _) d_Pr_takeNumbers_24 ?_
        refine lv_iload_n hx hb d_Pr_takeNumbers_27 rfl (lv_at hl 1 rfl) ?_
        refine lv_iconst (v := 0) hx hb d_Pr_takeNumbers_28 (by decide) ?_
        refine stI C hP hD hS 2 rfl (vi2 (vlo c1) c3 (by decide)) rfl d_Pr_takeNumbers_29 (fun pf_4 epf_4 H locs hP hD hS => ?_)
        have hP : va_P g.1 vwCl (wPr g qpr qpro qprf qprs qprb qprn qprt qte qteb pi po pf_4 ps pb pn pt t tb) H := hP
        have hD : va_D (inW (wPr g qpr qpro qprf qprs qprb qprn qprt qte qteb pi po pf ps pb pn pt t tb)) (wPr g qpr qpro qprf qprs qprb qprn qprt qte qteb pi po pf_4 ps pb pn pt t tb) := hD
        have hz := lett_z hz epf_4
        have hok := lett_o hok epf_4
        refine lv_aload_n hx hb d_Pr_takeNumbers_30 rfl (lv_at hl 0 rfl) ?_
        refine gf C hP 0 3 fkPr rfl (by decide) rfl qf_Pr_18 (gPr_3 _ _ _ _ _ _ _ _) d_Pr_takeNumbers_31 ?_
        refine lv_iload_n hx hb d_Pr_takeNumbers_34 rfl (lv_at hl 1 rfl) ?_
        refine lv_iconst (v := 0) hx hb d_Pr_takeNumbers_35 (by decide) ?_
        refine stI C hP hD hS 3 rfl (vi2 (vlo c1) c3 (by decide)) rfl d_Pr_takeNumbers_36 (fun ps_5 eps_5 H locs hP hD hS => ?_)
        have hP : va_P g.1 vwCl (wPr g qpr qpro qprf qprs qprb qprn qprt qte qteb pi po pf_4 ps_5 pb pn pt t tb) H := hP
        have hD : va_D (inW (wPr g qpr qpro qprf qprs qprb qprn qprt qte qteb pi po pf ps pb pn pt t tb)) (wPr g qpr qpro qprf qprs qprb qprn qprt qte qteb pi po pf_4 ps_5 pb pn pt t tb) := hD
        have hz := lett_z hz eps_5
        have hok := lett_o hok eps_5
        refine lv_iload_n hx hb d_Pr_takeNumbers_37 rfl (lv_at hl 2 rfl) ?_
        by_cases c40_0 : p2 = (0 : Int32)
        · have hz := hz.trans (if_pos c40_0)
          have hok := hok.1 c40_0
          refine lv_tableIn (x := p2) (off := 54) (tgt := 92) hx hb d_Pr_takeNumbers_38 (by rw [c40_0]; decide) (by rw [c40_0]; decide) (by rw [c40_0]; rfl) (by decide) ?_
          refine lv_aload_n hx hb d_Pr_takeNumbers_92 rfl (lv_at hl 0 rfl) ?_
          refine gf C hP 0 2 fkPr rfl (by decide) rfl qf_Pr_15 (gPr_2 _ _ _ _ _ _ _ _) d_Pr_takeNumbers_93 ?_
          refine lv_iload_n hx hb d_Pr_takeNumbers_96 rfl (lv_at hl 1 rfl) ?_
          refine lv_aload_n hx hb d_Pr_takeNumbers_97 rfl (lv_at hl 0 rfl) ?_
          refine gf C hP 0 0 fkPr rfl (by decide) rfl qf_Pr_30 (gPr_0 _ _ _ _ _ _ _ _) d_Pr_takeNumbers_98 ?_
          refine lv_iconst (v := 0) hx hb d_Pr_takeNumbers_101 (by decide) ?_
          refine lv_iconst (v := 4) hx hb d_Pr_takeNumbers_102 (by decide) ?_
          have hs6 := hok.1
          have hok := hok.2
          have hB : SubW g (inW (wPr g qpr qpro qprf qprs qprb qprn qprt qte qteb pi po pf ps pb pn pt t tb)) s (wPr g qpr qpro qprf qprs qprb qprn qprt qte qteb pi po pf_4 ps_5 pb pn pt t tb) (wTe g qte qteb t tb) [7, 8] _ _ := ⟨rfl, rfl, hP, hD, hS⟩
          refine goI1 hB (run_v C mf_Te_number qm_Pr_112 (c_Te_number l g qte qteb t tb (0 : Int32) (4 : Int32) hs6) rfl rfl ⟨Nat.le_of_ble_eq_true rfl, Nat.le_of_ble_eq_true rfl⟩ ⟨Nat.le_of_ble_eq_true rfl, Nat.le_of_ble_eq_true rfl⟩ hB rfl rfl hl rfl rfl (Nat.le_of_ble_eq_true rfl) d_Pr_takeNumbers_103) (fun _ => rfl) (fun y7 ey7 H locs hP hD hS => ?_)
          have hP : va_P g.1 vwCl (wPr g qpr qpro qprf qprs qprb qprn qprt qte qteb pi po pf_4 ps_5 pb pn pt y7.2 tb) H := cP (spq hB.1 hB.2.1 [0, 1, 2, 3, 4, 5, 6] 9 rfl rfl (by decide +kernel) rfl) hP
          have hD : va_D (inW (wPr g qpr qpro qprf qprs qprb qprn qprt qte qteb pi po pf ps pb pn pt t tb)) (wPr g qpr qpro qprf qprs qprb qprn qprt qte qteb pi po pf_4 ps_5 pb pn pt y7.2 tb) := cD (spq hB.1 hB.2.1 [0, 1, 2, 3, 4, 5, 6] 9 rfl rfl (by decide +kernel) rfl) hD
          have hz := lett_z hz ey7
          have hok := lett_o hok ey7
          refine stI C hP hD hS 2 rfl (vi2 (vlo c1) c3 (by decide)) rfl d_Pr_takeNumbers_106 (fun pf_8 epf_8 H locs hP hD hS => ?_)
          have hP : va_P g.1 vwCl (wPr g qpr qpro qprf qprs qprb qprn qprt qte qteb pi po pf_8 ps_5 pb pn pt y7.2 tb) H := hP
          have hD : va_D (inW (wPr g qpr qpro qprf qprs qprb qprn qprt qte qteb pi po pf ps pb pn pt t tb)) (wPr g qpr qpro qprf qprs qprb qprn qprt qte qteb pi po pf_8 ps_5 pb pn pt y7.2 tb) := hD
          have hz := lett_z hz epf_8
          have hok := lett_o hok epf_8
          refine lv_aload_n hx hb d_Pr_takeNumbers_107 rfl (lv_at hl 0 rfl) ?_
          refine gf C hP 0 3 fkPr rfl (by decide) rfl qf_Pr_18 (gPr_3 _ _ _ _ _ _ _ _) d_Pr_takeNumbers_108 ?_
          refine lv_iload_n hx hb d_Pr_takeNumbers_111 rfl (lv_at hl 1 rfl) ?_
          refine lv_aload_n hx hb d_Pr_takeNumbers_112 rfl (lv_at hl 0 rfl) ?_
          refine gf C hP 0 0 fkPr rfl (by decide) rfl qf_Pr_30 (gPr_0 _ _ _ _ _ _ _ _) d_Pr_takeNumbers_113 ?_
          refine lv_iconst (v := 0) hx hb d_Pr_takeNumbers_116 (by decide) ?_
          refine lv_iconst (v := 4) hx hb d_Pr_takeNumbers_117 (by decide) ?_
          have hs9 := hok.1
          have hok := hok.2
          have hB : SubW g (inW (wPr g qpr qpro qprf qprs qprb qprn qprt qte qteb pi po pf ps pb pn pt t tb)) s (wPr g qpr qpro qprf qprs qprb qprn qprt qte qteb pi po pf_8 ps_5 pb pn pt y7.2 tb) (wTe g qte qteb y7.2 tb) [7, 8] _ _ := ⟨rfl, rfl, hP, hD, hS⟩
          refine goI1 hB (run_v C mf_Te_number qm_Pr_112 (c_Te_number l g qte qteb y7.2 tb (0 : Int32) (4 : Int32) hs9) rfl rfl ⟨Nat.le_of_ble_eq_true rfl, Nat.le_of_ble_eq_true rfl⟩ ⟨Nat.le_of_ble_eq_true rfl, Nat.le_of_ble_eq_true rfl⟩ hB rfl rfl hl rfl rfl (Nat.le_of_ble_eq_true rfl) d_Pr_takeNumbers_118) (fun _ => rfl) (fun y10 ey10 H locs hP hD hS => ?_)
          have hP : va_P g.1 vwCl (wPr g qpr qpro qprf qprs qprb qprn qprt qte qteb pi po pf_8 ps_5 pb pn pt y10.2 tb) H := cP (spq hB.1 hB.2.1 [0, 1, 2, 3, 4, 5, 6] 9 rfl rfl (by decide +kernel) rfl) hP
          have hD : va_D (inW (wPr g qpr qpro qprf qprs qprb qprn qprt qte qteb pi po pf ps pb pn pt t tb)) (wPr g qpr qpro qprf qprs qprb qprn qprt qte qteb pi po pf_8 ps_5 pb pn pt y10.2 tb) := cD (spq hB.1 hB.2.1 [0, 1, 2, 3, 4, 5, 6] 9 rfl rfl (by decide +kernel) rfl) hD
          have hz := lett_z hz ey10
          refine stI C hP hD hS 3 rfl (vi2 (vlo c1) c3 (by decide)) rfl d_Pr_takeNumbers_121 (fun ps_11 eps_11 H locs hP hD hS => ?_)
          have hP : va_P g.1 vwCl (wPr g qpr qpro qprf qprs qprb qprn qprt qte qteb pi po pf_8 ps_11 pb pn pt y10.2 tb) H := hP
          have hD : va_D (inW (wPr g qpr qpro qprf qprs qprb qprn qprt qte qteb pi po pf ps pb pn pt t tb)) (wPr g qpr qpro qprf qprs qprb qprn qprt qte qteb pi po pf_8 ps_11 pb pn pt y10.2 tb) := hD
          have hz := lett_z hz eps_11
          refine lv_goto (tgt := 299) hx hb d_Pr_takeNumbers_122 (by decide) ?_
          exact endV C hz hP hS d_Pr_takeNumbers_299
        have hz := hz.trans (if_neg c40_0)
        have hok := hok.2 c40_0
        by_cases c40_1 : p2 = (1 : Int32)
        · have hz := hz.trans (if_pos c40_1)
          have hok := hok.1 c40_1
          refine lv_tableIn (x := p2) (off := 87) (tgt := 125) hx hb d_Pr_takeNumbers_38 (by rw [c40_1]; decide) (by rw [c40_1]; decide) (by rw [c40_1]; rfl) (by decide) ?_
          refine lv_aload_n hx hb d_Pr_takeNumbers_125 rfl (lv_at hl 0 rfl) ?_
          refine gf C hP 0 2 fkPr rfl (by decide) rfl qf_Pr_15 (gPr_2 _ _ _ _ _ _ _ _) d_Pr_takeNumbers_126 ?_
          refine lv_iload_n hx hb d_Pr_takeNumbers_129 rfl (lv_at hl 1 rfl) ?_
          refine lv_aload_n hx hb d_Pr_takeNumbers_130 rfl (lv_at hl 0 rfl) ?_
          refine gf C hP 0 0 fkPr rfl (by decide) rfl qf_Pr_30 (gPr_0 _ _ _ _ _ _ _ _) d_Pr_takeNumbers_131 ?_
          refine lv_iconst (v := 0) hx hb d_Pr_takeNumbers_134 (by decide) ?_
          refine lv_sipush (v := 20000) hx hb d_Pr_takeNumbers_135 (by decide) ?_
          have hs12 := hok.1
          have hok := hok.2
          have hB : SubW g (inW (wPr g qpr qpro qprf qprs qprb qprn qprt qte qteb pi po pf ps pb pn pt t tb)) s (wPr g qpr qpro qprf qprs qprb qprn qprt qte qteb pi po pf_4 ps_5 pb pn pt t tb) (wTe g qte qteb t tb) [7, 8] _ _ := ⟨rfl, rfl, hP, hD, hS⟩
          refine goI1 hB (run_v C mf_Te_number qm_Pr_112 (c_Te_number l g qte qteb t tb (0 : Int32) (20000 : Int32) hs12) rfl rfl ⟨Nat.le_of_ble_eq_true rfl, Nat.le_of_ble_eq_true rfl⟩ ⟨Nat.le_of_ble_eq_true rfl, Nat.le_of_ble_eq_true rfl⟩ hB rfl rfl hl rfl rfl (Nat.le_of_ble_eq_true rfl) d_Pr_takeNumbers_138) (fun _ => rfl) (fun y13 ey13 H locs hP hD hS => ?_)
          have hP : va_P g.1 vwCl (wPr g qpr qpro qprf qprs qprb qprn qprt qte qteb pi po pf_4 ps_5 pb pn pt y13.2 tb) H := cP (spq hB.1 hB.2.1 [0, 1, 2, 3, 4, 5, 6] 9 rfl rfl (by decide +kernel) rfl) hP
          have hD : va_D (inW (wPr g qpr qpro qprf qprs qprb qprn qprt qte qteb pi po pf ps pb pn pt t tb)) (wPr g qpr qpro qprf qprs qprb qprn qprt qte qteb pi po pf_4 ps_5 pb pn pt y13.2 tb) := cD (spq hB.1 hB.2.1 [0, 1, 2, 3, 4, 5, 6] 9 rfl rfl (by decide +kernel) rfl) hD
          have hz := lett_z hz ey13
          refine stI C hP hD hS 2 rfl (vi2 (vlo c1) c3 (by decide)) rfl d_Pr_takeNumbers_141 (fun pf_14 epf_14 H locs hP hD hS => ?_)
          have hP : va_P g.1 vwCl (wPr g qpr qpro qprf qprs qprb qprn qprt qte qteb pi po pf_14 ps_5 pb pn pt y13.2 tb) H := hP
          have hD : va_D (inW (wPr g qpr qpro qprf qprs qprb qprn qprt qte qteb pi po pf ps pb pn pt t tb)) (wPr g qpr qpro qprf qprs qprb qprn qprt qte qteb pi po pf_14 ps_5 pb pn pt y13.2 tb) := hD
          have hz := lett_z hz epf_14
          refine lv_goto (tgt := 299) hx hb d_Pr_takeNumbers_142 (by decide) ?_
          exact endV C hz hP hS d_Pr_takeNumbers_299
        have hz := hz.trans (if_neg c40_1)
        have hok := hok.2 c40_1
        by_cases c40_2 : p2 = (2 : Int32)
        · have hz := hz.trans (if_pos c40_2)
          have hok := hok.1 c40_2
          refine lv_tableIn (x := p2) (off := 107) (tgt := 145) hx hb d_Pr_takeNumbers_38 (by rw [c40_2]; decide) (by rw [c40_2]; decide) (by rw [c40_2]; rfl) (by decide) ?_
          refine lv_aload_n hx hb d_Pr_takeNumbers_145 rfl (lv_at hl 0 rfl) ?_
          refine gf C hP 0 2 fkPr rfl (by decide) rfl qf_Pr_15 (gPr_2 _ _ _ _ _ _ _ _) d_Pr_takeNumbers_146 ?_
          refine lv_iload_n hx hb d_Pr_takeNumbers_149 rfl (lv_at hl 1 rfl) ?_
          refine lv_aload_n hx hb d_Pr_takeNumbers_150 rfl (lv_at hl 0 rfl) ?_
          refine gf C hP 0 0 fkPr rfl (by decide) rfl qf_Pr_30 (gPr_0 _ _ _ _ _ _ _ _) d_Pr_takeNumbers_151 ?_
          refine lv_iconst (v := 0) hx hb d_Pr_takeNumbers_154 (by decide) ?_
          refine lv_sipush (v := 9999) hx hb d_Pr_takeNumbers_155 (by decide) ?_
          have hs15 := hok.1
          have hok := hok.2
          have hB : SubW g (inW (wPr g qpr qpro qprf qprs qprb qprn qprt qte qteb pi po pf ps pb pn pt t tb)) s (wPr g qpr qpro qprf qprs qprb qprn qprt qte qteb pi po pf_4 ps_5 pb pn pt t tb) (wTe g qte qteb t tb) [7, 8] _ _ := ⟨rfl, rfl, hP, hD, hS⟩
          refine goI1 hB (run_v C mf_Te_number qm_Pr_112 (c_Te_number l g qte qteb t tb (0 : Int32) (9999 : Int32) hs15) rfl rfl ⟨Nat.le_of_ble_eq_true rfl, Nat.le_of_ble_eq_true rfl⟩ ⟨Nat.le_of_ble_eq_true rfl, Nat.le_of_ble_eq_true rfl⟩ hB rfl rfl hl rfl rfl (Nat.le_of_ble_eq_true rfl) d_Pr_takeNumbers_158) (fun _ => rfl) (fun y16 ey16 H locs hP hD hS => ?_)
          have hP : va_P g.1 vwCl (wPr g qpr qpro qprf qprs qprb qprn qprt qte qteb pi po pf_4 ps_5 pb pn pt y16.2 tb) H := cP (spq hB.1 hB.2.1 [0, 1, 2, 3, 4, 5, 6] 9 rfl rfl (by decide +kernel) rfl) hP
          have hD : va_D (inW (wPr g qpr qpro qprf qprs qprb qprn qprt qte qteb pi po pf ps pb pn pt t tb)) (wPr g qpr qpro qprf qprs qprb qprn qprt qte qteb pi po pf_4 ps_5 pb pn pt y16.2 tb) := cD (spq hB.1 hB.2.1 [0, 1, 2, 3, 4, 5, 6] 9 rfl rfl (by decide +kernel) rfl) hD
          have hz := lett_z hz ey16
          refine stI C hP hD hS 2 rfl (vi2 (vlo c1) c3 (by decide)) rfl d_Pr_takeNumbers_161 (fun pf_17 epf_17 H locs hP hD hS => ?_)
          have hP : va_P g.1 vwCl (wPr g qpr qpro qprf qprs qprb qprn qprt qte qteb pi po pf_17 ps_5 pb pn pt y16.2 tb) H := hP
          have hD : va_D (inW (wPr g qpr qpro qprf qprs qprb qprn qprt qte qteb pi po pf ps pb pn pt t tb)) (wPr g qpr qpro qprf qprs qprb qprn qprt qte qteb pi po pf_17 ps_5 pb pn pt y16.2 tb) := hD
          have hz := lett_z hz epf_17
          refine lv_goto (tgt := 299) hx hb d_Pr_takeNumbers_162 (by decide) ?_
          exact endV C hz hP hS d_Pr_takeNumbers_299
        have hz := hz.trans (if_neg c40_2)
        have hok := hok.2 c40_2
        by_cases c40_3 : p2 = (3 : Int32)
        · have hz := hz.trans (if_pos c40_3)
          have hok := hok.1 c40_3
          refine lv_tableIn (x := p2) (off := 261) (tgt := 299) hx hb d_Pr_takeNumbers_38 (by rw [c40_3]; decide) (by rw [c40_3]; decide) (by rw [c40_3]; rfl) (by decide) ?_
          exact endV C hz hP hS d_Pr_takeNumbers_299
        have hz := hz.trans (if_neg c40_3)
        have hok := hok.2 c40_3
        by_cases c40_4 : p2 = (4 : Int32)
        · have hz := hz.trans (if_pos c40_4)
          have hok := hok.1 c40_4
          refine lv_tableIn (x := p2) (off := 127) (tgt := 165) hx hb d_Pr_takeNumbers_38 (by rw [c40_4]; decide) (by rw [c40_4]; decide) (by rw [c40_4]; rfl) (by decide) ?_
          refine lv_aload_n hx hb d_Pr_takeNumbers_165 rfl (lv_at hl 0 rfl) ?_
          refine gf C hP 0 2 fkPr rfl (by decide) rfl qf_Pr_15 (gPr_2 _ _ _ _ _ _ _ _) d_Pr_takeNumbers_166 ?_
          refine lv_iload_n hx hb d_Pr_takeNumbers_169 rfl (lv_at hl 1 rfl) ?_
          refine lv_aload_n hx hb d_Pr_takeNumbers_170 rfl (lv_at hl 0 rfl) ?_
          refine gf C hP 0 0 fkPr rfl (by decide) rfl qf_Pr_30 (gPr_0 _ _ _ _ _ _ _ _) d_Pr_takeNumbers_171 ?_
          refine lv_iconst (v := 2) hx hb d_Pr_takeNumbers_174 (by decide) ?_
          refine lv_iconst (v := 3) hx hb d_Pr_takeNumbers_175 (by decide) ?_
          have hs18 := hok.1
          have hok := hok.2
          have hB : SubW g (inW (wPr g qpr qpro qprf qprs qprb qprn qprt qte qteb pi po pf ps pb pn pt t tb)) s (wPr g qpr qpro qprf qprs qprb qprn qprt qte qteb pi po pf_4 ps_5 pb pn pt t tb) (wTe g qte qteb t tb) [7, 8] _ _ := ⟨rfl, rfl, hP, hD, hS⟩
          refine goI1 hB (run_v C mf_Te_number qm_Pr_112 (c_Te_number l g qte qteb t tb (2 : Int32) (3 : Int32) hs18) rfl rfl ⟨Nat.le_of_ble_eq_true rfl, Nat.le_of_ble_eq_true rfl⟩ ⟨Nat.le_of_ble_eq_true rfl, Nat.le_of_ble_eq_true rfl⟩ hB rfl rfl hl rfl rfl (Nat.le_of_ble_eq_true rfl) d_Pr_takeNumbers_176) (fun _ => rfl) (fun y19 ey19 H locs hP hD hS => ?_)
          have hP : va_P g.1 vwCl (wPr g qpr qpro qprf qprs qprb qprn qprt qte qteb pi po pf_4 ps_5 pb pn pt y19.2 tb) H := cP (spq hB.1 hB.2.1 [0, 1, 2, 3, 4, 5, 6] 9 rfl rfl (by decide +kernel) rfl) hP
          have hD : va_D (inW (wPr g qpr qpro qprf qprs qprb qprn qprt qte qteb pi po pf ps pb pn pt t tb)) (wPr g qpr qpro qprf qprs qprb qprn qprt qte qteb pi po pf_4 ps_5 pb pn pt y19.2 tb) := cD (spq hB.1 hB.2.1 [0, 1, 2, 3, 4, 5, 6] 9 rfl rfl (by decide +kernel) rfl) hD
          have hz := lett_z hz ey19
          refine stI C hP hD hS 2 rfl (vi2 (vlo c1) c3 (by decide)) rfl d_Pr_takeNumbers_179 (fun pf_20 epf_20 H locs hP hD hS => ?_)
          have hP : va_P g.1 vwCl (wPr g qpr qpro qprf qprs qprb qprn qprt qte qteb pi po pf_20 ps_5 pb pn pt y19.2 tb) H := hP
          have hD : va_D (inW (wPr g qpr qpro qprf qprs qprb qprn qprt qte qteb pi po pf ps pb pn pt t tb)) (wPr g qpr qpro qprf qprs qprb qprn qprt qte qteb pi po pf_20 ps_5 pb pn pt y19.2 tb) := hD
          have hz := lett_z hz epf_20
          refine lv_goto (tgt := 299) hx hb d_Pr_takeNumbers_180 (by decide) ?_
          exact endV C hz hP hS d_Pr_takeNumbers_299
        have hz := hz.trans (if_neg c40_4)
        have hok := hok.2 c40_4
        by_cases c40_5 : p2 = (5 : Int32)
        · have hz := hz.trans (if_pos c40_5)
          have hok := hok.1 c40_5
          refine lv_tableIn (x := p2) (off := 145) (tgt := 183) hx hb d_Pr_takeNumbers_38 (by rw [c40_5]; decide) (by rw [c40_5]; decide) (by rw [c40_5]; rfl) (by decide) ?_
          refine lv_aload_n hx hb d_Pr_takeNumbers_183 rfl (lv_at hl 0 rfl) ?_
          refine gf C hP 0 2 fkPr rfl (by decide) rfl qf_Pr_15 (gPr_2 _ _ _ _ _ _ _ _) d_Pr_takeNumbers_184 ?_
          refine lv_iload_n hx hb d_Pr_takeNumbers_187 rfl (lv_at hl 1 rfl) ?_
          refine lv_aload_n hx hb d_Pr_takeNumbers_188 rfl (lv_at hl 0 rfl) ?_
          refine gf C hP 0 0 fkPr rfl (by decide) rfl qf_Pr_30 (gPr_0 _ _ _ _ _ _ _ _) d_Pr_takeNumbers_189 ?_
          refine lv_iconst (v := 1) hx hb d_Pr_takeNumbers_192 (by decide) ?_
          refine lv_bipush (v := 99) hx hb d_Pr_takeNumbers_193 (by decide) ?_
          have hs21 := hok.1
          have hok := hok.2
          have hB : SubW g (inW (wPr g qpr qpro qprf qprs qprb qprn qprt qte qteb pi po pf ps pb pn pt t tb)) s (wPr g qpr qpro qprf qprs qprb qprn qprt qte qteb pi po pf_4 ps_5 pb pn pt t tb) (wTe g qte qteb t tb) [7, 8] _ _ := ⟨rfl, rfl, hP, hD, hS⟩
          refine goI1 hB (run_v C mf_Te_number qm_Pr_112 (c_Te_number l g qte qteb t tb (1 : Int32) (99 : Int32) hs21) rfl rfl ⟨Nat.le_of_ble_eq_true rfl, Nat.le_of_ble_eq_true rfl⟩ ⟨Nat.le_of_ble_eq_true rfl, Nat.le_of_ble_eq_true rfl⟩ hB rfl rfl hl rfl rfl (Nat.le_of_ble_eq_true rfl) d_Pr_takeNumbers_195) (fun _ => rfl) (fun y22 ey22 H locs hP hD hS => ?_)
          have hP : va_P g.1 vwCl (wPr g qpr qpro qprf qprs qprb qprn qprt qte qteb pi po pf_4 ps_5 pb pn pt y22.2 tb) H := cP (spq hB.1 hB.2.1 [0, 1, 2, 3, 4, 5, 6] 9 rfl rfl (by decide +kernel) rfl) hP
          have hD : va_D (inW (wPr g qpr qpro qprf qprs qprb qprn qprt qte qteb pi po pf ps pb pn pt t tb)) (wPr g qpr qpro qprf qprs qprb qprn qprt qte qteb pi po pf_4 ps_5 pb pn pt y22.2 tb) := cD (spq hB.1 hB.2.1 [0, 1, 2, 3, 4, 5, 6] 9 rfl rfl (by decide +kernel) rfl) hD
          have hz := lett_z hz ey22
          refine stI C hP hD hS 2 rfl (vi2 (vlo c1) c3 (by decide)) rfl d_Pr_takeNumbers_198 (fun pf_23 epf_23 H locs hP hD hS => ?_)
          have hP : va_P g.1 vwCl (wPr g qpr qpro qprf qprs qprb qprn qprt qte qteb pi po pf_23 ps_5 pb pn pt y22.2 tb) H := hP
          have hD : va_D (inW (wPr g qpr qpro qprf qprs qprb qprn qprt qte qteb pi po pf ps pb pn pt t tb)) (wPr g qpr qpro qprf qprs qprb qprn qprt qte qteb pi po pf_23 ps_5 pb pn pt y22.2 tb) := hD
          have hz := lett_z hz epf_23
          refine lv_goto (tgt := 299) hx hb d_Pr_takeNumbers_199 (by decide) ?_
          exact endV C hz hP hS d_Pr_takeNumbers_299
        have hz := hz.trans (if_neg c40_5)
        have hok := hok.2 c40_5
        by_cases c40_6 : p2 = (6 : Int32)
        · have hz := hz.trans (if_pos c40_6)
          have hok := hok.1 c40_6
          refine lv_tableIn (x := p2) (off := 164) (tgt := 202) hx hb d_Pr_takeNumbers_38 (by rw [c40_6]; decide) (by rw [c40_6]; decide) (by rw [c40_6]; rfl) (by decide) ?_
          refine lv_aload_n hx hb d_Pr_takeNumbers_202 rfl (lv_at hl 0 rfl) ?_
          refine gf C hP 0 2 fkPr rfl (by decide) rfl qf_Pr_15 (gPr_2 _ _ _ _ _ _ _ _) d_Pr_takeNumbers_203 ?_
          refine lv_iload_n hx hb d_Pr_takeNumbers_206 rfl (lv_at hl 1 rfl) ?_
          refine lv_aload_n hx hb d_Pr_takeNumbers_207 rfl (lv_at hl 0 rfl) ?_
          refine gf C hP 0 0 fkPr rfl (by decide) rfl qf_Pr_30 (gPr_0 _ _ _ _ _ _ _ _) d_Pr_takeNumbers_208 ?_
          refine lv_iconst (v := 1) hx hb d_Pr_takeNumbers_211 (by decide) ?_
          refine lv_bipush (v := 20) hx hb d_Pr_takeNumbers_212 (by decide) ?_
          have hs24 := hok.1
          have hok := hok.2
          have hB : SubW g (inW (wPr g qpr qpro qprf qprs qprb qprn qprt qte qteb pi po pf ps pb pn pt t tb)) s (wPr g qpr qpro qprf qprs qprb qprn qprt qte qteb pi po pf_4 ps_5 pb pn pt t tb) (wTe g qte qteb t tb) [7, 8] _ _ := ⟨rfl, rfl, hP, hD, hS⟩
          refine goI1 hB (run_v C mf_Te_number qm_Pr_112 (c_Te_number l g qte qteb t tb (1 : Int32) (20 : Int32) hs24) rfl rfl ⟨Nat.le_of_ble_eq_true rfl, Nat.le_of_ble_eq_true rfl⟩ ⟨Nat.le_of_ble_eq_true rfl, Nat.le_of_ble_eq_true rfl⟩ hB rfl rfl hl rfl rfl (Nat.le_of_ble_eq_true rfl) d_Pr_takeNumbers_214) (fun _ => rfl) (fun y25 ey25 H locs hP hD hS => ?_)
          have hP : va_P g.1 vwCl (wPr g qpr qpro qprf qprs qprb qprn qprt qte qteb pi po pf_4 ps_5 pb pn pt y25.2 tb) H := cP (spq hB.1 hB.2.1 [0, 1, 2, 3, 4, 5, 6] 9 rfl rfl (by decide +kernel) rfl) hP
          have hD : va_D (inW (wPr g qpr qpro qprf qprs qprb qprn qprt qte qteb pi po pf ps pb pn pt t tb)) (wPr g qpr qpro qprf qprs qprb qprn qprt qte qteb pi po pf_4 ps_5 pb pn pt y25.2 tb) := cD (spq hB.1 hB.2.1 [0, 1, 2, 3, 4, 5, 6] 9 rfl rfl (by decide +kernel) rfl) hD
          have hz := lett_z hz ey25
          refine stI C hP hD hS 2 rfl (vi2 (vlo c1) c3 (by decide)) rfl d_Pr_takeNumbers_217 (fun pf_26 epf_26 H locs hP hD hS => ?_)
          have hP : va_P g.1 vwCl (wPr g qpr qpro qprf qprs qprb qprn qprt qte qteb pi po pf_26 ps_5 pb pn pt y25.2 tb) H := hP
          have hD : va_D (inW (wPr g qpr qpro qprf qprs qprb qprn qprt qte qteb pi po pf ps pb pn pt t tb)) (wPr g qpr qpro qprf qprs qprb qprn qprt qte qteb pi po pf_26 ps_5 pb pn pt y25.2 tb) := hD
          have hz := lett_z hz epf_26
          refine lv_goto (tgt := 299) hx hb d_Pr_takeNumbers_218 (by decide) ?_
          exact endV C hz hP hS d_Pr_takeNumbers_299
        have hz := hz.trans (if_neg c40_6)
        have hok := hok.2 c40_6
        by_cases c40_7 : p2 = (7 : Int32)
        · have hz := hz.trans (if_pos c40_7)
          have hok := hok.1 c40_7
          refine lv_tableIn (x := p2) (off := 202) (tgt := 240) hx hb d_Pr_takeNumbers_38 (by rw [c40_7]; decide) (by rw [c40_7]; decide) (by rw [c40_7]; rfl) (by decide) ?_
          refine lv_aload_n hx hb d_Pr_takeNumbers_240 rfl (lv_at hl 0 rfl) ?_
          refine gf C hP 0 0 fkPr rfl (by decide) rfl qf_Pr_30 (gPr_0 _ _ _ _ _ _ _ _) d_Pr_takeNumbers_241 ?_
          refine va_ldcS hx hb hown (zRef hZo hZ ("DecadeBridge$Protocol", 116, 18) (by decide +kernel)) d_Pr_takeNumbers_244 ?_
          have hs27 := hok.1
          have hok := hok.2
          have hB : SubW g (inW (wPr g qpr qpro qprf qprs qprb qprn qprt qte qteb pi po pf ps pb pn pt t tb)) s (wPr g qpr qpro qprf qprs qprb qprn qprt qte qteb pi po pf_4 ps_5 pb pn pt t tb) (wTe g qte qteb t tb) [7, 8] _ _ := ⟨rfl, rfl, hP, hD, hS⟩
          refine goI0 hB (run_v C mf_Te_isWord qm_Pr_88 (c_Te_isWord l g qte qteb t tb 18 hs27) rfl rfl ⟨Nat.le_of_ble_eq_true rfl, Nat.le_of_ble_eq_true rfl⟩ ⟨Nat.le_of_ble_eq_true rfl, Nat.le_of_ble_eq_true rfl⟩ hB rfl rfl hl rfl rfl (Nat.le_of_ble_eq_true rfl) d_Pr_takeNumbers_246) (fun y28 ey28 H locs hP hS => ?_)
          have hz := lett_z hz ey28
          have hok := lett_o hok ey28
          refine lv_if_eq (tgt := 299) hx hb d_Pr_takeNumbers_249 (by decide) (fun c29 => ?_) (fun c29 => ?_)
          · have hz := hz.trans (if_pos c29)
            exact endV C hz hP hS d_Pr_takeNumbers_299
          · have hz := hz.trans (if_neg c29)
            have hok := hok.2 c29
            refine lv_aload_n hx hb d_Pr_takeNumbers_252 rfl (lv_at hl 0 rfl) ?_
            refine gf C hP 0 2 fkPr rfl (by decide) rfl qf_Pr_15 (gPr_2 _ _ _ _ _ _ _ _) d_Pr_takeNumbers_253 ?_
            refine lv_iload_n hx hb d_Pr_takeNumbers_256 rfl (lv_at hl 1 rfl) ?_
            refine lv_iconst (v := 1) hx hb d_Pr_takeNumbers_257 (by decide) ?_
            refine stI C hP hD hS 2 rfl (vi2 (vlo c1) c3 (by decide)) rfl d_Pr_takeNumbers_258 (fun pf_30 epf_30 H locs hP hD hS => ?_)
            have hP : va_P g.1 vwCl (wPr g qpr qpro qprf qprs qprb qprn qprt qte qteb pi po pf_30 ps_5 pb pn pt t tb) H := hP
            have hD : va_D (inW (wPr g qpr qpro qprf qprs qprb qprn qprt qte qteb pi po pf ps pb pn pt t tb)) (wPr g qpr qpro qprf qprs qprb qprn qprt qte qteb pi po pf_30 ps_5 pb pn pt t tb) := hD
            have hz := lett_z hz epf_30
            have hok := lett_o hok epf_30
            refine lv_aload_n hx hb d_Pr_takeNumbers_259 rfl (lv_at hl 0 rfl) ?_
            refine gf C hP 0 0 fkPr rfl (by decide) rfl qf_Pr_30 (gPr_0 _ _ _ _ _ _ _ _) d_Pr_takeNumbers_260 ?_
            have hs31 := hok.1
            have hok := hok.2
            have hB : SubW g (inW (wPr g qpr qpro qprf qprs qprb qprn qprt qte qteb pi po pf ps pb pn pt t tb)) s (wPr g qpr qpro qprf qprs qprb qprn qprt qte qteb pi po pf_30 ps_5 pb pn pt t tb) (wTe g qte qteb t tb) [7, 8] _ _ := ⟨rfl, rfl, hP, hD, hS⟩
            refine goV1 hB (run_v C mf_Te_advance qm_Pr_74 (c_Te_advance l g qte qteb t tb hs31) rfl rfl ⟨Nat.le_of_ble_eq_true rfl, Nat.le_of_ble_eq_true rfl⟩ ⟨Nat.le_of_ble_eq_true rfl, Nat.le_of_ble_eq_true rfl⟩ hB rfl rfl hl rfl rfl (Nat.le_of_ble_eq_true rfl) d_Pr_takeNumbers_263) (fun _ => rfl) (fun y32 ey32 H locs hP hD hS => ?_)
            have hP : va_P g.1 vwCl (wPr g qpr qpro qprf qprs qprb qprn qprt qte qteb pi po pf_30 ps_5 pb pn pt y32 tb) H := cP (spq hB.1 hB.2.1 [0, 1, 2, 3, 4, 5, 6] 9 rfl rfl (by decide +kernel) rfl) hP
            have hD : va_D (inW (wPr g qpr qpro qprf qprs qprb qprn qprt qte qteb pi po pf ps pb pn pt t tb)) (wPr g qpr qpro qprf qprs qprb qprn qprt qte qteb pi po pf_30 ps_5 pb pn pt y32 tb) := cD (spq hB.1 hB.2.1 [0, 1, 2, 3, 4, 5, 6] 9 rfl rfl (by decide +kernel) rfl) hD
            have hz := lett_z hz ey32
            refine lv_goto (tgt := 299) hx hb d_Pr_takeNumbers_266 (by decide) ?_
            exact endV C hz hP hS d_Pr_takeNumbers_299
        have hz := hz.trans (if_neg c40_7)
        have hok := hok.2 c40_7
        by_cases c40_8 : p2 = (8 : Int32)
        · have hz := hz.trans (if_pos c40_8)
          have hok := hok.1 c40_8
          refine lv_tableIn (x := p2) (off := 183) (tgt := 221) hx hb d_Pr_takeNumbers_38 (by rw [c40_8]; decide) (by rw [c40_8]; decide) (by rw [c40_8]; rfl) (by decide) ?_
          refine lv_aload_n hx hb d_Pr_takeNumbers_221 rfl (lv_at hl 0 rfl) ?_
          refine gf C hP 0 2 fkPr rfl (by decide) rfl qf_Pr_15 (gPr_2 _ _ _ _ _ _ _ _) d_Pr_takeNumbers_222 ?_
          refine lv_iload_n hx hb d_Pr_takeNumbers_225 rfl (lv_at hl 1 rfl) ?_
          refine lv_aload_n hx hb d_Pr_takeNumbers_226 rfl (lv_at hl 0 rfl) ?_
          refine gf C hP 0 0 fkPr rfl (by decide) rfl qf_Pr_30 (gPr_0 _ _ _ _ _ _ _ _) d_Pr_takeNumbers_227 ?_
          refine lv_iconst (v := 0) hx hb d_Pr_takeNumbers_230 (by decide) ?_
          refine lv_bipush (v := 20) hx hb d_Pr_takeNumbers_231 (by decide) ?_
          have hs33 := hok.1
          have hok := hok.2
          have hB : SubW g (inW (wPr g qpr qpro qprf qprs qprb qprn qprt qte qteb pi po pf ps pb pn pt t tb)) s (wPr g qpr qpro qprf qprs qprb qprn qprt qte qteb pi po pf_4 ps_5 pb pn pt t tb) (wTe g qte qteb t tb) [7, 8] _ _ := ⟨rfl, rfl, hP, hD, hS⟩
          refine goI1 hB (run_v C mf_Te_number qm_Pr_112 (c_Te_number l g qte qteb t tb (0 : Int32) (20 : Int32) hs33) rfl rfl ⟨Nat.le_of_ble_eq_true rfl, Nat.le_of_ble_eq_true rfl⟩ ⟨Nat.le_of_ble_eq_true rfl, Nat.le_of_ble_eq_true rfl⟩ hB rfl rfl hl rfl rfl (Nat.le_of_ble_eq_true rfl) d_Pr_takeNumbers_233) (fun _ => rfl) (fun y34 ey34 H locs hP hD hS => ?_)
          have hP : va_P g.1 vwCl (wPr g qpr qpro qprf qprs qprb qprn qprt qte qteb pi po pf_4 ps_5 pb pn pt y34.2 tb) H := cP (spq hB.1 hB.2.1 [0, 1, 2, 3, 4, 5, 6] 9 rfl rfl (by decide +kernel) rfl) hP
          have hD : va_D (inW (wPr g qpr qpro qprf qprs qprb qprn qprt qte qteb pi po pf ps pb pn pt t tb)) (wPr g qpr qpro qprf qprs qprb qprn qprt qte qteb pi po pf_4 ps_5 pb pn pt y34.2 tb) := cD (spq hB.1 hB.2.1 [0, 1, 2, 3, 4, 5, 6] 9 rfl rfl (by decide +kernel) rfl) hD
          have hz := lett_z hz ey34
          refine stI C hP hD hS 2 rfl (vi2 (vlo c1) c3 (by decide)) rfl d_Pr_takeNumbers_236 (fun pf_35 epf_35 H locs hP hD hS => ?_)
          have hP : va_P g.1 vwCl (wPr g qpr qpro qprf qprs qprb qprn qprt qte qteb pi po pf_35 ps_5 pb pn pt y34.2 tb) H := hP
          have hD : va_D (inW (wPr g qpr qpro qprf qprs qprb qprn qprt qte qteb pi po pf ps pb pn pt t tb)) (wPr g qpr qpro qprf qprs qprb qprn qprt qte qteb pi po pf_35 ps_5 pb pn pt y34.2 tb) := hD
          have hz := lett_z hz epf_35
          refine lv_goto (tgt := 299) hx hb d_Pr_takeNumbers_237 (by decide) ?_
          exact endV C hz hP hS d_Pr_takeNumbers_299
        have hz := hz.trans (if_neg c40_8)
        have hok := hok.2 c40_8
        by_cases c40_9 : p2 = (9 : Int32)
        · have hz := hz.trans (if_pos c40_9)
          have hok := hok.1 c40_9
          refine lv_tableIn (x := p2) (off := 231) (tgt := 269) hx hb d_Pr_takeNumbers_38 (by rw [c40_9]; decide) (by rw [c40_9]; decide) (by rw [c40_9]; rfl) (by decide) ?_
          refine lv_aload_n hx hb d_Pr_takeNumbers_269 rfl (lv_at hl 0 rfl) ?_
          refine gf C hP 0 0 fkPr rfl (by decide) rfl qf_Pr_30 (gPr_0 _ _ _ _ _ _ _ _) d_Pr_takeNumbers_270 ?_
          refine va_ldcS hx hb hown (zRef hZo hZ ("DecadeBridge$Protocol", 118, 19) (by decide +kernel)) d_Pr_takeNumbers_273 ?_
          have hs36 := hok.1
          have hok := hok.2
          have hB : SubW g (inW (wPr g qpr qpro qprf qprs qprb qprn qprt qte qteb pi po pf ps pb pn pt t tb)) s (wPr g qpr qpro qprf qprs qprb qprn qprt qte qteb pi po pf_4 ps_5 pb pn pt t tb) (wTe g qte qteb t tb) [7, 8] _ _ := ⟨rfl, rfl, hP, hD, hS⟩
          refine goI0 hB (run_v C mf_Te_isWord qm_Pr_88 (c_Te_isWord l g qte qteb t tb 19 hs36) rfl rfl ⟨Nat.le_of_ble_eq_true rfl, Nat.le_of_ble_eq_true rfl⟩ ⟨Nat.le_of_ble_eq_true rfl, Nat.le_of_ble_eq_true rfl⟩ hB rfl rfl hl rfl rfl (Nat.le_of_ble_eq_true rfl) d_Pr_takeNumbers_275) (fun y37 ey37 H locs hP hS => ?_)
          have hz := lett_z hz ey37
          have hok := lett_o hok ey37
          refine lv_if_ne (tgt := 289) hx hb d_Pr_takeNumbers_278 (by decide) (fun c38 => ?_) (fun c38 => ?_)
          · have hz := hz.trans (if_neg c38)
            have hok := hok.2 c38
            exact k_Pr_takeNumbers_289 C t hok _ hz _ _ ls hP hD hS (lv_sub hl [0] rfl)
          · have hz := hz.trans (if_pos c38)
            have hok := hok.1 c38
            refine lv_aload_n hx hb d_Pr_takeNumbers_281 rfl (lv_at hl 0 rfl) ?_
            refine gf C hP 0 0 fkPr rfl (by decide) rfl qf_Pr_30 (gPr_0 _ _ _ _ _ _ _ _) d_Pr_takeNumbers_282 ?_
            refine lv_iconst (v := 1) hx hb d_Pr_takeNumbers_285 (by decide) ?_
            have hB : SubW g (inW (wPr g qpr qpro qprf qprs qprb qprn qprt qte qteb pi po pf ps pb pn pt t tb)) s (wPr g qpr qpro qprf qprs qprb qprn qprt qte qteb pi po pf_4 ps_5 pb pn pt t tb) (wTe g qte qteb t tb) [7, 8] _ _ := ⟨rfl, rfl, hP, hD, hS⟩
            refine goV1 hB (run_v C mf_Te_fail qm_Pr_62 (c_Te_fail l g qte qteb t tb (1 : Int32)) rfl rfl ⟨Nat.le_of_ble_eq_true rfl, Nat.le_of_ble_eq_true rfl⟩ ⟨Nat.le_of_ble_eq_true rfl, Nat.le_of_ble_eq_true rfl⟩ hB rfl rfl hl rfl rfl (Nat.le_of_ble_eq_true rfl) d_Pr_takeNumbers_286) (fun _ => rfl) (fun y39 ey39 H locs hP hD hS => ?_)
            have hP : va_P g.1 vwCl (wPr g qpr qpro qprf qprs qprb qprn qprt qte qteb pi po pf_4 ps_5 pb pn pt y39 tb) H := cP (spq hB.1 hB.2.1 [0, 1, 2, 3, 4, 5, 6] 9 rfl rfl (by decide +kernel) rfl) hP
            have hD : va_D (inW (wPr g qpr qpro qprf qprs qprb qprn qprt qte qteb pi po pf ps pb pn pt t tb)) (wPr g qpr qpro qprf qprs qprb qprn qprt qte qteb pi po pf_4 ps_5 pb pn pt y39 tb) := cD (spq hB.1 hB.2.1 [0, 1, 2, 3, 4, 5, 6] 9 rfl rfl (by decide +kernel) rfl) hD
            have hz := lett_z hz ey39
            have hok := lett_o hok ey39
            exact k_Pr_takeNumbers_289 C y39 hok _ hz _ _ ls hP hD hS (lv_sub hl [0] rfl)
        have hz := hz.trans (if_neg c40_9)
        have hok := hok.2 c40_9
        refine lv_tableOut (x := p2) (tgt := 299) hx hb d_Pr_takeNumbers_38 (tswL (x := p2) (lo := 0) (hi := 9) 10 [(0 : Int32), (1 : Int32), (2 : Int32), (3 : Int32), (4 : Int32), (5 : Int32), (6 : Int32), (7 : Int32), (8 : Int32), (9 : Int32)] (by decide) (by decide) (List.forall_mem_cons.mpr ⟨c40_0, List.forall_mem_cons.mpr ⟨c40_1, List.forall_mem_cons.mpr ⟨c40_2, List.forall_mem_cons.mpr ⟨c40_3, List.forall_mem_cons.mpr ⟨c40_4, List.forall_mem_cons.mpr ⟨c40_5, List.forall_mem_cons.mpr ⟨c40_6, List.forall_mem_cons.mpr ⟨c40_7, List.forall_mem_cons.mpr ⟨c40_8, List.forall_mem_cons.mpr ⟨c40_9, fun _ h => absurd h List.not_mem_nil⟩⟩⟩⟩⟩⟩⟩⟩⟩⟩)) (by decide) ?_
        exact endV C hz hP hS d_Pr_takeNumbers_299
      · have hz := hz.trans (if_neg c3)
        exact endV C hz hP hS d_Pr_takeNumbers_22
abbrev rm_Pr_openBracket : Room := { frames := 3, cells := 0, slots := 0, locals := 64 }
def HL_Pr_openBracket_28 (p : Program) (l : Launch) (e : Env) (s : State) (m : MethodId) (args : Array Value) (below : List Frame) (meth : Method) (c : Code) (g : GX) (qpr : Nat) (qpro : Nat) (qprf : Nat) (qprs : Nat) (qprb : Nat) (qprn : Nat) (qprt : Nat) (qte : Nat) (qteb : Nat) (ws0 : va_W) (pi : IV) (po : IV) (pf : IV) (ps : IV) (pb : IV) (pn : IV) (pt : IV) (tb : IV) (p1 : Int32) (sp : IV → (IV × IV × IV)) (ok : IV → Prop) : Prop := ∀ (tp28 : IV), ok tp28 → ∀ z : (IV × IV × IV), z = sp tp28 → ∀ (H : Heap) (locs : List Loc) (ls : Array Slot), va_P g.1 vwCl (wPr g qpr qpro qprf qprs qprb qprn qprt qte qteb pi po pf ps pb pn pt tp28 tb) H → va_D (inW ws0) (wPr g qpr qpro qprf qprs qprb qprn qprt qte qteb pi po pf ps pb pn pt tp28 tb) → va_S (inW ws0) s.heap H locs → lv_has ls 2 [(0, .ref qpr), (1, .int p1)] → W p l e rm_Pr_openBracket s m args below meth c H locs 0 0 (MQ below (CV g ws0 (fun u : IV × IV × IV => wPr g qpr qpro qprf qprs qprb qprn qprt qte qteb u.1 po pf ps pb u.2.1 pt u.2.2 tb) z) args s 0 0 (inW ws0)) (F0 m 28 ls [])
noncomputable def sp_Pr_openBracket_28 (tb : IV) (pi : IV) (pn : IV) (p1 : Int32)  (tp28 : IV) : IV × IV × IV := lett (sp_Te_takeSign (40 : Int32) tp28 tb) fun (y5 : IV) => if (pi 8) < 0 then ((pi, pn, y5)) else (if (2 : Int32) ≤ (pi 8) then ((pi, pn, y5)) else (lett (upd pn (pi 8).toNatClampNeg p1) fun (pn_8 : IV) => lett (upd pi 8 ((pi 8) + (1 : Int32))) fun (pi_9 : IV) => (pi_9, pn_8, y5)))
def ok_Pr_openBracket_28 (tb : IV) (pi : IV) (pn : IV) (p1 : Int32)   (tp28 : IV) : Prop := (ok_Te_takeSign (40 : Int32) tp28 tb) ∧ True
set_option maxRecDepth 100000 in
set_option maxHeartbeats 4000000 in
theorem k_Pr_openBracket_28 {p : Program} {l : Launch} {e : Env} {s : State} {m : MethodId} {args : Array Value} {below : List Frame} {meth : Method} {c : Code} {g : GX} {qpr : Nat} {qpro : Nat} {qprf : Nat} {qprs : Nat} {qprb : Nat} {qprn : Nat} {qprt : Nat} {qte : Nat} {qteb : Nat} {ws0 : va_W} {pi : IV} {po : IV} {pf : IV} {ps : IV} {pb : IV} {pn : IV} {pt : IV} {tb : IV} {p1 : Int32}  (C : Cx p s m args meth c (inW ws0) g "DecadeBridge$Protocol" b_Pr_openBracket none 2)  : HL_Pr_openBracket_28 p l e s m args below meth c g qpr qpro qprf qprs qprb qprn qprt qte qteb ws0 pi po pf ps pb pn pt tb p1 (sp_Pr_openBracket_28 tb pi pn p1 ) (ok_Pr_openBracket_28 tb pi pn p1  ) := by
  intro tp28 hok z hz H locs ls hP hD hS hl
  obtain ⟨hx, hb, hr, hml, hown, hlk, hts, hK, hZo, hZ⟩ := id C
  unfold sp_Pr_openBracket_28 at hz
  unfold ok_Pr_openBracket_28 at hok
  refine lv_aload_n hx hb d_Pr_openBracket_28 rfl (lv_at hl 0 rfl) ?_
  refine gf C hP 0 0 fkPr rfl (by decide) rfl qf_Pr_30 (gPr_0 _ _ _ _ _ _ _ _) d_Pr_openBracket_29 ?_
  refine lv_bipush (v := 40) hx hb d_Pr_openBracket_32 (by decide) ?_
  have hs4 := hok.1
  have hok := hok.2
  have hB : SubW g (inW ws0) s (wPr g qpr qpro qprf qprs qprb qprn qprt qte qteb pi po pf ps pb pn pt tp28 tb) (wTe g qte qteb tp28 tb) [7, 8] _ _ := ⟨rfl, rfl, hP, hD, hS⟩
  refine goV1 hB (run_v C mf_Te_takeSign qm_Pr_66 (c_Te_takeSign l g qte qteb tp28 tb (40 : Int32) hs4) rfl rfl ⟨Nat.le_of_ble_eq_true rfl, Nat.le_of_ble_eq_true rfl⟩ ⟨Nat.le_of_ble_eq_true rfl, Nat.le_of_ble_eq_true rfl⟩ hB rfl rfl hl rfl rfl (Nat.le_of_ble_eq_true rfl) d_Pr_openBracket_34) (fun _ => rfl) (fun y5 ey5 H locs hP hD hS => ?_)
  have hP : va_P g.1 vwCl (wPr g qpr qpro qprf qprs qprb qprn qprt qte qteb pi po pf ps pb pn pt y5 tb) H := cP (spq hB.1 hB.2.1 [0, 1, 2, 3, 4, 5, 6] 9 rfl rfl (by decide +kernel) rfl) hP
  have hD : va_D (inW ws0) (wPr g qpr qpro qprf qprs qprb qprn qprt qte qteb pi po pf ps pb pn pt y5 tb) := cD (spq hB.1 hB.2.1 [0, 1, 2, 3, 4, 5, 6] 9 rfl rfl (by decide +kernel) rfl) hD
  have hz := lett_z hz ey5
  refine lv_aload_n hx hb d_Pr_openBracket_37 rfl (lv_at hl 0 rfl) ?_
  refine gf C hP 0 8 fkPr rfl (by decide) rfl qf_Pr_42 (gPr_8 _ _ _ _ _ _ _ _) d_Pr_openBracket_38 ?_
  refine lv_if_lt (tgt := 76) hx hb d_Pr_openBracket_41 (by decide) (fun c6 => ?_) (fun c6 => ?_)
  · have hz := hz.trans (if_pos c6)
    exact endV C hz hP hS d_Pr_openBracket_76
  · have hz := hz.trans (if_neg c6)
    refine lv_aload_n hx hb d_Pr_openBracket_44 rfl (lv_at hl 0 rfl) ?_
    refine gf C hP 0 8 fkPr rfl (by decide) rfl qf_Pr_42 (gPr_8 _ _ _ _ _ _ _ _) d_Pr_openBracket_45 ?_
    refine lv_aload_n hx hb d_Pr_openBracket_48 rfl (lv_at hl 0 rfl) ?_
    refine gf C hP 0 5 fkPr rfl (by decide) rfl qf_Pr_24 (gPr_5 _ _ _ _ _ _ _ _) d_Pr_openBracket_49 ?_
    refine alen C hP 5 rfl (t0 := 0) rfl (v := 2) rfl d_Pr_openBracket_52 ?_
    refine lv_icmp_ge (tgt := 76) hx hb d_Pr_openBracket_53 (by decide) (fun c7 => ?_) (fun c7 => ?_)
    · have hz := hz.trans (if_pos c7)
      exact endV C hz hP hS d_Pr_openBracket_76
    · have hz := hz.trans (if_neg c7)
      refine lv_aload_n hx hb d_Pr_openBracket_56 rfl (lv_at hl 0 rfl) ?_
      refine gf C hP 0 5 fkPr rfl (by decide) rfl qf_Pr_24 (gPr_5 _ _ _ _ _ _ _ _) d_Pr_openBracket_57 ?_
      refine lv_aload_n hx hb d_Pr_openBracket_60 rfl (lv_at hl 0 rfl) ?_
      refine gf C hP 0 8 fkPr rfl (by decide) rfl qf_Pr_42 (gPr_8 _ _ _ _ _ _ _ _) d_Pr_openBracket_61 ?_
      refine lv_iload_n hx hb d_Pr_openBracket_64 rfl (lv_at hl 1 rfl) ?_
      refine stI C hP hD hS 5 rfl (vi2 (vlo c6) (vhi c7) (by decide)) rfl d_Pr_openBracket_65 (fun pn_8 epn_8 H locs hP hD hS => ?_)
      have hP : va_P g.1 vwCl (wPr g qpr qpro qprf qprs qprb qprn qprt qte qteb pi po pf ps pb pn_8 pt y5 tb) H := hP
      have hD : va_D (inW ws0) (wPr g qpr qpro qprf qprs qprb qprn qprt qte qteb pi po pf ps pb pn_8 pt y5 tb) := hD
      have hz := lett_z hz epn_8
      refine lv_aload_n hx hb d_Pr_openBracket_66 rfl (lv_at hl 0 rfl) ?_
      refine lv_dup hx hb d_Pr_openBracket_67 rfl ?_
      refine gf C hP 0 8 fkPr rfl (by decide) rfl qf_Pr_42 (gPr_8 _ _ _ _ _ _ _ _) d_Pr_openBracket_68 ?_
      refine lv_iconst (v := 1) hx hb d_Pr_openBracket_71 (by decide) ?_
      refine lv_iadd hx hb d_Pr_openBracket_72 ?_
      refine pfI C hP hD hS 0 8 fkPr rfl (by decide) rfl qf_Pr_42 rfl rfl rfl (Nat.le_of_ble_eq_true rfl) (ff := fun o => fPr qte qpro qprf qprs qprb qprn qprt o) (sPr_8 _ _ _ _ _ _ _ _ _) d_Pr_openBracket_73 (fun pi_9 epi_9 H locs hP hD hS => ?_)
      have hP : va_P g.1 vwCl (wPr g qpr qpro qprf qprs qprb qprn qprt qte qteb pi_9 po pf ps pb pn_8 pt y5 tb) H := hP
      have hD : va_D (inW ws0) (wPr g qpr qpro qprf qprs qprb qprn qprt qte qteb pi_9 po pf ps pb pn_8 pt y5 tb) := hD
      have hz := lett_z hz epi_9
      exact endV C hz hP hS d_Pr_openBracket_76
noncomputable def sp_Pr_openBracket (p1 : Int32) (pi : IV) (pn : IV) (t : IV) (tb : IV) : IV × IV × IV := if (t 2) = (40 : Int32) then (if (pi 8) < (2 : Int32) then (sp_Pr_openBracket_28 tb pi pn p1 t) else (lett (sp_Te_fail (3 : Int32) t) fun (y3 : IV) => sp_Pr_openBracket_28 tb pi pn p1 y3)) else (sp_Pr_openBracket_28 tb pi pn p1 t)
def ok_Pr_openBracket (p1 : Int32) (pi : IV) (pn : IV) (t : IV) (tb : IV) : Prop := (((t 2) = (40 : Int32) → (((pi 8) < (2 : Int32) → ok_Pr_openBracket_28 tb pi pn p1 t) ∧ (¬ ((pi 8) < (2 : Int32)) → lett (sp_Te_fail (3 : Int32) t) fun (y3 : IV) => ok_Pr_openBracket_28 tb pi pn p1 y3))) ∧ (¬ ((t 2) = (40 : Int32)) → ok_Pr_openBracket_28 tb pi pn p1 t))
set_option maxRecDepth 100000 in
set_option maxHeartbeats 4000000 in
theorem c_Pr_openBracket (l : Launch) (g : GX) (qpr : Nat) (qpro : Nat) (qprf : Nat) (qprs : Nat) (qprb : Nat) (qprn : Nat) (qprt : Nat) (qte : Nat) (qteb : Nat) (pi : IV) (po : IV) (pf : IV) (ps : IV) (pb : IV) (pn : IV) (pt : IV) (t : IV) (tb : IV) (p1 : Int32) (hok : ok_Pr_openBracket p1 pi pn t tb) : Met l y_Pr_openBracket (wsY y_Pr_openBracket b_Pr_openBracket 2 none) rm_Pr_openBracket (CP g [.ref qpr, .int p1] (wPr g qpr qpro qprf qprs qprb qprn qprt qte qteb pi po pf ps pb pn pt t tb)) (CV g (wPr g qpr qpro qprf qprs qprb qprn qprt qte qteb pi po pf ps pb pn pt t tb) (fun u : IV × IV × IV => wPr g qpr qpro qprf qprs qprb qprn qprt qte qteb u.1 po pf ps pb u.2.1 pt u.2.2 tb) (sp_Pr_openBracket p1 pi pn t tb)) 0 0 (inW (wPr g qpr qpro qprf qprs qprb qprn qprt qte qteb pi po pf ps pb pn pt t tb)) := by
  refine Met.ofW (cc := b_Pr_openBracket) (maxL := 2) (ret := none) pn_Pr rfl ?_
  intro p e s m args below meth c s₁ B hml hv
  obtain ⟨rfl, C, hP, hD, hS⟩ := enter "DecadeBridge$Protocol" rfl B hml hv
  obtain ⟨hx, hb, hr, hml, hown, hlk, hts, hK, hZo, hZ⟩ := id C
  refine entryW (lv := [(0, .ref qpr), (1, .int p1)]) rfl (Nat.le_of_ble_eq_true rfl) (fun ls hl => ?_)
  obtain ⟨z, hz⟩ : ∃ z, z = sp_Pr_openBracket p1 pi pn t tb := ⟨_, rfl⟩
  rw [← hz]
  unfold sp_Pr_openBracket at hz
  unfold ok_Pr_openBracket at hok
  refine lv_aload_n hx hb d_Pr_openBracket_0 rfl (lv_at hl 0 rfl) ?_
  refine gf C hP 0 0 fkPr rfl (by decide) rfl qf_Pr_30 (gPr_0 _ _ _ _ _ _ _ _) d_Pr_openBracket_1 ?_
  refine gf C hP 7 2 fkTe rfl (by decide) rfl qf_Pr_53 (gTe_2 _ _) d_Pr_openBracket_4 ?_
  refine lv_bipush (v := 40) hx hb d_Pr_openBracket_7 (by decide) ?_
  refine lv_icmp_ne (tgt := 28) hx hb d_Pr_openBracket_9 (by decide) (fun c1 => ?_) (fun c1 => ?_)
  · have hz := hz.trans (if_neg c1)
    have hok := hok.2 c1
    exact k_Pr_openBracket_28 C t hok _ hz _ _ ls hP hD hS hl
  · have hz := hz.trans (if_pos c1)
    have hok := hok.1 c1
    refine lv_aload_n hx hb d_Pr_openBracket_12 rfl (lv_at hl 0 rfl) ?_
    refine gf C hP 0 8 fkPr rfl (by decide) rfl qf_Pr_42 (gPr_8 _ _ _ _ _ _ _ _) d_Pr_openBracket_13 ?_
    refine lv_iconst (v := 2) hx hb d_Pr_openBracket_16 (by decide) ?_
    refine lv_icmp_lt (tgt := 28) hx hb d_Pr_openBracket_17 (by decide) (fun c2 => ?_) (fun c2 => ?_)
    · have hz := hz.trans (if_pos c2)
      have hok := hok.1 c2
      exact k_Pr_openBracket_28 C t hok _ hz _ _ ls hP hD hS hl
    · have hz := hz.trans (if_neg c2)
      have hok := hok.2 c2
      refine lv_aload_n hx hb d_Pr_openBracket_20 rfl (lv_at hl 0 rfl) ?_
      refine gf C hP 0 0 fkPr rfl (by decide) rfl qf_Pr_30 (gPr_0 _ _ _ _ _ _ _ _) d_Pr_openBracket_21 ?_
      refine lv_iconst (v := 3) hx hb d_Pr_openBracket_24 (by decide) ?_
      have hB : SubW g (inW (wPr g qpr qpro qprf qprs qprb qprn qprt qte qteb pi po pf ps pb pn pt t tb)) s (wPr g qpr qpro qprf qprs qprb qprn qprt qte qteb pi po pf ps pb pn pt t tb) (wTe g qte qteb t tb) [7, 8] _ _ := ⟨rfl, rfl, hP, hD, hS⟩
      refine goV1 hB (run_v C mf_Te_fail qm_Pr_62 (c_Te_fail l g qte qteb t tb (3 : Int32)) rfl rfl ⟨Nat.le_of_ble_eq_true rfl, Nat.le_of_ble_eq_true rfl⟩ ⟨Nat.le_of_ble_eq_true rfl, Nat.le_of_ble_eq_true rfl⟩ hB rfl rfl hl rfl rfl (Nat.le_of_ble_eq_true rfl) d_Pr_openBracket_25) (fun _ => rfl) (fun y3 ey3 H locs hP hD hS => ?_)
      have hP : va_P g.1 vwCl (wPr g qpr qpro qprf qprs qprb qprn qprt qte qteb pi po pf ps pb pn pt y3 tb) H := cP (spq hB.1 hB.2.1 [0, 1, 2, 3, 4, 5, 6] 9 rfl rfl (by decide +kernel) rfl) hP
      have hD : va_D (inW (wPr g qpr qpro qprf qprs qprb qprn qprt qte qteb pi po pf ps pb pn pt t tb)) (wPr g qpr qpro qprf qprs qprb qprn qprt qte qteb pi po pf ps pb pn pt y3 tb) := cD (spq hB.1 hB.2.1 [0, 1, 2, 3, 4, 5, 6] 9 rfl rfl (by decide +kernel) rfl) hD
      have hz := lett_z hz ey3
      have hok := lett_o hok ey3
      exact k_Pr_openBracket_28 C y3 hok _ hz _ _ ls hP hD hS hl
abbrev rm_Re_addLine : Room := { frames := 2, cells := 0, slots := 0, locals := 47 }
def HL_Re_addLine_56 (p : Program) (l : Launch) (e : Env) (s : State) (m : MethodId) (args : Array Value) (below : List Frame) (meth : Method) (c : Code) (g : GX) (qre : Nat) (qreb : Nat) (uR : Nat → Nat) (ws0 : va_W) (rr : NI) (rl : NL) (n1 : Nat) (sp : Int32 → IV → IV → (IV × IV)) (ok : Int32 → IV → IV → Prop) : Prop := ∀ (x3p56 : Int32) (revp56 : IV) (rbp56 : IV), ok x3p56 revp56 rbp56 → ∀ z : (IV × IV), z = sp x3p56 revp56 rbp56 → ∀ (H : Heap) (locs : List Loc) (ls : Array Slot), va_P g.1 vwCl (wReP g qre qreb uR revp56 rbp56 rr rl) H → va_D (inW ws0) (wReP g qre qreb uR revp56 rbp56 rr rl) → va_S (inW ws0) s.heap H locs → lv_has ls 4 [(0, .ref qre), (1, .ref (uR n1)), (3, .int x3p56)] → W p l e rm_Re_addLine s m args below meth c H locs 0 0 (MQ below (CV g ws0 (fun u : IV × IV => wReP g qre qreb uR u.1 u.2 rr rl) z) args s 0 0 (inW ws0)) (F0 m 56 ls [])
def HL_Re_addLine_76 (p : Program) (l : Launch) (e : Env) (s : State) (m : MethodId) (args : Array Value) (below : List Frame) (meth : Method) (c : Code) (g : GX) (qre : Nat) (qreb : Nat) (uR : Nat → Nat) (ws0 : va_W) (revp56 : IV) (rbp56 : IV) (rr : NI) (rl : NL) (n1 : Nat) (sp : (IV × IV)) (ok : Prop) : Prop := ∀ (_ : Unit), ok → ∀ z : (IV × IV), z = sp → ∀ (H : Heap) (locs : List Loc) (ls : Array Slot), va_P g.1 vwCl (wReP g qre qreb uR revp56 rbp56 rr rl) H → va_D (inW ws0) (wReP g qre qreb uR revp56 rbp56 rr rl) → va_S (inW ws0) s.heap H locs → lv_has ls 4 [(0, .ref qre), (1, .ref (uR n1))] → W p l e rm_Re_addLine s m args below meth c H locs 0 0 (MQ below (CV g ws0 (fun u : IV × IV => wReP g qre qreb uR u.1 u.2 rr rl) z) args s 0 0 (inW ws0)) (F0 m 76 ls [])
def HL_Re_addLine_97 (p : Program) (l : Launch) (e : Env) (s : State) (m : MethodId) (args : Array Value) (below : List Frame) (meth : Method) (c : Code) (g : GX) (qre : Nat) (qreb : Nat) (uR : Nat → Nat) (ws0 : va_W) (rr : NI) (rl : NL) (n1 : Nat) (sp : IV → IV → (IV × IV)) (ok : IV → IV → Prop) : Prop := ∀ (revp97 : IV) (rbp97 : IV), ok revp97 rbp97 → ∀ z : (IV × IV), z = sp revp97 rbp97 → ∀ (H : Heap) (locs : List Loc) (ls : Array Slot), va_P g.1 vwCl (wReP g qre qreb uR revp97 rbp97 rr rl) H → va_D (inW ws0) (wReP g qre qreb uR revp97 rbp97 rr rl) → va_S (inW ws0) s.heap H locs → lv_has ls 4 [(0, .ref qre), (1, .ref (uR n1))] → W p l e rm_Re_addLine s m args below meth c H locs 0 0 (MQ below (CV g ws0 (fun u : IV × IV => wReP g qre qreb uR u.1 u.2 rr rl) z) args s 0 0 (inW ws0)) (F0 m 97 ls [])
def HL_Re_addLine_123 (p : Program) (l : Launch) (e : Env) (s : State) (m : MethodId) (args : Array Value) (below : List Frame) (meth : Method) (c : Code) (g : GX) (qre : Nat) (qreb : Nat) (uR : Nat → Nat) (ws0 : va_W) (rr : NI) (rl : NL) (sp : IV → IV → (IV × IV)) (ok : IV → IV → Prop) : Prop := ∀ (revp123 : IV) (rbp123 : IV), ok revp123 rbp123 → ∀ z : (IV × IV), z = sp revp123 rbp123 → ∀ (H : Heap) (locs : List Loc) (ls : Array Slot), va_P g.1 vwCl (wReP g qre qreb uR revp123 rbp123 rr rl) H → va_D (inW ws0) (wReP g qre qreb uR revp123 rbp123 rr rl) → va_S (inW ws0) s.heap H locs → lv_has ls 4 [(0, .ref qre)] → W p l e rm_Re_addLine s m args below meth c H locs 0 0 (MQ below (CV g ws0 (fun u : IV × IV => wReP g qre qreb uR u.1 u.2 rr rl) z) args s 0 0 (inW ws0)) (F0 m 123 ls [])
noncomputable def sp_Re_addLine_123   (revp123 : IV) (rbp123 : IV) : IV × IV := lett (sp_Re_addSign (10 : Int32) revp123 rbp123) fun (y34 : IV × IV) => (y34.1, y34.2)
def ok_Re_addLine_123    (revp123 : IV) (rbp123 : IV) : Prop := (ok_Re_addSign (10 : Int32) revp123) ∧ True
set_option maxRecDepth 100000 in
set_option maxHeartbeats 4000000 in
theorem k_Re_addLine_123 {p : Program} {l : Launch} {e : Env} {s : State} {m : MethodId} {args : Array Value} {below : List Frame} {meth : Method} {c : Code} {g : GX} {qre : Nat} {qreb : Nat} {uR : Nat → Nat} {ws0 : va_W} {rr : NI} {rl : NL}  (C : Cx p s m args meth c (inW ws0) g "DecadeBridge$Report" b_Re_addLine none 4)  : HL_Re_addLine_123 p l e s m args below meth c g qre qreb uR ws0 rr rl (sp_Re_addLine_123  ) (ok_Re_addLine_123   ) := by
  intro revp123 rbp123 hok z hz H locs ls hP hD hS hl
  obtain ⟨hx, hb, hr, hml, hown, hlk, hts, hK, hZo, hZ⟩ := id C
  unfold sp_Re_addLine_123 at hz
  unfold ok_Re_addLine_123 at hok
  refine lv_aload_n hx hb d_Re_addLine_123 rfl (lv_at hl 0 rfl) ?_
  refine lv_bipush (v := 10) hx hb d_Re_addLine_124 (by decide) ?_
  have hs33 := hok.1
  have hok := hok.2
  have hB : SubW g (inW ws0) s (wReP g qre qreb uR revp123 rbp123 rr rl) (wRe g qre qreb revp123 rbp123) [0, 1] _ _ := ⟨rfl, rfl, hP, hD, hS⟩
  refine goV1 hB (run_v C mf_Re_addSign qm_Re_47 (c_Re_addSign l g qre qreb revp123 rbp123 (10 : Int32) hs33) rfl rfl ⟨Nat.le_of_ble_eq_true rfl, Nat.le_of_ble_eq_true rfl⟩ ⟨Nat.le_of_ble_eq_true rfl, Nat.le_of_ble_eq_true rfl⟩ hB rfl rfl hl rfl rfl (Nat.le_of_ble_eq_true rfl) d_Re_addLine_126) (fun _ => rfl) (fun y34 ey34 H locs hP hD hS => ?_)
  have hP : va_P g.1 vwCl (wReP g qre qreb uR y34.1 y34.2 rr rl) H := cP (spq hB.1 hB.2.1 [2, 3, 4, 5, 6, 7, 8, 9, 10, 11, 12, 13, 14, 15, 16, 17, 18, 19, 20, 21] 22 rfl rfl (by decide +kernel) rfl) hP
  have hD : va_D (inW ws0) (wReP g qre qreb uR y34.1 y34.2 rr rl) := cD (spq hB.1 hB.2.1 [2, 3, 4, 5, 6, 7, 8, 9, 10, 11, 12, 13, 14, 15, 16, 17, 18, 19, 20, 21] 22 rfl rfl (by decide +kernel) rfl) hD
  have hz := lett_z hz ey34
  exact endV C hz hP hS d_Re_addLine_129
noncomputable def sp_Re_addLine_97 (rl : NL) (n1 : Nat) (rr : NI)  (revp97 : IV) (rbp97 : IV) : IV × IV := lett (sp_Re_addNumber (if 0 < (rl n1 7) then (rl n1 7) else -(rl n1 7)) (1 : Int64) revp97 rbp97) fun (y29 : IV × IV) => if (rr n1 5) = (1 : Int32) then (lett (sp_Re_addSign (42 : Int32) y29.1 y29.2) fun (y32 : IV × IV) => sp_Re_addLine_123 y32.1 y32.2) else (sp_Re_addLine_123 y29.1 y29.2)
def ok_Re_addLine_97 (rl : NL) (n1 : Nat) (rr : NI)   (revp97 : IV) (rbp97 : IV) : Prop := (n1 < 20) ∧ (ok_Re_addNumber (if 0 < (rl n1 7) then (rl n1 7) else -(rl n1 7)) (1 : Int64) revp97 rbp97) ∧ lett (sp_Re_addNumber (if 0 < (rl n1 7) then (rl n1 7) else -(rl n1 7)) (1 : Int64) revp97 rbp97) fun (y29 : IV × IV) => (((rr n1 5) = (1 : Int32) → (ok_Re_addSign (42 : Int32) y29.1) ∧ lett (sp_Re_addSign (42 : Int32) y29.1 y29.2) fun (y32 : IV × IV) => ok_Re_addLine_123 y32.1 y32.2) ∧ (¬ ((rr n1 5) = (1 : Int32)) → ok_Re_addLine_123 y29.1 y29.2))
set_option maxRecDepth 100000 in
set_option maxHeartbeats 4000000 in
theorem k_Re_addLine_97 {p : Program} {l : Launch} {e : Env} {s : State} {m : MethodId} {args : Array Value} {below : List Frame} {meth : Method} {c : Code} {g : GX} {qre : Nat} {qreb : Nat} {uR : Nat → Nat} {ws0 : va_W} {rr : NI} {rl : NL} {n1 : Nat}  (C : Cx p s m args meth c (inW ws0) g "DecadeBridge$Report" b_Re_addLine none 4)  : HL_Re_addLine_97 p l e s m args below meth c g qre qreb uR ws0 rr rl n1 (sp_Re_addLine_97 rl n1 rr ) (ok_Re_addLine_97 rl n1 rr  ) := by
  intro revp97 rbp97 hok z hz H locs ls hP hD hS hl
  obtain ⟨hx, hb, hr, hml, hown, hlk, hts, hK, hZo, hZ⟩ := id C
  unfold sp_Re_addLine_97 at hz
  unfold ok_Re_addLine_97 at hok
  refine lv_aload_n hx hb d_Re_addLine_97 rfl (lv_at hl 0 rfl) ?_
  refine lv_aload_n hx hb d_Re_addLine_98 rfl (lv_at hl 1 rfl) ?_
  have hs27 := hok.1
  have hok := hok.2
  refine gf C hP (n1 + 2) 7 fkRt (pg_ReP_rp hs27) (by decide) rfl qf_Re_60 (gRt_7 _ _) d_Re_addLine_99 ?_
  refine va_mabs_long hx hb (hml.trans hl.1.symm) hown (hts _ qm_Re_64) (hts _ (mf_JM_abs).2) (hts _ (mf_JM_abs).1.2.1) (hts _ (mf_JM_abs).1.1) (Nat.le_of_ble_eq_true rfl) (Nat.le_of_ble_eq_true rfl) (Nat.le_of_ble_eq_true rfl) (Nat.le_of_ble_eq_true rfl) d_Re_addLine_102 ?_
  refine lv_lconst (v := 1) hx hb d_Re_addLine_105 (by decide) ?_
  have hs28 := hok.1
  have hok := hok.2
  have hB : SubW g (inW ws0) s (wReP g qre qreb uR revp97 rbp97 rr rl) (wRe g qre qreb revp97 rbp97) [0, 1] _ _ := ⟨rfl, rfl, hP, hD, hS⟩
  refine goV1 hB (run_v C mf_Re_addNumber qm_Re_43 (c_Re_addNumber l g qre qreb revp97 rbp97 (if 0 < (rl n1 7) then (rl n1 7) else -(rl n1 7)) (1 : Int64) hs28) rfl rfl ⟨Nat.le_of_ble_eq_true rfl, Nat.le_of_ble_eq_true rfl⟩ ⟨Nat.le_of_ble_eq_true rfl, Nat.le_of_ble_eq_true rfl⟩ hB rfl rfl hl rfl rfl (Nat.le_of_ble_eq_true rfl) d_Re_addLine_106) (fun _ => rfl) (fun y29 ey29 H locs hP hD hS => ?_)
  have hP : va_P g.1 vwCl (wReP g qre qreb uR y29.1 y29.2 rr rl) H := cP (spq hB.1 hB.2.1 [2, 3, 4, 5, 6, 7, 8, 9, 10, 11, 12, 13, 14, 15, 16, 17, 18, 19, 20, 21] 22 rfl rfl (by decide +kernel) rfl) hP
  have hD : va_D (inW ws0) (wReP g qre qreb uR y29.1 y29.2 rr rl) := cD (spq hB.1 hB.2.1 [2, 3, 4, 5, 6, 7, 8, 9, 10, 11, 12, 13, 14, 15, 16, 17, 18, 19, 20, 21] 22 rfl rfl (by decide +kernel) rfl) hD
  have hz := lett_z hz ey29
  have hok := lett_o hok ey29
  refine lv_aload_n hx hb d_Re_addLine_109 rfl (lv_at hl 1 rfl) ?_
  refine gf C hP (n1 + 2) 5 fkRt (pg_ReP_rp hs27) (by decide) rfl qf_Re_70 (gRt_5 _ _) d_Re_addLine_110 ?_
  refine lv_iconst (v := 1) hx hb d_Re_addLine_113 (by decide) ?_
  refine lv_icmp_ne (tgt := 123) hx hb d_Re_addLine_114 (by decide) (fun c30 => ?_) (fun c30 => ?_)
  · have hz := hz.trans (if_neg c30)
    have hok := hok.2 c30
    exact k_Re_addLine_123 C y29.1 y29.2 hok _ hz _ _ ls hP hD hS (lv_sub hl [0] rfl)
  · have hz := hz.trans (if_pos c30)
    have hok := hok.1 c30
    refine lv_aload_n hx hb d_Re_addLine_117 rfl (lv_at hl 0 rfl) ?_
    refine lv_bipush (v := 42) hx hb d_Re_addLine_118 (by decide) ?_
    have hs31 := hok.1
    have hok := hok.2
    have hB : SubW g (inW ws0) s (wReP g qre qreb uR y29.1 y29.2 rr rl) (wRe g qre qreb y29.1 y29.2) [0, 1] _ _ := ⟨rfl, rfl, hP, hD, hS⟩
    refine goV1 hB (run_v C mf_Re_addSign qm_Re_47 (c_Re_addSign l g qre qreb y29.1 y29.2 (42 : Int32) hs31) rfl rfl ⟨Nat.le_of_ble_eq_true rfl, Nat.le_of_ble_eq_true rfl⟩ ⟨Nat.le_of_ble_eq_true rfl, Nat.le_of_ble_eq_true rfl⟩ hB rfl rfl hl rfl rfl (Nat.le_of_ble_eq_true rfl) d_Re_addLine_120) (fun _ => rfl) (fun y32 ey32 H locs hP hD hS => ?_)
    have hP : va_P g.1 vwCl (wReP g qre qreb uR y32.1 y32.2 rr rl) H := cP (spq hB.1 hB.2.1 [2, 3, 4, 5, 6, 7, 8, 9, 10, 11, 12, 13, 14, 15, 16, 17, 18, 19, 20, 21] 22 rfl rfl (by decide +kernel) rfl) hP
    have hD : va_D (inW ws0) (wReP g qre qreb uR y32.1 y32.2 rr rl) := cD (spq hB.1 hB.2.1 [2, 3, 4, 5, 6, 7, 8, 9, 10, 11, 12, 13, 14, 15, 16, 17, 18, 19, 20, 21] 22 rfl rfl (by decide +kernel) rfl) hD
    have hz := lett_z hz ey32
    have hok := lett_o hok ey32
    exact k_Re_addLine_123 C y32.1 y32.2 hok _ hz _ _ ls hP hD hS (lv_sub hl [0] rfl)
noncomputable def sp_Re_addLine_76 (revp56 : IV) (rbp56 : IV) (rl : NL) (n1 : Nat) (rr : NI)   : IV × IV := lett (sp_Re_addSign (32 : Int32) revp56 rbp56) fun (y22 : IV × IV) => if (0 : Int64) ≤ (rl n1 7) then (sp_Re_addLine_97 rl n1 rr y22.1 y22.2) else (lett (sp_Re_addSign (45 : Int32) y22.1 y22.2) fun (y26 : IV × IV) => sp_Re_addLine_97 rl n1 rr y26.1 y26.2)
def ok_Re_addLine_76 (revp56 : IV) (rbp56 : IV) (rl : NL) (n1 : Nat) (rr : NI)    : Prop := (ok_Re_addSign (32 : Int32) revp56) ∧ lett (sp_Re_addSign (32 : Int32) revp56 rbp56) fun (y22 : IV × IV) => (n1 < 20) ∧ (((0 : Int64) ≤ (rl n1 7) → ok_Re_addLine_97 rl n1 rr y22.1 y22.2) ∧ (¬ ((0 : Int64) ≤ (rl n1 7)) → (ok_Re_addSign (45 : Int32) y22.1) ∧ lett (sp_Re_addSign (45 : Int32) y22.1 y22.2) fun (y26 : IV × IV) => ok_Re_addLine_97 rl n1 rr y26.1 y26.2))
set_option maxRecDepth 100000 in
set_option maxHeartbeats 4000000 in
theorem k_Re_addLine_76 {p : Program} {l : Launch} {e : Env} {s : State} {m : MethodId} {args : Array Value} {below : List Frame} {meth : Method} {c : Code} {g : GX} {qre : Nat} {qreb : Nat} {uR : Nat → Nat} {ws0 : va_W} {revp56 : IV} {rbp56 : IV} {rr : NI} {rl : NL} {n1 : Nat}  (C : Cx p s m args meth c (inW ws0) g "DecadeBridge$Report" b_Re_addLine none 4)  : HL_Re_addLine_76 p l e s m args below meth c g qre qreb uR ws0 revp56 rbp56 rr rl n1 (sp_Re_addLine_76 revp56 rbp56 rl n1 rr ) (ok_Re_addLine_76 revp56 rbp56 rl n1 rr  ) := by
  intro _ hok z hz H locs ls hP hD hS hl
  obtain ⟨hx, hb, hr, hml, hown, hlk, hts, hK, hZo, hZ⟩ := id C
  unfold sp_Re_addLine_76 at hz
  unfold ok_Re_addLine_76 at hok
  refine lv_aload_n hx hb d_Re_addLine_76 rfl (lv_at hl 0 rfl) ?_
  refine lv_bipush (v := 32) hx hb d_Re_addLine_77 (by decide) ?_
  have hs21 := hok.1
  have hok := hok.2
  have hB : SubW g (inW ws0) s (wReP g qre qreb uR revp56 rbp56 rr rl) (wRe g qre qreb revp56 rbp56) [0, 1] _ _ := ⟨rfl, rfl, hP, hD, hS⟩
  refine goV1 hB (run_v C mf_Re_addSign qm_Re_47 (c_Re_addSign l g qre qreb revp56 rbp56 (32 : Int32) hs21) rfl rfl ⟨Nat.le_of_ble_eq_true rfl, Nat.le_of_ble_eq_true rfl⟩ ⟨Nat.le_of_ble_eq_true rfl, Nat.le_of_ble_eq_true rfl⟩ hB rfl rfl hl rfl rfl (Nat.le_of_ble_eq_true rfl) d_Re_addLine_79) (fun _ => rfl) (fun y22 ey22 H locs hP hD hS => ?_)
  have hP : va_P g.1 vwCl (wReP g qre qreb uR y22.1 y22.2 rr rl) H := cP (spq hB.1 hB.2.1 [2, 3, 4, 5, 6, 7, 8, 9, 10, 11, 12, 13, 14, 15, 16, 17, 18, 19, 20, 21] 22 rfl rfl (by decide +kernel) rfl) hP
  have hD : va_D (inW ws0) (wReP g qre qreb uR y22.1 y22.2 rr rl) := cD (spq hB.1 hB.2.1 [2, 3, 4, 5, 6, 7, 8, 9, 10, 11, 12, 13, 14, 15, 16, 17, 18, 19, 20, 21] 22 rfl rfl (by decide +kernel) rfl) hD
  have hz := lett_z hz ey22
  have hok := lett_o hok ey22
  refine lv_aload_n hx hb d_Re_addLine_82 rfl (lv_at hl 1 rfl) ?_
  have hs23 := hok.1
  have hok := hok.2
  refine gf C hP (n1 + 2) 7 fkRt (pg_ReP_rp hs23) (by decide) rfl qf_Re_60 (gRt_7 _ _) d_Re_addLine_83 ?_
  refine lv_lconst (v := 0) hx hb d_Re_addLine_86 (by decide) ?_
  refine lc_ge (tgt := 97) hx hb d_Re_addLine_87 d_Re_addLine_88 (by decide) (fun c24 => ?_) (fun c24 => ?_)
  · have hz := hz.trans (if_pos c24)
    have hok := hok.1 c24
    exact k_Re_addLine_97 C y22.1 y22.2 hok _ hz _ _ ls hP hD hS hl
  · have hz := hz.trans (if_neg c24)
    have hok := hok.2 c24
    refine lv_aload_n hx hb d_Re_addLine_91 rfl (lv_at hl 0 rfl) ?_
    refine lv_bipush (v := 45) hx hb d_Re_addLine_92 (by decide) ?_
    have hs25 := hok.1
    have hok := hok.2
    have hB : SubW g (inW ws0) s (wReP g qre qreb uR y22.1 y22.2 rr rl) (wRe g qre qreb y22.1 y22.2) [0, 1] _ _ := ⟨rfl, rfl, hP, hD, hS⟩
    refine goV1 hB (run_v C mf_Re_addSign qm_Re_47 (c_Re_addSign l g qre qreb y22.1 y22.2 (45 : Int32) hs25) rfl rfl ⟨Nat.le_of_ble_eq_true rfl, Nat.le_of_ble_eq_true rfl⟩ ⟨Nat.le_of_ble_eq_true rfl, Nat.le_of_ble_eq_true rfl⟩ hB rfl rfl hl rfl rfl (Nat.le_of_ble_eq_true rfl) d_Re_addLine_94) (fun _ => rfl) (fun y26 ey26 H locs hP hD hS => ?_)
    have hP : va_P g.1 vwCl (wReP g qre qreb uR y26.1 y26.2 rr rl) H := cP (spq hB.1 hB.2.1 [2, 3, 4, 5, 6, 7, 8, 9, 10, 11, 12, 13, 14, 15, 16, 17, 18, 19, 20, 21] 22 rfl rfl (by decide +kernel) rfl) hP
    have hD : va_D (inW ws0) (wReP g qre qreb uR y26.1 y26.2 rr rl) := cD (spq hB.1 hB.2.1 [2, 3, 4, 5, 6, 7, 8, 9, 10, 11, 12, 13, 14, 15, 16, 17, 18, 19, 20, 21] 22 rfl rfl (by decide +kernel) rfl) hD
    have hz := lett_z hz ey26
    have hok := lett_o hok ey26
    exact k_Re_addLine_97 C y26.1 y26.2 hok _ hz _ _ ls hP hD hS hl
noncomputable def bd_Re_addLine_56 (rr : NI) (n1 : Nat) (rl : NL) (r56 : Int32 → IV → IV → (IV × IV)) (x3p56 : Int32) (revp56 : IV) (rbp56 : IV) : IV × IV := if (rr n1 2) ≤ x3p56 then (sp_Re_addLine_76 revp56 rbp56 rl n1 rr) else (lett (sp_Re_addSign (119 : Int32) revp56 rbp56) fun (y19 : IV × IV) => lett (x3p56 + (1 : Int32)) fun (v20 : Int32) => r56 v20 y19.1 y19.2)
def okb_Re_addLine_56 (rr : NI) (n1 : Nat) (rl : NL) (r56 : Int32 → IV → IV → (IV × IV)) (q56 : Int32 → IV → IV → Prop) (x3p56 : Int32) (revp56 : IV) (rbp56 : IV) : Prop := (n1 < 20) ∧ (((rr n1 2) ≤ x3p56 → ok_Re_addLine_76 revp56 rbp56 rl n1 rr) ∧ (¬ ((rr n1 2) ≤ x3p56) → (ok_Re_addSign (119 : Int32) revp56) ∧ lett (sp_Re_addSign (119 : Int32) revp56 rbp56) fun (y19 : IV × IV) => lett (x3p56 + (1 : Int32)) fun (v20 : Int32) => q56 v20 y19.1 y19.2))
noncomputable def sp_Re_addLine_56 (rr : NI) (n1 : Nat) (rl : NL)  : Nat → Int32 → IV → IV → (IV × IV)
  | 0 => fun _ _ _ => default
  | f + 1 => bd_Re_addLine_56 rr n1 rl  (sp_Re_addLine_56 rr n1 rl  f)
def ok_Re_addLine_56 (rr : NI) (n1 : Nat) (rl : NL)   : Nat → Int32 → IV → IV → Prop
  | 0 => fun _ _ _ => False
  | f + 1 => okb_Re_addLine_56 rr n1 rl  (sp_Re_addLine_56 rr n1 rl  f)  (ok_Re_addLine_56 rr n1 rl   f)
set_option maxRecDepth 100000 in
set_option maxHeartbeats 4000000 in
theorem kb_Re_addLine_56 {p : Program} {l : Launch} {e : Env} {s : State} {m : MethodId} {args : Array Value} {below : List Frame} {meth : Method} {c : Code} {g : GX} {qre : Nat} {qreb : Nat} {uR : Nat → Nat} {ws0 : va_W} {rr : NI} {rl : NL} {n1 : Nat}  (C : Cx p s m args meth c (inW ws0) g "DecadeBridge$Report" b_Re_addLine none 4) {r56 : Int32 → IV → IV → (IV × IV)} {q56 : Int32 → IV → IV → Prop}  (ih56 : HL_Re_addLine_56 p l e s m args below meth c g qre qreb uR ws0 rr rl n1 r56 q56) : HL_Re_addLine_56 p l e s m args below meth c g qre qreb uR ws0 rr rl n1 (bd_Re_addLine_56 rr n1 rl  r56) (okb_Re_addLine_56 rr n1 rl  r56  q56) := by
  intro x3p56 revp56 rbp56 hok z hz H locs ls hP hD hS hl
  obtain ⟨hx, hb, hr, hml, hown, hlk, hts, hK, hZo, hZ⟩ := id C
  unfold bd_Re_addLine_56 at hz
  unfold okb_Re_addLine_56 at hok
  refine lv_iload_n hx hb d_Re_addLine_56 rfl (lv_at hl 2 rfl) ?_
  refine lv_aload_n hx hb d_Re_addLine_57 rfl (lv_at hl 1 rfl) ?_
  have hs16 := hok.1
  have hok := hok.2
  refine gf C hP (n1 + 2) 2 fkRt (pg_ReP_rp hs16) (by decide) rfl qf_Re_57 (gRt_2 _ _) d_Re_addLine_58 ?_
  refine lv_icmp_ge (tgt := 76) hx hb d_Re_addLine_61 (by decide) (fun c17 => ?_) (fun c17 => ?_)
  · have hz := hz.trans (if_pos c17)
    have hok := hok.1 c17
    exact k_Re_addLine_76 C () hok _ hz _ _ ls hP hD hS (lv_sub hl [0, 1] rfl)
  · have hz := hz.trans (if_neg c17)
    have hok := hok.2 c17
    refine lv_aload_n hx hb d_Re_addLine_64 rfl (lv_at hl 0 rfl) ?_
    refine lv_bipush (v := 119) hx hb d_Re_addLine_65 (by decide) ?_
    have hs18 := hok.1
    have hok := hok.2
    have hB : SubW g (inW ws0) s (wReP g qre qreb uR revp56 rbp56 rr rl) (wRe g qre qreb revp56 rbp56) [0, 1] _ _ := ⟨rfl, rfl, hP, hD, hS⟩
    refine goV1 hB (run_v C mf_Re_addSign qm_Re_47 (c_Re_addSign l g qre qreb revp56 rbp56 (119 : Int32) hs18) rfl rfl ⟨Nat.le_of_ble_eq_true rfl, Nat.le_of_ble_eq_true rfl⟩ ⟨Nat.le_of_ble_eq_true rfl, Nat.le_of_ble_eq_true rfl⟩ hB rfl rfl hl rfl rfl (Nat.le_of_ble_eq_true rfl) d_Re_addLine_67) (fun _ => rfl) (fun y19 ey19 H locs hP hD hS => ?_)
    have hP : va_P g.1 vwCl (wReP g qre qreb uR y19.1 y19.2 rr rl) H := cP (spq hB.1 hB.2.1 [2, 3, 4, 5, 6, 7, 8, 9, 10, 11, 12, 13, 14, 15, 16, 17, 18, 19, 20, 21] 22 rfl rfl (by decide +kernel) rfl) hP
    have hD : va_D (inW ws0) (wReP g qre qreb uR y19.1 y19.2 rr rl) := cD (spq hB.1 hB.2.1 [2, 3, 4, 5, 6, 7, 8, 9, 10, 11, 12, 13, 14, 15, 16, 17, 18, 19, 20, 21] 22 rfl rfl (by decide +kernel) rfl) hD
    have hz := lett_z hz ey19
    have hok := lett_o hok ey19
    obtain ⟨v20, ev20⟩ : ∃ y : Int32, y = x3p56 + (1 : Int32) := ⟨_, rfl⟩
    have hz := lett_z hz ev20
    have hok := lett_o hok ev20
    refine lv_iinc (v := v20) (lv' := [(3, .int v20), (0, .ref qre), (1, .ref (uR n1))]) hx hb d_Re_addLine_70 hl (k := 2) rfl (by rw [ev20]; rfl) (by decide) rfl (fun ls hl => ?_)
    refine lv_goto (tgt := 56) hx hb d_Re_addLine_73 (by decide) ?_
    exact ih56 v20 y19.1 y19.2 hok _ hz _ _ ls hP hD hS (lv_sub hl [1, 2, 0] rfl)
theorem k_Re_addLine_56 {p : Program} {l : Launch} {e : Env} {s : State} {m : MethodId} {args : Array Value} {below : List Frame} {meth : Method} {c : Code} {g : GX} {qre : Nat} {qreb : Nat} {uR : Nat → Nat} {ws0 : va_W} {rr : NI} {rl : NL} {n1 : Nat}  (C : Cx p s m args meth c (inW ws0) g "DecadeBridge$Report" b_Re_addLine none 4) (f : Nat)  : HL_Re_addLine_56 p l e s m args below meth c g qre qreb uR ws0 rr rl n1 (sp_Re_addLine_56 rr n1 rl  f) (ok_Re_addLine_56 rr n1 rl   f) := by
  induction f with
  | zero => intro x3p56 revp56 rbp56 hok; exact False.elim hok
  | succ f ih => exact kb_Re_addLine_56 C  ih
noncomputable def sp_Re_addLine (n1 : Nat) (p2 : Int32) (rev : IV) (rb : IV) (rr : NI) (rl : NL) : IV × IV := lett (sp_Pa_tenTo (p2 - (1 : Int32))) fun (y3 : Int32) => lett (sp_Re_addNumber ((rr n1 3).toInt64) y3.toInt64 rev rb) fun (y5 : IV × IV) => lett (sp_Re_addSign (32 : Int32) y5.1 y5.2) fun (y7 : IV × IV) => lett (sp_Re_addNumber ((rr n1 0).toInt64) (1 : Int64) y7.1 y7.2) fun (y9 : IV × IV) => lett (sp_Re_addSign (47 : Int32) y9.1 y9.2) fun (y11 : IV × IV) => lett (sp_Re_addNumber ((rr n1 1).toInt64) (1 : Int64) y11.1 y11.2) fun (y13 : IV × IV) => lett (sp_Re_addSign (32 : Int32) y13.1 y13.2) fun (y15 : IV × IV) => sp_Re_addLine_56 rr n1 rl big (0 : Int32) y15.1 y15.2
def ok_Re_addLine (n1 : Nat) (p2 : Int32) (rev : IV) (rb : IV) (rr : NI) (rl : NL) : Prop := (n1 < 20) ∧ (ok_Pa_tenTo (p2 - (1 : Int32))) ∧ lett (sp_Pa_tenTo (p2 - (1 : Int32))) fun (y3 : Int32) => (ok_Re_addNumber ((rr n1 3).toInt64) y3.toInt64 rev rb) ∧ lett (sp_Re_addNumber ((rr n1 3).toInt64) y3.toInt64 rev rb) fun (y5 : IV × IV) => (ok_Re_addSign (32 : Int32) y5.1) ∧ lett (sp_Re_addSign (32 : Int32) y5.1 y5.2) fun (y7 : IV × IV) => (ok_Re_addNumber ((rr n1 0).toInt64) (1 : Int64) y7.1 y7.2) ∧ lett (sp_Re_addNumber ((rr n1 0).toInt64) (1 : Int64) y7.1 y7.2) fun (y9 : IV × IV) => (ok_Re_addSign (47 : Int32) y9.1) ∧ lett (sp_Re_addSign (47 : Int32) y9.1 y9.2) fun (y11 : IV × IV) => (ok_Re_addNumber ((rr n1 1).toInt64) (1 : Int64) y11.1 y11.2) ∧ lett (sp_Re_addNumber ((rr n1 1).toInt64) (1 : Int64) y11.1 y11.2) fun (y13 : IV × IV) => (ok_Re_addSign (32 : Int32) y13.1) ∧ lett (sp_Re_addSign (32 : Int32) y13.1 y13.2) fun (y15 : IV × IV) => ok_Re_addLine_56 rr n1 rl big (0 : Int32) y15.1 y15.2
set_option maxRecDepth 100000 in
set_option maxHeartbeats 4000000 in
theorem c_Re_addLine (l : Launch) (g : GX) (qre : Nat) (qreb : Nat) (uR : Nat → Nat) (rev : IV) (rb : IV) (rr : NI) (rl : NL) (n1 : Nat) (p2 : Int32) (hok : ok_Re_addLine n1 p2 rev rb rr rl) : Met l y_Re_addLine (wsY y_Re_addLine b_Re_addLine 4 none) rm_Re_addLine (CP g [.ref qre, .ref (uR n1), .int p2] (wReP g qre qreb uR rev rb rr rl)) (CV g (wReP g qre qreb uR rev rb rr rl) (fun u : IV × IV => wReP g qre qreb uR u.1 u.2 rr rl) (sp_Re_addLine n1 p2 rev rb rr rl)) 0 0 (inW (wReP g qre qreb uR rev rb rr rl)) := by
  refine Met.ofW (cc := b_Re_addLine) (maxL := 4) (ret := none) pn_Re rfl ?_
  intro p e s m args below meth c s₁ B hml hv
  obtain ⟨rfl, C, hP, hD, hS⟩ := enter "DecadeBridge$Report" rfl B hml hv
  obtain ⟨hx, hb, hr, hml, hown, hlk, hts, hK, hZo, hZ⟩ := id C
  refine entryW (lv := [(0, .ref qre), (1, .ref (uR n1)), (2, .int p2)]) rfl (Nat.le_of_ble_eq_true rfl) (fun ls hl => ?_)
  obtain ⟨z, hz⟩ : ∃ z, z = sp_Re_addLine n1 p2 rev rb rr rl := ⟨_, rfl⟩
  rw [← hz]
  unfold sp_Re_addLine at hz
  unfold ok_Re_addLine at hok
  refine lv_aload_n hx hb d_Re_addLine_0 rfl (lv_at hl 0 rfl) ?_
  refine lv_aload_n hx hb d_Re_addLine_1 rfl (lv_at hl 1 rfl) ?_
  have hs1 := hok.1
  have hok := hok.2
  refine gf C hP (n1 + 2) 3 fkRt (pg_ReP_rp hs1) (by decide) rfl qf_Re_32 (gRt_3 _ _) d_Re_addLine_2 ?_
  refine lv_i2l hx hb d_Re_addLine_5 rfl ?_
  refine lv_iload_n hx hb d_Re_addLine_6 rfl (lv_at hl 2 rfl) ?_
  refine lv_iconst (v := 1) hx hb d_Re_addLine_7 (by decide) ?_
  refine lv_isub hx hb d_Re_addLine_8 ?_
  have hs2 := hok.1
  have hok := hok.2
  have hB : SubW g (inW (wReP g qre qreb uR rev rb rr rl)) s (wReP g qre qreb uR rev rb rr rl) (wNil g ) [] _ _ := ⟨rfl, rfl, hP, hD, hS⟩
  refine goI0 hB (run_s C mf_Pa_tenTo qm_Re_37 (c_Pa_tenTo l g (p2 - (1 : Int32)) hs2) rfl rfl ⟨Nat.le_of_ble_eq_true rfl, Nat.le_of_ble_eq_true rfl⟩ ⟨Nat.le_of_ble_eq_true rfl, Nat.le_of_ble_eq_true rfl⟩ hB hl rfl rfl (Nat.le_of_ble_eq_true rfl) d_Re_addLine_9) (fun y3 ey3 H locs hP hS => ?_)
  have hz := lett_z hz ey3
  have hok := lett_o hok ey3
  refine lv_i2l hx hb d_Re_addLine_12 rfl ?_
  have hs4 := hok.1
  have hok := hok.2
  have hB : SubW g (inW (wReP g qre qreb uR rev rb rr rl)) s (wReP g qre qreb uR rev rb rr rl) (wRe g qre qreb rev rb) [0, 1] _ _ := ⟨rfl, rfl, hP, hD, hS⟩
  refine goV1 hB (run_v C mf_Re_addNumber qm_Re_43 (c_Re_addNumber l g qre qreb rev rb ((rr n1 3).toInt64) y3.toInt64 hs4) rfl rfl ⟨Nat.le_of_ble_eq_true rfl, Nat.le_of_ble_eq_true rfl⟩ ⟨Nat.le_of_ble_eq_true rfl, Nat.le_of_ble_eq_true rfl⟩ hB rfl rfl hl rfl rfl (Nat.le_of_ble_eq_true rfl) d_Re_addLine_13) (fun _ => rfl) (fun y5 ey5 H locs hP hD hS => ?_)
  have hP : va_P g.1 vwCl (wReP g qre qreb uR y5.1 y5.2 rr rl) H := cP (spq hB.1 hB.2.1 [2, 3, 4, 5, 6, 7, 8, 9, 10, 11, 12, 13, 14, 15, 16, 17, 18, 19, 20, 21] 22 rfl rfl (by decide +kernel) rfl) hP
  have hD : va_D (inW (wReP g qre qreb uR rev rb rr rl)) (wReP g qre qreb uR y5.1 y5.2 rr rl) := cD (spq hB.1 hB.2.1 [2, 3, 4, 5, 6, 7, 8, 9, 10, 11, 12, 13, 14, 15, 16, 17, 18, 19, 20, 21] 22 rfl rfl (by decide +kernel) rfl) hD
  have hz := lett_z hz ey5
  have hok := lett_o hok ey5
  refine lv_aload_n hx hb d_Re_addLine_16 rfl (lv_at hl 0 rfl) ?_
  refine lv_bipush (v := 32) hx hb d_Re_addLine_17 (by decide) ?_
  have hs6 := hok.1
  have hok := hok.2
  have hB : SubW g (inW (wReP g qre qreb uR rev rb rr rl)) s (wReP g qre qreb uR y5.1 y5.2 rr rl) (wRe g qre qreb y5.1 y5.2) [0, 1] _ _ := ⟨rfl, rfl, hP, hD, hS⟩
  refine goV1 hB (run_v C mf_Re_addSign qm_Re_47 (c_Re_addSign l g qre qreb y5.1 y5.2 (32 : Int32) hs6) rfl rfl ⟨Nat.le_of_ble_eq_true rfl, Nat.le_of_ble_eq_true rfl⟩ ⟨Nat.le_of_ble_eq_true rfl, Nat.le_of_ble_eq_true rfl⟩ hB rfl rfl hl rfl rfl (Nat.le_of_ble_eq_true rfl) d_Re_addLine_19) (fun _ => rfl) (fun y7 ey7 H locs hP hD hS => ?_)
  have hP : va_P g.1 vwCl (wReP g qre qreb uR y7.1 y7.2 rr rl) H := cP (spq hB.1 hB.2.1 [2, 3, 4, 5, 6, 7, 8, 9, 10, 11, 12, 13, 14, 15, 16, 17, 18, 19, 20, 21] 22 rfl rfl (by decide +kernel) rfl) hP
  have hD : va_D (inW (wReP g qre qreb uR rev rb rr rl)) (wReP g qre qreb uR y7.1 y7.2 rr rl) := cD (spq hB.1 hB.2.1 [2, 3, 4, 5, 6, 7, 8, 9, 10, 11, 12, 13, 14, 15, 16, 17, 18, 19, 20, 21] 22 rfl rfl (by decide +kernel) rfl) hD
  have hz := lett_z hz ey7
  have hok := lett_o hok ey7
  refine lv_aload_n hx hb d_Re_addLine_22 rfl (lv_at hl 0 rfl) ?_
  refine lv_aload_n hx hb d_Re_addLine_23 rfl (lv_at hl 1 rfl) ?_
  refine gf C hP (n1 + 2) 0 fkRt (pg_ReP_rp hs1) (by decide) rfl qf_Re_51 (gRt_0 _ _) d_Re_addLine_24 ?_
  refine lv_i2l hx hb d_Re_addLine_27 rfl ?_
  refine lv_lconst (v := 1) hx hb d_Re_addLine_28 (by decide) ?_
  have hs8 := hok.1
  have hok := hok.2
  have hB : SubW g (inW (wReP g qre qreb uR rev rb rr rl)) s (wReP g qre qreb uR y7.1 y7.2 rr rl) (wRe g qre qreb y7.1 y7.2) [0, 1] _ _ := ⟨rfl, rfl, hP, hD, hS⟩
  refine goV1 hB (run_v C mf_Re_addNumber qm_Re_43 (c_Re_addNumber l g qre qreb y7.1 y7.2 ((rr n1 0).toInt64) (1 : Int64) hs8) rfl rfl ⟨Nat.le_of_ble_eq_true rfl, Nat.le_of_ble_eq_true rfl⟩ ⟨Nat.le_of_ble_eq_true rfl, Nat.le_of_ble_eq_true rfl⟩ hB rfl rfl hl rfl rfl (Nat.le_of_ble_eq_true rfl) d_Re_addLine_29) (fun _ => rfl) (fun y9 ey9 H locs hP hD hS => ?_)
  have hP : va_P g.1 vwCl (wReP g qre qreb uR y9.1 y9.2 rr rl) H := cP (spq hB.1 hB.2.1 [2, 3, 4, 5, 6, 7, 8, 9, 10, 11, 12, 13, 14, 15, 16, 17, 18, 19, 20, 21] 22 rfl rfl (by decide +kernel) rfl) hP
  have hD : va_D (inW (wReP g qre qreb uR rev rb rr rl)) (wReP g qre qreb uR y9.1 y9.2 rr rl) := cD (spq hB.1 hB.2.1 [2, 3, 4, 5, 6, 7, 8, 9, 10, 11, 12, 13, 14, 15, 16, 17, 18, 19, 20, 21] 22 rfl rfl (by decide +kernel) rfl) hD
  have hz := lett_z hz ey9
  have hok := lett_o hok ey9
  refine lv_aload_n hx hb d_Re_addLine_32 rfl (lv_at hl 0 rfl) ?_
  refine lv_bipush (v := 47) hx hb d_Re_addLine_33 (by decide) ?_
  have hs10 := hok.1
  have hok := hok.2
  have hB : SubW g (inW (wReP g qre qreb uR rev rb rr rl)) s (wReP g qre qreb uR y9.1 y9.2 rr rl) (wRe g qre qreb y9.1 y9.2) [0, 1] _ _ := ⟨rfl, rfl, hP, hD, hS⟩
  refine goV1 hB (run_v C mf_Re_addSign qm_Re_47 (c_Re_addSign l g qre qreb y9.1 y9.2 (47 : Int32) hs10) rfl rfl ⟨Nat.le_of_ble_eq_true rfl, Nat.le_of_ble_eq_true rfl⟩ ⟨Nat.le_of_ble_eq_true rfl, Nat.le_of_ble_eq_true rfl⟩ hB rfl rfl hl rfl rfl (Nat.le_of_ble_eq_true rfl) d_Re_addLine_35) (fun _ => rfl) (fun y11 ey11 H locs hP hD hS => ?_)
  have hP : va_P g.1 vwCl (wReP g qre qreb uR y11.1 y11.2 rr rl) H := cP (spq hB.1 hB.2.1 [2, 3, 4, 5, 6, 7, 8, 9, 10, 11, 12, 13, 14, 15, 16, 17, 18, 19, 20, 21] 22 rfl rfl (by decide +kernel) rfl) hP
  have hD : va_D (inW (wReP g qre qreb uR rev rb rr rl)) (wReP g qre qreb uR y11.1 y11.2 rr rl) := cD (spq hB.1 hB.2.1 [2, 3, 4, 5, 6, 7, 8, 9, 10, 11, 12, 13, 14, 15, 16, 17, 18, 19, 20, 21] 22 rfl rfl (by decide +kernel) rfl) hD
  have hz := lett_z hz ey11
  have hok := lett_o hok ey11
  refine lv_aload_n hx hb d_Re_addLine_38 rfl (lv_at hl 0 rfl) ?_
  refine lv_aload_n hx hb d_Re_addLine_39 rfl (lv_at hl 1 rfl) ?_
  refine gf C hP (n1 + 2) 1 fkRt (pg_ReP_rp hs1) (by decide) rfl qf_Re_54 (gRt_1 _ _) d_Re_addLine_40 ?_
  refine lv_i2l hx hb d_Re_addLine_43 rfl ?_
  refine lv_lconst (v := 1) hx hb d_Re_addLine_44 (by decide) ?_
  have hs12 := hok.1
  have hok := hok.2
  have hB : SubW g (inW (wReP g qre qreb uR rev rb rr rl)) s (wReP g qre qreb uR y11.1 y11.2 rr rl) (wRe g qre qreb y11.1 y11.2) [0, 1] _ _ := ⟨rfl, rfl, hP, hD, hS⟩
  refine goV1 hB (run_v C mf_Re_addNumber qm_Re_43 (c_Re_addNumber l g qre qreb y11.1 y11.2 ((rr n1 1).toInt64) (1 : Int64) hs12) rfl rfl ⟨Nat.le_of_ble_eq_true rfl, Nat.le_of_ble_eq_true rfl⟩ ⟨Nat.le_of_ble_eq_true rfl, Nat.le_of_ble_eq_true rfl⟩ hB rfl rfl hl rfl rfl (Nat.le_of_ble_eq_true rfl) d_Re_addLine_45) (fun _ => rfl) (fun y13 ey13 H locs hP hD hS => ?_)
  have hP : va_P g.1 vwCl (wReP g qre qreb uR y13.1 y13.2 rr rl) H := cP (spq hB.1 hB.2.1 [2, 3, 4, 5, 6, 7, 8, 9, 10, 11, 12, 13, 14, 15, 16, 17, 18, 19, 20, 21] 22 rfl rfl (by decide +kernel) rfl) hP
  have hD : va_D (inW (wReP g qre qreb uR rev rb rr rl)) (wReP g qre qreb uR y13.1 y13.2 rr rl) := cD (spq hB.1 hB.2.1 [2, 3, 4, 5, 6, 7, 8, 9, 10, 11, 12, 13, 14, 15, 16, 17, 18, 19, 20, 21] 22 rfl rfl (by decide +kernel) rfl) hD
  have hz := lett_z hz ey13
  have hok := lett_o hok ey13
  refine lv_aload_n hx hb d_Re_addLine_48 rfl (lv_at hl 0 rfl) ?_
  refine lv_bipush (v := 32) hx hb d_Re_addLine_49 (by decide) ?_
  have hs14 := hok.1
  have hok := hok.2
  have hB : SubW g (inW (wReP g qre qreb uR rev rb rr rl)) s (wReP g qre qreb uR y13.1 y13.2 rr rl) (wRe g qre qreb y13.1 y13.2) [0, 1] _ _ := ⟨rfl, rfl, hP, hD, hS⟩
  refine goV1 hB (run_v C mf_Re_addSign qm_Re_47 (c_Re_addSign l g qre qreb y13.1 y13.2 (32 : Int32) hs14) rfl rfl ⟨Nat.le_of_ble_eq_true rfl, Nat.le_of_ble_eq_true rfl⟩ ⟨Nat.le_of_ble_eq_true rfl, Nat.le_of_ble_eq_true rfl⟩ hB rfl rfl hl rfl rfl (Nat.le_of_ble_eq_true rfl) d_Re_addLine_51) (fun _ => rfl) (fun y15 ey15 H locs hP hD hS => ?_)
  have hP : va_P g.1 vwCl (wReP g qre qreb uR y15.1 y15.2 rr rl) H := cP (spq hB.1 hB.2.1 [2, 3, 4, 5, 6, 7, 8, 9, 10, 11, 12, 13, 14, 15, 16, 17, 18, 19, 20, 21] 22 rfl rfl (by decide +kernel) rfl) hP
  have hD : va_D (inW (wReP g qre qreb uR rev rb rr rl)) (wReP g qre qreb uR y15.1 y15.2 rr rl) := cD (spq hB.1 hB.2.1 [2, 3, 4, 5, 6, 7, 8, 9, 10, 11, 12, 13, 14, 15, 16, 17, 18, 19, 20, 21] 22 rfl rfl (by decide +kernel) rfl) hD
  have hz := lett_z hz ey15
  have hok := lett_o hok ey15
  refine lv_iconst (v := 0) hx hb d_Re_addLine_54 (by decide) ?_
  refine lv_istore_n (lv' := [(3, .int (0 : Int32)), (0, .ref qre), (1, .ref (uR n1)), (2, .int p2)]) hx hb d_Re_addLine_55 rfl hl (by decide) rfl (fun ls hl => ?_)
  exact k_Re_addLine_56 C big (0 : Int32) y15.1 y15.2 hok _ hz _ _ ls hP hD hS (lv_sub hl [1, 2, 0] rfl)
abbrev rm_Se_bestSetting : Room := { frames := 4, cells := 0, slots := 0, locals := 97 }
def HL_Se_bestSetting_24 (p : Program) (l : Launch) (e : Env) (s : State) (m : MethodId) (args : Array Value) (below : List Frame) (meth : Method) (c : Code) (g : GX) (qse : Nat) (qci : Nat) (qpa : Nat) (qpae : Nat) (qpar : Nat) (qpau : Nat) (qpab : Nat) (ws0 : va_W) (cal : LV) (w0 : IV) (w1 : IV) (w2 : IV) (w3 : IV) (w4 : IV) (y2 : Int32) (sp : Int32 → Int64 → Int32 → IV → (Int32 × IV)) (ok : Int32 → Int64 → Int32 → IV → Prop) : Prop := ∀ (x2p24 : Int32) (x3p24 : Int64) (x5p24 : Int32) (cap24 : IV), ok x2p24 x3p24 x5p24 cap24 → ∀ z : (Int32 × IV), z = sp x2p24 x3p24 x5p24 cap24 → ∀ (H : Heap) (locs : List Loc) (ls : Array Slot), va_P g.1 vwCl (wSe g qse qci qpa qpae qpar qpau qpab cap24 cal w0 w1 w2 w3 w4) H → va_D (inW ws0) (wSe g qse qci qpa qpae qpar qpau qpab cap24 cal w0 w1 w2 w3 w4) → va_S (inW ws0) s.heap H locs → lv_has ls 8 [(0, .ref qse), (1, .int y2), (2, .int x2p24), (3, .long x3p24), (5, .int x5p24)] → W p l e rm_Se_bestSetting s m args below meth c H locs 0 0 (MQ below (CI g ws0 (fun u : IV => wSe g qse qci qpa qpae qpar qpau qpab u cal w0 w1 w2 w3 w4) z) args s 0 0 (inW ws0)) (F0 m 24 ls [])
def HL_Se_bestSetting_63 (p : Program) (l : Launch) (e : Env) (s : State) (m : MethodId) (args : Array Value) (below : List Frame) (meth : Method) (c : Code) (g : GX) (qse : Nat) (qci : Nat) (qpa : Nat) (qpae : Nat) (qpar : Nat) (qpau : Nat) (qpab : Nat) (ws0 : va_W) (y11 : Int64 × IV) (cal : LV) (w0 : IV) (w1 : IV) (w2 : IV) (w3 : IV) (w4 : IV) (y2 : Int32) (x5p24 : Int32) (sp : Int32 → Int64 → (Int32 × IV)) (ok : Int32 → Int64 → Prop) : Prop := ∀ (x2p63 : Int32) (x3p63 : Int64), ok x2p63 x3p63 → ∀ z : (Int32 × IV), z = sp x2p63 x3p63 → ∀ (H : Heap) (locs : List Loc) (ls : Array Slot), va_P g.1 vwCl (wSe g qse qci qpa qpae qpar qpau qpab y11.2 cal w0 w1 w2 w3 w4) H → va_D (inW ws0) (wSe g qse qci qpa qpae qpar qpau qpab y11.2 cal w0 w1 w2 w3 w4) → va_S (inW ws0) s.heap H locs → lv_has ls 8 [(0, .ref qse), (1, .int y2), (2, .int x2p63), (3, .long x3p63), (5, .int x5p24), (6, .long y11.1)] → W p l e rm_Se_bestSetting s m args below meth c H locs 0 0 (MQ below (CI g ws0 (fun u : IV => wSe g qse qci qpa qpae qpar qpau qpab u cal w0 w1 w2 w3 w4) z) args s 0 0 (inW ws0)) (F0 m 63 ls [])
noncomputable def sp_Se_bestSetting_63 (x5p24 : Int32) (y11 : Int64 × IV) (w0 : IV) (w1 : IV) (w3 : IV) (w4 : IV) (r24 : Int32 → Int64 → Int32 → IV → (Int32 × IV)) (x2p63 : Int32) (x3p63 : Int64) : Int32 × IV := lett (sp_Se_alikeBehind x5p24 y11.1 x3p63 y11.2 w0 w1 w3 w4) fun (y15 : Int32 × IV) => lett (x5p24 + (if (0 : Int32) < y15.1 then y15.1 else (0 : Int32))) fun (v16 : Int32) => lett (v16 + (1 : Int32)) fun (v17 : Int32) => r24 x2p63 x3p63 v17 y15.2
def ok_Se_bestSetting_63 (x5p24 : Int32) (y11 : Int64 × IV) (w0 : IV) (w1 : IV) (w3 : IV) (w4 : IV) (r24 : Int32 → Int64 → Int32 → IV → (Int32 × IV)) (q24 : Int32 → Int64 → Int32 → IV → Prop) (x2p63 : Int32) (x3p63 : Int64) : Prop := (ok_Se_alikeBehind x5p24 y11.1 x3p63 y11.2 w0 w1 w3 w4) ∧ lett (sp_Se_alikeBehind x5p24 y11.1 x3p63 y11.2 w0 w1 w3 w4) fun (y15 : Int32 × IV) => lett (x5p24 + (if (0 : Int32) < y15.1 then y15.1 else (0 : Int32))) fun (v16 : Int32) => lett (v16 + (1 : Int32)) fun (v17 : Int32) => q24 x2p63 x3p63 v17 y15.2
set_option maxRecDepth 100000 in
set_option maxHeartbeats 4000000 in
theorem k_Se_bestSetting_63 {p : Program} {l : Launch} {e : Env} {s : State} {m : MethodId} {args : Array Value} {below : List Frame} {meth : Method} {c : Code} {g : GX} {qse : Nat} {qci : Nat} {qpa : Nat} {qpae : Nat} {qpar : Nat} {qpau : Nat} {qpab : Nat} {ws0 : va_W} {y11 : Int64 × IV} {cal : LV} {w0 : IV} {w1 : IV} {w2 : IV} {w3 : IV} {w4 : IV} {y2 : Int32} {x5p24 : Int32} {r24 : Int32 → Int64 → Int32 → IV → (Int32 × IV)} {q24 : Int32 → Int64 → Int32 → IV → Prop} (C : Cx p s m args meth c (inW ws0) g "DecadeBridge$Search" b_Se_bestSetting (some .int) 8) (ih24 : HL_Se_bestSetting_24 p l e s m args below meth c g qse qci qpa qpae qpar qpau qpab ws0 cal w0 w1 w2 w3 w4 y2 r24 q24) : HL_Se_bestSetting_63 p l e s m args below meth c g qse qci qpa qpae qpar qpau qpab ws0 y11 cal w0 w1 w2 w3 w4 y2 x5p24 (sp_Se_bestSetting_63 x5p24 y11 w0 w1 w3 w4 r24) (ok_Se_bestSetting_63 x5p24 y11 w0 w1 w3 w4 r24 q24) := by
  intro x2p63 x3p63 hok z hz H locs ls hP hD hS hl
  obtain ⟨hx, hb, hr, hml, hown, hlk, hts, hK, hZo, hZ⟩ := id C
  unfold sp_Se_bestSetting_63 at hz
  unfold ok_Se_bestSetting_63 at hok
  refine lv_iload hx hb d_Se_bestSetting_63 (lv_at hl 4 rfl) ?_
  refine lv_iconst (v := 0) hx hb d_Se_bestSetting_65 (by decide) ?_
  refine lv_aload_n hx hb d_Se_bestSetting_66 rfl (lv_at hl 0 rfl) ?_
  refine lv_iload hx hb d_Se_bestSetting_67 (lv_at hl 4 rfl) ?_
  refine lv_lload hx hb d_Se_bestSetting_69 (lv_at hl 5 rfl) ?_
  refine lv_lload_n hx hb d_Se_bestSetting_71 rfl (lv_at hl 3 rfl) ?_
  have hs14 := hok.1
  have hok := hok.2
  have hB : SubW g (inW ws0) s (wSe g qse qci qpa qpae qpar qpau qpab y11.2 cal w0 w1 w2 w3 w4) _ (List.range _) _ _ := (subF hP hD hS)
  refine goIF hB (run_v C mf_Se_alikeBehind qm_Se_66 (c_Se_alikeBehind l g qse qci qpa qpae qpar qpau qpab y11.2 cal w0 w1 w2 w3 w4 x5p24 y11.1 x3p63 hs14) rfl rfl ⟨Nat.le_of_ble_eq_true rfl, Nat.le_of_ble_eq_true rfl⟩ ⟨Nat.le_of_ble_eq_true rfl, Nat.le_of_ble_eq_true rfl⟩ hB rfl rfl hl rfl rfl (Nat.le_of_ble_eq_true rfl) d_Se_bestSetting_72) (fun _ => rfl) (fun y15 ey15 H locs hP hD hS => ?_)
  have hP : va_P g.1 vwCl (wSe g qse qci qpa qpae qpar qpau qpab y15.2 cal w0 w1 w2 w3 w4) H := hP
  have hD : va_D (inW ws0) (wSe g qse qci qpa qpae qpar qpau qpab y15.2 cal w0 w1 w2 w3 w4) := hD
  have hz := lett_z hz ey15
  have hok := lett_o hok ey15
  refine va_mmax hx hb (hml.trans hl.1.symm) hown (hts _ qm_Se_70) (hts _ (mf_JM_max_III).2) (hts _ (mf_JM_max_III).1.2.1) (hts _ (mf_JM_max_III).1.1) (Nat.le_of_ble_eq_true rfl) (Nat.le_of_ble_eq_true rfl) (Nat.le_of_ble_eq_true rfl) (Nat.le_of_ble_eq_true rfl) d_Se_bestSetting_75 ?_
  refine lv_iadd hx hb d_Se_bestSetting_78 ?_
  refine lv_topi (fun v16 ev16 => ?_)
  have hz := lett_z hz ev16
  have hok := lett_o hok ev16
  refine lv_istore (lv' := [(5, .int v16), (0, .ref qse), (1, .int y2), (2, .int x2p63), (3, .long x3p63), (6, .long y11.1)]) hx hb d_Se_bestSetting_79 hl (by decide) rfl (fun ls hl => ?_)
  obtain ⟨v17, ev17⟩ : ∃ y : Int32, y = v16 + (1 : Int32) := ⟨_, rfl⟩
  have hz := lett_z hz ev17
  have hok := lett_o hok ev17
  refine lv_iinc (v := v17) (lv' := [(5, .int v17), (0, .ref qse), (1, .int y2), (2, .int x2p63), (3, .long x3p63), (6, .long y11.1)]) hx hb d_Se_bestSetting_81 hl (k := 0) rfl (by rw [ev17]; rfl) (by decide) rfl (fun ls hl => ?_)
  refine lv_goto (tgt := 24) hx hb d_Se_bestSetting_84 (by decide) ?_
  exact ih24 x2p63 x3p63 v17 y15.2 hok _ hz _ _ ls hP hD hS (lv_sub hl [1, 2, 3, 4, 0] rfl)
noncomputable def bd_Se_bestSetting_24 (y2 : Int32) (w0 : IV) (w1 : IV) (w3 : IV) (w4 : IV) (r24 : Int32 → Int64 → Int32 → IV → (Int32 × IV)) (x2p24 : Int32) (x3p24 : Int64) (x5p24 : Int32) (cap24 : IV) : Int32 × IV := if y2 ≤ x5p24 then ((x2p24, cap24)) else (if x3p24 ≤ (0 : Int64) then ((x2p24, cap24)) else (lett (sp_Se_deflectionAt x5p24 cap24 w0 w1 w3 w4) fun (y11 : Int64 × IV) => if x3p24 ≤ (if 0 < y11.1 then y11.1 else -y11.1) then (sp_Se_bestSetting_63 x5p24 y11 w0 w1 w3 w4 r24 x2p24 x3p24) else (lett (if 0 < y11.1 then y11.1 else -y11.1) fun (v13 : Int64) => sp_Se_bestSetting_63 x5p24 y11 w0 w1 w3 w4 r24 x5p24 v13)))
def okb_Se_bestSetting_24 (y2 : Int32) (w0 : IV) (w1 : IV) (w3 : IV) (w4 : IV) (r24 : Int32 → Int64 → Int32 → IV → (Int32 × IV)) (q24 : Int32 → Int64 → Int32 → IV → Prop) (x2p24 : Int32) (x3p24 : Int64) (x5p24 : Int32) (cap24 : IV) : Prop := ((y2 ≤ x5p24 → True) ∧ (¬ (y2 ≤ x5p24) → ((x3p24 ≤ (0 : Int64) → True) ∧ (¬ (x3p24 ≤ (0 : Int64)) → (ok_Se_deflectionAt x5p24 cap24 w0 w1) ∧ lett (sp_Se_deflectionAt x5p24 cap24 w0 w1 w3 w4) fun (y11 : Int64 × IV) => ((x3p24 ≤ (if 0 < y11.1 then y11.1 else -y11.1) → ok_Se_bestSetting_63 x5p24 y11 w0 w1 w3 w4 r24 q24 x2p24 x3p24) ∧ (¬ (x3p24 ≤ (if 0 < y11.1 then y11.1 else -y11.1)) → lett (if 0 < y11.1 then y11.1 else -y11.1) fun (v13 : Int64) => ok_Se_bestSetting_63 x5p24 y11 w0 w1 w3 w4 r24 q24 x5p24 v13))))))
noncomputable def sp_Se_bestSetting_24 (y2 : Int32) (w0 : IV) (w1 : IV) (w3 : IV) (w4 : IV)  : Nat → Int32 → Int64 → Int32 → IV → (Int32 × IV)
  | 0 => fun _ _ _ _ => default
  | f + 1 => bd_Se_bestSetting_24 y2 w0 w1 w3 w4  (sp_Se_bestSetting_24 y2 w0 w1 w3 w4  f)
def ok_Se_bestSetting_24 (y2 : Int32) (w0 : IV) (w1 : IV) (w3 : IV) (w4 : IV)   : Nat → Int32 → Int64 → Int32 → IV → Prop
  | 0 => fun _ _ _ _ => False
  | f + 1 => okb_Se_bestSetting_24 y2 w0 w1 w3 w4  (sp_Se_bestSetting_24 y2 w0 w1 w3 w4  f)  (ok_Se_bestSetting_24 y2 w0 w1 w3 w4   f)
set_option maxRecDepth 100000 in
set_option maxHeartbeats 4000000 in
theorem kb_Se_bestSetting_24 {p : Program} {l : Launch} {e : Env} {s : State} {m : MethodId} {args : Array Value} {below : List Frame} {meth : Method} {c : Code} {g : GX} {qse : Nat} {qci : Nat} {qpa : Nat} {qpae : Nat} {qpar : Nat} {qpau : Nat} {qpab : Nat} {ws0 : va_W} {cal : LV} {w0 : IV} {w1 : IV} {w2 : IV} {w3 : IV} {w4 : IV} {y2 : Int32}  (C : Cx p s m args meth c (inW ws0) g "DecadeBridge$Search" b_Se_bestSetting (some .int) 8) {r24 : Int32 → Int64 → Int32 → IV → (Int32 × IV)} {q24 : Int32 → Int64 → Int32 → IV → Prop}  (ih24 : HL_Se_bestSetting_24 p l e s m args below meth c g qse qci qpa qpae qpar qpau qpab ws0 cal w0 w1 w2 w3 w4 y2 r24 q24) : HL_Se_bestSetting_24 p l e s m args below meth c g qse qci qpa qpae qpar qpau qpab ws0 cal w0 w1 w2 w3 w4 y2 (bd_Se_bestSetting_24 y2 w0 w1 w3 w4  r24) (okb_Se_bestSetting_24 y2 w0 w1 w3 w4  r24  q24) := by
  intro x2p24 x3p24 x5p24 cap24 hok z hz H locs ls hP hD hS hl
  obtain ⟨hx, hb, hr, hml, hown, hlk, hts, hK, hZo, hZ⟩ := id C
  unfold bd_Se_bestSetting_24 at hz
  unfold okb_Se_bestSetting_24 at hok
  refine lv_iload hx hb d_Se_bestSetting_24 (lv_at hl 4 rfl) ?_
  refine lv_iload_n hx hb d_Se_bestSetting_26 rfl (lv_at hl 1 rfl) ?_
  refine lv_icmp_ge (tgt := 87) hx hb d_Se_bestSetting_27 (by decide) (fun c8 => ?_) (fun c8 => ?_)
  · have hz := hz.trans (if_pos c8)
    refine lv_iload_n hx hb d_Se_bestSetting_87 rfl (lv_at hl 2 rfl) ?_
    exact endI1 C hz hP hS d_Se_bestSetting_88
  · have hz := hz.trans (if_neg c8)
    have hok := hok.2 c8
    refine lv_lload_n hx hb d_Se_bestSetting_30 rfl (lv_at hl 3 rfl) ?_
    refine lv_lconst (v := 0) hx hb d_Se_bestSetting_31 (by decide) ?_
    refine lc_le (tgt := 87) hx hb d_Se_bestSetting_32 d_Se_bestSetting_33 (by decide) (fun c9 => ?_) (fun c9 => ?_)
    · have hz := hz.trans (if_pos c9)
      refine lv_iload_n hx hb d_Se_bestSetting_87 rfl (lv_at hl 2 rfl) ?_
      exact endI1 C hz hP hS d_Se_bestSetting_88
    · have hz := hz.trans (if_neg c9)
      have hok := hok.2 c9
      refine lv_aload_n hx hb d_Se_bestSetting_36 rfl (lv_at hl 0 rfl) ?_
      refine lv_iload hx hb d_Se_bestSetting_37 (lv_at hl 4 rfl) ?_
      have hs10 := hok.1
      have hok := hok.2
      have hB : SubW g (inW ws0) s (wSe g qse qci qpa qpae qpar qpau qpab cap24 cal w0 w1 w2 w3 w4) _ (List.range _) _ _ := (subF hP hD hS)
      refine goLF hB (run_v C mf_Se_deflectionAt qm_Se_36 (c_Se_deflectionAt l g qse qci qpa qpae qpar qpau qpab cap24 cal w0 w1 w2 w3 w4 x5p24 hs10) rfl rfl ⟨Nat.le_of_ble_eq_true rfl, Nat.le_of_ble_eq_true rfl⟩ ⟨Nat.le_of_ble_eq_true rfl, Nat.le_of_ble_eq_true rfl⟩ hB rfl rfl hl rfl rfl (Nat.le_of_ble_eq_true rfl) d_Se_bestSetting_39) (fun _ => rfl) (fun y11 ey11 H locs hP hD hS => ?_)
      have hP : va_P g.1 vwCl (wSe g qse qci qpa qpae qpar qpau qpab y11.2 cal w0 w1 w2 w3 w4) H := hP
      have hD : va_D (inW ws0) (wSe g qse qci qpa qpae qpar qpau qpab y11.2 cal w0 w1 w2 w3 w4) := hD
      have hz := lett_z hz ey11
      have hok := lett_o hok ey11
      refine lv_lstore (lv' := [(6, .long y11.1), (0, .ref qse), (1, .int y2), (2, .int x2p24), (3, .long x3p24), (5, .int x5p24)]) hx hb d_Se_bestSetting_42 hl (by decide) rfl (fun ls hl => ?_)
      refine lv_lload hx hb d_Se_bestSetting_44 (lv_at hl 0 rfl) ?_
      refine va_mabs_long hx hb (hml.trans hl.1.symm) hown (hts _ qm_Se_40) (hts _ (mf_JM_abs).2) (hts _ (mf_JM_abs).1.2.1) (hts _ (mf_JM_abs).1.1) (Nat.le_of_ble_eq_true rfl) (Nat.le_of_ble_eq_true rfl) (Nat.le_of_ble_eq_true rfl) (Nat.le_of_ble_eq_true rfl) d_Se_bestSetting_46 ?_
      refine lv_lload_n hx hb d_Se_bestSetting_49 rfl (lv_at hl 4 rfl) ?_
      refine lc_ge (tgt := 63) hx hb d_Se_bestSetting_50 d_Se_bestSetting_51 (by decide) (fun c12 => ?_) (fun c12 => ?_)
      · have hz := hz.trans (if_pos c12)
        have hok := hok.1 c12
        exact k_Se_bestSetting_63 C ih24 x2p24 x3p24 hok _ hz _ _ ls hP hD hS (lv_sub hl [1, 2, 3, 4, 5, 0] rfl)
      · have hz := hz.trans (if_neg c12)
        have hok := hok.2 c12
        refine lv_iload hx hb d_Se_bestSetting_54 (lv_at hl 5 rfl) ?_
        refine lv_istore_n (lv' := [(2, .int x5p24), (6, .long y11.1), (0, .ref qse), (1, .int y2), (3, .long x3p24), (5, .int x5p24)]) hx hb d_Se_bestSetting_56 rfl hl (by decide) rfl (fun ls hl => ?_)
        refine lv_lload hx hb d_Se_bestSetting_57 (lv_at hl 1 rfl) ?_
        refine va_mabs_long hx hb (hml.trans hl.1.symm) hown (hts _ qm_Se_40) (hts _ (mf_JM_abs).2) (hts _ (mf_JM_abs).1.2.1) (hts _ (mf_JM_abs).1.1) (Nat.le_of_ble_eq_true rfl) (Nat.le_of_ble_eq_true rfl) (Nat.le_of_ble_eq_true rfl) (Nat.le_of_ble_eq_true rfl) d_Se_bestSetting_59 ?_
        refine lv_topl (fun v13 ev13 => ?_)
        have hz := lett_z hz ev13
        have hok := lett_o hok ev13
        refine lv_lstore_n (lv' := [(3, .long v13), (2, .int x5p24), (6, .long y11.1), (0, .ref qse), (1, .int y2), (5, .int x5p24)]) hx hb d_Se_bestSetting_62 rfl hl (by decide) rfl (fun ls hl => ?_)
        exact k_Se_bestSetting_63 C ih24 x5p24 v13 hok _ hz _ _ ls hP hD hS (lv_sub hl [3, 4, 1, 0, 5, 2] rfl)
theorem k_Se_bestSetting_24 {p : Program} {l : Launch} {e : Env} {s : State} {m : MethodId} {args : Array Value} {below : List Frame} {meth : Method} {c : Code} {g : GX} {qse : Nat} {qci : Nat} {qpa : Nat} {qpae : Nat} {qpar : Nat} {qpau : Nat} {qpab : Nat} {ws0 : va_W} {cal : LV} {w0 : IV} {w1 : IV} {w2 : IV} {w3 : IV} {w4 : IV} {y2 : Int32}  (C : Cx p s m args meth c (inW ws0) g "DecadeBridge$Search" b_Se_bestSetting (some .int) 8) (f : Nat)  : HL_Se_bestSetting_24 p l e s m args below meth c g qse qci qpa qpae qpar qpau qpab ws0 cal w0 w1 w2 w3 w4 y2 (sp_Se_bestSetting_24 y2 w0 w1 w3 w4  f) (ok_Se_bestSetting_24 y2 w0 w1 w3 w4   f) := by
  induction f with
  | zero => intro x2p24 x3p24 x5p24 cap24 hok; exact False.elim hok
  | succ f ih => exact kb_Se_bestSetting_24 C  ih
noncomputable def sp_Se_bestSetting (ca : IV) (w0 : IV) (w1 : IV) (w3 : IV) (w4 : IV) : Int32 × IV := lett (sp_Pa_settings w0) fun (y2 : Int32) => lett (sp_Se_idealSetting ca w0 w1 w3 w4) fun (y4 : Int32 × IV) => lett (sp_Se_amountAt y4.1 y4.2 w0 w1 w3 w4) fun (y6 : Int64 × IV) => lett (y6.1 + (1 : Int64)) fun (v7 : Int64) => sp_Se_bestSetting_24 y2 w0 w1 w3 w4 big (0 : Int32) v7 (0 : Int32) y6.2
def ok_Se_bestSetting (ca : IV) (w0 : IV) (w1 : IV) (w3 : IV) (w4 : IV) : Prop := (ok_Pa_settings w0) ∧ lett (sp_Pa_settings w0) fun (y2 : Int32) => (ok_Se_idealSetting ca w0 w1 w3 w4) ∧ lett (sp_Se_idealSetting ca w0 w1 w3 w4) fun (y4 : Int32 × IV) => (ok_Se_amountAt y4.1 y4.2 w0 w1) ∧ lett (sp_Se_amountAt y4.1 y4.2 w0 w1 w3 w4) fun (y6 : Int64 × IV) => lett (y6.1 + (1 : Int64)) fun (v7 : Int64) => ok_Se_bestSetting_24 y2 w0 w1 w3 w4 big (0 : Int32) v7 (0 : Int32) y6.2
set_option maxRecDepth 100000 in
set_option maxHeartbeats 4000000 in
theorem c_Se_bestSetting (l : Launch) (g : GX) (qse : Nat) (qci : Nat) (qpa : Nat) (qpae : Nat) (qpar : Nat) (qpau : Nat) (qpab : Nat) (ca : IV) (cal : LV) (w0 : IV) (w1 : IV) (w2 : IV) (w3 : IV) (w4 : IV)  (hok : ok_Se_bestSetting ca w0 w1 w3 w4) : Met l y_Se_bestSetting (wsY y_Se_bestSetting b_Se_bestSetting 8 (some .int)) rm_Se_bestSetting (CP g [.ref qse] (wSe g qse qci qpa qpae qpar qpau qpab ca cal w0 w1 w2 w3 w4)) (CI g (wSe g qse qci qpa qpae qpar qpau qpab ca cal w0 w1 w2 w3 w4) (fun u : IV => wSe g qse qci qpa qpae qpar qpau qpab u cal w0 w1 w2 w3 w4) (sp_Se_bestSetting ca w0 w1 w3 w4)) 0 0 (inW (wSe g qse qci qpa qpae qpar qpau qpab ca cal w0 w1 w2 w3 w4)) := by
  refine Met.ofW (cc := b_Se_bestSetting) (maxL := 8) (ret := (some .int)) pn_Se rfl ?_
  intro p e s m args below meth c s₁ B hml hv
  obtain ⟨rfl, C, hP, hD, hS⟩ := enter "DecadeBridge$Search" rfl B hml hv
  obtain ⟨hx, hb, hr, hml, hown, hlk, hts, hK, hZo, hZ⟩ := id C
  refine entryW (lv := [(0, .ref qse)]) rfl (Nat.le_of_ble_eq_true rfl) (fun ls hl => ?_)
  obtain ⟨z, hz⟩ : ∃ z, z = sp_Se_bestSetting ca w0 w1 w3 w4 := ⟨_, rfl⟩
  rw [← hz]
  unfold sp_Se_bestSetting at hz
  unfold ok_Se_bestSetting at hok
  refine lv_aload_n hx hb d_Se_bestSetting_0 rfl (lv_at hl 0 rfl) ?_
  refine gf C hP 0 1 fkSe rfl (by decide) rfl qf_Se_9 (gSe_1 _ _) d_Se_bestSetting_1 ?_
  have hs1 := hok.1
  have hok := hok.2
  have hB : SubW g (inW (wSe g qse qci qpa qpae qpar qpau qpab ca cal w0 w1 w2 w3 w4)) s (wSe g qse qci qpa qpae qpar qpau qpab ca cal w0 w1 w2 w3 w4) (wPa g qpa qpae qpar qpau qpab w0 w1 w2 w3 w4) [2, 3, 4, 5, 6] _ _ := ⟨rfl, rfl, hP, hD, hS⟩
  refine goI0 hB (run_v C mf_Pa_settings qm_Se_56 (c_Pa_settings l g qpa qpae qpar qpau qpab w0 w1 w2 w3 w4 hs1) rfl rfl ⟨Nat.le_of_ble_eq_true rfl, Nat.le_of_ble_eq_true rfl⟩ ⟨Nat.le_of_ble_eq_true rfl, Nat.le_of_ble_eq_true rfl⟩ hB rfl rfl hl rfl rfl (Nat.le_of_ble_eq_true rfl) d_Se_bestSetting_4) (fun y2 ey2 H locs hP hS => ?_)
  have hz := lett_z hz ey2
  have hok := lett_o hok ey2
  refine lv_istore_n (lv' := [(1, .int y2), (0, .ref qse)]) hx hb d_Se_bestSetting_7 rfl hl (by decide) rfl (fun ls hl => ?_)
  refine lv_iconst (v := 0) hx hb d_Se_bestSetting_8 (by decide) ?_
  refine lv_istore_n (lv' := [(2, .int (0 : Int32)), (1, .int y2), (0, .ref qse)]) hx hb d_Se_bestSetting_9 rfl hl (by decide) rfl (fun ls hl => ?_)
  refine lv_aload_n hx hb d_Se_bestSetting_10 rfl (lv_at hl 2 rfl) ?_
  refine lv_aload_n hx hb d_Se_bestSetting_11 rfl (lv_at hl 2 rfl) ?_
  have hs3 := hok.1
  have hok := hok.2
  have hB : SubW g (inW (wSe g qse qci qpa qpae qpar qpau qpab ca cal w0 w1 w2 w3 w4)) s (wSe g qse qci qpa qpae qpar qpau qpab ca cal w0 w1 w2 w3 w4) _ (List.range _) _ _ := (subF hP hD hS)
  refine goIF hB (run_v C mf_Se_idealSetting qm_Se_60 (c_Se_idealSetting l g qse qci qpa qpae qpar qpau qpab ca cal w0 w1 w2 w3 w4 hs3) rfl rfl ⟨Nat.le_of_ble_eq_true rfl, Nat.le_of_ble_eq_true rfl⟩ ⟨Nat.le_of_ble_eq_true rfl, Nat.le_of_ble_eq_true rfl⟩ hB rfl rfl hl rfl rfl (Nat.le_of_ble_eq_true rfl) d_Se_bestSetting_12) (fun _ => rfl) (fun y4 ey4 H locs hP hD hS => ?_)
  have hP : va_P g.1 vwCl (wSe g qse qci qpa qpae qpar qpau qpab y4.2 cal w0 w1 w2 w3 w4) H := hP
  have hD : va_D (inW (wSe g qse qci qpa qpae qpar qpau qpab ca cal w0 w1 w2 w3 w4)) (wSe g qse qci qpa qpae qpar qpau qpab y4.2 cal w0 w1 w2 w3 w4) := hD
  have hz := lett_z hz ey4
  have hok := lett_o hok ey4
  have hs5 := hok.1
  have hok := hok.2
  have hB : SubW g (inW (wSe g qse qci qpa qpae qpar qpau qpab ca cal w0 w1 w2 w3 w4)) s (wSe g qse qci qpa qpae qpar qpau qpab y4.2 cal w0 w1 w2 w3 w4) _ (List.range _) _ _ := (subF hP hD hS)
  refine goLF hB (run_v C mf_Se_amountAt qm_Se_63 (c_Se_amountAt l g qse qci qpa qpae qpar qpau qpab y4.2 cal w0 w1 w2 w3 w4 y4.1 hs5) rfl rfl ⟨Nat.le_of_ble_eq_true rfl, Nat.le_of_ble_eq_true rfl⟩ ⟨Nat.le_of_ble_eq_true rfl, Nat.le_of_ble_eq_true rfl⟩ hB rfl rfl hl rfl rfl (Nat.le_of_ble_eq_true rfl) d_Se_bestSetting_15) (fun _ => rfl) (fun y6 ey6 H locs hP hD hS => ?_)
  have hP : va_P g.1 vwCl (wSe g qse qci qpa qpae qpar qpau qpab y6.2 cal w0 w1 w2 w3 w4) H := hP
  have hD : va_D (inW (wSe g qse qci qpa qpae qpar qpau qpab ca cal w0 w1 w2 w3 w4)) (wSe g qse qci qpa qpae qpar qpau qpab y6.2 cal w0 w1 w2 w3 w4) := hD
  have hz := lett_z hz ey6
  have hok := lett_o hok ey6
  refine lv_lconst (v := 1) hx hb d_Se_bestSetting_18 (by decide) ?_
  refine lv_ladd hx hb d_Se_bestSetting_19 ?_
  refine lv_topl (fun v7 ev7 => ?_)
  have hz := lett_z hz ev7
  have hok := lett_o hok ev7
  refine lv_lstore_n (lv' := [(3, .long v7), (2, .int (0 : Int32)), (1, .int y2), (0, .ref qse)]) hx hb d_Se_bestSetting_20 rfl hl (by decide) rfl (fun ls hl => ?_)
  refine lv_iconst (v := 0) hx hb d_Se_bestSetting_21 (by decide) ?_
  refine lv_istore (lv' := [(5, .int (0 : Int32)), (3, .long v7), (2, .int (0 : Int32)), (1, .int y2), (0, .ref qse)]) hx hb d_Se_bestSetting_22 hl (by decide) rfl (fun ls hl => ?_)
  exact k_Se_bestSetting_24 C big (0 : Int32) v7 (0 : Int32) y6.2 hok _ hz _ _ ls hP hD hS (lv_sub hl [4, 3, 2, 1, 0] rfl)
abbrev rm_Se_countBelow : Room := { frames := 4, cells := 0, slots := 0, locals := 97 }
def HL_Se_countBelow_14 (p : Program) (l : Launch) (e : Env) (s : State) (m : MethodId) (args : Array Value) (below : List Frame) (meth : Method) (c : Code) (g : GX) (qse : Nat) (qci : Nat) (qpa : Nat) (qpae : Nat) (qpar : Nat) (qpau : Nat) (qpab : Nat) (ws0 : va_W) (cal : LV) (w0 : IV) (w1 : IV) (w2 : IV) (w3 : IV) (w4 : IV) (p1 : Int64) (y2 : Int32) (sp : Int32 → Int32 → IV → (Int32 × IV)) (ok : Int32 → Int32 → IV → Prop) : Prop := ∀ (x4p14 : Int32) (x5p14 : Int32) (cap14 : IV), ok x4p14 x5p14 cap14 → ∀ z : (Int32 × IV), z = sp x4p14 x5p14 cap14 → ∀ (H : Heap) (locs : List Loc) (ls : Array Slot), va_P g.1 vwCl (wSe g qse qci qpa qpae qpar qpau qpab cap14 cal w0 w1 w2 w3 w4) H → va_D (inW ws0) (wSe g qse qci qpa qpae qpar qpau qpab cap14 cal w0 w1 w2 w3 w4) → va_S (inW ws0) s.heap H locs → lv_has ls 8 [(0, .ref qse), (1, .long p1), (3, .int y2), (4, .int x4p14), (5, .int x5p14)] → W p l e rm_Se_countBelow s m args below meth c H locs 0 0 (MQ below (CI g ws0 (fun u : IV => wSe g qse qci qpa qpae qpar qpau qpab u cal w0 w1 w2 w3 w4) z) args s 0 0 (inW ws0)) (F0 m 14 ls [])
def HL_Se_countBelow_47 (p : Program) (l : Launch) (e : Env) (s : State) (m : MethodId) (args : Array Value) (below : List Frame) (meth : Method) (c : Code) (g : GX) (qse : Nat) (qci : Nat) (qpa : Nat) (qpae : Nat) (qpar : Nat) (qpau : Nat) (qpab : Nat) (ws0 : va_W) (y6 : Int64 × IV) (cal : LV) (w0 : IV) (w1 : IV) (w2 : IV) (w3 : IV) (w4 : IV) (p1 : Int64) (y2 : Int32) (x5p14 : Int32) (sp : Int32 → (Int32 × IV)) (ok : Int32 → Prop) : Prop := ∀ (x4p47 : Int32), ok x4p47 → ∀ z : (Int32 × IV), z = sp x4p47 → ∀ (H : Heap) (locs : List Loc) (ls : Array Slot), va_P g.1 vwCl (wSe g qse qci qpa qpae qpar qpau qpab y6.2 cal w0 w1 w2 w3 w4) H → va_D (inW ws0) (wSe g qse qci qpa qpae qpar qpau qpab y6.2 cal w0 w1 w2 w3 w4) → va_S (inW ws0) s.heap H locs → lv_has ls 8 [(0, .ref qse), (1, .long p1), (3, .int y2), (4, .int x4p47), (5, .int x5p14), (6, .long y6.1)] → W p l e rm_Se_countBelow s m args below meth c H locs 0 0 (MQ below (CI g ws0 (fun u : IV => wSe g qse qci qpa qpae qpar qpau qpab u cal w0 w1 w2 w3 w4) z) args s 0 0 (inW ws0)) (F0 m 47 ls [])
noncomputable def sp_Se_countBelow_47 (x5p14 : Int32) (y6 : Int64 × IV) (p1 : Int64) (w0 : IV) (w1 : IV) (w3 : IV) (w4 : IV) (r14 : Int32 → Int32 → IV → (Int32 × IV)) (x4p47 : Int32) : Int32 × IV := lett (sp_Se_alikeBehind x5p14 y6.1 p1 y6.2 w0 w1 w3 w4) fun (y10 : Int32 × IV) => lett (x5p14 + (if (0 : Int32) < y10.1 then y10.1 else (0 : Int32))) fun (v11 : Int32) => lett (v11 + (1 : Int32)) fun (v12 : Int32) => r14 x4p47 v12 y10.2
def ok_Se_countBelow_47 (x5p14 : Int32) (y6 : Int64 × IV) (p1 : Int64) (w0 : IV) (w1 : IV) (w3 : IV) (w4 : IV) (r14 : Int32 → Int32 → IV → (Int32 × IV)) (q14 : Int32 → Int32 → IV → Prop) (x4p47 : Int32) : Prop := (ok_Se_alikeBehind x5p14 y6.1 p1 y6.2 w0 w1 w3 w4) ∧ lett (sp_Se_alikeBehind x5p14 y6.1 p1 y6.2 w0 w1 w3 w4) fun (y10 : Int32 × IV) => lett (x5p14 + (if (0 : Int32) < y10.1 then y10.1 else (0 : Int32))) fun (v11 : Int32) => lett (v11 + (1 : Int32)) fun (v12 : Int32) => q14 x4p47 v12 y10.2
set_option maxRecDepth 100000 in
set_option maxHeartbeats 4000000 in
theorem k_Se_countBelow_47 {p : Program} {l : Launch} {e : Env} {s : State} {m : MethodId} {args : Array Value} {below : List Frame} {meth : Method} {c : Code} {g : GX} {qse : Nat} {qci : Nat} {qpa : Nat} {qpae : Nat} {qpar : Nat} {qpau : Nat} {qpab : Nat} {ws0 : va_W} {y6 : Int64 × IV} {cal : LV} {w0 : IV} {w1 : IV} {w2 : IV} {w3 : IV} {w4 : IV} {p1 : Int64} {y2 : Int32} {x5p14 : Int32} {r14 : Int32 → Int32 → IV → (Int32 × IV)} {q14 : Int32 → Int32 → IV → Prop} (C : Cx p s m args meth c (inW ws0) g "DecadeBridge$Search" b_Se_countBelow (some .int) 8) (ih14 : HL_Se_countBelow_14 p l e s m args below meth c g qse qci qpa qpae qpar qpau qpab ws0 cal w0 w1 w2 w3 w4 p1 y2 r14 q14) : HL_Se_countBelow_47 p l e s m args below meth c g qse qci qpa qpae qpar qpau qpab ws0 y6 cal w0 w1 w2 w3 w4 p1 y2 x5p14 (sp_Se_countBelow_47 x5p14 y6 p1 w0 w1 w3 w4 r14) (ok_Se_countBelow_47 x5p14 y6 p1 w0 w1 w3 w4 r14 q14) := by
  intro x4p47 hok z hz H locs ls hP hD hS hl
  obtain ⟨hx, hb, hr, hml, hown, hlk, hts, hK, hZo, hZ⟩ := id C
  unfold sp_Se_countBelow_47 at hz
  unfold ok_Se_countBelow_47 at hok
  refine lv_iload hx hb d_Se_countBelow_47 (lv_at hl 4 rfl) ?_
  refine lv_iconst (v := 0) hx hb d_Se_countBelow_49 (by decide) ?_
  refine lv_aload_n hx hb d_Se_countBelow_50 rfl (lv_at hl 0 rfl) ?_
  refine lv_iload hx hb d_Se_countBelow_51 (lv_at hl 4 rfl) ?_
  refine lv_lload hx hb d_Se_countBelow_53 (lv_at hl 5 rfl) ?_
  refine lv_lload_n hx hb d_Se_countBelow_55 rfl (lv_at hl 1 rfl) ?_
  have hs9 := hok.1
  have hok := hok.2
  have hB : SubW g (inW ws0) s (wSe g qse qci qpa qpae qpar qpau qpab y6.2 cal w0 w1 w2 w3 w4) _ (List.range _) _ _ := (subF hP hD hS)
  refine goIF hB (run_v C mf_Se_alikeBehind qm_Se_66 (c_Se_alikeBehind l g qse qci qpa qpae qpar qpau qpab y6.2 cal w0 w1 w2 w3 w4 x5p14 y6.1 p1 hs9) rfl rfl ⟨Nat.le_of_ble_eq_true rfl, Nat.le_of_ble_eq_true rfl⟩ ⟨Nat.le_of_ble_eq_true rfl, Nat.le_of_ble_eq_true rfl⟩ hB rfl rfl hl rfl rfl (Nat.le_of_ble_eq_true rfl) d_Se_countBelow_56) (fun _ => rfl) (fun y10 ey10 H locs hP hD hS => ?_)
  have hP : va_P g.1 vwCl (wSe g qse qci qpa qpae qpar qpau qpab y10.2 cal w0 w1 w2 w3 w4) H := hP
  have hD : va_D (inW ws0) (wSe g qse qci qpa qpae qpar qpau qpab y10.2 cal w0 w1 w2 w3 w4) := hD
  have hz := lett_z hz ey10
  have hok := lett_o hok ey10
  refine va_mmax hx hb (hml.trans hl.1.symm) hown (hts _ qm_Se_70) (hts _ (mf_JM_max_III).2) (hts _ (mf_JM_max_III).1.2.1) (hts _ (mf_JM_max_III).1.1) (Nat.le_of_ble_eq_true rfl) (Nat.le_of_ble_eq_true rfl) (Nat.le_of_ble_eq_true rfl) (Nat.le_of_ble_eq_true rfl) d_Se_countBelow_59 ?_
  refine lv_iadd hx hb d_Se_countBelow_62 ?_
  refine lv_topi (fun v11 ev11 => ?_)
  have hz := lett_z hz ev11
  have hok := lett_o hok ev11
  refine lv_istore (lv' := [(5, .int v11), (0, .ref qse), (1, .long p1), (3, .int y2), (4, .int x4p47), (6, .long y6.1)]) hx hb d_Se_countBelow_63 hl (by decide) rfl (fun ls hl => ?_)
  obtain ⟨v12, ev12⟩ : ∃ y : Int32, y = v11 + (1 : Int32) := ⟨_, rfl⟩
  have hz := lett_z hz ev12
  have hok := lett_o hok ev12
  refine lv_iinc (v := v12) (lv' := [(5, .int v12), (0, .ref qse), (1, .long p1), (3, .int y2), (4, .int x4p47), (6, .long y6.1)]) hx hb d_Se_countBelow_65 hl (k := 0) rfl (by rw [ev12]; rfl) (by decide) rfl (fun ls hl => ?_)
  refine lv_goto (tgt := 14) hx hb d_Se_countBelow_68 (by decide) ?_
  exact ih14 x4p47 v12 y10.2 hok _ hz _ _ ls hP hD hS (lv_sub hl [1, 2, 3, 4, 0] rfl)
noncomputable def bd_Se_countBelow_14 (y2 : Int32) (p1 : Int64) (w0 : IV) (w1 : IV) (w3 : IV) (w4 : IV) (r14 : Int32 → Int32 → IV → (Int32 × IV)) (x4p14 : Int32) (x5p14 : Int32) (cap14 : IV) : Int32 × IV := if y2 ≤ x5p14 then ((x4p14, cap14)) else (if p1 ≤ (0 : Int64) then ((x4p14, cap14)) else (lett (sp_Se_deflectionAt x5p14 cap14 w0 w1 w3 w4) fun (y6 : Int64 × IV) => if p1 ≤ (if 0 < y6.1 then y6.1 else -y6.1) then (sp_Se_countBelow_47 x5p14 y6 p1 w0 w1 w3 w4 r14 x4p14) else (lett (x4p14 + (1 : Int32)) fun (v8 : Int32) => sp_Se_countBelow_47 x5p14 y6 p1 w0 w1 w3 w4 r14 v8)))
def okb_Se_countBelow_14 (y2 : Int32) (p1 : Int64) (w0 : IV) (w1 : IV) (w3 : IV) (w4 : IV) (r14 : Int32 → Int32 → IV → (Int32 × IV)) (q14 : Int32 → Int32 → IV → Prop) (x4p14 : Int32) (x5p14 : Int32) (cap14 : IV) : Prop := ((y2 ≤ x5p14 → True) ∧ (¬ (y2 ≤ x5p14) → ((p1 ≤ (0 : Int64) → True) ∧ (¬ (p1 ≤ (0 : Int64)) → (ok_Se_deflectionAt x5p14 cap14 w0 w1) ∧ lett (sp_Se_deflectionAt x5p14 cap14 w0 w1 w3 w4) fun (y6 : Int64 × IV) => ((p1 ≤ (if 0 < y6.1 then y6.1 else -y6.1) → ok_Se_countBelow_47 x5p14 y6 p1 w0 w1 w3 w4 r14 q14 x4p14) ∧ (¬ (p1 ≤ (if 0 < y6.1 then y6.1 else -y6.1)) → lett (x4p14 + (1 : Int32)) fun (v8 : Int32) => ok_Se_countBelow_47 x5p14 y6 p1 w0 w1 w3 w4 r14 q14 v8))))))
noncomputable def sp_Se_countBelow_14 (y2 : Int32) (p1 : Int64) (w0 : IV) (w1 : IV) (w3 : IV) (w4 : IV)  : Nat → Int32 → Int32 → IV → (Int32 × IV)
  | 0 => fun _ _ _ => default
  | f + 1 => bd_Se_countBelow_14 y2 p1 w0 w1 w3 w4  (sp_Se_countBelow_14 y2 p1 w0 w1 w3 w4  f)
def ok_Se_countBelow_14 (y2 : Int32) (p1 : Int64) (w0 : IV) (w1 : IV) (w3 : IV) (w4 : IV)   : Nat → Int32 → Int32 → IV → Prop
  | 0 => fun _ _ _ => False
  | f + 1 => okb_Se_countBelow_14 y2 p1 w0 w1 w3 w4  (sp_Se_countBelow_14 y2 p1 w0 w1 w3 w4  f)  (ok_Se_countBelow_14 y2 p1 w0 w1 w3 w4   f)
set_option maxRecDepth 100000 in
set_option maxHeartbeats 4000000 in
theorem kb_Se_countBelow_14 {p : Program} {l : Launch} {e : Env} {s : State} {m : MethodId} {args : Array Value} {below : List Frame} {meth : Method} {c : Code} {g : GX} {qse : Nat} {qci : Nat} {qpa : Nat} {qpae : Nat} {qpar : Nat} {qpau : Nat} {qpab : Nat} {ws0 : va_W} {cal : LV} {w0 : IV} {w1 : IV} {w2 : IV} {w3 : IV} {w4 : IV} {p1 : Int64} {y2 : Int32}  (C : Cx p s m args meth c (inW ws0) g "DecadeBridge$Search" b_Se_countBelow (some .int) 8) {r14 : Int32 → Int32 → IV → (Int32 × IV)} {q14 : Int32 → Int32 → IV → Prop}  (ih14 : HL_Se_countBelow_14 p l e s m args below meth c g qse qci qpa qpae qpar qpau qpab ws0 cal w0 w1 w2 w3 w4 p1 y2 r14 q14) : HL_Se_countBelow_14 p l e s m args below meth c g qse qci qpa qpae qpar qpau qpab ws0 cal w0 w1 w2 w3 w4 p1 y2 (bd_Se_countBelow_14 y2 p1 w0 w1 w3 w4  r14) (okb_Se_countBelow_14 y2 p1 w0 w1 w3 w4  r14  q14) := by
  intro x4p14 x5p14 cap14 hok z hz H locs ls hP hD hS hl
  obtain ⟨hx, hb, hr, hml, hown, hlk, hts, hK, hZo, hZ⟩ := id C
  unfold bd_Se_countBelow_14 at hz
  unfold okb_Se_countBelow_14 at hok
  refine lv_iload hx hb d_Se_countBelow_14 (lv_at hl 4 rfl) ?_
  refine lv_iload_n hx hb d_Se_countBelow_16 rfl (lv_at hl 2 rfl) ?_
  refine lv_icmp_ge (tgt := 71) hx hb d_Se_countBelow_17 (by decide) (fun c3 => ?_) (fun c3 => ?_)
  · have hz := hz.trans (if_pos c3)
    refine lv_iload hx hb d_Se_countBelow_71 (lv_at hl 3 rfl) ?_
    exact endI1 C hz hP hS d_Se_countBelow_73
  · have hz := hz.trans (if_neg c3)
    have hok := hok.2 c3
    refine lv_lload_n hx hb d_Se_countBelow_20 rfl (lv_at hl 1 rfl) ?_
    refine lv_lconst (v := 0) hx hb d_Se_countBelow_21 (by decide) ?_
    refine lc_le (tgt := 71) hx hb d_Se_countBelow_22 d_Se_countBelow_23 (by decide) (fun c4 => ?_) (fun c4 => ?_)
    · have hz := hz.trans (if_pos c4)
      refine lv_iload hx hb d_Se_countBelow_71 (lv_at hl 3 rfl) ?_
      exact endI1 C hz hP hS d_Se_countBelow_73
    · have hz := hz.trans (if_neg c4)
      have hok := hok.2 c4
      refine lv_aload_n hx hb d_Se_countBelow_26 rfl (lv_at hl 0 rfl) ?_
      refine lv_iload hx hb d_Se_countBelow_27 (lv_at hl 4 rfl) ?_
      have hs5 := hok.1
      have hok := hok.2
      have hB : SubW g (inW ws0) s (wSe g qse qci qpa qpae qpar qpau qpab cap14 cal w0 w1 w2 w3 w4) _ (List.range _) _ _ := (subF hP hD hS)
      refine goLF hB (run_v C mf_Se_deflectionAt qm_Se_36 (c_Se_deflectionAt l g qse qci qpa qpae qpar qpau qpab cap14 cal w0 w1 w2 w3 w4 x5p14 hs5) rfl rfl ⟨Nat.le_of_ble_eq_true rfl, Nat.le_of_ble_eq_true rfl⟩ ⟨Nat.le_of_ble_eq_true rfl, Nat.le_of_ble_eq_true rfl⟩ hB rfl rfl hl rfl rfl (Nat.le_of_ble_eq_true rfl) d_Se_countBelow_29) (fun _ => rfl) (fun y6 ey6 H locs hP hD hS => ?_)
      have hP : va_P g.1 vwCl (wSe g qse qci qpa qpae qpar qpau qpab y6.2 cal w0 w1 w2 w3 w4) H := hP
      have hD : va_D (inW ws0) (wSe g qse qci qpa qpae qpar qpau qpab y6.2 cal w0 w1 w2 w3 w4) := hD
      have hz := lett_z hz ey6
      have hok := lett_o hok ey6
      refine lv_lstore (lv' := [(6, .long y6.1), (0, .ref qse), (1, .long p1), (3, .int y2), (4, .int x4p14), (5, .int x5p14)]) hx hb d_Se_countBelow_32 hl (by decide) rfl (fun ls hl => ?_)
      refine lv_lload hx hb d_Se_countBelow_34 (lv_at hl 0 rfl) ?_
      refine va_mabs_long hx hb (hml.trans hl.1.symm) hown (hts _ qm_Se_40) (hts _ (mf_JM_abs).2) (hts _ (mf_JM_abs).1.2.1) (hts _ (mf_JM_abs).1.1) (Nat.le_of_ble_eq_true rfl) (Nat.le_of_ble_eq_true rfl) (Nat.le_of_ble_eq_true rfl) (Nat.le_of_ble_eq_true rfl) d_Se_countBelow_36 ?_
      refine lv_lload_n hx hb d_Se_countBelow_39 rfl (lv_at hl 2 rfl) ?_
      refine lc_ge (tgt := 47) hx hb d_Se_countBelow_40 d_Se_countBelow_41 (by decide) (fun c7 => ?_) (fun c7 => ?_)
      · have hz := hz.trans (if_pos c7)
        have hok := hok.1 c7
        exact k_Se_countBelow_47 C ih14 x4p14 hok _ hz _ _ ls hP hD hS (lv_sub hl [1, 2, 3, 4, 5, 0] rfl)
      · have hz := hz.trans (if_neg c7)
        have hok := hok.2 c7
        obtain ⟨v8, ev8⟩ : ∃ y : Int32, y = x4p14 + (1 : Int32) := ⟨_, rfl⟩
        have hz := lett_z hz ev8
        have hok := lett_o hok ev8
        refine lv_iinc (v := v8) (lv' := [(4, .int v8), (6, .long y6.1), (0, .ref qse), (1, .long p1), (3, .int y2), (5, .int x5p14)]) hx hb d_Se_countBelow_44 hl (k := 4) rfl (by rw [ev8]; rfl) (by decide) rfl (fun ls hl => ?_)
        exact k_Se_countBelow_47 C ih14 v8 hok _ hz _ _ ls hP hD hS (lv_sub hl [2, 3, 4, 0, 5, 1] rfl)
theorem k_Se_countBelow_14 {p : Program} {l : Launch} {e : Env} {s : State} {m : MethodId} {args : Array Value} {below : List Frame} {meth : Method} {c : Code} {g : GX} {qse : Nat} {qci : Nat} {qpa : Nat} {qpae : Nat} {qpar : Nat} {qpau : Nat} {qpab : Nat} {ws0 : va_W} {cal : LV} {w0 : IV} {w1 : IV} {w2 : IV} {w3 : IV} {w4 : IV} {p1 : Int64} {y2 : Int32}  (C : Cx p s m args meth c (inW ws0) g "DecadeBridge$Search" b_Se_countBelow (some .int) 8) (f : Nat)  : HL_Se_countBelow_14 p l e s m args below meth c g qse qci qpa qpae qpar qpau qpab ws0 cal w0 w1 w2 w3 w4 p1 y2 (sp_Se_countBelow_14 y2 p1 w0 w1 w3 w4  f) (ok_Se_countBelow_14 y2 p1 w0 w1 w3 w4   f) := by
  induction f with
  | zero => intro x4p14 x5p14 cap14 hok; exact False.elim hok
  | succ f ih => exact kb_Se_countBelow_14 C  ih
noncomputable def sp_Se_countBelow (p1 : Int64) (ca : IV) (w0 : IV) (w1 : IV) (w3 : IV) (w4 : IV) : Int32 × IV := lett (sp_Pa_settings w0) fun (y2 : Int32) => sp_Se_countBelow_14 y2 p1 w0 w1 w3 w4 big (0 : Int32) (0 : Int32) ca
def ok_Se_countBelow (p1 : Int64) (ca : IV) (w0 : IV) (w1 : IV) (w3 : IV) (w4 : IV) : Prop := (ok_Pa_settings w0) ∧ lett (sp_Pa_settings w0) fun (y2 : Int32) => ok_Se_countBelow_14 y2 p1 w0 w1 w3 w4 big (0 : Int32) (0 : Int32) ca
set_option maxRecDepth 100000 in
set_option maxHeartbeats 4000000 in
theorem c_Se_countBelow (l : Launch) (g : GX) (qse : Nat) (qci : Nat) (qpa : Nat) (qpae : Nat) (qpar : Nat) (qpau : Nat) (qpab : Nat) (ca : IV) (cal : LV) (w0 : IV) (w1 : IV) (w2 : IV) (w3 : IV) (w4 : IV) (p1 : Int64) (hok : ok_Se_countBelow p1 ca w0 w1 w3 w4) : Met l y_Se_countBelow (wsY y_Se_countBelow b_Se_countBelow 8 (some .int)) rm_Se_countBelow (CP g [.ref qse, .long p1] (wSe g qse qci qpa qpae qpar qpau qpab ca cal w0 w1 w2 w3 w4)) (CI g (wSe g qse qci qpa qpae qpar qpau qpab ca cal w0 w1 w2 w3 w4) (fun u : IV => wSe g qse qci qpa qpae qpar qpau qpab u cal w0 w1 w2 w3 w4) (sp_Se_countBelow p1 ca w0 w1 w3 w4)) 0 0 (inW (wSe g qse qci qpa qpae qpar qpau qpab ca cal w0 w1 w2 w3 w4)) := by
  refine Met.ofW (cc := b_Se_countBelow) (maxL := 8) (ret := (some .int)) pn_Se rfl ?_
  intro p e s m args below meth c s₁ B hml hv
  obtain ⟨rfl, C, hP, hD, hS⟩ := enter "DecadeBridge$Search" rfl B hml hv
  obtain ⟨hx, hb, hr, hml, hown, hlk, hts, hK, hZo, hZ⟩ := id C
  refine entryW (lv := [(0, .ref qse), (1, .long p1)]) rfl (Nat.le_of_ble_eq_true rfl) (fun ls hl => ?_)
  obtain ⟨z, hz⟩ : ∃ z, z = sp_Se_countBelow p1 ca w0 w1 w3 w4 := ⟨_, rfl⟩
  rw [← hz]
  unfold sp_Se_countBelow at hz
  unfold ok_Se_countBelow at hok
  refine lv_aload_n hx hb d_Se_countBelow_0 rfl (lv_at hl 0 rfl) ?_
  refine gf C hP 0 1 fkSe rfl (by decide) rfl qf_Se_9 (gSe_1 _ _) d_Se_countBelow_1 ?_
  have hs1 := hok.1
  have hok := hok.2
  have hB : SubW g (inW (wSe g qse qci qpa qpae qpar qpau qpab ca cal w0 w1 w2 w3 w4)) s (wSe g qse qci qpa qpae qpar qpau qpab ca cal w0 w1 w2 w3 w4) (wPa g qpa qpae qpar qpau qpab w0 w1 w2 w3 w4) [2, 3, 4, 5, 6] _ _ := ⟨rfl, rfl, hP, hD, hS⟩
  refine goI0 hB (run_v C mf_Pa_settings qm_Se_56 (c_Pa_settings l g qpa qpae qpar qpau qpab w0 w1 w2 w3 w4 hs1) rfl rfl ⟨Nat.le_of_ble_eq_true rfl, Nat.le_of_ble_eq_true rfl⟩ ⟨Nat.le_of_ble_eq_true rfl, Nat.le_of_ble_eq_true rfl⟩ hB rfl rfl hl rfl rfl (Nat.le_of_ble_eq_true rfl) d_Se_countBelow_4) (fun y2 ey2 H locs hP hS => ?_)
  have hz := lett_z hz ey2
  have hok := lett_o hok ey2
  refine lv_istore_n (lv' := [(3, .int y2), (0, .ref qse), (1, .long p1)]) hx hb d_Se_countBelow_7 rfl hl (by decide) rfl (fun ls hl => ?_)
  refine lv_iconst (v := 0) hx hb d_Se_countBelow_8 (by decide) ?_
  refine lv_istore (lv' := [(4, .int (0 : Int32)), (3, .int y2), (0, .ref qse), (1, .long p1)]) hx hb d_Se_countBelow_9 hl (by decide) rfl (fun ls hl => ?_)
  refine lv_iconst (v := 0) hx hb d_Se_countBelow_11 (by decide) ?_
  refine lv_istore (lv' := [(5, .int (0 : Int32)), (4, .int (0 : Int32)), (3, .int y2), (0, .ref qse), (1, .long p1)]) hx hb d_Se_countBelow_12 hl (by decide) rfl (fun ls hl => ?_)
  exact k_Se_countBelow_14 C big (0 : Int32) (0 : Int32) ca hok _ hz _ _ ls hP hD hS (lv_sub hl [3, 4, 2, 1, 0] rfl)
abbrev rm_Se_armsOfBest : Room := { frames := 5, cells := 0, slots := 0, locals := 124 }
def HL_Se_armsOfBest_9 (p : Program) (l : Launch) (e : Env) (s : State) (m : MethodId) (args : Array Value) (below : List Frame) (meth : Method) (c : Code) (g : GX) (qse : Nat) (qci : Nat) (qpa : Nat) (qpae : Nat) (qpar : Nat) (qpau : Nat) (qpab : Nat) (ws0 : va_W) (cal : LV) (w0 : IV) (w1 : IV) (w2 : IV) (w3 : IV) (w4 : IV) (sp : Int32 → Int64 → Int32 → IV → (Int32 × IV)) (ok : Int32 → Int64 → Int32 → IV → Prop) : Prop := ∀ (x1p9 : Int32) (x2p9 : Int64) (x4p9 : Int32) (cap9 : IV), ok x1p9 x2p9 x4p9 cap9 → ∀ z : (Int32 × IV), z = sp x1p9 x2p9 x4p9 cap9 → ∀ (H : Heap) (locs : List Loc) (ls : Array Slot), va_P g.1 vwCl (wSe g qse qci qpa qpae qpar qpau qpab cap9 cal w0 w1 w2 w3 w4) H → va_D (inW ws0) (wSe g qse qci qpa qpae qpar qpau qpab cap9 cal w0 w1 w2 w3 w4) → va_S (inW ws0) s.heap H locs → lv_has ls 8 [(0, .ref qse), (1, .int x1p9), (2, .long x2p9), (4, .int x4p9)] → W p l e rm_Se_armsOfBest s m args below meth c H locs 0 0 (MQ below (CI g ws0 (fun u : IV => wSe g qse qci qpa qpae qpar qpau qpab u cal w0 w1 w2 w3 w4) z) args s 0 0 (inW ws0)) (F0 m 9 ls [])
def HL_Se_armsOfBest_18 (p : Program) (l : Launch) (e : Env) (s : State) (m : MethodId) (args : Array Value) (below : List Frame) (meth : Method) (c : Code) (g : GX) (qse : Nat) (qci : Nat) (qpa : Nat) (qpae : Nat) (qpar : Nat) (qpau : Nat) (qpab : Nat) (ws0 : va_W) (cal : LV) (w0 : IV) (w1 : IV) (w2 : IV) (w3 : IV) (w4 : IV) (x4p9 : Int32) (sp : Int32 → Int64 → Int32 → IV → (Int32 × IV)) (ok : Int32 → Int64 → Int32 → IV → Prop) : Prop := ∀ (x1p18 : Int32) (x2p18 : Int64) (x5p18 : Int32) (cap18 : IV), ok x1p18 x2p18 x5p18 cap18 → ∀ z : (Int32 × IV), z = sp x1p18 x2p18 x5p18 cap18 → ∀ (H : Heap) (locs : List Loc) (ls : Array Slot), va_P g.1 vwCl (wSe g qse qci qpa qpae qpar qpau qpab cap18 cal w0 w1 w2 w3 w4) H → va_D (inW ws0) (wSe g qse qci qpa qpae qpar qpau qpab cap18 cal w0 w1 w2 w3 w4) → va_S (inW ws0) s.heap H locs → lv_has ls 8 [(0, .ref qse), (1, .int x1p18), (2, .long x2p18), (4, .int x4p9), (5, .int x5p18)] → W p l e rm_Se_armsOfBest s m args below meth c H locs 0 0 (MQ below (CI g ws0 (fun u : IV => wSe g qse qci qpa qpae qpar qpau qpab u cal w0 w1 w2 w3 w4) z) args s 0 0 (inW ws0)) (F0 m 18 ls [])
def HL_Se_armsOfBest_86 (p : Program) (l : Launch) (e : Env) (s : State) (m : MethodId) (args : Array Value) (below : List Frame) (meth : Method) (c : Code) (g : GX) (qse : Nat) (qci : Nat) (qpa : Nat) (qpae : Nat) (qpar : Nat) (qpau : Nat) (qpab : Nat) (ws0 : va_W) (y7 : IV) (cal : LV) (w0 : IV) (w1 : IV) (w2 : IV) (w3 : IV) (w4 : IV) (x4p9 : Int32) (x5p18 : Int32) (sp : Int32 → Int64 → (Int32 × IV)) (ok : Int32 → Int64 → Prop) : Prop := ∀ (x1p86 : Int32) (x2p86 : Int64), ok x1p86 x2p86 → ∀ z : (Int32 × IV), z = sp x1p86 x2p86 → ∀ (H : Heap) (locs : List Loc) (ls : Array Slot), va_P g.1 vwCl (wSe g qse qci qpa qpae qpar qpau qpab y7 cal w0 w1 w2 w3 w4) H → va_D (inW ws0) (wSe g qse qci qpa qpae qpar qpau qpab y7 cal w0 w1 w2 w3 w4) → va_S (inW ws0) s.heap H locs → lv_has ls 8 [(0, .ref qse), (1, .int x1p86), (2, .long x2p86), (4, .int x4p9), (5, .int x5p18)] → W p l e rm_Se_armsOfBest s m args below meth c H locs 0 0 (MQ below (CI g ws0 (fun u : IV => wSe g qse qci qpa qpae qpar qpau qpab u cal w0 w1 w2 w3 w4) z) args s 0 0 (inW ws0)) (F0 m 86 ls [])
def HL_Se_armsOfBest_92 (p : Program) (l : Launch) (e : Env) (s : State) (m : MethodId) (args : Array Value) (below : List Frame) (meth : Method) (c : Code) (g : GX) (qse : Nat) (qci : Nat) (qpa : Nat) (qpae : Nat) (qpar : Nat) (qpau : Nat) (qpab : Nat) (ws0 : va_W) (cap18 : IV) (cal : LV) (w0 : IV) (w1 : IV) (w2 : IV) (w3 : IV) (w4 : IV) (x1p18 : Int32) (x2p18 : Int64) (x4p9 : Int32) (sp : (Int32 × IV)) (ok : Prop) : Prop := ∀ (_ : Unit), ok → ∀ z : (Int32 × IV), z = sp → ∀ (H : Heap) (locs : List Loc) (ls : Array Slot), va_P g.1 vwCl (wSe g qse qci qpa qpae qpar qpau qpab cap18 cal w0 w1 w2 w3 w4) H → va_D (inW ws0) (wSe g qse qci qpa qpae qpar qpau qpab cap18 cal w0 w1 w2 w3 w4) → va_S (inW ws0) s.heap H locs → lv_has ls 8 [(0, .ref qse), (1, .int x1p18), (2, .long x2p18), (4, .int x4p9)] → W p l e rm_Se_armsOfBest s m args below meth c H locs 0 0 (MQ below (CI g ws0 (fun u : IV => wSe g qse qci qpa qpae qpar qpau qpab u cal w0 w1 w2 w3 w4) z) args s 0 0 (inW ws0)) (F0 m 92 ls [])
noncomputable def sp_Se_armsOfBest_92 (x4p9 : Int32) (x1p18 : Int32) (x2p18 : Int64) (cap18 : IV) (r9 : Int32 → Int64 → Int32 → IV → (Int32 × IV))  : Int32 × IV := lett (x4p9 + (1 : Int32)) fun (v13 : Int32) => r9 x1p18 x2p18 v13 cap18
def ok_Se_armsOfBest_92 (x4p9 : Int32) (x1p18 : Int32) (x2p18 : Int64) (cap18 : IV) (r9 : Int32 → Int64 → Int32 → IV → (Int32 × IV)) (q9 : Int32 → Int64 → Int32 → IV → Prop)  : Prop := lett (x4p9 + (1 : Int32)) fun (v13 : Int32) => q9 x1p18 x2p18 v13 cap18
set_option maxRecDepth 100000 in
set_option maxHeartbeats 4000000 in
theorem k_Se_armsOfBest_92 {p : Program} {l : Launch} {e : Env} {s : State} {m : MethodId} {args : Array Value} {below : List Frame} {meth : Method} {c : Code} {g : GX} {qse : Nat} {qci : Nat} {qpa : Nat} {qpae : Nat} {qpar : Nat} {qpau : Nat} {qpab : Nat} {ws0 : va_W} {cap18 : IV} {cal : LV} {w0 : IV} {w1 : IV} {w2 : IV} {w3 : IV} {w4 : IV} {x1p18 : Int32} {x2p18 : Int64} {x4p9 : Int32} {r9 : Int32 → Int64 → Int32 → IV → (Int32 × IV)} {q9 : Int32 → Int64 → Int32 → IV → Prop} (C : Cx p s m args meth c (inW ws0) g "DecadeBridge$Search" b_Se_armsOfBest (some .int) 8) (ih9 : HL_Se_armsOfBest_9 p l e s m args below meth c g qse qci qpa qpae qpar qpau qpab ws0 cal w0 w1 w2 w3 w4 r9 q9) : HL_Se_armsOfBest_92 p l e s m args below meth c g qse qci qpa qpae qpar qpau qpab ws0 cap18 cal w0 w1 w2 w3 w4 x1p18 x2p18 x4p9 (sp_Se_armsOfBest_92 x4p9 x1p18 x2p18 cap18 r9) (ok_Se_armsOfBest_92 x4p9 x1p18 x2p18 cap18 r9 q9) := by
  intro _ hok z hz H locs ls hP hD hS hl
  obtain ⟨hx, hb, hr, hml, hown, hlk, hts, hK, hZo, hZ⟩ := id C
  unfold sp_Se_armsOfBest_92 at hz
  unfold ok_Se_armsOfBest_92 at hok
  obtain ⟨v13, ev13⟩ : ∃ y : Int32, y = x4p9 + (1 : Int32) := ⟨_, rfl⟩
  have hz := lett_z hz ev13
  have hok := lett_o hok ev13
  refine lv_iinc (v := v13) (lv' := [(4, .int v13), (0, .ref qse), (1, .int x1p18), (2, .long x2p18)]) hx hb d_Se_armsOfBest_92 hl (k := 3) rfl (by rw [ev13]; rfl) (by decide) rfl (fun ls hl => ?_)
  refine lv_goto (tgt := 9) hx hb d_Se_armsOfBest_95 (by decide) ?_
  exact ih9 x1p18 x2p18 v13 cap18 hok _ hz _ _ ls hP hD hS (lv_sub hl [1, 2, 3, 0] rfl)
noncomputable def sp_Se_armsOfBest_86 (x5p18 : Int32) (y7 : IV) (r9 : Int32 → Int64 → Int32 → IV → (Int32 × IV)) (r18 : Int32 → Int64 → Int32 → IV → (Int32 × IV)) (x1p86 : Int32) (x2p86 : Int64) : Int32 × IV := lett (x5p18 + (1 : Int32)) fun (v12 : Int32) => r18 x1p86 x2p86 v12 y7
def ok_Se_armsOfBest_86 (x5p18 : Int32) (y7 : IV) (r9 : Int32 → Int64 → Int32 → IV → (Int32 × IV)) (r18 : Int32 → Int64 → Int32 → IV → (Int32 × IV)) (q9 : Int32 → Int64 → Int32 → IV → Prop) (q18 : Int32 → Int64 → Int32 → IV → Prop) (x1p86 : Int32) (x2p86 : Int64) : Prop := lett (x5p18 + (1 : Int32)) fun (v12 : Int32) => q18 x1p86 x2p86 v12 y7
set_option maxRecDepth 100000 in
set_option maxHeartbeats 4000000 in
theorem k_Se_armsOfBest_86 {p : Program} {l : Launch} {e : Env} {s : State} {m : MethodId} {args : Array Value} {below : List Frame} {meth : Method} {c : Code} {g : GX} {qse : Nat} {qci : Nat} {qpa : Nat} {qpae : Nat} {qpar : Nat} {qpau : Nat} {qpab : Nat} {ws0 : va_W} {y7 : IV} {cal : LV} {w0 : IV} {w1 : IV} {w2 : IV} {w3 : IV} {w4 : IV} {x4p9 : Int32} {x5p18 : Int32} {r9 : Int32 → Int64 → Int32 → IV → (Int32 × IV)} {q9 : Int32 → Int64 → Int32 → IV → Prop} {r18 : Int32 → Int64 → Int32 → IV → (Int32 × IV)} {q18 : Int32 → Int64 → Int32 → IV → Prop} (C : Cx p s m args meth c (inW ws0) g "DecadeBridge$Search" b_Se_armsOfBest (some .int) 8) (ih9 : HL_Se_armsOfBest_9 p l e s m args below meth c g qse qci qpa qpae qpar qpau qpab ws0 cal w0 w1 w2 w3 w4 r9 q9) (ih18 : HL_Se_armsOfBest_18 p l e s m args below meth c g qse qci qpa qpae qpar qpau qpab ws0 cal w0 w1 w2 w3 w4 x4p9 r18 q18) : HL_Se_armsOfBest_86 p l e s m args below meth c g qse qci qpa qpae qpar qpau qpab ws0 y7 cal w0 w1 w2 w3 w4 x4p9 x5p18 (sp_Se_armsOfBest_86 x5p18 y7 r9 r18) (ok_Se_armsOfBest_86 x5p18 y7 r9 r18 q9 q18) := by
  intro x1p86 x2p86 hok z hz H locs ls hP hD hS hl
  obtain ⟨hx, hb, hr, hml, hown, hlk, hts, hK, hZo, hZ⟩ := id C
  unfold sp_Se_armsOfBest_86 at hz
  unfold ok_Se_armsOfBest_86 at hok
  obtain ⟨v12, ev12⟩ : ∃ y : Int32, y = x5p18 + (1 : Int32) := ⟨_, rfl⟩
  have hz := lett_z hz ev12
  have hok := lett_o hok ev12
  refine lv_iinc (v := v12) (lv' := [(5, .int v12), (0, .ref qse), (1, .int x1p86), (2, .long x2p86), (4, .int x4p9)]) hx hb d_Se_armsOfBest_86 hl (k := 4) rfl (by rw [ev12]; rfl) (by decide) rfl (fun ls hl => ?_)
  refine lv_goto (tgt := 18) hx hb d_Se_armsOfBest_89 (by decide) ?_
  exact ih18 x1p86 x2p86 v12 y7 hok _ hz _ _ ls hP hD hS (lv_sub hl [1, 2, 3, 4, 0] rfl)
noncomputable def bd_Se_armsOfBest_18 (x4p9 : Int32) (w2 : IV) (w0 : IV) (w1 : IV) (w3 : IV) (w4 : IV) (r9 : Int32 → Int64 → Int32 → IV → (Int32 × IV)) (r18 : Int32 → Int64 → Int32 → IV → (Int32 × IV)) (x1p18 : Int32) (x2p18 : Int64) (x5p18 : Int32) (cap18 : IV) : Int32 × IV := if (5 : Int32) ≤ x5p18 then (sp_Se_armsOfBest_92 x4p9 x1p18 x2p18 cap18 r9) else (lett (sp_Ci_choose x4p9 x5p18 cap18 w2) fun (y3 : IV) => lett (sp_Se_bestSetting y3 w0 w1 w3 w4) fun (y5 : Int32 × IV) => lett (sp_Ci_dial y5.1 y5.2 w0 w1 w3 w4) fun (y7 : IV) => lett (sp_Ci_correctedValue y7 w0 w2) fun (y8 : Int64) => lett (if 0 < (y8 - ((y7 15).toInt64)) then (y8 - ((y7 15).toInt64)) else -(y8 - ((y7 15).toInt64))) fun (v9 : Int64) => if x2p18 ≤ v9 then (sp_Se_armsOfBest_86 x5p18 y7 r9 r18 x1p18 x2p18) else (lett (((10 : Int32) * x4p9) + x5p18) fun (v11 : Int32) => sp_Se_armsOfBest_86 x5p18 y7 r9 r18 v11 v9))
def okb_Se_armsOfBest_18 (x4p9 : Int32) (w2 : IV) (w0 : IV) (w1 : IV) (w3 : IV) (w4 : IV) (r9 : Int32 → Int64 → Int32 → IV → (Int32 × IV)) (r18 : Int32 → Int64 → Int32 → IV → (Int32 × IV)) (q9 : Int32 → Int64 → Int32 → IV → Prop) (q18 : Int32 → Int64 → Int32 → IV → Prop) (x1p18 : Int32) (x2p18 : Int64) (x5p18 : Int32) (cap18 : IV) : Prop := (((5 : Int32) ≤ x5p18 → ok_Se_armsOfBest_92 x4p9 x1p18 x2p18 cap18 r9 q9) ∧ (¬ ((5 : Int32) ≤ x5p18) → lett (sp_Ci_choose x4p9 x5p18 cap18 w2) fun (y3 : IV) => (ok_Se_bestSetting y3 w0 w1 w3 w4) ∧ lett (sp_Se_bestSetting y3 w0 w1 w3 w4) fun (y5 : Int32 × IV) => (ok_Ci_dial y5.1 y5.2 w0 w1) ∧ lett (sp_Ci_dial y5.1 y5.2 w0 w1 w3 w4) fun (y7 : IV) => lett (sp_Ci_correctedValue y7 w0 w2) fun (y8 : Int64) => lett (if 0 < (y8 - ((y7 15).toInt64)) then (y8 - ((y7 15).toInt64)) else -(y8 - ((y7 15).toInt64))) fun (v9 : Int64) => ((x2p18 ≤ v9 → ok_Se_armsOfBest_86 x5p18 y7 r9 r18 q9 q18 x1p18 x2p18) ∧ (¬ (x2p18 ≤ v9) → lett (((10 : Int32) * x4p9) + x5p18) fun (v11 : Int32) => ok_Se_armsOfBest_86 x5p18 y7 r9 r18 q9 q18 v11 v9))))
noncomputable def sp_Se_armsOfBest_18 (x4p9 : Int32) (w2 : IV) (w0 : IV) (w1 : IV) (w3 : IV) (w4 : IV) (r9 : Int32 → Int64 → Int32 → IV → (Int32 × IV)) : Nat → Int32 → Int64 → Int32 → IV → (Int32 × IV)
  | 0 => fun _ _ _ _ => default
  | f + 1 => bd_Se_armsOfBest_18 x4p9 w2 w0 w1 w3 w4 r9 (sp_Se_armsOfBest_18 x4p9 w2 w0 w1 w3 w4 r9 f)
def ok_Se_armsOfBest_18 (x4p9 : Int32) (w2 : IV) (w0 : IV) (w1 : IV) (w3 : IV) (w4 : IV) (r9 : Int32 → Int64 → Int32 → IV → (Int32 × IV)) (q9 : Int32 → Int64 → Int32 → IV → Prop) : Nat → Int32 → Int64 → Int32 → IV → Prop
  | 0 => fun _ _ _ _ => False
  | f + 1 => okb_Se_armsOfBest_18 x4p9 w2 w0 w1 w3 w4 r9 (sp_Se_armsOfBest_18 x4p9 w2 w0 w1 w3 w4 r9 f) q9 (ok_Se_armsOfBest_18 x4p9 w2 w0 w1 w3 w4 r9 q9 f)
set_option maxRecDepth 100000 in
set_option maxHeartbeats 4000000 in
theorem kb_Se_armsOfBest_18 {p : Program} {l : Launch} {e : Env} {s : State} {m : MethodId} {args : Array Value} {below : List Frame} {meth : Method} {c : Code} {g : GX} {qse : Nat} {qci : Nat} {qpa : Nat} {qpae : Nat} {qpar : Nat} {qpau : Nat} {qpab : Nat} {ws0 : va_W} {cal : LV} {w0 : IV} {w1 : IV} {w2 : IV} {w3 : IV} {w4 : IV} {x4p9 : Int32} {r9 : Int32 → Int64 → Int32 → IV → (Int32 × IV)} {q9 : Int32 → Int64 → Int32 → IV → Prop} (C : Cx p s m args meth c (inW ws0) g "DecadeBridge$Search" b_Se_armsOfBest (some .int) 8) {r18 : Int32 → Int64 → Int32 → IV → (Int32 × IV)} {q18 : Int32 → Int64 → Int32 → IV → Prop} (ih9 : HL_Se_armsOfBest_9 p l e s m args below meth c g qse qci qpa qpae qpar qpau qpab ws0 cal w0 w1 w2 w3 w4 r9 q9) (ih18 : HL_Se_armsOfBest_18 p l e s m args below meth c g qse qci qpa qpae qpar qpau qpab ws0 cal w0 w1 w2 w3 w4 x4p9 r18 q18) : HL_Se_armsOfBest_18 p l e s m args below meth c g qse qci qpa qpae qpar qpau qpab ws0 cal w0 w1 w2 w3 w4 x4p9 (bd_Se_armsOfBest_18 x4p9 w2 w0 w1 w3 w4 r9 r18) (okb_Se_armsOfBest_18 x4p9 w2 w0 w1 w3 w4 r9 r18 q9 q18) := by
  intro x1p18 x2p18 x5p18 cap18 hok z hz H locs ls hP hD hS hl
  obtain ⟨hx, hb, hr, hml, hown, hlk, hts, hK, hZo, hZ⟩ := id C
  unfold bd_Se_armsOfBest_18 at hz
  unfold okb_Se_armsOfBest_18 at hok
  refine lv_iload hx hb d_Se_armsOfBest_18 (lv_at hl 4 rfl) ?_
  refine lv_iconst (v := 5) hx hb d_Se_armsOfBest_20 (by decide) ?_
  refine lv_icmp_ge (tgt := 92) hx hb d_Se_armsOfBest_21 (by decide) (fun c2 => ?_) (fun c2 => ?_)
  · have hz := hz.trans (if_pos c2)
    have hok := hok.1 c2
    exact k_Se_armsOfBest_92 C ih9 () hok _ hz _ _ ls hP hD hS (lv_sub hl [0, 1, 2, 3] rfl)
  · have hz := hz.trans (if_neg c2)
    have hok := hok.2 c2
    refine lv_aload_n hx hb d_Se_armsOfBest_24 rfl (lv_at hl 0 rfl) ?_
    refine gf C hP 0 0 fkSe rfl (by decide) rfl qf_Se_20 (gSe_0 _ _) d_Se_armsOfBest_25 ?_
    refine lv_iload hx hb d_Se_armsOfBest_28 (lv_at hl 3 rfl) ?_
    refine lv_iload hx hb d_Se_armsOfBest_30 (lv_at hl 4 rfl) ?_
    have hB : SubW g (inW ws0) s (wSe g qse qci qpa qpae qpar qpau qpab cap18 cal w0 w1 w2 w3 w4) (wCi g qci qpa qpae qpar qpau qpab cap18 cal w0 w1 w2 w3 w4) [1, 2, 3, 4, 5, 6] _ _ := ⟨rfl, rfl, hP, hD, hS⟩
    refine goV1 hB (run_v C mf_Ci_choose qm_Se_82 (c_Ci_choose l g qci qpa qpae qpar qpau qpab cap18 cal w0 w1 w2 w3 w4 x4p9 x5p18) rfl rfl ⟨Nat.le_of_ble_eq_true rfl, Nat.le_of_ble_eq_true rfl⟩ ⟨Nat.le_of_ble_eq_true rfl, Nat.le_of_ble_eq_true rfl⟩ hB rfl rfl hl rfl rfl (Nat.le_of_ble_eq_true rfl) d_Se_armsOfBest_32) (fun _ => rfl) (fun y3 ey3 H locs hP hD hS => ?_)
    have hP : va_P g.1 vwCl (wSe g qse qci qpa qpae qpar qpau qpab y3 cal w0 w1 w2 w3 w4) H := cP (spq hB.1 hB.2.1 [0] 7 rfl rfl (by decide +kernel) rfl) hP
    have hD : va_D (inW ws0) (wSe g qse qci qpa qpae qpar qpau qpab y3 cal w0 w1 w2 w3 w4) := cD (spq hB.1 hB.2.1 [0] 7 rfl rfl (by decide +kernel) rfl) hD
    have hz := lett_z hz ey3
    have hok := lett_o hok ey3
    refine lv_aload_n hx hb d_Se_armsOfBest_35 rfl (lv_at hl 0 rfl) ?_
    refine gf C hP 0 0 fkSe rfl (by decide) rfl qf_Se_20 (gSe_0 _ _) d_Se_armsOfBest_36 ?_
    refine lv_aload_n hx hb d_Se_armsOfBest_39 rfl (lv_at hl 0 rfl) ?_
    have hs4 := hok.1
    have hok := hok.2
    have hB : SubW g (inW ws0) s (wSe g qse qci qpa qpae qpar qpau qpab y3 cal w0 w1 w2 w3 w4) _ (List.range _) _ _ := (subF hP hD hS)
    refine goIF hB (run_v C mf_Se_bestSetting qm_Se_86 (c_Se_bestSetting l g qse qci qpa qpae qpar qpau qpab y3 cal w0 w1 w2 w3 w4 hs4) rfl rfl ⟨Nat.le_of_ble_eq_true rfl, Nat.le_of_ble_eq_true rfl⟩ ⟨Nat.le_of_ble_eq_true rfl, Nat.le_of_ble_eq_true rfl⟩ hB rfl rfl hl rfl rfl (Nat.le_of_ble_eq_true rfl) d_Se_armsOfBest_40) (fun _ => rfl) (fun y5 ey5 H locs hP hD hS => ?_)
    have hP : va_P g.1 vwCl (wSe g qse qci qpa qpae qpar qpau qpab y5.2 cal w0 w1 w2 w3 w4) H := hP
    have hD : va_D (inW ws0) (wSe g qse qci qpa qpae qpar qpau qpab y5.2 cal w0 w1 w2 w3 w4) := hD
    have hz := lett_z hz ey5
    have hok := lett_o hok ey5
    have hs6 := hok.1
    have hok := hok.2
    have hB : SubW g (inW ws0) s (wSe g qse qci qpa qpae qpar qpau qpab y5.2 cal w0 w1 w2 w3 w4) (wCi g qci qpa qpae qpar qpau qpab y5.2 cal w0 w1 w2 w3 w4) [1, 2, 3, 4, 5, 6] _ _ := ⟨rfl, rfl, hP, hD, hS⟩
    refine goV1 hB (run_v C mf_Ci_dial qm_Se_28 (c_Ci_dial l g qci qpa qpae qpar qpau qpab y5.2 cal w0 w1 w2 w3 w4 y5.1 hs6) rfl rfl ⟨Nat.le_of_ble_eq_true rfl, Nat.le_of_ble_eq_true rfl⟩ ⟨Nat.le_of_ble_eq_true rfl, Nat.le_of_ble_eq_true rfl⟩ hB rfl rfl hl rfl rfl (Nat.le_of_ble_eq_true rfl) d_Se_armsOfBest_43) (fun _ => rfl) (fun y7 ey7 H locs hP hD hS => ?_)
    have hP : va_P g.1 vwCl (wSe g qse qci qpa qpae qpar qpau qpab y7 cal w0 w1 w2 w3 w4) H := cP (spq hB.1 hB.2.1 [0] 7 rfl rfl (by decide +kernel) rfl) hP
    have hD : va_D (inW ws0) (wSe g qse qci qpa qpae qpar qpau qpab y7 cal w0 w1 w2 w3 w4) := cD (spq hB.1 hB.2.1 [0] 7 rfl rfl (by decide +kernel) rfl) hD
    have hz := lett_z hz ey7
    have hok := lett_o hok ey7
    refine lv_aload_n hx hb d_Se_armsOfBest_46 rfl (lv_at hl 0 rfl) ?_
    refine gf C hP 0 0 fkSe rfl (by decide) rfl qf_Se_20 (gSe_0 _ _) d_Se_armsOfBest_47 ?_
    have hB : SubW g (inW ws0) s (wSe g qse qci qpa qpae qpar qpau qpab y7 cal w0 w1 w2 w3 w4) (wCi g qci qpa qpae qpar qpau qpab y7 cal w0 w1 w2 w3 w4) [1, 2, 3, 4, 5, 6] _ _ := ⟨rfl, rfl, hP, hD, hS⟩
    refine goL0 hB (run_v C mf_Ci_correctedValue qm_Se_89 (c_Ci_correctedValue l g qci qpa qpae qpar qpau qpab y7 cal w0 w1 w2 w3 w4) rfl rfl ⟨Nat.le_of_ble_eq_true rfl, Nat.le_of_ble_eq_true rfl⟩ ⟨Nat.le_of_ble_eq_true rfl, Nat.le_of_ble_eq_true rfl⟩ hB rfl rfl hl rfl rfl (Nat.le_of_ble_eq_true rfl) d_Se_armsOfBest_50) (fun y8 ey8 H locs hP hS => ?_)
    have hz := lett_z hz ey8
    have hok := lett_o hok ey8
    refine lv_aload_n hx hb d_Se_armsOfBest_53 rfl (lv_at hl 0 rfl) ?_
    refine gf C hP 0 0 fkSe rfl (by decide) rfl qf_Se_20 (gSe_0 _ _) d_Se_armsOfBest_54 ?_
    refine gf C hP 1 15 fkCi rfl (by decide) rfl qf_Se_92 (gCi_15 _ _ _) d_Se_armsOfBest_57 ?_
    refine lv_i2l hx hb d_Se_armsOfBest_60 rfl ?_
    refine lv_lsub hx hb d_Se_armsOfBest_61 ?_
    refine va_mabs_long hx hb (hml.trans hl.1.symm) hown (hts _ qm_Se_40) (hts _ (mf_JM_abs).2) (hts _ (mf_JM_abs).1.2.1) (hts _ (mf_JM_abs).1.1) (Nat.le_of_ble_eq_true rfl) (Nat.le_of_ble_eq_true rfl) (Nat.le_of_ble_eq_true rfl) (Nat.le_of_ble_eq_true rfl) d_Se_armsOfBest_62 ?_
    refine lv_topl (fun v9 ev9 => ?_)
    have hz := lett_z hz ev9
    have hok := lett_o hok ev9
    refine lv_lstore (lv' := [(6, .long v9), (0, .ref qse), (1, .int x1p18), (2, .long x2p18), (4, .int x4p9), (5, .int x5p18)]) hx hb d_Se_armsOfBest_65 hl (by decide) rfl (fun ls hl => ?_)
    refine lv_lload hx hb d_Se_armsOfBest_67 (lv_at hl 0 rfl) ?_
    refine lv_lload_n hx hb d_Se_armsOfBest_69 rfl (lv_at hl 3 rfl) ?_
    refine lc_ge (tgt := 86) hx hb d_Se_armsOfBest_70 d_Se_armsOfBest_71 (by decide) (fun c10 => ?_) (fun c10 => ?_)
    · have hz := hz.trans (if_pos c10)
      have hok := hok.1 c10
      exact k_Se_armsOfBest_86 C ih9 ih18 x1p18 x2p18 hok _ hz _ _ ls hP hD hS (lv_sub hl [1, 2, 3, 4, 5] rfl)
    · have hz := hz.trans (if_neg c10)
      have hok := hok.2 c10
      refine lv_lload hx hb d_Se_armsOfBest_74 (lv_at hl 0 rfl) ?_
      refine lv_lstore_n (lv' := [(2, .long v9), (6, .long v9), (0, .ref qse), (1, .int x1p18), (4, .int x4p9), (5, .int x5p18)]) hx hb d_Se_armsOfBest_76 rfl hl (by decide) rfl (fun ls hl => ?_)
      refine lv_bipush (v := 10) hx hb d_Se_armsOfBest_77 (by decide) ?_
      refine lv_iload hx hb d_Se_armsOfBest_79 (lv_at hl 4 rfl) ?_
      refine lv_imul hx hb d_Se_armsOfBest_81 ?_
      refine lv_iload hx hb d_Se_armsOfBest_82 (lv_at hl 5 rfl) ?_
      refine lv_iadd hx hb d_Se_armsOfBest_84 ?_
      refine lv_topi (fun v11 ev11 => ?_)
      have hz := lett_z hz ev11
      have hok := lett_o hok ev11
      refine lv_istore_n (lv' := [(1, .int v11), (2, .long v9), (6, .long v9), (0, .ref qse), (4, .int x4p9), (5, .int x5p18)]) hx hb d_Se_armsOfBest_85 rfl hl (by decide) rfl (fun ls hl => ?_)
      exact k_Se_armsOfBest_86 C ih9 ih18 v11 v9 hok _ hz _ _ ls hP hD hS (lv_sub hl [3, 0, 1, 4, 5] rfl)
theorem k_Se_armsOfBest_18 {p : Program} {l : Launch} {e : Env} {s : State} {m : MethodId} {args : Array Value} {below : List Frame} {meth : Method} {c : Code} {g : GX} {qse : Nat} {qci : Nat} {qpa : Nat} {qpae : Nat} {qpar : Nat} {qpau : Nat} {qpab : Nat} {ws0 : va_W} {cal : LV} {w0 : IV} {w1 : IV} {w2 : IV} {w3 : IV} {w4 : IV} {x4p9 : Int32} {r9 : Int32 → Int64 → Int32 → IV → (Int32 × IV)} {q9 : Int32 → Int64 → Int32 → IV → Prop} (C : Cx p s m args meth c (inW ws0) g "DecadeBridge$Search" b_Se_armsOfBest (some .int) 8) (f : Nat) (ih9 : HL_Se_armsOfBest_9 p l e s m args below meth c g qse qci qpa qpae qpar qpau qpab ws0 cal w0 w1 w2 w3 w4 r9 q9) : HL_Se_armsOfBest_18 p l e s m args below meth c g qse qci qpa qpae qpar qpau qpab ws0 cal w0 w1 w2 w3 w4 x4p9 (sp_Se_armsOfBest_18 x4p9 w2 w0 w1 w3 w4 r9 f) (ok_Se_armsOfBest_18 x4p9 w2 w0 w1 w3 w4 r9 q9 f) := by
  induction f with
  | zero => intro x1p18 x2p18 x5p18 cap18 hok; exact False.elim hok
  | succ f ih => exact kb_Se_armsOfBest_18 C ih9 ih
noncomputable def bd_Se_armsOfBest_9 (w2 : IV) (w0 : IV) (w1 : IV) (w3 : IV) (w4 : IV) (r9 : Int32 → Int64 → Int32 → IV → (Int32 × IV)) (x1p9 : Int32) (x2p9 : Int64) (x4p9 : Int32) (cap9 : IV) : Int32 × IV := if (5 : Int32) ≤ x4p9 then ((x1p9, cap9)) else (sp_Se_armsOfBest_18 x4p9 w2 w0 w1 w3 w4 r9 big x1p9 x2p9 (0 : Int32) cap9)
def okb_Se_armsOfBest_9 (w2 : IV) (w0 : IV) (w1 : IV) (w3 : IV) (w4 : IV) (r9 : Int32 → Int64 → Int32 → IV → (Int32 × IV)) (q9 : Int32 → Int64 → Int32 → IV → Prop) (x1p9 : Int32) (x2p9 : Int64) (x4p9 : Int32) (cap9 : IV) : Prop := (((5 : Int32) ≤ x4p9 → True) ∧ (¬ ((5 : Int32) ≤ x4p9) → ok_Se_armsOfBest_18 x4p9 w2 w0 w1 w3 w4 r9 q9 big x1p9 x2p9 (0 : Int32) cap9))
noncomputable def sp_Se_armsOfBest_9 (w2 : IV) (w0 : IV) (w1 : IV) (w3 : IV) (w4 : IV)  : Nat → Int32 → Int64 → Int32 → IV → (Int32 × IV)
  | 0 => fun _ _ _ _ => default
  | f + 1 => bd_Se_armsOfBest_9 w2 w0 w1 w3 w4  (sp_Se_armsOfBest_9 w2 w0 w1 w3 w4  f)
def ok_Se_armsOfBest_9 (w2 : IV) (w0 : IV) (w1 : IV) (w3 : IV) (w4 : IV)   : Nat → Int32 → Int64 → Int32 → IV → Prop
  | 0 => fun _ _ _ _ => False
  | f + 1 => okb_Se_armsOfBest_9 w2 w0 w1 w3 w4  (sp_Se_armsOfBest_9 w2 w0 w1 w3 w4  f)  (ok_Se_armsOfBest_9 w2 w0 w1 w3 w4   f)
set_option maxRecDepth 100000 in
set_option maxHeartbeats 4000000 in
theorem kb_Se_armsOfBest_9 {p : Program} {l : Launch} {e : Env} {s : State} {m : MethodId} {args : Array Value} {below : List Frame} {meth : Method} {c : Code} {g : GX} {qse : Nat} {qci : Nat} {qpa : Nat} {qpae : Nat} {qpar : Nat} {qpau : Nat} {qpab : Nat} {ws0 : va_W} {cal : LV} {w0 : IV} {w1 : IV} {w2 : IV} {w3 : IV} {w4 : IV}  (C : Cx p s m args meth c (inW ws0) g "DecadeBridge$Search" b_Se_armsOfBest (some .int) 8) {r9 : Int32 → Int64 → Int32 → IV → (Int32 × IV)} {q9 : Int32 → Int64 → Int32 → IV → Prop}  (ih9 : HL_Se_armsOfBest_9 p l e s m args below meth c g qse qci qpa qpae qpar qpau qpab ws0 cal w0 w1 w2 w3 w4 r9 q9) : HL_Se_armsOfBest_9 p l e s m args below meth c g qse qci qpa qpae qpar qpau qpab ws0 cal w0 w1 w2 w3 w4 (bd_Se_armsOfBest_9 w2 w0 w1 w3 w4  r9) (okb_Se_armsOfBest_9 w2 w0 w1 w3 w4  r9  q9) := by
  intro x1p9 x2p9 x4p9 cap9 hok z hz H locs ls hP hD hS hl
  obtain ⟨hx, hb, hr, hml, hown, hlk, hts, hK, hZo, hZ⟩ := id C
  unfold bd_Se_armsOfBest_9 at hz
  unfold okb_Se_armsOfBest_9 at hok
  refine lv_iload hx hb d_Se_armsOfBest_9 (lv_at hl 3 rfl) ?_
  refine lv_iconst (v := 5) hx hb d_Se_armsOfBest_11 (by decide) ?_
  refine lv_icmp_ge (tgt := 98) hx hb d_Se_armsOfBest_12 (by decide) (fun c1 => ?_) (fun c1 => ?_)
  · have hz := hz.trans (if_pos c1)
    refine lv_iload_n hx hb d_Se_armsOfBest_98 rfl (lv_at hl 1 rfl) ?_
    exact endI1 C hz hP hS d_Se_armsOfBest_99
  · have hz := hz.trans (if_neg c1)
    have hok := hok.2 c1
    refine lv_iconst (v := 0) hx hb d_Se_armsOfBest_15 (by decide) ?_
    refine lv_istore (lv' := [(5, .int (0 : Int32)), (0, .ref qse), (1, .int x1p9), (2, .long x2p9), (4, .int x4p9)]) hx hb d_Se_armsOfBest_16 hl (by decide) rfl (fun ls hl => ?_)
    exact k_Se_armsOfBest_18 C big ih9 x1p9 x2p9 (0 : Int32) cap9 hok _ hz _ _ ls hP hD hS (lv_sub hl [1, 2, 3, 4, 0] rfl)
theorem k_Se_armsOfBest_9 {p : Program} {l : Launch} {e : Env} {s : State} {m : MethodId} {args : Array Value} {below : List Frame} {meth : Method} {c : Code} {g : GX} {qse : Nat} {qci : Nat} {qpa : Nat} {qpae : Nat} {qpar : Nat} {qpau : Nat} {qpab : Nat} {ws0 : va_W} {cal : LV} {w0 : IV} {w1 : IV} {w2 : IV} {w3 : IV} {w4 : IV}  (C : Cx p s m args meth c (inW ws0) g "DecadeBridge$Search" b_Se_armsOfBest (some .int) 8) (f : Nat)  : HL_Se_armsOfBest_9 p l e s m args below meth c g qse qci qpa qpae qpar qpau qpab ws0 cal w0 w1 w2 w3 w4 (sp_Se_armsOfBest_9 w2 w0 w1 w3 w4  f) (ok_Se_armsOfBest_9 w2 w0 w1 w3 w4   f) := by
  induction f with
  | zero => intro x1p9 x2p9 x4p9 cap9 hok; exact False.elim hok
  | succ f ih => exact kb_Se_armsOfBest_9 C  ih
noncomputable def sp_Se_armsOfBest (ca : IV) (w0 : IV) (w1 : IV) (w2 : IV) (w3 : IV) (w4 : IV) : Int32 × IV := sp_Se_armsOfBest_9 w2 w0 w1 w3 w4 big (0 : Int32) (9223372036854775807 : Int64) (0 : Int32) ca
def ok_Se_armsOfBest (ca : IV) (w0 : IV) (w1 : IV) (w2 : IV) (w3 : IV) (w4 : IV) : Prop := ok_Se_armsOfBest_9 w2 w0 w1 w3 w4 big (0 : Int32) (9223372036854775807 : Int64) (0 : Int32) ca
set_option maxRecDepth 100000 in
set_option maxHeartbeats 4000000 in
theorem c_Se_armsOfBest (l : Launch) (g : GX) (qse : Nat) (qci : Nat) (qpa : Nat) (qpae : Nat) (qpar : Nat) (qpau : Nat) (qpab : Nat) (ca : IV) (cal : LV) (w0 : IV) (w1 : IV) (w2 : IV) (w3 : IV) (w4 : IV)  (hok : ok_Se_armsOfBest ca w0 w1 w2 w3 w4) : Met l y_Se_armsOfBest (wsY y_Se_armsOfBest b_Se_armsOfBest 8 (some .int)) rm_Se_armsOfBest (CP g [.ref qse] (wSe g qse qci qpa qpae qpar qpau qpab ca cal w0 w1 w2 w3 w4)) (CI g (wSe g qse qci qpa qpae qpar qpau qpab ca cal w0 w1 w2 w3 w4) (fun u : IV => wSe g qse qci qpa qpae qpar qpau qpab u cal w0 w1 w2 w3 w4) (sp_Se_armsOfBest ca w0 w1 w2 w3 w4)) 0 0 (inW (wSe g qse qci qpa qpae qpar qpau qpab ca cal w0 w1 w2 w3 w4)) := by
  refine Met.ofW (cc := b_Se_armsOfBest) (maxL := 8) (ret := (some .int)) pn_Se rfl ?_
  intro p e s m args below meth c s₁ B hml hv
  obtain ⟨rfl, C, hP, hD, hS⟩ := enter "DecadeBridge$Search" rfl B hml hv
  obtain ⟨hx, hb, hr, hml, hown, hlk, hts, hK, hZo, hZ⟩ := id C
  refine entryW (lv := [(0, .ref qse)]) rfl (Nat.le_of_ble_eq_true rfl) (fun ls hl => ?_)
  obtain ⟨z, hz⟩ : ∃ z, z = sp_Se_armsOfBest ca w0 w1 w2 w3 w4 := ⟨_, rfl⟩
  rw [← hz]
  unfold sp_Se_armsOfBest at hz
  unfold ok_Se_armsOfBest at hok
  refine lv_iconst (v := 0) hx hb d_Se_armsOfBest_0 (by decide) ?_
  refine lv_istore_n (lv' := [(1, .int (0 : Int32)), (0, .ref qse)]) hx hb d_Se_armsOfBest_1 rfl hl (by decide) rfl (fun ls hl => ?_)
  refine lv_ldc2 hx hb hown (hts _ qk_Se_80) d_Se_armsOfBest_2 ?_
  refine lv_lstore_n (lv' := [(2, .long (9223372036854775807 : Int64)), (1, .int (0 : Int32)), (0, .ref qse)]) hx hb d_Se_armsOfBest_5 rfl hl (by decide) rfl (fun ls hl => ?_)
  refine lv_iconst (v := 0) hx hb d_Se_armsOfBest_6 (by decide) ?_
  refine lv_istore (lv' := [(4, .int (0 : Int32)), (2, .long (9223372036854775807 : Int64)), (1, .int (0 : Int32)), (0, .ref qse)]) hx hb d_Se_armsOfBest_7 hl (by decide) rfl (fun ls hl => ?_)
  exact k_Se_armsOfBest_9 C big (0 : Int32) (9223372036854775807 : Int64) (0 : Int32) ca hok _ hz _ _ ls hP hD hS (lv_sub hl [3, 2, 1, 0] rfl)
abbrev rm_Se_naiveValue : Room := { frames := 5, cells := 0, slots := 0, locals := 124 }
noncomputable def sp_Se_naiveValue (ca : IV) (w0 : IV) (w1 : IV) (w2 : IV) (w3 : IV) (w4 : IV) : Int64 × IV := lett (sp_Se_bestSetting ca w0 w1 w3 w4) fun (y2 : Int32 × IV) => lett (sp_Ci_dial y2.1 y2.2 w0 w1 w3 w4) fun (y4 : IV) => lett (sp_Ci_scaled ((y4 14).toInt64) y4 w2) fun (y5 : Int64) => (y5, y4)
def ok_Se_naiveValue (ca : IV) (w0 : IV) (w1 : IV) (w3 : IV) (w4 : IV) : Prop := (ok_Se_bestSetting ca w0 w1 w3 w4) ∧ lett (sp_Se_bestSetting ca w0 w1 w3 w4) fun (y2 : Int32 × IV) => (ok_Ci_dial y2.1 y2.2 w0 w1) ∧ True
set_option maxRecDepth 100000 in
set_option maxHeartbeats 4000000 in
theorem c_Se_naiveValue (l : Launch) (g : GX) (qse : Nat) (qci : Nat) (qpa : Nat) (qpae : Nat) (qpar : Nat) (qpau : Nat) (qpab : Nat) (ca : IV) (cal : LV) (w0 : IV) (w1 : IV) (w2 : IV) (w3 : IV) (w4 : IV)  (hok : ok_Se_naiveValue ca w0 w1 w3 w4) : Met l y_Se_naiveValue (wsY y_Se_naiveValue b_Se_naiveValue 1 (some .long)) rm_Se_naiveValue (CP g [.ref qse] (wSe g qse qci qpa qpae qpar qpau qpab ca cal w0 w1 w2 w3 w4)) (CL g (wSe g qse qci qpa qpae qpar qpau qpab ca cal w0 w1 w2 w3 w4) (fun u : IV => wSe g qse qci qpa qpae qpar qpau qpab u cal w0 w1 w2 w3 w4) (sp_Se_naiveValue ca w0 w1 w2 w3 w4)) 0 0 (inW (wSe g qse qci qpa qpae qpar qpau qpab ca cal w0 w1 w2 w3 w4)) := by
  refine Met.ofW (cc := b_Se_naiveValue) (maxL := 1) (ret := (some .long)) pn_Se rfl ?_
  intro p e s m args below meth c s₁ B hml hv
  obtain ⟨rfl, C, hP, hD, hS⟩ := enter "DecadeBridge$Search" rfl B hml hv
  obtain ⟨hx, hb, hr, hml, hown, hlk, hts, hK, hZo, hZ⟩ := id C
  refine entryW (lv := [(0, .ref qse)]) rfl (Nat.le_of_ble_eq_true rfl) (fun ls hl => ?_)
  obtain ⟨z, hz⟩ : ∃ z, z = sp_Se_naiveValue ca w0 w1 w2 w3 w4 := ⟨_, rfl⟩
  rw [← hz]
  unfold sp_Se_naiveValue at hz
  unfold ok_Se_naiveValue at hok
  refine lv_aload_n hx hb d_Se_naiveValue_0 rfl (lv_at hl 0 rfl) ?_
  refine gf C hP 0 0 fkSe rfl (by decide) rfl qf_Se_20 (gSe_0 _ _) d_Se_naiveValue_1 ?_
  refine lv_aload_n hx hb d_Se_naiveValue_4 rfl (lv_at hl 0 rfl) ?_
  have hs1 := hok.1
  have hok := hok.2
  have hB : SubW g (inW (wSe g qse qci qpa qpae qpar qpau qpab ca cal w0 w1 w2 w3 w4)) s (wSe g qse qci qpa qpae qpar qpau qpab ca cal w0 w1 w2 w3 w4) _ (List.range _) _ _ := (subF hP hD hS)
  refine goIF hB (run_v C mf_Se_bestSetting qm_Se_86 (c_Se_bestSetting l g qse qci qpa qpae qpar qpau qpab ca cal w0 w1 w2 w3 w4 hs1) rfl rfl ⟨Nat.le_of_ble_eq_true rfl, Nat.le_of_ble_eq_true rfl⟩ ⟨Nat.le_of_ble_eq_true rfl, Nat.le_of_ble_eq_true rfl⟩ hB rfl rfl hl rfl rfl (Nat.le_of_ble_eq_true rfl) d_Se_naiveValue_5) (fun _ => rfl) (fun y2 ey2 H locs hP hD hS => ?_)
  have hP : va_P g.1 vwCl (wSe g qse qci qpa qpae qpar qpau qpab y2.2 cal w0 w1 w2 w3 w4) H := hP
  have hD : va_D (inW (wSe g qse qci qpa qpae qpar qpau qpab ca cal w0 w1 w2 w3 w4)) (wSe g qse qci qpa qpae qpar qpau qpab y2.2 cal w0 w1 w2 w3 w4) := hD
  have hz := lett_z hz ey2
  have hok := lett_o hok ey2
  have hs3 := hok.1
  have hok := hok.2
  have hB : SubW g (inW (wSe g qse qci qpa qpae qpar qpau qpab ca cal w0 w1 w2 w3 w4)) s (wSe g qse qci qpa qpae qpar qpau qpab y2.2 cal w0 w1 w2 w3 w4) (wCi g qci qpa qpae qpar qpau qpab y2.2 cal w0 w1 w2 w3 w4) [1, 2, 3, 4, 5, 6] _ _ := ⟨rfl, rfl, hP, hD, hS⟩
  refine goV1 hB (run_v C mf_Ci_dial qm_Se_28 (c_Ci_dial l g qci qpa qpae qpar qpau qpab y2.2 cal w0 w1 w2 w3 w4 y2.1 hs3) rfl rfl ⟨Nat.le_of_ble_eq_true rfl, Nat.le_of_ble_eq_true rfl⟩ ⟨Nat.le_of_ble_eq_true rfl, Nat.le_of_ble_eq_true rfl⟩ hB rfl rfl hl rfl rfl (Nat.le_of_ble_eq_true rfl) d_Se_naiveValue_8) (fun _ => rfl) (fun y4 ey4 H locs hP hD hS => ?_)
  have hP : va_P g.1 vwCl (wSe g qse qci qpa qpae qpar qpau qpab y4 cal w0 w1 w2 w3 w4) H := cP (spq hB.1 hB.2.1 [0] 7 rfl rfl (by decide +kernel) rfl) hP
  have hD : va_D (inW (wSe g qse qci qpa qpae qpar qpau qpab ca cal w0 w1 w2 w3 w4)) (wSe g qse qci qpa qpae qpar qpau qpab y4 cal w0 w1 w2 w3 w4) := cD (spq hB.1 hB.2.1 [0] 7 rfl rfl (by decide +kernel) rfl) hD
  have hz := lett_z hz ey4
  refine lv_aload_n hx hb d_Se_naiveValue_11 rfl (lv_at hl 0 rfl) ?_
  refine gf C hP 0 0 fkSe rfl (by decide) rfl qf_Se_20 (gSe_0 _ _) d_Se_naiveValue_12 ?_
  refine lv_aload_n hx hb d_Se_naiveValue_15 rfl (lv_at hl 0 rfl) ?_
  refine gf C hP 0 0 fkSe rfl (by decide) rfl qf_Se_20 (gSe_0 _ _) d_Se_naiveValue_16 ?_
  refine gf C hP 1 14 fkCi rfl (by decide) rfl qf_Se_95 (gCi_14 _ _ _) d_Se_naiveValue_19 ?_
  refine lv_i2l hx hb d_Se_naiveValue_22 rfl ?_
  have hB : SubW g (inW (wSe g qse qci qpa qpae qpar qpau qpab ca cal w0 w1 w2 w3 w4)) s (wSe g qse qci qpa qpae qpar qpau qpab y4 cal w0 w1 w2 w3 w4) (wCi g qci qpa qpae qpar qpau qpab y4 cal w0 w1 w2 w3 w4) [1, 2, 3, 4, 5, 6] _ _ := ⟨rfl, rfl, hP, hD, hS⟩
  refine goL0 hB (run_v C mf_Ci_scaled qm_Se_98 (c_Ci_scaled l g qci qpa qpae qpar qpau qpab y4 cal w0 w1 w2 w3 w4 ((y4 14).toInt64)) rfl rfl ⟨Nat.le_of_ble_eq_true rfl, Nat.le_of_ble_eq_true rfl⟩ ⟨Nat.le_of_ble_eq_true rfl, Nat.le_of_ble_eq_true rfl⟩ hB rfl rfl hl rfl rfl (Nat.le_of_ble_eq_true rfl) d_Se_naiveValue_23) (fun y5 ey5 H locs hP hS => ?_)
  have hz := lett_z hz ey5
  exact endL1 C hz hP hS d_Se_naiveValue_26
abbrev rm_Su_takeOnce : Room := { frames := 2, cells := 0, slots := 0, locals := 43 }
def HL_Su_takeOnce_17 (p : Program) (l : Launch) (e : Env) (s : State) (m : MethodId) (args : Array Value) (below : List Frame) (meth : Method) (c : Code) (g : GX) (qsu : Nat) (qte : Nat) (qteb : Nat) (qdp : Nat) (qdpe : Nat) (qdpr : Nat) (qdpu : Nat) (qdpb : Nat) (ws0 : va_W) (su : IV) (tb : IV) (d0 : IV) (d1 : IV) (d2 : IV) (d3 : IV) (d4 : IV) (p1 : Int32) (sp : IV → (IV × IV)) (ok : IV → Prop) : Prop := ∀ (tp17 : IV), ok tp17 → ∀ z : (IV × IV), z = sp tp17 → ∀ (H : Heap) (locs : List Loc) (ls : Array Slot), va_P g.1 vwCl (wSu g qsu qte qteb qdp qdpe qdpr qdpu qdpb su tp17 tb d0 d1 d2 d3 d4) H → va_D (inW ws0) (wSu g qsu qte qteb qdp qdpe qdpr qdpu qdpb su tp17 tb d0 d1 d2 d3 d4) → va_S (inW ws0) s.heap H locs → lv_has ls 2 [(0, .ref qsu), (1, .int p1)] → W p l e rm_Su_takeOnce s m args below meth c H locs 0 0 (MQ below (CV g ws0 (fun u : IV × IV => wSu g qsu qte qteb qdp qdpe qdpr qdpu qdpb u.1 u.2 tb d0 d1 d2 d3 d4) z) args s 0 0 (inW ws0)) (F0 m 17 ls [])
noncomputable def sp_Su_takeOnce_17 (su : IV) (p1 : Int32) (tb : IV)  (tp17 : IV) : IV × IV := lett (upd su 2 ((su 2) ||| p1)) fun (su_3 : IV) => lett (sp_Te_advance tp17 tb) fun (y5 : IV) => (su_3, y5)
def ok_Su_takeOnce_17 (su : IV) (p1 : Int32) (tb : IV)   (tp17 : IV) : Prop := lett (upd su 2 ((su 2) ||| p1)) fun (su_3 : IV) => (ok_Te_advance tp17 tb) ∧ True
set_option maxRecDepth 100000 in
set_option maxHeartbeats 4000000 in
theorem k_Su_takeOnce_17 {p : Program} {l : Launch} {e : Env} {s : State} {m : MethodId} {args : Array Value} {below : List Frame} {meth : Method} {c : Code} {g : GX} {qsu : Nat} {qte : Nat} {qteb : Nat} {qdp : Nat} {qdpe : Nat} {qdpr : Nat} {qdpu : Nat} {qdpb : Nat} {ws0 : va_W} {su : IV} {tb : IV} {d0 : IV} {d1 : IV} {d2 : IV} {d3 : IV} {d4 : IV} {p1 : Int32}  (C : Cx p s m args meth c (inW ws0) g "DecadeBridge$SetupReader" b_Su_takeOnce none 2)  : HL_Su_takeOnce_17 p l e s m args below meth c g qsu qte qteb qdp qdpe qdpr qdpu qdpb ws0 su tb d0 d1 d2 d3 d4 p1 (sp_Su_takeOnce_17 su p1 tb ) (ok_Su_takeOnce_17 su p1 tb  ) := by
  intro tp17 hok z hz H locs ls hP hD hS hl
  obtain ⟨hx, hb, hr, hml, hown, hlk, hts, hK, hZo, hZ⟩ := id C
  unfold sp_Su_takeOnce_17 at hz
  unfold ok_Su_takeOnce_17 at hok
  refine lv_aload_n hx hb d_Su_takeOnce_17 rfl (lv_at hl 0 rfl) ?_
  refine lv_dup hx hb d_Su_takeOnce_18 rfl ?_
  refine gf C hP 0 2 fkSu rfl (by decide) rfl qf_Su_25 (gSu_2 _ _ _) d_Su_takeOnce_19 ?_
  refine lv_iload_n hx hb d_Su_takeOnce_22 rfl (lv_at hl 1 rfl) ?_
  refine lv_ior hx hb d_Su_takeOnce_23 ?_
  refine pfI C hP hD hS 0 2 fkSu rfl (by decide) rfl qf_Su_25 rfl rfl rfl (Nat.le_of_ble_eq_true rfl) (ff := fun o => fSu qte qdp o) (sSu_2 _ _ _ _) d_Su_takeOnce_24 (fun su_3 esu_3 H locs hP hD hS => ?_)
  have hP : va_P g.1 vwCl (wSu g qsu qte qteb qdp qdpe qdpr qdpu qdpb su_3 tp17 tb d0 d1 d2 d3 d4) H := hP
  have hD : va_D (inW ws0) (wSu g qsu qte qteb qdp qdpe qdpr qdpu qdpb su_3 tp17 tb d0 d1 d2 d3 d4) := hD
  have hz := lett_z hz esu_3
  have hok := lett_o hok esu_3
  refine lv_aload_n hx hb d_Su_takeOnce_27 rfl (lv_at hl 0 rfl) ?_
  refine gf C hP 0 0 fkSu rfl (by decide) rfl qf_Su_18 (gSu_0 _ _ _) d_Su_takeOnce_28 ?_
  have hs4 := hok.1
  have hok := hok.2
  have hB : SubW g (inW ws0) s (wSu g qsu qte qteb qdp qdpe qdpr qdpu qdpb su_3 tp17 tb d0 d1 d2 d3 d4) (wTe g qte qteb tp17 tb) [1, 2] _ _ := ⟨rfl, rfl, hP, hD, hS⟩
  refine goV1 hB (run_v C mf_Te_advance qm_Su_40 (c_Te_advance l g qte qteb tp17 tb hs4) rfl rfl ⟨Nat.le_of_ble_eq_true rfl, Nat.le_of_ble_eq_true rfl⟩ ⟨Nat.le_of_ble_eq_true rfl, Nat.le_of_ble_eq_true rfl⟩ hB rfl rfl hl rfl rfl (Nat.le_of_ble_eq_true rfl) d_Su_takeOnce_31) (fun _ => rfl) (fun y5 ey5 H locs hP hD hS => ?_)
  have hP : va_P g.1 vwCl (wSu g qsu qte qteb qdp qdpe qdpr qdpu qdpb su_3 y5 tb d0 d1 d2 d3 d4) H := cP (spq hB.1 hB.2.1 [0, 3, 4, 5, 6, 7] 8 rfl rfl (by decide +kernel) rfl) hP
  have hD : va_D (inW ws0) (wSu g qsu qte qteb qdp qdpe qdpr qdpu qdpb su_3 y5 tb d0 d1 d2 d3 d4) := cD (spq hB.1 hB.2.1 [0, 3, 4, 5, 6, 7] 8 rfl rfl (by decide +kernel) rfl) hD
  have hz := lett_z hz ey5
  exact endV C hz hP hS d_Su_takeOnce_34
noncomputable def sp_Su_takeOnce (p1 : Int32) (su : IV) (t : IV) (tb : IV) : IV × IV := if ((su 2) &&& p1) = 0 then (sp_Su_takeOnce_17 su p1 tb t) else (lett (sp_Te_fail (3 : Int32) t) fun (y2 : IV) => sp_Su_takeOnce_17 su p1 tb y2)
def ok_Su_takeOnce (p1 : Int32) (su : IV) (t : IV) (tb : IV) : Prop := ((((su 2) &&& p1) = 0 → ok_Su_takeOnce_17 su p1 tb t) ∧ (¬ (((su 2) &&& p1) = 0) → lett (sp_Te_fail (3 : Int32) t) fun (y2 : IV) => ok_Su_takeOnce_17 su p1 tb y2))
set_option maxRecDepth 100000 in
set_option maxHeartbeats 4000000 in
theorem c_Su_takeOnce (l : Launch) (g : GX) (qsu : Nat) (qte : Nat) (qteb : Nat) (qdp : Nat) (qdpe : Nat) (qdpr : Nat) (qdpu : Nat) (qdpb : Nat) (su : IV) (t : IV) (tb : IV) (d0 : IV) (d1 : IV) (d2 : IV) (d3 : IV) (d4 : IV) (p1 : Int32) (hok : ok_Su_takeOnce p1 su t tb) : Met l y_Su_takeOnce (wsY y_Su_takeOnce b_Su_takeOnce 2 none) rm_Su_takeOnce (CP g [.ref qsu, .int p1] (wSu g qsu qte qteb qdp qdpe qdpr qdpu qdpb su t tb d0 d1 d2 d3 d4)) (CV g (wSu g qsu qte qteb qdp qdpe qdpr qdpu qdpb su t tb d0 d1 d2 d3 d4) (fun u : IV × IV => wSu g qsu qte qteb qdp qdpe qdpr qdpu qdpb u.1 u.2 tb d0 d1 d2 d3 d4) (sp_Su_takeOnce p1 su t tb)) 0 0 (inW (wSu g qsu qte qteb qdp qdpe qdpr qdpu qdpb su t tb d0 d1 d2 d3 d4)) := by
  refine Met.ofW (cc := b_Su_takeOnce) (maxL := 2) (ret := none) pn_Su rfl ?_
  intro p e s m args below meth c s₁ B hml hv
  obtain ⟨rfl, C, hP, hD, hS⟩ := enter "DecadeBridge$SetupReader" rfl B hml hv
  obtain ⟨hx, hb, hr, hml, hown, hlk, hts, hK, hZo, hZ⟩ := id C
  refine entryW (lv := [(0, .ref qsu), (1, .int p1)]) rfl (Nat.le_of_ble_eq_true rfl) (fun ls hl => ?_)
  obtain ⟨z, hz⟩ : ∃ z, z = sp_Su_takeOnce p1 su t tb := ⟨_, rfl⟩
  rw [← hz]
  unfold sp_Su_takeOnce at hz
  unfold ok_Su_takeOnce at hok
  refine lv_aload_n hx hb d_Su_takeOnce_0 rfl (lv_at hl 0 rfl) ?_
  refine gf C hP 0 2 fkSu rfl (by decide) rfl qf_Su_25 (gSu_2 _ _ _) d_Su_takeOnce_1 ?_
  refine lv_iload_n hx hb d_Su_takeOnce_4 rfl (lv_at hl 1 rfl) ?_
  refine lv_iand hx hb d_Su_takeOnce_5 ?_
  refine lv_if_eq (tgt := 17) hx hb d_Su_takeOnce_6 (by decide) (fun c1 => ?_) (fun c1 => ?_)
  · have hz := hz.trans (if_pos c1)
    have hok := hok.1 c1
    exact k_Su_takeOnce_17 C t hok _ hz _ _ ls hP hD hS hl
  · have hz := hz.trans (if_neg c1)
    have hok := hok.2 c1
    refine lv_aload_n hx hb d_Su_takeOnce_9 rfl (lv_at hl 0 rfl) ?_
    refine gf C hP 0 0 fkSu rfl (by decide) rfl qf_Su_18 (gSu_0 _ _ _) d_Su_takeOnce_10 ?_
    refine lv_iconst (v := 3) hx hb d_Su_takeOnce_13 (by decide) ?_
    have hB : SubW g (inW (wSu g qsu qte qteb qdp qdpe qdpr qdpu qdpb su t tb d0 d1 d2 d3 d4)) s (wSu g qsu qte qteb qdp qdpe qdpr qdpu qdpb su t tb d0 d1 d2 d3 d4) (wTe g qte qteb t tb) [1, 2] _ _ := ⟨rfl, rfl, hP, hD, hS⟩
    refine goV1 hB (run_v C mf_Te_fail qm_Su_43 (c_Te_fail l g qte qteb t tb (3 : Int32)) rfl rfl ⟨Nat.le_of_ble_eq_true rfl, Nat.le_of_ble_eq_true rfl⟩ ⟨Nat.le_of_ble_eq_true rfl, Nat.le_of_ble_eq_true rfl⟩ hB rfl rfl hl rfl rfl (Nat.le_of_ble_eq_true rfl) d_Su_takeOnce_14) (fun _ => rfl) (fun y2 ey2 H locs hP hD hS => ?_)
    have hP : va_P g.1 vwCl (wSu g qsu qte qteb qdp qdpe qdpr qdpu qdpb su y2 tb d0 d1 d2 d3 d4) H := cP (spq hB.1 hB.2.1 [0, 3, 4, 5, 6, 7] 8 rfl rfl (by decide +kernel) rfl) hP
    have hD : va_D (inW (wSu g qsu qte qteb qdp qdpe qdpr qdpu qdpb su t tb d0 d1 d2 d3 d4)) (wSu g qsu qte qteb qdp qdpe qdpr qdpu qdpb su y2 tb d0 d1 d2 d3 d4) := cD (spq hB.1 hB.2.1 [0, 3, 4, 5, 6, 7] 8 rfl rfl (by decide +kernel) rfl) hD
    have hz := lett_z hz ey2
    have hok := lett_o hok ey2
    exact k_Su_takeOnce_17 C y2 hok _ hz _ _ ls hP hD hS hl
abbrev rm_Su_takeBox : Room := { frames := 3, cells := 0, slots := 0, locals := 68 }
def HL_Su_takeBox_44 (p : Program) (l : Launch) (e : Env) (s : State) (m : MethodId) (args : Array Value) (below : List Frame) (meth : Method) (c : Code) (g : GX) (qsu : Nat) (qte : Nat) (qteb : Nat) (qdp : Nat) (qdpe : Nat) (qdpr : Nat) (qdpu : Nat) (qdpb : Nat) (ws0 : va_W) (y2 : IV × IV) (tb : IV) (d2 : IV) (d3 : IV) (d4 : IV) (sp : Int32 → IV → IV → IV → (IV × IV × IV × IV)) (ok : Int32 → IV → IV → IV → Prop) : Prop := ∀ (x1p44 : Int32) (tp44 : IV) (d0p44 : IV) (d1p44 : IV), ok x1p44 tp44 d0p44 d1p44 → ∀ z : (IV × IV × IV × IV), z = sp x1p44 tp44 d0p44 d1p44 → ∀ (H : Heap) (locs : List Loc) (ls : Array Slot), va_P g.1 vwCl (wSu g qsu qte qteb qdp qdpe qdpr qdpu qdpb y2.1 tp44 tb d0p44 d1p44 d2 d3 d4) H → va_D (inW ws0) (wSu g qsu qte qteb qdp qdpe qdpr qdpu qdpb y2.1 tp44 tb d0p44 d1p44 d2 d3 d4) → va_S (inW ws0) s.heap H locs → lv_has ls 2 [(0, .ref qsu), (1, .int x1p44)] → W p l e rm_Su_takeBox s m args below meth c H locs 0 0 (MQ below (CV g ws0 (fun u : IV × IV × IV × IV => wSu g qsu qte qteb qdp qdpe qdpr qdpu qdpb u.1 u.2.1 tb u.2.2.1 u.2.2.2 d2 d3 d4) z) args s 0 0 (inW ws0)) (F0 m 44 ls [])
def HL_Su_takeBox_64 (p : Program) (l : Launch) (e : Env) (s : State) (m : MethodId) (args : Array Value) (below : List Frame) (meth : Method) (c : Code) (g : GX) (qsu : Nat) (qte : Nat) (qteb : Nat) (qdp : Nat) (qdpe : Nat) (qdpr : Nat) (qdpu : Nat) (qdpb : Nat) (ws0 : va_W) (y2 : IV × IV) (tp44 : IV) (tb : IV) (d0p44 : IV) (d1p44 : IV) (d2 : IV) (d3 : IV) (d4 : IV) (x1p44 : Int32) (sp : (IV × IV × IV × IV)) (ok : Prop) : Prop := ∀ (_ : Unit), ok → ∀ z : (IV × IV × IV × IV), z = sp → ∀ (H : Heap) (locs : List Loc) (ls : Array Slot), va_P g.1 vwCl (wSu g qsu qte qteb qdp qdpe qdpr qdpu qdpb y2.1 tp44 tb d0p44 d1p44 d2 d3 d4) H → va_D (inW ws0) (wSu g qsu qte qteb qdp qdpe qdpr qdpu qdpb y2.1 tp44 tb d0p44 d1p44 d2 d3 d4) → va_S (inW ws0) s.heap H locs → lv_has ls 2 [(0, .ref qsu), (1, .int x1p44)] → W p l e rm_Su_takeBox s m args below meth c H locs 0 0 (MQ below (CV g ws0 (fun u : IV × IV × IV × IV => wSu g qsu qte qteb qdp qdpe qdpr qdpu qdpb u.1 u.2.1 tb u.2.2.1 u.2.2.2 d2 d3 d4) z) args s 0 0 (inW ws0)) (F0 m 64 ls [])
def HL_Su_takeBox_93 (p : Program) (l : Launch) (e : Env) (s : State) (m : MethodId) (args : Array Value) (below : List Frame) (meth : Method) (c : Code) (g : GX) (qsu : Nat) (qte : Nat) (qteb : Nat) (qdp : Nat) (qdpe : Nat) (qdpr : Nat) (qdpu : Nat) (qdpb : Nat) (ws0 : va_W) (y2 : IV × IV) (tb : IV) (d2 : IV) (d3 : IV) (d4 : IV) (x1p44 : Int32) (sp : IV → IV → IV → (IV × IV × IV × IV)) (ok : IV → IV → IV → Prop) : Prop := ∀ (tp93 : IV) (d0p93 : IV) (d1p93 : IV), ok tp93 d0p93 d1p93 → ∀ z : (IV × IV × IV × IV), z = sp tp93 d0p93 d1p93 → ∀ (H : Heap) (locs : List Loc) (ls : Array Slot), va_P g.1 vwCl (wSu g qsu qte qteb qdp qdpe qdpr qdpu qdpb y2.1 tp93 tb d0p93 d1p93 d2 d3 d4) H → va_D (inW ws0) (wSu g qsu qte qteb qdp qdpe qdpr qdpu qdpb y2.1 tp93 tb d0p93 d1p93 d2 d3 d4) → va_S (inW ws0) s.heap H locs → lv_has ls 2 [(0, .ref qsu), (1, .int x1p44)] → W p l e rm_Su_takeBox s m args below meth c H locs 0 0 (MQ below (CV g ws0 (fun u : IV × IV × IV × IV => wSu g qsu qte qteb qdp qdpe qdpr qdpu qdpb u.1 u.2.1 tb u.2.2.1 u.2.2.2 d2 d3 d4) z) args s 0 0 (inW ws0)) (F0 m 93 ls [])
noncomputable def sp_Su_takeBox_93 (x1p44 : Int32) (r44 : Int32 → IV → IV → IV → (IV × IV × IV × IV)) (tp93 : IV) (d0p93 : IV) (d1p93 : IV) : IV × IV × IV × IV := lett (x1p44 + (1 : Int32)) fun (v19 : Int32) => r44 v19 tp93 d0p93 d1p93
def ok_Su_takeBox_93 (x1p44 : Int32) (r44 : Int32 → IV → IV → IV → (IV × IV × IV × IV)) (q44 : Int32 → IV → IV → IV → Prop) (tp93 : IV) (d0p93 : IV) (d1p93 : IV) : Prop := lett (x1p44 + (1 : Int32)) fun (v19 : Int32) => q44 v19 tp93 d0p93 d1p93
set_option maxRecDepth 100000 in
set_option maxHeartbeats 4000000 in
theorem k_Su_takeBox_93 {p : Program} {l : Launch} {e : Env} {s : State} {m : MethodId} {args : Array Value} {below : List Frame} {meth : Method} {c : Code} {g : GX} {qsu : Nat} {qte : Nat} {qteb : Nat} {qdp : Nat} {qdpe : Nat} {qdpr : Nat} {qdpu : Nat} {qdpb : Nat} {ws0 : va_W} {y2 : IV × IV} {tb : IV} {d2 : IV} {d3 : IV} {d4 : IV} {x1p44 : Int32} {r44 : Int32 → IV → IV → IV → (IV × IV × IV × IV)} {q44 : Int32 → IV → IV → IV → Prop} (C : Cx p s m args meth c (inW ws0) g "DecadeBridge$SetupReader" b_Su_takeBox none 2) (ih44 : HL_Su_takeBox_44 p l e s m args below meth c g qsu qte qteb qdp qdpe qdpr qdpu qdpb ws0 y2 tb d2 d3 d4 r44 q44) : HL_Su_takeBox_93 p l e s m args below meth c g qsu qte qteb qdp qdpe qdpr qdpu qdpb ws0 y2 tb d2 d3 d4 x1p44 (sp_Su_takeBox_93 x1p44 r44) (ok_Su_takeBox_93 x1p44 r44 q44) := by
  intro tp93 d0p93 d1p93 hok z hz H locs ls hP hD hS hl
  obtain ⟨hx, hb, hr, hml, hown, hlk, hts, hK, hZo, hZ⟩ := id C
  unfold sp_Su_takeBox_93 at hz
  unfold ok_Su_takeBox_93 at hok
  obtain ⟨v19, ev19⟩ : ∃ y : Int32, y = x1p44 + (1 : Int32) := ⟨_, rfl⟩
  have hz := lett_z hz ev19
  have hok := lett_o hok ev19
  refine lv_iinc (v := v19) (lv' := [(1, .int v19), (0, .ref qsu)]) hx hb d_Su_takeBox_93 hl (k := 1) rfl (by rw [ev19]; rfl) (by decide) rfl (fun ls hl => ?_)
  refine lv_goto (tgt := 44) hx hb d_Su_takeBox_96 (by decide) ?_
  exact ih44 v19 tp93 d0p93 d1p93 hok _ hz _ _ ls hP hD hS (lv_sub hl [1, 0] rfl)
noncomputable def sp_Su_takeBox_64 (tp44 : IV) (tb : IV) (x1p44 : Int32) (d1p44 : IV) (d0p44 : IV) (r44 : Int32 → IV → IV → IV → (IV × IV × IV × IV))  : IV × IV × IV × IV := lett (sp_Te_number (-50000 : Int32) (50000 : Int32) tp44 tb) fun (y16 : Int32 × IV) => lett (sp_Pa_setErrorOfDecade x1p44 y16.1 d1p44) fun (y17 : IV) => lett (upd d0p44 0 (x1p44 + (1 : Int32))) fun (d_18 : IV) => sp_Su_takeBox_93 x1p44 r44 y16.2 d_18 y17
def ok_Su_takeBox_64 (tp44 : IV) (tb : IV) (x1p44 : Int32) (d1p44 : IV) (d0p44 : IV) (r44 : Int32 → IV → IV → IV → (IV × IV × IV × IV)) (q44 : Int32 → IV → IV → IV → Prop)  : Prop := (ok_Te_number (-50000 : Int32) (50000 : Int32) tp44 tb) ∧ lett (sp_Te_number (-50000 : Int32) (50000 : Int32) tp44 tb) fun (y16 : Int32 × IV) => lett (sp_Pa_setErrorOfDecade x1p44 y16.1 d1p44) fun (y17 : IV) => lett (upd d0p44 0 (x1p44 + (1 : Int32))) fun (d_18 : IV) => ok_Su_takeBox_93 x1p44 r44 q44 y16.2 d_18 y17
set_option maxRecDepth 100000 in
set_option maxHeartbeats 4000000 in
theorem k_Su_takeBox_64 {p : Program} {l : Launch} {e : Env} {s : State} {m : MethodId} {args : Array Value} {below : List Frame} {meth : Method} {c : Code} {g : GX} {qsu : Nat} {qte : Nat} {qteb : Nat} {qdp : Nat} {qdpe : Nat} {qdpr : Nat} {qdpu : Nat} {qdpb : Nat} {ws0 : va_W} {y2 : IV × IV} {tp44 : IV} {tb : IV} {d0p44 : IV} {d1p44 : IV} {d2 : IV} {d3 : IV} {d4 : IV} {x1p44 : Int32} {r44 : Int32 → IV → IV → IV → (IV × IV × IV × IV)} {q44 : Int32 → IV → IV → IV → Prop} (C : Cx p s m args meth c (inW ws0) g "DecadeBridge$SetupReader" b_Su_takeBox none 2) (ih44 : HL_Su_takeBox_44 p l e s m args below meth c g qsu qte qteb qdp qdpe qdpr qdpu qdpb ws0 y2 tb d2 d3 d4 r44 q44) : HL_Su_takeBox_64 p l e s m args below meth c g qsu qte qteb qdp qdpe qdpr qdpu qdpb ws0 y2 tp44 tb d0p44 d1p44 d2 d3 d4 x1p44 (sp_Su_takeBox_64 tp44 tb x1p44 d1p44 d0p44 r44) (ok_Su_takeBox_64 tp44 tb x1p44 d1p44 d0p44 r44 q44) := by
  intro _ hok z hz H locs ls hP hD hS hl
  obtain ⟨hx, hb, hr, hml, hown, hlk, hts, hK, hZo, hZ⟩ := id C
  unfold sp_Su_takeBox_64 at hz
  unfold ok_Su_takeBox_64 at hok
  refine lv_aload_n hx hb d_Su_takeBox_64 rfl (lv_at hl 0 rfl) ?_
  refine gf C hP 0 1 fkSu rfl (by decide) rfl qf_Su_12 (gSu_1 _ _ _) d_Su_takeBox_65 ?_
  refine lv_iload_n hx hb d_Su_takeBox_68 rfl (lv_at hl 1 rfl) ?_
  refine lv_aload_n hx hb d_Su_takeBox_69 rfl (lv_at hl 0 rfl) ?_
  refine gf C hP 0 0 fkSu rfl (by decide) rfl qf_Su_18 (gSu_0 _ _ _) d_Su_takeBox_70 ?_
  refine lv_ldc hx hb hown (hts _ qk_Su_120) d_Su_takeBox_73 ?_
  refine lv_ldc hx hb hown (hts _ qk_Su_121) d_Su_takeBox_75 ?_
  have hs15 := hok.1
  have hok := hok.2
  have hB : SubW g (inW ws0) s (wSu g qsu qte qteb qdp qdpe qdpr qdpu qdpb y2.1 tp44 tb d0p44 d1p44 d2 d3 d4) (wTe g qte qteb tp44 tb) [1, 2] _ _ := ⟨rfl, rfl, hP, hD, hS⟩
  refine goI1 hB (run_v C mf_Te_number qm_Su_70 (c_Te_number l g qte qteb tp44 tb (-50000 : Int32) (50000 : Int32) hs15) rfl rfl ⟨Nat.le_of_ble_eq_true rfl, Nat.le_of_ble_eq_true rfl⟩ ⟨Nat.le_of_ble_eq_true rfl, Nat.le_of_ble_eq_true rfl⟩ hB rfl rfl hl rfl rfl (Nat.le_of_ble_eq_true rfl) d_Su_takeBox_77) (fun _ => rfl) (fun y16 ey16 H locs hP hD hS => ?_)
  have hP : va_P g.1 vwCl (wSu g qsu qte qteb qdp qdpe qdpr qdpu qdpb y2.1 y16.2 tb d0p44 d1p44 d2 d3 d4) H := cP (spq hB.1 hB.2.1 [0, 3, 4, 5, 6, 7] 8 rfl rfl (by decide +kernel) rfl) hP
  have hD : va_D (inW ws0) (wSu g qsu qte qteb qdp qdpe qdpr qdpu qdpb y2.1 y16.2 tb d0p44 d1p44 d2 d3 d4) := cD (spq hB.1 hB.2.1 [0, 3, 4, 5, 6, 7] 8 rfl rfl (by decide +kernel) rfl) hD
  have hz := lett_z hz ey16
  have hok := lett_o hok ey16
  have hB : SubW g (inW ws0) s (wSu g qsu qte qteb qdp qdpe qdpr qdpu qdpb y2.1 y16.2 tb d0p44 d1p44 d2 d3 d4) (wPa g qdp qdpe qdpr qdpu qdpb d0p44 d1p44 d2 d3 d4) [3, 4, 5, 6, 7] _ _ := ⟨rfl, rfl, hP, hD, hS⟩
  refine goV1 hB (run_v C mf_Pa_setErrorOfDecade qm_Su_122 (c_Pa_setErrorOfDecade l g qdp qdpe qdpr qdpu qdpb d0p44 d1p44 d2 d3 d4 x1p44 y16.1) rfl rfl ⟨Nat.le_of_ble_eq_true rfl, Nat.le_of_ble_eq_true rfl⟩ ⟨Nat.le_of_ble_eq_true rfl, Nat.le_of_ble_eq_true rfl⟩ hB rfl rfl hl rfl rfl (Nat.le_of_ble_eq_true rfl) d_Su_takeBox_80) (fun _ => rfl) (fun y17 ey17 H locs hP hD hS => ?_)
  have hP : va_P g.1 vwCl (wSu g qsu qte qteb qdp qdpe qdpr qdpu qdpb y2.1 y16.2 tb d0p44 y17 d2 d3 d4) H := cP (spq hB.1 hB.2.1 [0, 1, 2] 8 rfl rfl (by decide +kernel) rfl) hP
  have hD : va_D (inW ws0) (wSu g qsu qte qteb qdp qdpe qdpr qdpu qdpb y2.1 y16.2 tb d0p44 y17 d2 d3 d4) := cD (spq hB.1 hB.2.1 [0, 1, 2] 8 rfl rfl (by decide +kernel) rfl) hD
  have hz := lett_z hz ey17
  have hok := lett_o hok ey17
  refine lv_aload_n hx hb d_Su_takeBox_83 rfl (lv_at hl 0 rfl) ?_
  refine gf C hP 0 1 fkSu rfl (by decide) rfl qf_Su_12 (gSu_1 _ _ _) d_Su_takeBox_84 ?_
  refine lv_iload_n hx hb d_Su_takeBox_87 rfl (lv_at hl 1 rfl) ?_
  refine lv_iconst (v := 1) hx hb d_Su_takeBox_88 (by decide) ?_
  refine lv_iadd hx hb d_Su_takeBox_89 ?_
  refine pfI C hP hD hS 3 0 fkPa rfl (by decide) rfl qf_Su_126 rfl rfl rfl (Nat.le_of_ble_eq_true rfl) (ff := fun o => fPa qdpe qdpr qdpu qdpb o) (sPa_0 _ _ _ _ _ _) d_Su_takeBox_90 (fun d_18 ed_18 H locs hP hD hS => ?_)
  have hP : va_P g.1 vwCl (wSu g qsu qte qteb qdp qdpe qdpr qdpu qdpb y2.1 y16.2 tb d_18 y17 d2 d3 d4) H := hP
  have hD : va_D (inW ws0) (wSu g qsu qte qteb qdp qdpe qdpr qdpu qdpb y2.1 y16.2 tb d_18 y17 d2 d3 d4) := hD
  have hz := lett_z hz ed_18
  have hok := lett_o hok ed_18
  exact k_Su_takeBox_93 C ih44 y16.2 d_18 y17 hok _ hz _ _ ls hP hD hS hl
noncomputable def bd_Su_takeBox_44 (y2 : IV × IV) (tb : IV) (r44 : Int32 → IV → IV → IV → (IV × IV × IV × IV)) (x1p44 : Int32) (tp44 : IV) (d0p44 : IV) (d1p44 : IV) : IV × IV × IV × IV := if (4 : Int32) ≤ x1p44 then ((y2.1, tp44, d0p44, d1p44)) else (if x1p44 < (2 : Int32) then (sp_Su_takeBox_64 tp44 tb x1p44 d1p44 d0p44 r44) else (lett (sp_Te_atSigned tp44) fun (y13 : Int32) => if y13 = 0 then (sp_Su_takeBox_93 x1p44 r44 tp44 d0p44 d1p44) else (sp_Su_takeBox_64 tp44 tb x1p44 d1p44 d0p44 r44)))
def okb_Su_takeBox_44 (y2 : IV × IV) (tb : IV) (r44 : Int32 → IV → IV → IV → (IV × IV × IV × IV)) (q44 : Int32 → IV → IV → IV → Prop) (x1p44 : Int32) (tp44 : IV) (d0p44 : IV) (d1p44 : IV) : Prop := (((4 : Int32) ≤ x1p44 → True) ∧ (¬ ((4 : Int32) ≤ x1p44) → ((x1p44 < (2 : Int32) → ok_Su_takeBox_64 tp44 tb x1p44 d1p44 d0p44 r44 q44) ∧ (¬ (x1p44 < (2 : Int32)) → lett (sp_Te_atSigned tp44) fun (y13 : Int32) => ((y13 = 0 → ok_Su_takeBox_93 x1p44 r44 q44 tp44 d0p44 d1p44) ∧ (¬ (y13 = 0) → ok_Su_takeBox_64 tp44 tb x1p44 d1p44 d0p44 r44 q44))))))
noncomputable def sp_Su_takeBox_44 (y2 : IV × IV) (tb : IV)  : Nat → Int32 → IV → IV → IV → (IV × IV × IV × IV)
  | 0 => fun _ _ _ _ => default
  | f + 1 => bd_Su_takeBox_44 y2 tb  (sp_Su_takeBox_44 y2 tb  f)
def ok_Su_takeBox_44 (y2 : IV × IV) (tb : IV)   : Nat → Int32 → IV → IV → IV → Prop
  | 0 => fun _ _ _ _ => False
  | f + 1 => okb_Su_takeBox_44 y2 tb  (sp_Su_takeBox_44 y2 tb  f)  (ok_Su_takeBox_44 y2 tb   f)
set_option maxRecDepth 100000 in
set_option maxHeartbeats 4000000 in
theorem kb_Su_takeBox_44 {p : Program} {l : Launch} {e : Env} {s : State} {m : MethodId} {args : Array Value} {below : List Frame} {meth : Method} {c : Code} {g : GX} {qsu : Nat} {qte : Nat} {qteb : Nat} {qdp : Nat} {qdpe : Nat} {qdpr : Nat} {qdpu : Nat} {qdpb : Nat} {ws0 : va_W} {y2 : IV × IV} {tb : IV} {d2 : IV} {d3 : IV} {d4 : IV}  (C : Cx p s m args meth c (inW ws0) g "DecadeBridge$SetupReader" b_Su_takeBox none 2) {r44 : Int32 → IV → IV → IV → (IV × IV × IV × IV)} {q44 : Int32 → IV → IV → IV → Prop}  (ih44 : HL_Su_takeBox_44 p l e s m args below meth c g qsu qte qteb qdp qdpe qdpr qdpu qdpb ws0 y2 tb d2 d3 d4 r44 q44) : HL_Su_takeBox_44 p l e s m args below meth c g qsu qte qteb qdp qdpe qdpr qdpu qdpb ws0 y2 tb d2 d3 d4 (bd_Su_takeBox_44 y2 tb  r44) (okb_Su_takeBox_44 y2 tb  r44  q44) := by
  intro x1p44 tp44 d0p44 d1p44 hok z hz H locs ls hP hD hS hl
  obtain ⟨hx, hb, hr, hml, hown, hlk, hts, hK, hZo, hZ⟩ := id C
  unfold bd_Su_takeBox_44 at hz
  unfold okb_Su_takeBox_44 at hok
  refine lv_iload_n hx hb d_Su_takeBox_44 rfl (lv_at hl 1 rfl) ?_
  refine lv_iconst (v := 4) hx hb d_Su_takeBox_45 (by decide) ?_
  refine lv_icmp_ge (tgt := 99) hx hb d_Su_takeBox_46 (by decide) (fun c11 => ?_) (fun c11 => ?_)
  · have hz := hz.trans (if_pos c11)
    exact endV C hz hP hS d_Su_takeBox_99
  · have hz := hz.trans (if_neg c11)
    have hok := hok.2 c11
    refine lv_iload_n hx hb d_Su_takeBox_49 rfl (lv_at hl 1 rfl) ?_
    refine lv_iconst (v := 2) hx hb d_Su_takeBox_50 (by decide) ?_
    refine lv_icmp_lt (tgt := 64) hx hb d_Su_takeBox_51 (by decide) (fun c12 => ?_) (fun c12 => ?_)
    · have hz := hz.trans (if_pos c12)
      have hok := hok.1 c12
      exact k_Su_takeBox_64 C ih44 () hok _ hz _ _ ls hP hD hS hl
    · have hz := hz.trans (if_neg c12)
      have hok := hok.2 c12
      refine lv_aload_n hx hb d_Su_takeBox_54 rfl (lv_at hl 0 rfl) ?_
      refine gf C hP 0 0 fkSu rfl (by decide) rfl qf_Su_18 (gSu_0 _ _ _) d_Su_takeBox_55 ?_
      have hB : SubW g (inW ws0) s (wSu g qsu qte qteb qdp qdpe qdpr qdpu qdpb y2.1 tp44 tb d0p44 d1p44 d2 d3 d4) (wTe g qte qteb tp44 tb) [1, 2] _ _ := ⟨rfl, rfl, hP, hD, hS⟩
      refine goI0 hB (run_v C mf_Te_atSigned qm_Su_116 (c_Te_atSigned l g qte qteb tp44 tb) rfl rfl ⟨Nat.le_of_ble_eq_true rfl, Nat.le_of_ble_eq_true rfl⟩ ⟨Nat.le_of_ble_eq_true rfl, Nat.le_of_ble_eq_true rfl⟩ hB rfl rfl hl rfl rfl (Nat.le_of_ble_eq_true rfl) d_Su_takeBox_58) (fun y13 ey13 H locs hP hS => ?_)
      have hz := lett_z hz ey13
      have hok := lett_o hok ey13
      refine lv_if_eq (tgt := 93) hx hb d_Su_takeBox_61 (by decide) (fun c14 => ?_) (fun c14 => ?_)
      · have hz := hz.trans (if_pos c14)
        have hok := hok.1 c14
        exact k_Su_takeBox_93 C ih44 tp44 d0p44 d1p44 hok _ hz _ _ ls hP hD hS hl
      · have hz := hz.trans (if_neg c14)
        have hok := hok.2 c14
        exact k_Su_takeBox_64 C ih44 () hok _ hz _ _ ls hP hD hS hl
theorem k_Su_takeBox_44 {p : Program} {l : Launch} {e : Env} {s : State} {m : MethodId} {args : Array Value} {below : List Frame} {meth : Method} {c : Code} {g : GX} {qsu : Nat} {qte : Nat} {qteb : Nat} {qdp : Nat} {qdpe : Nat} {qdpr : Nat} {qdpu : Nat} {qdpb : Nat} {ws0 : va_W} {y2 : IV × IV} {tb : IV} {d2 : IV} {d3 : IV} {d4 : IV}  (C : Cx p s m args meth c (inW ws0) g "DecadeBridge$SetupReader" b_Su_takeBox none 2) (f : Nat)  : HL_Su_takeBox_44 p l e s m args below meth c g qsu qte qteb qdp qdpe qdpr qdpu qdpb ws0 y2 tb d2 d3 d4 (sp_Su_takeBox_44 y2 tb  f) (ok_Su_takeBox_44 y2 tb   f) := by
  induction f with
  | zero => intro x1p44 tp44 d0p44 d1p44 hok; exact False.elim hok
  | succ f ih => exact kb_Su_takeBox_44 C  ih
noncomputable def sp_Su_takeBox (su : IV) (t : IV) (tb : IV) (d0 : IV) (d1 : IV) : IV × IV × IV × IV := lett (sp_Su_takeOnce (1 : Int32) su t tb) fun (y2 : IV × IV) => lett (sp_Te_number (0 : Int32) (4 : Int32) y2.2 tb) fun (y4 : Int32 × IV) => lett (sp_Pa_tenTo y4.1) fun (y6 : Int32) => lett (upd d0 1 y6) fun (d_7 : IV) => lett (sp_Te_number (0 : Int32) (999 : Int32) y4.2 tb) fun (y9 : Int32 × IV) => lett (upd d_7 2 y9.1) fun (d_10 : IV) => sp_Su_takeBox_44 y2 tb big (0 : Int32) y9.2 d_10 d1
def ok_Su_takeBox (su : IV) (t : IV) (tb : IV) (d0 : IV) (d1 : IV) : Prop := (ok_Su_takeOnce (1 : Int32) su t tb) ∧ lett (sp_Su_takeOnce (1 : Int32) su t tb) fun (y2 : IV × IV) => (ok_Te_number (0 : Int32) (4 : Int32) y2.2 tb) ∧ lett (sp_Te_number (0 : Int32) (4 : Int32) y2.2 tb) fun (y4 : Int32 × IV) => (ok_Pa_tenTo y4.1) ∧ lett (sp_Pa_tenTo y4.1) fun (y6 : Int32) => lett (upd d0 1 y6) fun (d_7 : IV) => (ok_Te_number (0 : Int32) (999 : Int32) y4.2 tb) ∧ lett (sp_Te_number (0 : Int32) (999 : Int32) y4.2 tb) fun (y9 : Int32 × IV) => lett (upd d_7 2 y9.1) fun (d_10 : IV) => ok_Su_takeBox_44 y2 tb big (0 : Int32) y9.2 d_10 d1
set_option maxRecDepth 100000 in
set_option maxHeartbeats 4000000 in
theorem c_Su_takeBox (l : Launch) (g : GX) (qsu : Nat) (qte : Nat) (qteb : Nat) (qdp : Nat) (qdpe : Nat) (qdpr : Nat) (qdpu : Nat) (qdpb : Nat) (su : IV) (t : IV) (tb : IV) (d0 : IV) (d1 : IV) (d2 : IV) (d3 : IV) (d4 : IV)  (hok : ok_Su_takeBox su t tb d0 d1) : Met l y_Su_takeBox (wsY y_Su_takeBox b_Su_takeBox 2 none) rm_Su_takeBox (CP g [.ref qsu] (wSu g qsu qte qteb qdp qdpe qdpr qdpu qdpb su t tb d0 d1 d2 d3 d4)) (CV g (wSu g qsu qte qteb qdp qdpe qdpr qdpu qdpb su t tb d0 d1 d2 d3 d4) (fun u : IV × IV × IV × IV => wSu g qsu qte qteb qdp qdpe qdpr qdpu qdpb u.1 u.2.1 tb u.2.2.1 u.2.2.2 d2 d3 d4) (sp_Su_takeBox su t tb d0 d1)) 0 0 (inW (wSu g qsu qte qteb qdp qdpe qdpr qdpu qdpb su t tb d0 d1 d2 d3 d4)) := by
  refine Met.ofW (cc := b_Su_takeBox) (maxL := 2) (ret := none) pn_Su rfl ?_
  intro p e s m args below meth c s₁ B hml hv
  obtain ⟨rfl, C, hP, hD, hS⟩ := enter "DecadeBridge$SetupReader" rfl B hml hv
  obtain ⟨hx, hb, hr, hml, hown, hlk, hts, hK, hZo, hZ⟩ := id C
  refine entryW (lv := [(0, .ref qsu)]) rfl (Nat.le_of_ble_eq_true rfl) (fun ls hl => ?_)
  obtain ⟨z, hz⟩ : ∃ z, z = sp_Su_takeBox su t tb d0 d1 := ⟨_, rfl⟩
  rw [← hz]
  unfold sp_Su_takeBox at hz
  unfold ok_Su_takeBox at hok
  refine lv_aload_n hx hb d_Su_takeBox_0 rfl (lv_at hl 0 rfl) ?_
  refine lv_iconst (v := 1) hx hb d_Su_takeBox_1 (by decide) ?_
  have hs1 := hok.1
  have hok := hok.2
  have hB : SubW g (inW (wSu g qsu qte qteb qdp qdpe qdpr qdpu qdpb su t tb d0 d1 d2 d3 d4)) s (wSu g qsu qte qteb qdp qdpe qdpr qdpu qdpb su t tb d0 d1 d2 d3 d4) _ (List.range _) _ _ := (subF hP hD hS)
  refine goVF hB (run_v C mf_Su_takeOnce qm_Su_66 (c_Su_takeOnce l g qsu qte qteb qdp qdpe qdpr qdpu qdpb su t tb d0 d1 d2 d3 d4 (1 : Int32) hs1) rfl rfl ⟨Nat.le_of_ble_eq_true rfl, Nat.le_of_ble_eq_true rfl⟩ ⟨Nat.le_of_ble_eq_true rfl, Nat.le_of_ble_eq_true rfl⟩ hB rfl rfl hl rfl rfl (Nat.le_of_ble_eq_true rfl) d_Su_takeBox_2) (fun _ => rfl) (fun y2 ey2 H locs hP hD hS => ?_)
  have hP : va_P g.1 vwCl (wSu g qsu qte qteb qdp qdpe qdpr qdpu qdpb y2.1 y2.2 tb d0 d1 d2 d3 d4) H := hP
  have hD : va_D (inW (wSu g qsu qte qteb qdp qdpe qdpr qdpu qdpb su t tb d0 d1 d2 d3 d4)) (wSu g qsu qte qteb qdp qdpe qdpr qdpu qdpb y2.1 y2.2 tb d0 d1 d2 d3 d4) := hD
  have hz := lett_z hz ey2
  have hok := lett_o hok ey2
  refine lv_aload_n hx hb d_Su_takeBox_5 rfl (lv_at hl 0 rfl) ?_
  refine gf C hP 0 1 fkSu rfl (by decide) rfl qf_Su_12 (gSu_1 _ _ _) d_Su_takeBox_6 ?_
  refine lv_aload_n hx hb d_Su_takeBox_9 rfl (lv_at hl 0 rfl) ?_
  refine gf C hP 0 0 fkSu rfl (by decide) rfl qf_Su_18 (gSu_0 _ _ _) d_Su_takeBox_10 ?_
  refine lv_iconst (v := 0) hx hb d_Su_takeBox_13 (by decide) ?_
  refine lv_iconst (v := 4) hx hb d_Su_takeBox_14 (by decide) ?_
  have hs3 := hok.1
  have hok := hok.2
  have hB : SubW g (inW (wSu g qsu qte qteb qdp qdpe qdpr qdpu qdpb su t tb d0 d1 d2 d3 d4)) s (wSu g qsu qte qteb qdp qdpe qdpr qdpu qdpb y2.1 y2.2 tb d0 d1 d2 d3 d4) (wTe g qte qteb y2.2 tb) [1, 2] _ _ := ⟨rfl, rfl, hP, hD, hS⟩
  refine goI1 hB (run_v C mf_Te_number qm_Su_70 (c_Te_number l g qte qteb y2.2 tb (0 : Int32) (4 : Int32) hs3) rfl rfl ⟨Nat.le_of_ble_eq_true rfl, Nat.le_of_ble_eq_true rfl⟩ ⟨Nat.le_of_ble_eq_true rfl, Nat.le_of_ble_eq_true rfl⟩ hB rfl rfl hl rfl rfl (Nat.le_of_ble_eq_true rfl) d_Su_takeBox_15) (fun _ => rfl) (fun y4 ey4 H locs hP hD hS => ?_)
  have hP : va_P g.1 vwCl (wSu g qsu qte qteb qdp qdpe qdpr qdpu qdpb y2.1 y4.2 tb d0 d1 d2 d3 d4) H := cP (spq hB.1 hB.2.1 [0, 3, 4, 5, 6, 7] 8 rfl rfl (by decide +kernel) rfl) hP
  have hD : va_D (inW (wSu g qsu qte qteb qdp qdpe qdpr qdpu qdpb su t tb d0 d1 d2 d3 d4)) (wSu g qsu qte qteb qdp qdpe qdpr qdpu qdpb y2.1 y4.2 tb d0 d1 d2 d3 d4) := cD (spq hB.1 hB.2.1 [0, 3, 4, 5, 6, 7] 8 rfl rfl (by decide +kernel) rfl) hD
  have hz := lett_z hz ey4
  have hok := lett_o hok ey4
  have hs5 := hok.1
  have hok := hok.2
  have hB : SubW g (inW (wSu g qsu qte qteb qdp qdpe qdpr qdpu qdpb su t tb d0 d1 d2 d3 d4)) s (wSu g qsu qte qteb qdp qdpe qdpr qdpu qdpb y2.1 y4.2 tb d0 d1 d2 d3 d4) (wNil g ) [] _ _ := ⟨rfl, rfl, hP, hD, hS⟩
  refine goI0 hB (run_s C mf_Pa_tenTo qm_Su_106 (c_Pa_tenTo l g y4.1 hs5) rfl rfl ⟨Nat.le_of_ble_eq_true rfl, Nat.le_of_ble_eq_true rfl⟩ ⟨Nat.le_of_ble_eq_true rfl, Nat.le_of_ble_eq_true rfl⟩ hB hl rfl rfl (Nat.le_of_ble_eq_true rfl) d_Su_takeBox_18) (fun y6 ey6 H locs hP hS => ?_)
  have hz := lett_z hz ey6
  have hok := lett_o hok ey6
  refine pfI C hP hD hS 3 1 fkPa rfl (by decide) rfl qf_Su_110 rfl rfl rfl (Nat.le_of_ble_eq_true rfl) (ff := fun o => fPa qdpe qdpr qdpu qdpb o) (sPa_1 _ _ _ _ _ _) d_Su_takeBox_21 (fun d_7 ed_7 H locs hP hD hS => ?_)
  have hP : va_P g.1 vwCl (wSu g qsu qte qteb qdp qdpe qdpr qdpu qdpb y2.1 y4.2 tb d_7 d1 d2 d3 d4) H := hP
  have hD : va_D (inW (wSu g qsu qte qteb qdp qdpe qdpr qdpu qdpb su t tb d0 d1 d2 d3 d4)) (wSu g qsu qte qteb qdp qdpe qdpr qdpu qdpb y2.1 y4.2 tb d_7 d1 d2 d3 d4) := hD
  have hz := lett_z hz ed_7
  have hok := lett_o hok ed_7
  refine lv_aload_n hx hb d_Su_takeBox_24 rfl (lv_at hl 0 rfl) ?_
  refine gf C hP 0 1 fkSu rfl (by decide) rfl qf_Su_12 (gSu_1 _ _ _) d_Su_takeBox_25 ?_
  refine lv_aload_n hx hb d_Su_takeBox_28 rfl (lv_at hl 0 rfl) ?_
  refine gf C hP 0 0 fkSu rfl (by decide) rfl qf_Su_18 (gSu_0 _ _ _) d_Su_takeBox_29 ?_
  refine lv_iconst (v := 0) hx hb d_Su_takeBox_32 (by decide) ?_
  refine lv_sipush (v := 999) hx hb d_Su_takeBox_33 (by decide) ?_
  have hs8 := hok.1
  have hok := hok.2
  have hB : SubW g (inW (wSu g qsu qte qteb qdp qdpe qdpr qdpu qdpb su t tb d0 d1 d2 d3 d4)) s (wSu g qsu qte qteb qdp qdpe qdpr qdpu qdpb y2.1 y4.2 tb d_7 d1 d2 d3 d4) (wTe g qte qteb y4.2 tb) [1, 2] _ _ := ⟨rfl, rfl, hP, hD, hS⟩
  refine goI1 hB (run_v C mf_Te_number qm_Su_70 (c_Te_number l g qte qteb y4.2 tb (0 : Int32) (999 : Int32) hs8) rfl rfl ⟨Nat.le_of_ble_eq_true rfl, Nat.le_of_ble_eq_true rfl⟩ ⟨Nat.le_of_ble_eq_true rfl, Nat.le_of_ble_eq_true rfl⟩ hB rfl rfl hl rfl rfl (Nat.le_of_ble_eq_true rfl) d_Su_takeBox_36) (fun _ => rfl) (fun y9 ey9 H locs hP hD hS => ?_)
  have hP : va_P g.1 vwCl (wSu g qsu qte qteb qdp qdpe qdpr qdpu qdpb y2.1 y9.2 tb d_7 d1 d2 d3 d4) H := cP (spq hB.1 hB.2.1 [0, 3, 4, 5, 6, 7] 8 rfl rfl (by decide +kernel) rfl) hP
  have hD : va_D (inW (wSu g qsu qte qteb qdp qdpe qdpr qdpu qdpb su t tb d0 d1 d2 d3 d4)) (wSu g qsu qte qteb qdp qdpe qdpr qdpu qdpb y2.1 y9.2 tb d_7 d1 d2 d3 d4) := cD (spq hB.1 hB.2.1 [0, 3, 4, 5, 6, 7] 8 rfl rfl (by decide +kernel) rfl) hD
  have hz := lett_z hz ey9
  have hok := lett_o hok ey9
  refine pfI C hP hD hS 3 2 fkPa rfl (by decide) rfl qf_Su_113 rfl rfl rfl (Nat.le_of_ble_eq_true rfl) (ff := fun o => fPa qdpe qdpr qdpu qdpb o) (sPa_2 _ _ _ _ _ _) d_Su_takeBox_39 (fun d_10 ed_10 H locs hP hD hS => ?_)
  have hP : va_P g.1 vwCl (wSu g qsu qte qteb qdp qdpe qdpr qdpu qdpb y2.1 y9.2 tb d_10 d1 d2 d3 d4) H := hP
  have hD : va_D (inW (wSu g qsu qte qteb qdp qdpe qdpr qdpu qdpb su t tb d0 d1 d2 d3 d4)) (wSu g qsu qte qteb qdp qdpe qdpr qdpu qdpb y2.1 y9.2 tb d_10 d1 d2 d3 d4) := hD
  have hz := lett_z hz ed_10
  have hok := lett_o hok ed_10
  refine lv_iconst (v := 0) hx hb d_Su_takeBox_42 (by decide) ?_
  refine lv_istore_n (lv' := [(1, .int (0 : Int32)), (0, .ref qsu)]) hx hb d_Su_takeBox_43 rfl hl (by decide) rfl (fun ls hl => ?_)
  exact k_Su_takeBox_44 C big (0 : Int32) y9.2 d_10 d1 hok _ hz _ _ ls hP hD hS (lv_sub hl [1, 0] rfl)
abbrev rm_Su_takeRatio : Room := { frames := 3, cells := 0, slots := 0, locals := 68 }
def HL_Su_takeRatio_49 (p : Program) (l : Launch) (e : Env) (s : State) (m : MethodId) (args : Array Value) (below : List Frame) (meth : Method) (c : Code) (g : GX) (qsu : Nat) (qte : Nat) (qteb : Nat) (qdp : Nat) (qdpe : Nat) (qdpr : Nat) (qdpu : Nat) (qdpb : Nat) (ws0 : va_W) (su : IV) (tb : IV) (d0 : IV) (d1 : IV) (d2 : IV) (d3 : IV) (d4 : IV) (y5 : Int32 × IV) (v6 : Int32) (sp : IV → (IV × IV × IV)) (ok : IV → Prop) : Prop := ∀ (tp49 : IV), ok tp49 → ∀ z : (IV × IV × IV), z = sp tp49 → ∀ (H : Heap) (locs : List Loc) (ls : Array Slot), va_P g.1 vwCl (wSu g qsu qte qteb qdp qdpe qdpr qdpu qdpb su tp49 tb d0 d1 d2 d3 d4) H → va_D (inW ws0) (wSu g qsu qte qteb qdp qdpe qdpr qdpu qdpb su tp49 tb d0 d1 d2 d3 d4) → va_S (inW ws0) s.heap H locs → lv_has ls 4 [(0, .ref qsu), (2, .int y5.1), (3, .int v6)] → W p l e rm_Su_takeRatio s m args below meth c H locs 0 0 (MQ below (CV g ws0 (fun u : IV × IV × IV => wSu g qsu qte qteb qdp qdpe qdpr qdpu qdpb u.1 u.2.1 tb d0 d1 u.2.2 d3 d4) z) args s 0 0 (inW ws0)) (F0 m 49 ls [])
noncomputable def sp_Su_takeRatio_49 (su : IV) (v6 : Int32) (tb : IV) (y5 : Int32 × IV) (d2 : IV)  (tp49 : IV) : IV × IV × IV := lett (upd su 2 ((su 2) ||| v6)) fun (su_9 : IV) => lett (sp_Te_number (-50000 : Int32) (50000 : Int32) tp49 tb) fun (y11 : Int32 × IV) => lett (sp_Pa_setErrorOfKind y5.1 y11.1 d2) fun (y12 : IV) => (su_9, y11.2, y12)
def ok_Su_takeRatio_49 (su : IV) (v6 : Int32) (tb : IV) (y5 : Int32 × IV) (d2 : IV)   (tp49 : IV) : Prop := lett (upd su 2 ((su 2) ||| v6)) fun (su_9 : IV) => (ok_Te_number (-50000 : Int32) (50000 : Int32) tp49 tb) ∧ True
set_option maxRecDepth 100000 in
set_option maxHeartbeats 4000000 in
theorem k_Su_takeRatio_49 {p : Program} {l : Launch} {e : Env} {s : State} {m : MethodId} {args : Array Value} {below : List Frame} {meth : Method} {c : Code} {g : GX} {qsu : Nat} {qte : Nat} {qteb : Nat} {qdp : Nat} {qdpe : Nat} {qdpr : Nat} {qdpu : Nat} {qdpb : Nat} {ws0 : va_W} {su : IV} {tb : IV} {d0 : IV} {d1 : IV} {d2 : IV} {d3 : IV} {d4 : IV} {y5 : Int32 × IV} {v6 : Int32}  (C : Cx p s m args meth c (inW ws0) g "DecadeBridge$SetupReader" b_Su_takeRatio none 4)  : HL_Su_takeRatio_49 p l e s m args below meth c g qsu qte qteb qdp qdpe qdpr qdpu qdpb ws0 su tb d0 d1 d2 d3 d4 y5 v6 (sp_Su_takeRatio_49 su v6 tb y5 d2 ) (ok_Su_takeRatio_49 su v6 tb y5 d2  ) := by
  intro tp49 hok z hz H locs ls hP hD hS hl
  obtain ⟨hx, hb, hr, hml, hown, hlk, hts, hK, hZo, hZ⟩ := id C
  unfold sp_Su_takeRatio_49 at hz
  unfold ok_Su_takeRatio_49 at hok
  refine lv_aload_n hx hb d_Su_takeRatio_49 rfl (lv_at hl 0 rfl) ?_
  refine lv_dup hx hb d_Su_takeRatio_50 rfl ?_
  refine gf C hP 0 2 fkSu rfl (by decide) rfl qf_Su_25 (gSu_2 _ _ _) d_Su_takeRatio_51 ?_
  refine lv_iload_n hx hb d_Su_takeRatio_54 rfl (lv_at hl 2 rfl) ?_
  refine lv_ior hx hb d_Su_takeRatio_55 ?_
  refine pfI C hP hD hS 0 2 fkSu rfl (by decide) rfl qf_Su_25 rfl rfl rfl (Nat.le_of_ble_eq_true rfl) (ff := fun o => fSu qte qdp o) (sSu_2 _ _ _ _) d_Su_takeRatio_56 (fun su_9 esu_9 H locs hP hD hS => ?_)
  have hP : va_P g.1 vwCl (wSu g qsu qte qteb qdp qdpe qdpr qdpu qdpb su_9 tp49 tb d0 d1 d2 d3 d4) H := hP
  have hD : va_D (inW ws0) (wSu g qsu qte qteb qdp qdpe qdpr qdpu qdpb su_9 tp49 tb d0 d1 d2 d3 d4) := hD
  have hz := lett_z hz esu_9
  have hok := lett_o hok esu_9
  refine lv_aload_n hx hb d_Su_takeRatio_59 rfl (lv_at hl 0 rfl) ?_
  refine gf C hP 0 1 fkSu rfl (by decide) rfl qf_Su_12 (gSu_1 _ _ _) d_Su_takeRatio_60 ?_
  refine lv_iload_n hx hb d_Su_takeRatio_63 rfl (lv_at hl 1 rfl) ?_
  refine lv_aload_n hx hb d_Su_takeRatio_64 rfl (lv_at hl 0 rfl) ?_
  refine gf C hP 0 0 fkSu rfl (by decide) rfl qf_Su_18 (gSu_0 _ _ _) d_Su_takeRatio_65 ?_
  refine lv_ldc hx hb hown (hts _ qk_Su_120) d_Su_takeRatio_68 ?_
  refine lv_ldc hx hb hown (hts _ qk_Su_121) d_Su_takeRatio_70 ?_
  have hs10 := hok.1
  have hok := hok.2
  have hB : SubW g (inW ws0) s (wSu g qsu qte qteb qdp qdpe qdpr qdpu qdpb su_9 tp49 tb d0 d1 d2 d3 d4) (wTe g qte qteb tp49 tb) [1, 2] _ _ := ⟨rfl, rfl, hP, hD, hS⟩
  refine goI1 hB (run_v C mf_Te_number qm_Su_70 (c_Te_number l g qte qteb tp49 tb (-50000 : Int32) (50000 : Int32) hs10) rfl rfl ⟨Nat.le_of_ble_eq_true rfl, Nat.le_of_ble_eq_true rfl⟩ ⟨Nat.le_of_ble_eq_true rfl, Nat.le_of_ble_eq_true rfl⟩ hB rfl rfl hl rfl rfl (Nat.le_of_ble_eq_true rfl) d_Su_takeRatio_72) (fun _ => rfl) (fun y11 ey11 H locs hP hD hS => ?_)
  have hP : va_P g.1 vwCl (wSu g qsu qte qteb qdp qdpe qdpr qdpu qdpb su_9 y11.2 tb d0 d1 d2 d3 d4) H := cP (spq hB.1 hB.2.1 [0, 3, 4, 5, 6, 7] 8 rfl rfl (by decide +kernel) rfl) hP
  have hD : va_D (inW ws0) (wSu g qsu qte qteb qdp qdpe qdpr qdpu qdpb su_9 y11.2 tb d0 d1 d2 d3 d4) := cD (spq hB.1 hB.2.1 [0, 3, 4, 5, 6, 7] 8 rfl rfl (by decide +kernel) rfl) hD
  have hz := lett_z hz ey11
  have hB : SubW g (inW ws0) s (wSu g qsu qte qteb qdp qdpe qdpr qdpu qdpb su_9 y11.2 tb d0 d1 d2 d3 d4) (wPa g qdp qdpe qdpr qdpu qdpb d0 d1 d2 d3 d4) [3, 4, 5, 6, 7] _ _ := ⟨rfl, rfl, hP, hD, hS⟩
  refine goV1 hB (run_v C mf_Pa_setErrorOfKind qm_Su_135 (c_Pa_setErrorOfKind l g qdp qdpe qdpr qdpu qdpb d0 d1 d2 d3 d4 y5.1 y11.1) rfl rfl ⟨Nat.le_of_ble_eq_true rfl, Nat.le_of_ble_eq_true rfl⟩ ⟨Nat.le_of_ble_eq_true rfl, Nat.le_of_ble_eq_true rfl⟩ hB rfl rfl hl rfl rfl (Nat.le_of_ble_eq_true rfl) d_Su_takeRatio_75) (fun _ => rfl) (fun y12 ey12 H locs hP hD hS => ?_)
  have hP : va_P g.1 vwCl (wSu g qsu qte qteb qdp qdpe qdpr qdpu qdpb su_9 y11.2 tb d0 d1 y12 d3 d4) H := cP (spq hB.1 hB.2.1 [0, 1, 2] 8 rfl rfl (by decide +kernel) rfl) hP
  have hD : va_D (inW ws0) (wSu g qsu qte qteb qdp qdpe qdpr qdpu qdpb su_9 y11.2 tb d0 d1 y12 d3 d4) := cD (spq hB.1 hB.2.1 [0, 1, 2] 8 rfl rfl (by decide +kernel) rfl) hD
  have hz := lett_z hz ey12
  exact endV C hz hP hS d_Su_takeRatio_78
noncomputable def sp_Su_takeRatio (su : IV) (t : IV) (tb : IV) (d2 : IV) : IV × IV × IV := lett (sp_Te_advance t tb) fun (y2 : IV) => lett (y2 3) fun (v3 : Int32) => lett (sp_Te_number (0 : Int32) (4 : Int32) y2 tb) fun (y5 : Int32 × IV) => lett ((256 : Int32) <<< (y5.1 &&& 31)) fun (v6 : Int32) => if ((su 2) &&& v6) = 0 then (sp_Su_takeRatio_49 su v6 tb y5 d2 y5.2) else (lett (sp_Te_failAt (3 : Int32) v3 y5.2) fun (y8 : IV) => sp_Su_takeRatio_49 su v6 tb y5 d2 y8)
def ok_Su_takeRatio (su : IV) (t : IV) (tb : IV) (d2 : IV) : Prop := (ok_Te_advance t tb) ∧ lett (sp_Te_advance t tb) fun (y2 : IV) => lett (y2 3) fun (v3 : Int32) => (ok_Te_number (0 : Int32) (4 : Int32) y2 tb) ∧ lett (sp_Te_number (0 : Int32) (4 : Int32) y2 tb) fun (y5 : Int32 × IV) => lett ((256 : Int32) <<< (y5.1 &&& 31)) fun (v6 : Int32) => ((((su 2) &&& v6) = 0 → ok_Su_takeRatio_49 su v6 tb y5 d2 y5.2) ∧ (¬ (((su 2) &&& v6) = 0) → lett (sp_Te_failAt (3 : Int32) v3 y5.2) fun (y8 : IV) => ok_Su_takeRatio_49 su v6 tb y5 d2 y8))
set_option maxRecDepth 100000 in
set_option maxHeartbeats 4000000 in
theorem c_Su_takeRatio (l : Launch) (g : GX) (qsu : Nat) (qte : Nat) (qteb : Nat) (qdp : Nat) (qdpe : Nat) (qdpr : Nat) (qdpu : Nat) (qdpb : Nat) (su : IV) (t : IV) (tb : IV) (d0 : IV) (d1 : IV) (d2 : IV) (d3 : IV) (d4 : IV)  (hok : ok_Su_takeRatio su t tb d2) : Met l y_Su_takeRatio (wsY y_Su_takeRatio b_Su_takeRatio 4 none) rm_Su_takeRatio (CP g [.ref qsu] (wSu g qsu qte qteb qdp qdpe qdpr qdpu qdpb su t tb d0 d1 d2 d3 d4)) (CV g (wSu g qsu qte qteb qdp qdpe qdpr qdpu qdpb su t tb d0 d1 d2 d3 d4) (fun u : IV × IV × IV => wSu g qsu qte qteb qdp qdpe qdpr qdpu qdpb u.1 u.2.1 tb d0 d1 u.2.2 d3 d4) (sp_Su_takeRatio su t tb d2)) 0 0 (inW (wSu g qsu qte qteb qdp qdpe qdpr qdpu qdpb su t tb d0 d1 d2 d3 d4)) := by
  refine Met.ofW (cc := b_Su_takeRatio) (maxL := 4) (ret := none) pn_Su rfl ?_
  intro p e s m args below meth c s₁ B hml hv
  obtain ⟨rfl, C, hP, hD, hS⟩ := enter "DecadeBridge$SetupReader" rfl B hml hv
  obtain ⟨hx, hb, hr, hml, hown, hlk, hts, hK, hZo, hZ⟩ := id C
  refine entryW (lv := [(0, .ref qsu)]) rfl (Nat.le_of_ble_eq_true rfl) (fun ls hl => ?_)
  obtain ⟨z, hz⟩ : ∃ z, z = sp_Su_takeRatio su t tb d2 := ⟨_, rfl⟩
  rw [← hz]
  unfold sp_Su_takeRatio at hz
  unfold ok_Su_takeRatio at hok
  refine lv_aload_n hx hb d_Su_takeRatio_0 rfl (lv_at hl 0 rfl) ?_
  refine gf C hP 0 0 fkSu rfl (by decide) rfl qf_Su_18 (gSu_0 _ _ _) d_Su_takeRatio_1 ?_
  have hs1 := hok.1
  have hok := hok.2
  have hB : SubW g (inW (wSu g qsu qte qteb qdp qdpe qdpr qdpu qdpb su t tb d0 d1 d2 d3 d4)) s (wSu g qsu qte qteb qdp qdpe qdpr qdpu qdpb su t tb d0 d1 d2 d3 d4) (wTe g qte qteb t tb) [1, 2] _ _ := ⟨rfl, rfl, hP, hD, hS⟩
  refine goV1 hB (run_v C mf_Te_advance qm_Su_40 (c_Te_advance l g qte qteb t tb hs1) rfl rfl ⟨Nat.le_of_ble_eq_true rfl, Nat.le_of_ble_eq_true rfl⟩ ⟨Nat.le_of_ble_eq_true rfl, Nat.le_of_ble_eq_true rfl⟩ hB rfl rfl hl rfl rfl (Nat.le_of_ble_eq_true rfl) d_Su_takeRatio_4) (fun _ => rfl) (fun y2 ey2 H locs hP hD hS => ?_)
  have hP : va_P g.1 vwCl (wSu g qsu qte qteb qdp qdpe qdpr qdpu qdpb su y2 tb d0 d1 d2 d3 d4) H := cP (spq hB.1 hB.2.1 [0, 3, 4, 5, 6, 7] 8 rfl rfl (by decide +kernel) rfl) hP
  have hD : va_D (inW (wSu g qsu qte qteb qdp qdpe qdpr qdpu qdpb su t tb d0 d1 d2 d3 d4)) (wSu g qsu qte qteb qdp qdpe qdpr qdpu qdpb su y2 tb d0 d1 d2 d3 d4) := cD (spq hB.1 hB.2.1 [0, 3, 4, 5, 6, 7] 8 rfl rfl (by decide +kernel) rfl) hD
  have hz := lett_z hz ey2
  have hok := lett_o hok ey2
  refine lv_aload_n hx hb d_Su_takeRatio_7 rfl (lv_at hl 0 rfl) ?_
  refine gf C hP 0 0 fkSu rfl (by decide) rfl qf_Su_18 (gSu_0 _ _ _) d_Su_takeRatio_8 ?_
  refine gf C hP 1 3 fkTe rfl (by decide) rfl qf_Su_129 (gTe_3 _ _) d_Su_takeRatio_11 ?_
  refine lv_topi (fun v3 ev3 => ?_)
  have hz := lett_z hz ev3
  have hok := lett_o hok ev3
  refine lv_istore_n (lv' := [(1, .int v3), (0, .ref qsu)]) hx hb d_Su_takeRatio_14 rfl hl (by decide) rfl (fun ls hl => ?_)
  refine lv_aload_n hx hb d_Su_takeRatio_15 rfl (lv_at hl 1 rfl) ?_
  refine gf C hP 0 0 fkSu rfl (by decide) rfl qf_Su_18 (gSu_0 _ _ _) d_Su_takeRatio_16 ?_
  refine lv_iconst (v := 0) hx hb d_Su_takeRatio_19 (by decide) ?_
  refine lv_iconst (v := 4) hx hb d_Su_takeRatio_20 (by decide) ?_
  have hs4 := hok.1
  have hok := hok.2
  have hB : SubW g (inW (wSu g qsu qte qteb qdp qdpe qdpr qdpu qdpb su t tb d0 d1 d2 d3 d4)) s (wSu g qsu qte qteb qdp qdpe qdpr qdpu qdpb su y2 tb d0 d1 d2 d3 d4) (wTe g qte qteb y2 tb) [1, 2] _ _ := ⟨rfl, rfl, hP, hD, hS⟩
  refine goI1 hB (run_v C mf_Te_number qm_Su_70 (c_Te_number l g qte qteb y2 tb (0 : Int32) (4 : Int32) hs4) rfl rfl ⟨Nat.le_of_ble_eq_true rfl, Nat.le_of_ble_eq_true rfl⟩ ⟨Nat.le_of_ble_eq_true rfl, Nat.le_of_ble_eq_true rfl⟩ hB rfl rfl hl rfl rfl (Nat.le_of_ble_eq_true rfl) d_Su_takeRatio_21) (fun _ => rfl) (fun y5 ey5 H locs hP hD hS => ?_)
  have hP : va_P g.1 vwCl (wSu g qsu qte qteb qdp qdpe qdpr qdpu qdpb su y5.2 tb d0 d1 d2 d3 d4) H := cP (spq hB.1 hB.2.1 [0, 3, 4, 5, 6, 7] 8 rfl rfl (by decide +kernel) rfl) hP
  have hD : va_D (inW (wSu g qsu qte qteb qdp qdpe qdpr qdpu qdpb su t tb d0 d1 d2 d3 d4)) (wSu g qsu qte qteb qdp qdpe qdpr qdpu qdpb su y5.2 tb d0 d1 d2 d3 d4) := cD (spq hB.1 hB.2.1 [0, 3, 4, 5, 6, 7] 8 rfl rfl (by decide +kernel) rfl) hD
  have hz := lett_z hz ey5
  have hok := lett_o hok ey5
  refine lv_istore_n (lv' := [(2, .int y5.1), (1, .int v3), (0, .ref qsu)]) hx hb d_Su_takeRatio_24 rfl hl (by decide) rfl (fun ls hl => ?_)
  refine lv_sipush (v := 256) hx hb d_Su_takeRatio_25 (by decide) ?_
  refine lv_iload_n hx hb d_Su_takeRatio_28 rfl (lv_at hl 0 rfl) ?_
  refine lv_ishl hx hb d_Su_takeRatio_29 ?_
  refine lv_topi (fun v6 ev6 => ?_)
  have hz := lett_z hz ev6
  have hok := lett_o hok ev6
  refine lv_istore_n (lv' := [(3, .int v6), (2, .int y5.1), (1, .int v3), (0, .ref qsu)]) hx hb d_Su_takeRatio_30 rfl hl (by decide) rfl (fun ls hl => ?_)
  refine lv_aload_n hx hb d_Su_takeRatio_31 rfl (lv_at hl 3 rfl) ?_
  refine gf C hP 0 2 fkSu rfl (by decide) rfl qf_Su_25 (gSu_2 _ _ _) d_Su_takeRatio_32 ?_
  refine lv_iload_n hx hb d_Su_takeRatio_35 rfl (lv_at hl 0 rfl) ?_
  refine lv_iand hx hb d_Su_takeRatio_36 ?_
  refine lv_if_eq (tgt := 49) hx hb d_Su_takeRatio_37 (by decide) (fun c7 => ?_) (fun c7 => ?_)
  · have hz := hz.trans (if_pos c7)
    have hok := hok.1 c7
    exact k_Su_takeRatio_49 C y5.2 hok _ hz _ _ ls hP hD hS (lv_sub hl [3, 1, 0] rfl)
  · have hz := hz.trans (if_neg c7)
    have hok := hok.2 c7
    refine lv_aload_n hx hb d_Su_takeRatio_40 rfl (lv_at hl 3 rfl) ?_
    refine gf C hP 0 0 fkSu rfl (by decide) rfl qf_Su_18 (gSu_0 _ _ _) d_Su_takeRatio_41 ?_
    refine lv_iconst (v := 3) hx hb d_Su_takeRatio_44 (by decide) ?_
    refine lv_iload_n hx hb d_Su_takeRatio_45 rfl (lv_at hl 2 rfl) ?_
    have hB : SubW g (inW (wSu g qsu qte qteb qdp qdpe qdpr qdpu qdpb su t tb d0 d1 d2 d3 d4)) s (wSu g qsu qte qteb qdp qdpe qdpr qdpu qdpb su y5.2 tb d0 d1 d2 d3 d4) (wTe g qte qteb y5.2 tb) [1, 2] _ _ := ⟨rfl, rfl, hP, hD, hS⟩
    refine goV1 hB (run_v C mf_Te_failAt qm_Su_132 (c_Te_failAt l g qte qteb y5.2 tb (3 : Int32) v3) rfl rfl ⟨Nat.le_of_ble_eq_true rfl, Nat.le_of_ble_eq_true rfl⟩ ⟨Nat.le_of_ble_eq_true rfl, Nat.le_of_ble_eq_true rfl⟩ hB rfl rfl hl rfl rfl (Nat.le_of_ble_eq_true rfl) d_Su_takeRatio_46) (fun _ => rfl) (fun y8 ey8 H locs hP hD hS => ?_)
    have hP : va_P g.1 vwCl (wSu g qsu qte qteb qdp qdpe qdpr qdpu qdpb su y8 tb d0 d1 d2 d3 d4) H := cP (spq hB.1 hB.2.1 [0, 3, 4, 5, 6, 7] 8 rfl rfl (by decide +kernel) rfl) hP
    have hD : va_D (inW (wSu g qsu qte qteb qdp qdpe qdpr qdpu qdpb su t tb d0 d1 d2 d3 d4)) (wSu g qsu qte qteb qdp qdpe qdpr qdpu qdpb su y8 tb d0 d1 d2 d3 d4) := cD (spq hB.1 hB.2.1 [0, 3, 4, 5, 6, 7] 8 rfl rfl (by decide +kernel) rfl) hD
    have hz := lett_z hz ey8
    have hok := lett_o hok ey8
    exact k_Su_takeRatio_49 C y8 hok _ hz _ _ ls hP hD hS (lv_sub hl [3, 1, 0] rfl)
abbrev rm_Su_takeWarm : Room := { frames := 5, cells := 0, slots := 0, locals := 107 }
def HL_Su_takeWarm_41 (p : Program) (l : Launch) (e : Env) (s : State) (m : MethodId) (args : Array Value) (below : List Frame) (meth : Method) (c : Code) (g : GX) (qsu : Nat) (qte : Nat) (qteb : Nat) (qdp : Nat) (qdpe : Nat) (qdpr : Nat) (qdpu : Nat) (qdpb : Nat) (ws0 : va_W) (su : IV) (tb : IV) (d0 : IV) (d1 : IV) (d2 : IV) (d3 : IV) (d4 : IV) (y4 : Int32) (sp : IV → (IV × IV × IV × IV)) (ok : IV → Prop) : Prop := ∀ (tp41 : IV), ok tp41 → ∀ z : (IV × IV × IV × IV), z = sp tp41 → ∀ (H : Heap) (locs : List Loc) (ls : Array Slot), va_P g.1 vwCl (wSu g qsu qte qteb qdp qdpe qdpr qdpu qdpb su tp41 tb d0 d1 d2 d3 d4) H → va_D (inW ws0) (wSu g qsu qte qteb qdp qdpe qdpr qdpu qdpb su tp41 tb d0 d1 d2 d3 d4) → va_S (inW ws0) s.heap H locs → lv_has ls 3 [(0, .ref qsu), (1, .int y4)] → W p l e rm_Su_takeWarm s m args below meth c H locs 0 0 (MQ below (CV g ws0 (fun u : IV × IV × IV × IV => wSu g qsu qte qteb qdp qdpe qdpr qdpu qdpb u.1 u.2.1 tb d0 d1 d2 u.2.2.1 u.2.2.2) z) args s 0 0 (inW ws0)) (F0 m 41 ls [])
def HL_Su_takeWarm_54 (p : Program) (l : Launch) (e : Env) (s : State) (m : MethodId) (args : Array Value) (below : List Frame) (meth : Method) (c : Code) (g : GX) (qsu : Nat) (qte : Nat) (qteb : Nat) (qdp : Nat) (qdpe : Nat) (qdpr : Nat) (qdpu : Nat) (qdpb : Nat) (ws0 : va_W) (su : IV) (tp41 : IV) (tb : IV) (d0 : IV) (d1 : IV) (d2 : IV) (d3 : IV) (d4 : IV) (y4 : Int32) (sp : Int32 → (IV × IV × IV × IV)) (ok : Int32 → Prop) : Prop := ∀ (t1p54 : Int32), ok t1p54 → ∀ z : (IV × IV × IV × IV), z = sp t1p54 → ∀ (H : Heap) (locs : List Loc) (ls : Array Slot), va_P g.1 vwCl (wSu g qsu qte qteb qdp qdpe qdpr qdpu qdpb su tp41 tb d0 d1 d2 d3 d4) H → va_D (inW ws0) (wSu g qsu qte qteb qdp qdpe qdpr qdpu qdpb su tp41 tb d0 d1 d2 d3 d4) → va_S (inW ws0) s.heap H locs → lv_has ls 3 [(0, .ref qsu), (1, .int y4)] → W p l e rm_Su_takeWarm s m args below meth c H locs 0 0 (MQ below (CV g ws0 (fun u : IV × IV × IV × IV => wSu g qsu qte qteb qdp qdpe qdpr qdpu qdpb u.1 u.2.1 tb d0 d1 d2 u.2.2.1 u.2.2.2) z) args s 0 0 (inW ws0)) (F0 m 54 ls [.int t1p54, .ref qsu])
noncomputable def sp_Su_takeWarm_54 (su : IV) (tp41 : IV) (tb : IV) (y4 : Int32) (d3 : IV) (d4 : IV)  (t1p54 : Int32) : IV × IV × IV × IV := lett (sp_Su_takeOnce t1p54 su tp41 tb) fun (y12 : IV × IV) => if y4 = 0 then (lett (sp_Te_number (-4000 : Int32) (4000 : Int32) y12.2 tb) fun (y15 : Int32 × IV) => lett (upd d3 0 y15.1) fun (d_16 : IV) => lett (sp_Te_number (0 : Int32) (999 : Int32) y15.2 tb) fun (y18 : Int32 × IV) => lett (upd d_16 1 y18.1) fun (d_19 : IV) => lett (sp_Te_number (0 : Int32) (99 : Int32) y18.2 tb) fun (y21 : Int32 × IV) => lett (upd d_19 2 y21.1) fun (d_22 : IV) => (y12.1, y21.2, d_22, d4)) else (lett (sp_Te_number (-4000 : Int32) (4000 : Int32) y12.2 tb) fun (y24 : Int32 × IV) => lett (upd d4 0 y24.1) fun (d_25 : IV) => lett (sp_Te_number (0 : Int32) (999 : Int32) y24.2 tb) fun (y27 : Int32 × IV) => lett (upd d_25 1 y27.1) fun (d_28 : IV) => lett (sp_Te_number (0 : Int32) (99 : Int32) y27.2 tb) fun (y30 : Int32 × IV) => lett (upd d_28 2 y30.1) fun (d_31 : IV) => (y12.1, y30.2, d3, d_31))
def ok_Su_takeWarm_54 (su : IV) (tp41 : IV) (tb : IV) (y4 : Int32) (d3 : IV) (d4 : IV)   (t1p54 : Int32) : Prop := (ok_Su_takeOnce t1p54 su tp41 tb) ∧ lett (sp_Su_takeOnce t1p54 su tp41 tb) fun (y12 : IV × IV) => ((y4 = 0 → (ok_Te_number (-4000 : Int32) (4000 : Int32) y12.2 tb) ∧ lett (sp_Te_number (-4000 : Int32) (4000 : Int32) y12.2 tb) fun (y15 : Int32 × IV) => lett (upd d3 0 y15.1) fun (d_16 : IV) => (ok_Te_number (0 : Int32) (999 : Int32) y15.2 tb) ∧ lett (sp_Te_number (0 : Int32) (999 : Int32) y15.2 tb) fun (y18 : Int32 × IV) => lett (upd d_16 1 y18.1) fun (d_19 : IV) => (ok_Te_number (0 : Int32) (99 : Int32) y18.2 tb) ∧ True) ∧ (¬ (y4 = 0) → (ok_Te_number (-4000 : Int32) (4000 : Int32) y12.2 tb) ∧ lett (sp_Te_number (-4000 : Int32) (4000 : Int32) y12.2 tb) fun (y24 : Int32 × IV) => lett (upd d4 0 y24.1) fun (d_25 : IV) => (ok_Te_number (0 : Int32) (999 : Int32) y24.2 tb) ∧ lett (sp_Te_number (0 : Int32) (999 : Int32) y24.2 tb) fun (y27 : Int32 × IV) => lett (upd d_25 1 y27.1) fun (d_28 : IV) => (ok_Te_number (0 : Int32) (99 : Int32) y27.2 tb) ∧ True))
set_option maxRecDepth 100000 in
set_option maxHeartbeats 4000000 in
theorem k_Su_takeWarm_54 {p : Program} {l : Launch} {e : Env} {s : State} {m : MethodId} {args : Array Value} {below : List Frame} {meth : Method} {c : Code} {g : GX} {qsu : Nat} {qte : Nat} {qteb : Nat} {qdp : Nat} {qdpe : Nat} {qdpr : Nat} {qdpu : Nat} {qdpb : Nat} {ws0 : va_W} {su : IV} {tp41 : IV} {tb : IV} {d0 : IV} {d1 : IV} {d2 : IV} {d3 : IV} {d4 : IV} {y4 : Int32}  (C : Cx p s m args meth c (inW ws0) g "DecadeBridge$SetupReader" b_Su_takeWarm none 3)  : HL_Su_takeWarm_54 p l e s m args below meth c g qsu qte qteb qdp qdpe qdpr qdpu qdpb ws0 su tp41 tb d0 d1 d2 d3 d4 y4 (sp_Su_takeWarm_54 su tp41 tb y4 d3 d4 ) (ok_Su_takeWarm_54 su tp41 tb y4 d3 d4  ) := by
  intro t1p54 hok z hz H locs ls hP hD hS hl
  obtain ⟨hx, hb, hr, hml, hown, hlk, hts, hK, hZo, hZ⟩ := id C
  unfold sp_Su_takeWarm_54 at hz
  unfold ok_Su_takeWarm_54 at hok
  have hs11 := hok.1
  have hok := hok.2
  have hB : SubW g (inW ws0) s (wSu g qsu qte qteb qdp qdpe qdpr qdpu qdpb su tp41 tb d0 d1 d2 d3 d4) _ (List.range _) _ _ := (subF hP hD hS)
  refine goVF hB (run_v C mf_Su_takeOnce qm_Su_66 (c_Su_takeOnce l g qsu qte qteb qdp qdpe qdpr qdpu qdpb su tp41 tb d0 d1 d2 d3 d4 t1p54 hs11) rfl rfl ⟨Nat.le_of_ble_eq_true rfl, Nat.le_of_ble_eq_true rfl⟩ ⟨Nat.le_of_ble_eq_true rfl, Nat.le_of_ble_eq_true rfl⟩ hB rfl rfl hl rfl rfl (Nat.le_of_ble_eq_true rfl) d_Su_takeWarm_54) (fun _ => rfl) (fun y12 ey12 H locs hP hD hS => ?_)
  have hP : va_P g.1 vwCl (wSu g qsu qte qteb qdp qdpe qdpr qdpu qdpb y12.1 y12.2 tb d0 d1 d2 d3 d4) H := hP
  have hD : va_D (inW ws0) (wSu g qsu qte qteb qdp qdpe qdpr qdpu qdpb y12.1 y12.2 tb d0 d1 d2 d3 d4) := hD
  have hz := lett_z hz ey12
  have hok := lett_o hok ey12
  refine lv_iload_n hx hb d_Su_takeWarm_57 rfl (lv_at hl 1 rfl) ?_
  refine lv_if_eq (tgt := 71) hx hb d_Su_takeWarm_58 (by decide) (fun c13 => ?_) (fun c13 => ?_)
  · have hz := hz.trans (if_pos c13)
    have hok := hok.1 c13
    refine lv_aload_n hx hb d_Su_takeWarm_71 rfl (lv_at hl 0 rfl) ?_
    refine gf C hP 0 1 fkSu rfl (by decide) rfl qf_Su_12 (gSu_1 _ _ _) d_Su_takeWarm_72 ?_
    refine gf C hP 3 6 fkPa rfl (by decide) rfl qf_Su_141 (gPa_6 _ _ _ _ _) d_Su_takeWarm_75 ?_
    refine lv_astore_n (lv' := [(2, .ref qdpu), (0, .ref qsu), (1, .int y4)]) hx hb d_Su_takeWarm_78 rfl hl (by decide) rfl (fun ls hl => ?_)
    refine lv_aload_n hx hb d_Su_takeWarm_79 rfl (lv_at hl 0 rfl) ?_
    refine lv_aload_n hx hb d_Su_takeWarm_80 rfl (lv_at hl 1 rfl) ?_
    refine gf C hP 0 0 fkSu rfl (by decide) rfl qf_Su_18 (gSu_0 _ _ _) d_Su_takeWarm_81 ?_
    refine lv_sipush (v := -4000) hx hb d_Su_takeWarm_84 (by decide) ?_
    refine lv_sipush (v := 4000) hx hb d_Su_takeWarm_87 (by decide) ?_
    have hs14 := hok.1
    have hok := hok.2
    have hB : SubW g (inW ws0) s (wSu g qsu qte qteb qdp qdpe qdpr qdpu qdpb y12.1 y12.2 tb d0 d1 d2 d3 d4) (wTe g qte qteb y12.2 tb) [1, 2] _ _ := ⟨rfl, rfl, hP, hD, hS⟩
    refine goI1 hB (run_v C mf_Te_number qm_Su_70 (c_Te_number l g qte qteb y12.2 tb (-4000 : Int32) (4000 : Int32) hs14) rfl rfl ⟨Nat.le_of_ble_eq_true rfl, Nat.le_of_ble_eq_true rfl⟩ ⟨Nat.le_of_ble_eq_true rfl, Nat.le_of_ble_eq_true rfl⟩ hB rfl rfl hl rfl rfl (Nat.le_of_ble_eq_true rfl) d_Su_takeWarm_90) (fun _ => rfl) (fun y15 ey15 H locs hP hD hS => ?_)
    have hP : va_P g.1 vwCl (wSu g qsu qte qteb qdp qdpe qdpr qdpu qdpb y12.1 y15.2 tb d0 d1 d2 d3 d4) H := cP (spq hB.1 hB.2.1 [0, 3, 4, 5, 6, 7] 8 rfl rfl (by decide +kernel) rfl) hP
    have hD : va_D (inW ws0) (wSu g qsu qte qteb qdp qdpe qdpr qdpu qdpb y12.1 y15.2 tb d0 d1 d2 d3 d4) := cD (spq hB.1 hB.2.1 [0, 3, 4, 5, 6, 7] 8 rfl rfl (by decide +kernel) rfl) hD
    have hz := lett_z hz ey15
    have hok := lett_o hok ey15
    refine pfI C hP hD hS 6 0 fkHe rfl (by decide) rfl qf_Su_143 rfl rfl rfl (Nat.le_of_ble_eq_true rfl) (ff := fun o => fHe o) (sHe_0 _ _) d_Su_takeWarm_93 (fun d_16 ed_16 H locs hP hD hS => ?_)
    have hP : va_P g.1 vwCl (wSu g qsu qte qteb qdp qdpe qdpr qdpu qdpb y12.1 y15.2 tb d0 d1 d2 d_16 d4) H := hP
    have hD : va_D (inW ws0) (wSu g qsu qte qteb qdp qdpe qdpr qdpu qdpb y12.1 y15.2 tb d0 d1 d2 d_16 d4) := hD
    have hz := lett_z hz ed_16
    have hok := lett_o hok ed_16
    refine lv_aload_n hx hb d_Su_takeWarm_96 rfl (lv_at hl 0 rfl) ?_
    refine lv_aload_n hx hb d_Su_takeWarm_97 rfl (lv_at hl 1 rfl) ?_
    refine gf C hP 0 0 fkSu rfl (by decide) rfl qf_Su_18 (gSu_0 _ _ _) d_Su_takeWarm_98 ?_
    refine lv_iconst (v := 0) hx hb d_Su_takeWarm_101 (by decide) ?_
    refine lv_sipush (v := 999) hx hb d_Su_takeWarm_102 (by decide) ?_
    have hs17 := hok.1
    have hok := hok.2
    have hB : SubW g (inW ws0) s (wSu g qsu qte qteb qdp qdpe qdpr qdpu qdpb y12.1 y15.2 tb d0 d1 d2 d_16 d4) (wTe g qte qteb y15.2 tb) [1, 2] _ _ := ⟨rfl, rfl, hP, hD, hS⟩
    refine goI1 hB (run_v C mf_Te_number qm_Su_70 (c_Te_number l g qte qteb y15.2 tb (0 : Int32) (999 : Int32) hs17) rfl rfl ⟨Nat.le_of_ble_eq_true rfl, Nat.le_of_ble_eq_true rfl⟩ ⟨Nat.le_of_ble_eq_true rfl, Nat.le_of_ble_eq_true rfl⟩ hB rfl rfl hl rfl rfl (Nat.le_of_ble_eq_true rfl) d_Su_takeWarm_105) (fun _ => rfl) (fun y18 ey18 H locs hP hD hS => ?_)
    have hP : va_P g.1 vwCl (wSu g qsu qte qteb qdp qdpe qdpr qdpu qdpb y12.1 y18.2 tb d0 d1 d2 d_16 d4) H := cP (spq hB.1 hB.2.1 [0, 3, 4, 5, 6, 7] 8 rfl rfl (by decide +kernel) rfl) hP
    have hD : va_D (inW ws0) (wSu g qsu qte qteb qdp qdpe qdpr qdpu qdpb y12.1 y18.2 tb d0 d1 d2 d_16 d4) := cD (spq hB.1 hB.2.1 [0, 3, 4, 5, 6, 7] 8 rfl rfl (by decide +kernel) rfl) hD
    have hz := lett_z hz ey18
    have hok := lett_o hok ey18
    refine pfI C hP hD hS 6 1 fkHe rfl (by decide) rfl qf_Su_148 rfl rfl rfl (Nat.le_of_ble_eq_true rfl) (ff := fun o => fHe o) (sHe_1 _ _) d_Su_takeWarm_108 (fun d_19 ed_19 H locs hP hD hS => ?_)
    have hP : va_P g.1 vwCl (wSu g qsu qte qteb qdp qdpe qdpr qdpu qdpb y12.1 y18.2 tb d0 d1 d2 d_19 d4) H := hP
    have hD : va_D (inW ws0) (wSu g qsu qte qteb qdp qdpe qdpr qdpu qdpb y12.1 y18.2 tb d0 d1 d2 d_19 d4) := hD
    have hz := lett_z hz ed_19
    have hok := lett_o hok ed_19
    refine lv_aload_n hx hb d_Su_takeWarm_111 rfl (lv_at hl 0 rfl) ?_
    refine lv_aload_n hx hb d_Su_takeWarm_112 rfl (lv_at hl 1 rfl) ?_
    refine gf C hP 0 0 fkSu rfl (by decide) rfl qf_Su_18 (gSu_0 _ _ _) d_Su_takeWarm_113 ?_
    refine lv_iconst (v := 0) hx hb d_Su_takeWarm_116 (by decide) ?_
    refine lv_bipush (v := 99) hx hb d_Su_takeWarm_117 (by decide) ?_
    have hs20 := hok.1
    have hok := hok.2
    have hB : SubW g (inW ws0) s (wSu g qsu qte qteb qdp qdpe qdpr qdpu qdpb y12.1 y18.2 tb d0 d1 d2 d_19 d4) (wTe g qte qteb y18.2 tb) [1, 2] _ _ := ⟨rfl, rfl, hP, hD, hS⟩
    refine goI1 hB (run_v C mf_Te_number qm_Su_70 (c_Te_number l g qte qteb y18.2 tb (0 : Int32) (99 : Int32) hs20) rfl rfl ⟨Nat.le_of_ble_eq_true rfl, Nat.le_of_ble_eq_true rfl⟩ ⟨Nat.le_of_ble_eq_true rfl, Nat.le_of_ble_eq_true rfl⟩ hB rfl rfl hl rfl rfl (Nat.le_of_ble_eq_true rfl) d_Su_takeWarm_119) (fun _ => rfl) (fun y21 ey21 H locs hP hD hS => ?_)
    have hP : va_P g.1 vwCl (wSu g qsu qte qteb qdp qdpe qdpr qdpu qdpb y12.1 y21.2 tb d0 d1 d2 d_19 d4) H := cP (spq hB.1 hB.2.1 [0, 3, 4, 5, 6, 7] 8 rfl rfl (by decide +kernel) rfl) hP
    have hD : va_D (inW ws0) (wSu g qsu qte qteb qdp qdpe qdpr qdpu qdpb y12.1 y21.2 tb d0 d1 d2 d_19 d4) := cD (spq hB.1 hB.2.1 [0, 3, 4, 5, 6, 7] 8 rfl rfl (by decide +kernel) rfl) hD
    have hz := lett_z hz ey21
    refine pfI C hP hD hS 6 2 fkHe rfl (by decide) rfl qf_Su_151 rfl rfl rfl (Nat.le_of_ble_eq_true rfl) (ff := fun o => fHe o) (sHe_2 _ _) d_Su_takeWarm_122 (fun d_22 ed_22 H locs hP hD hS => ?_)
    have hP : va_P g.1 vwCl (wSu g qsu qte qteb qdp qdpe qdpr qdpu qdpb y12.1 y21.2 tb d0 d1 d2 d_22 d4) H := hP
    have hD : va_D (inW ws0) (wSu g qsu qte qteb qdp qdpe qdpr qdpu qdpb y12.1 y21.2 tb d0 d1 d2 d_22 d4) := hD
    have hz := lett_z hz ed_22
    exact endV C hz hP hS d_Su_takeWarm_125
  · have hz := hz.trans (if_neg c13)
    have hok := hok.2 c13
    refine lv_aload_n hx hb d_Su_takeWarm_61 rfl (lv_at hl 0 rfl) ?_
    refine gf C hP 0 1 fkSu rfl (by decide) rfl qf_Su_12 (gSu_1 _ _ _) d_Su_takeWarm_62 ?_
    refine gf C hP 3 7 fkPa rfl (by decide) rfl qf_Su_138 (gPa_7 _ _ _ _ _) d_Su_takeWarm_65 ?_
    refine lv_goto (tgt := 78) hx hb d_Su_takeWarm_68 (by decide) ?_
    refine lv_astore_n (lv' := [(2, .ref qdpb), (0, .ref qsu), (1, .int y4)]) hx hb d_Su_takeWarm_78 rfl hl (by decide) rfl (fun ls hl => ?_)
    refine lv_aload_n hx hb d_Su_takeWarm_79 rfl (lv_at hl 0 rfl) ?_
    refine lv_aload_n hx hb d_Su_takeWarm_80 rfl (lv_at hl 1 rfl) ?_
    refine gf C hP 0 0 fkSu rfl (by decide) rfl qf_Su_18 (gSu_0 _ _ _) d_Su_takeWarm_81 ?_
    refine lv_sipush (v := -4000) hx hb d_Su_takeWarm_84 (by decide) ?_
    refine lv_sipush (v := 4000) hx hb d_Su_takeWarm_87 (by decide) ?_
    have hs23 := hok.1
    have hok := hok.2
    have hB : SubW g (inW ws0) s (wSu g qsu qte qteb qdp qdpe qdpr qdpu qdpb y12.1 y12.2 tb d0 d1 d2 d3 d4) (wTe g qte qteb y12.2 tb) [1, 2] _ _ := ⟨rfl, rfl, hP, hD, hS⟩
    refine goI1 hB (run_v C mf_Te_number qm_Su_70 (c_Te_number l g qte qteb y12.2 tb (-4000 : Int32) (4000 : Int32) hs23) rfl rfl ⟨Nat.le_of_ble_eq_true rfl, Nat.le_of_ble_eq_true rfl⟩ ⟨Nat.le_of_ble_eq_true rfl, Nat.le_of_ble_eq_true rfl⟩ hB rfl rfl hl rfl rfl (Nat.le_of_ble_eq_true rfl) d_Su_takeWarm_90) (fun _ => rfl) (fun y24 ey24 H locs hP hD hS => ?_)
    have hP : va_P g.1 vwCl (wSu g qsu qte qteb qdp qdpe qdpr qdpu qdpb y12.1 y24.2 tb d0 d1 d2 d3 d4) H := cP (spq hB.1 hB.2.1 [0, 3, 4, 5, 6, 7] 8 rfl rfl (by decide +kernel) rfl) hP
    have hD : va_D (inW ws0) (wSu g qsu qte qteb qdp qdpe qdpr qdpu qdpb y12.1 y24.2 tb d0 d1 d2 d3 d4) := cD (spq hB.1 hB.2.1 [0, 3, 4, 5, 6, 7] 8 rfl rfl (by decide +kernel) rfl) hD
    have hz := lett_z hz ey24
    have hok := lett_o hok ey24
    refine pfI C hP hD hS 7 0 fkHe rfl (by decide) rfl qf_Su_143 rfl rfl rfl (Nat.le_of_ble_eq_true rfl) (ff := fun o => fHe o) (sHe_0 _ _) d_Su_takeWarm_93 (fun d_25 ed_25 H locs hP hD hS => ?_)
    have hP : va_P g.1 vwCl (wSu g qsu qte qteb qdp qdpe qdpr qdpu qdpb y12.1 y24.2 tb d0 d1 d2 d3 d_25) H := hP
    have hD : va_D (inW ws0) (wSu g qsu qte qteb qdp qdpe qdpr qdpu qdpb y12.1 y24.2 tb d0 d1 d2 d3 d_25) := hD
    have hz := lett_z hz ed_25
    have hok := lett_o hok ed_25
    refine lv_aload_n hx hb d_Su_takeWarm_96 rfl (lv_at hl 0 rfl) ?_
    refine lv_aload_n hx hb d_Su_takeWarm_97 rfl (lv_at hl 1 rfl) ?_
    refine gf C hP 0 0 fkSu rfl (by decide) rfl qf_Su_18 (gSu_0 _ _ _) d_Su_takeWarm_98 ?_
    refine lv_iconst (v := 0) hx hb d_Su_takeWarm_101 (by decide) ?_
    refine lv_sipush (v := 999) hx hb d_Su_takeWarm_102 (by decide) ?_
    have hs26 := hok.1
    have hok := hok.2
    have hB : SubW g (inW ws0) s (wSu g qsu qte qteb qdp qdpe qdpr qdpu qdpb y12.1 y24.2 tb d0 d1 d2 d3 d_25) (wTe g qte qteb y24.2 tb) [1, 2] _ _ := ⟨rfl, rfl, hP, hD, hS⟩
    refine goI1 hB (run_v C mf_Te_number qm_Su_70 (c_Te_number l g qte qteb y24.2 tb (0 : Int32) (999 : Int32) hs26) rfl rfl ⟨Nat.le_of_ble_eq_true rfl, Nat.le_of_ble_eq_true rfl⟩ ⟨Nat.le_of_ble_eq_true rfl, Nat.le_of_ble_eq_true rfl⟩ hB rfl rfl hl rfl rfl (Nat.le_of_ble_eq_true rfl) d_Su_takeWarm_105) (fun _ => rfl) (fun y27 ey27 H locs hP hD hS => ?_)
    have hP : va_P g.1 vwCl (wSu g qsu qte qteb qdp qdpe qdpr qdpu qdpb y12.1 y27.2 tb d0 d1 d2 d3 d_25) H := cP (spq hB.1 hB.2.1 [0, 3, 4, 5, 6, 7] 8 rfl rfl (by decide +kernel) rfl) hP
    have hD : va_D (inW ws0) (wSu g qsu qte qteb qdp qdpe qdpr qdpu qdpb y12.1 y27.2 tb d0 d1 d2 d3 d_25) := cD (spq hB.1 hB.2.1 [0, 3, 4, 5, 6, 7] 8 rfl rfl (by decide +kernel) rfl) hD
    have hz := lett_z hz ey27
    have hok := lett_o hok ey27
    refine pfI C hP hD hS 7 1 fkHe rfl (by decide) rfl qf_Su_148 rfl rfl rfl (Nat.le_of_ble_eq_true rfl) (ff := fun o => fHe o) (sHe_1 _ _) d_Su_takeWarm_108 (fun d_28 ed_28 H locs hP hD hS => ?_)
    have hP : va_P g.1 vwCl (wSu g qsu qte qteb qdp qdpe qdpr qdpu qdpb y12.1 y27.2 tb d0 d1 d2 d3 d_28) H := hP
    have hD : va_D (inW ws0) (wSu g qsu qte qteb qdp qdpe qdpr qdpu qdpb y12.1 y27.2 tb d0 d1 d2 d3 d_28) := hD
    have hz := lett_z hz ed_28
    have hok := lett_o hok ed_28
    refine lv_aload_n hx hb d_Su_takeWarm_111 rfl (lv_at hl 0 rfl) ?_
    refine lv_aload_n hx hb d_Su_takeWarm_112 rfl (lv_at hl 1 rfl) ?_
    refine gf C hP 0 0 fkSu rfl (by decide) rfl qf_Su_18 (gSu_0 _ _ _) d_Su_takeWarm_113 ?_
    refine lv_iconst (v := 0) hx hb d_Su_takeWarm_116 (by decide) ?_
    refine lv_bipush (v := 99) hx hb d_Su_takeWarm_117 (by decide) ?_
    have hs29 := hok.1
    have hok := hok.2
    have hB : SubW g (inW ws0) s (wSu g qsu qte qteb qdp qdpe qdpr qdpu qdpb y12.1 y27.2 tb d0 d1 d2 d3 d_28) (wTe g qte qteb y27.2 tb) [1, 2] _ _ := ⟨rfl, rfl, hP, hD, hS⟩
    refine goI1 hB (run_v C mf_Te_number qm_Su_70 (c_Te_number l g qte qteb y27.2 tb (0 : Int32) (99 : Int32) hs29) rfl rfl ⟨Nat.le_of_ble_eq_true rfl, Nat.le_of_ble_eq_true rfl⟩ ⟨Nat.le_of_ble_eq_true rfl, Nat.le_of_ble_eq_true rfl⟩ hB rfl rfl hl rfl rfl (Nat.le_of_ble_eq_true rfl) d_Su_takeWarm_119) (fun _ => rfl) (fun y30 ey30 H locs hP hD hS => ?_)
    have hP : va_P g.1 vwCl (wSu g qsu qte qteb qdp qdpe qdpr qdpu qdpb y12.1 y30.2 tb d0 d1 d2 d3 d_28) H := cP (spq hB.1 hB.2.1 [0, 3, 4, 5, 6, 7] 8 rfl rfl (by decide +kernel) rfl) hP
    have hD : va_D (inW ws0) (wSu g qsu qte qteb qdp qdpe qdpr qdpu qdpb y12.1 y30.2 tb d0 d1 d2 d3 d_28) := cD (spq hB.1 hB.2.1 [0, 3, 4, 5, 6, 7] 8 rfl rfl (by decide +kernel) rfl) hD
    have hz := lett_z hz ey30
    refine pfI C hP hD hS 7 2 fkHe rfl (by decide) rfl qf_Su_151 rfl rfl rfl (Nat.le_of_ble_eq_true rfl) (ff := fun o => fHe o) (sHe_2 _ _) d_Su_takeWarm_122 (fun d_31 ed_31 H locs hP hD hS => ?_)
    have hP : va_P g.1 vwCl (wSu g qsu qte qteb qdp qdpe qdpr qdpu qdpb y12.1 y30.2 tb d0 d1 d2 d3 d_31) H := hP
    have hD : va_D (inW ws0) (wSu g qsu qte qteb qdp qdpe qdpr qdpu qdpb y12.1 y30.2 tb d0 d1 d2 d3 d_31) := hD
    have hz := lett_z hz ed_31
    exact endV C hz hP hS d_Su_takeWarm_125
noncomputable def sp_Su_takeWarm_41 (y4 : Int32) (su : IV) (tb : IV) (d3 : IV) (d4 : IV)  (tp41 : IV) : IV × IV × IV × IV := if y4 = 0 then (sp_Su_takeWarm_54 su tp41 tb y4 d3 d4 (64 : Int32)) else (sp_Su_takeWarm_54 su tp41 tb y4 d3 d4 (128 : Int32))
def ok_Su_takeWarm_41 (y4 : Int32) (su : IV) (tb : IV) (d3 : IV) (d4 : IV)   (tp41 : IV) : Prop := ((y4 = 0 → ok_Su_takeWarm_54 su tp41 tb y4 d3 d4 (64 : Int32)) ∧ (¬ (y4 = 0) → ok_Su_takeWarm_54 su tp41 tb y4 d3 d4 (128 : Int32)))
set_option maxRecDepth 100000 in
set_option maxHeartbeats 4000000 in
theorem k_Su_takeWarm_41 {p : Program} {l : Launch} {e : Env} {s : State} {m : MethodId} {args : Array Value} {below : List Frame} {meth : Method} {c : Code} {g : GX} {qsu : Nat} {qte : Nat} {qteb : Nat} {qdp : Nat} {qdpe : Nat} {qdpr : Nat} {qdpu : Nat} {qdpb : Nat} {ws0 : va_W} {su : IV} {tb : IV} {d0 : IV} {d1 : IV} {d2 : IV} {d3 : IV} {d4 : IV} {y4 : Int32}  (C : Cx p s m args meth c (inW ws0) g "DecadeBridge$SetupReader" b_Su_takeWarm none 3)  : HL_Su_takeWarm_41 p l e s m args below meth c g qsu qte qteb qdp qdpe qdpr qdpu qdpb ws0 su tb d0 d1 d2 d3 d4 y4 (sp_Su_takeWarm_41 y4 su tb d3 d4 ) (ok_Su_takeWarm_41 y4 su tb d3 d4  ) := by
  intro tp41 hok z hz H locs ls hP hD hS hl
  obtain ⟨hx, hb, hr, hml, hown, hlk, hts, hK, hZo, hZ⟩ := id C
  unfold sp_Su_takeWarm_41 at hz
  unfold ok_Su_takeWarm_41 at hok
  refine lv_aload_n hx hb d_Su_takeWarm_41 rfl (lv_at hl 0 rfl) ?_
  refine lv_iload_n hx hb d_Su_takeWarm_42 rfl (lv_at hl 1 rfl) ?_
  refine lv_if_eq (tgt := 52) hx hb d_Su_takeWarm_43 (by decide) (fun c10 => ?_) (fun c10 => ?_)
  · have hz := hz.trans (if_pos c10)
    have hok := hok.1 c10
    refine lv_bipush (v := 64) hx hb d_Su_takeWarm_52 (by decide) ?_
    exact k_Su_takeWarm_54 C (64 : Int32) hok _ hz _ _ ls hP hD hS hl
  · have hz := hz.trans (if_neg c10)
    have hok := hok.2 c10
    refine lv_sipush (v := 128) hx hb d_Su_takeWarm_46 (by decide) ?_
    refine lv_goto (tgt := 54) hx hb d_Su_takeWarm_49 (by decide) ?_
    exact k_Su_takeWarm_54 C (128 : Int32) hok _ hz _ _ ls hP hD hS hl
noncomputable def sp_Su_takeWarm (su : IV) (t : IV) (tb : IV) (d3 : IV) (d4 : IV) : IV × IV × IV × IV := lett (sp_Te_advance t tb) fun (y2 : IV) => lett (sp_Te_isWord 0 y2 tb) fun (y4 : Int32) => if y4 = 0 then (lett (sp_Te_isWord 2 y2 tb) fun (y7 : Int32) => if y7 = 0 then (lett (sp_Te_fail (1 : Int32) y2) fun (y9 : IV) => sp_Su_takeWarm_41 y4 su tb d3 d4 y9) else (sp_Su_takeWarm_41 y4 su tb d3 d4 y2)) else (sp_Su_takeWarm_41 y4 su tb d3 d4 y2)
def ok_Su_takeWarm (su : IV) (t : IV) (tb : IV) (d3 : IV) (d4 : IV) : Prop := (ok_Te_advance t tb) ∧ lett (sp_Te_advance t tb) fun (y2 : IV) => (ok_Te_isWord 0 y2 tb) ∧ lett (sp_Te_isWord 0 y2 tb) fun (y4 : Int32) => ((y4 = 0 → (ok_Te_isWord 2 y2 tb) ∧ lett (sp_Te_isWord 2 y2 tb) fun (y7 : Int32) => ((y7 = 0 → lett (sp_Te_fail (1 : Int32) y2) fun (y9 : IV) => ok_Su_takeWarm_41 y4 su tb d3 d4 y9) ∧ (¬ (y7 = 0) → ok_Su_takeWarm_41 y4 su tb d3 d4 y2))) ∧ (¬ (y4 = 0) → ok_Su_takeWarm_41 y4 su tb d3 d4 y2))
set_option maxRecDepth 100000 in
set_option maxHeartbeats 4000000 in
theorem c_Su_takeWarm (l : Launch) (g : GX) (qsu : Nat) (qte : Nat) (qteb : Nat) (qdp : Nat) (qdpe : Nat) (qdpr : Nat) (qdpu : Nat) (qdpb : Nat) (su : IV) (t : IV) (tb : IV) (d0 : IV) (d1 : IV) (d2 : IV) (d3 : IV) (d4 : IV)  (hok : ok_Su_takeWarm su t tb d3 d4) : Met l y_Su_takeWarm (wsY y_Su_takeWarm b_Su_takeWarm 3 none) rm_Su_takeWarm (CP g [.ref qsu] (wSu g qsu qte qteb qdp qdpe qdpr qdpu qdpb su t tb d0 d1 d2 d3 d4)) (CV g (wSu g qsu qte qteb qdp qdpe qdpr qdpu qdpb su t tb d0 d1 d2 d3 d4) (fun u : IV × IV × IV × IV => wSu g qsu qte qteb qdp qdpe qdpr qdpu qdpb u.1 u.2.1 tb d0 d1 d2 u.2.2.1 u.2.2.2) (sp_Su_takeWarm su t tb d3 d4)) 0 0 (inW (wSu g qsu qte qteb qdp qdpe qdpr qdpu qdpb su t tb d0 d1 d2 d3 d4)) := by
  refine Met.ofW (cc := b_Su_takeWarm) (maxL := 3) (ret := none) pn_Su rfl ?_
  intro p e s m args below meth c s₁ B hml hv
  obtain ⟨rfl, C, hP, hD, hS⟩ := enter "DecadeBridge$SetupReader" rfl B hml hv
  obtain ⟨hx, hb, hr, hml, hown, hlk, hts, hK, hZo, hZ⟩ := id C
  refine entryW (lv := [(0, .ref qsu)]) rfl (Nat.le_of_ble_eq_true rfl) (fun ls hl => ?_)
  obtain ⟨z, hz⟩ : ∃ z, z = sp_Su_takeWarm su t tb d3 d4 := ⟨_, rfl⟩
  rw [← hz]
  unfold sp_Su_takeWarm at hz
  unfold ok_Su_takeWarm at hok
  refine lv_aload_n hx hb d_Su_takeWarm_0 rfl (lv_at hl 0 rfl) ?_
  refine gf C hP 0 0 fkSu rfl (by decide) rfl qf_Su_18 (gSu_0 _ _ _) d_Su_takeWarm_1 ?_
  have hs1 := hok.1
  have hok := hok.2
  have hB : SubW g (inW (wSu g qsu qte qteb qdp qdpe qdpr qdpu qdpb su t tb d0 d1 d2 d3 d4)) s (wSu g qsu qte qteb qdp qdpe qdpr qdpu qdpb su t tb d0 d1 d2 d3 d4) (wTe g qte qteb t tb) [1, 2] _ _ := ⟨rfl, rfl, hP, hD, hS⟩
  refine goV1 hB (run_v C mf_Te_advance qm_Su_40 (c_Te_advance l g qte qteb t tb hs1) rfl rfl ⟨Nat.le_of_ble_eq_true rfl, Nat.le_of_ble_eq_true rfl⟩ ⟨Nat.le_of_ble_eq_true rfl, Nat.le_of_ble_eq_true rfl⟩ hB rfl rfl hl rfl rfl (Nat.le_of_ble_eq_true rfl) d_Su_takeWarm_4) (fun _ => rfl) (fun y2 ey2 H locs hP hD hS => ?_)
  have hP : va_P g.1 vwCl (wSu g qsu qte qteb qdp qdpe qdpr qdpu qdpb su y2 tb d0 d1 d2 d3 d4) H := cP (spq hB.1 hB.2.1 [0, 3, 4, 5, 6, 7] 8 rfl rfl (by decide +kernel) rfl) hP
  have hD : va_D (inW (wSu g qsu qte qteb qdp qdpe qdpr qdpu qdpb su t tb d0 d1 d2 d3 d4)) (wSu g qsu qte qteb qdp qdpe qdpr qdpu qdpb su y2 tb d0 d1 d2 d3 d4) := cD (spq hB.1 hB.2.1 [0, 3, 4, 5, 6, 7] 8 rfl rfl (by decide +kernel) rfl) hD
  have hz := lett_z hz ey2
  have hok := lett_o hok ey2
  refine lv_aload_n hx hb d_Su_takeWarm_7 rfl (lv_at hl 0 rfl) ?_
  refine gf C hP 0 0 fkSu rfl (by decide) rfl qf_Su_18 (gSu_0 _ _ _) d_Su_takeWarm_8 ?_
  refine va_ldcS hx hb hown (zRef hZo hZ ("DecadeBridge$SetupReader", 50, 0) (by decide +kernel)) d_Su_takeWarm_11 ?_
  have hs3 := hok.1
  have hok := hok.2
  have hB : SubW g (inW (wSu g qsu qte qteb qdp qdpe qdpr qdpu qdpb su t tb d0 d1 d2 d3 d4)) s (wSu g qsu qte qteb qdp qdpe qdpr qdpu qdpb su y2 tb d0 d1 d2 d3 d4) (wTe g qte qteb y2 tb) [1, 2] _ _ := ⟨rfl, rfl, hP, hD, hS⟩
  refine goI0 hB (run_v C mf_Te_isWord qm_Su_52 (c_Te_isWord l g qte qteb y2 tb 0 hs3) rfl rfl ⟨Nat.le_of_ble_eq_true rfl, Nat.le_of_ble_eq_true rfl⟩ ⟨Nat.le_of_ble_eq_true rfl, Nat.le_of_ble_eq_true rfl⟩ hB rfl rfl hl rfl rfl (Nat.le_of_ble_eq_true rfl) d_Su_takeWarm_13) (fun y4 ey4 H locs hP hS => ?_)
  have hz := lett_z hz ey4
  have hok := lett_o hok ey4
  refine lv_istore_n (lv' := [(1, .int y4), (0, .ref qsu)]) hx hb d_Su_takeWarm_16 rfl hl (by decide) rfl (fun ls hl => ?_)
  refine lv_iload_n hx hb d_Su_takeWarm_17 rfl (lv_at hl 0 rfl) ?_
  refine lv_if_ne (tgt := 41) hx hb d_Su_takeWarm_18 (by decide) (fun c5 => ?_) (fun c5 => ?_)
  · have hz := hz.trans (if_neg c5)
    have hok := hok.2 c5
    exact k_Su_takeWarm_41 C y2 hok _ hz _ _ ls hP hD hS (lv_sub hl [1, 0] rfl)
  · have hz := hz.trans (if_pos c5)
    have hok := hok.1 c5
    refine lv_aload_n hx hb d_Su_takeWarm_21 rfl (lv_at hl 1 rfl) ?_
    refine gf C hP 0 0 fkSu rfl (by decide) rfl qf_Su_18 (gSu_0 _ _ _) d_Su_takeWarm_22 ?_
    refine va_ldcS hx hb hown (zRef hZo hZ ("DecadeBridge$SetupReader", 64, 2) (by decide +kernel)) d_Su_takeWarm_25 ?_
    have hs6 := hok.1
    have hok := hok.2
    have hB : SubW g (inW (wSu g qsu qte qteb qdp qdpe qdpr qdpu qdpb su t tb d0 d1 d2 d3 d4)) s (wSu g qsu qte qteb qdp qdpe qdpr qdpu qdpb su y2 tb d0 d1 d2 d3 d4) (wTe g qte qteb y2 tb) [1, 2] _ _ := ⟨rfl, rfl, hP, hD, hS⟩
    refine goI0 hB (run_v C mf_Te_isWord qm_Su_52 (c_Te_isWord l g qte qteb y2 tb 2 hs6) rfl rfl ⟨Nat.le_of_ble_eq_true rfl, Nat.le_of_ble_eq_true rfl⟩ ⟨Nat.le_of_ble_eq_true rfl, Nat.le_of_ble_eq_true rfl⟩ hB rfl rfl hl rfl rfl (Nat.le_of_ble_eq_true rfl) d_Su_takeWarm_27) (fun y7 ey7 H locs hP hS => ?_)
    have hz := lett_z hz ey7
    have hok := lett_o hok ey7
    refine lv_if_ne (tgt := 41) hx hb d_Su_takeWarm_30 (by decide) (fun c8 => ?_) (fun c8 => ?_)
    · have hz := hz.trans (if_neg c8)
      have hok := hok.2 c8
      exact k_Su_takeWarm_41 C y2 hok _ hz _ _ ls hP hD hS (lv_sub hl [1, 0] rfl)
    · have hz := hz.trans (if_pos c8)
      have hok := hok.1 c8
      refine lv_aload_n hx hb d_Su_takeWarm_33 rfl (lv_at hl 1 rfl) ?_
      refine gf C hP 0 0 fkSu rfl (by decide) rfl qf_Su_18 (gSu_0 _ _ _) d_Su_takeWarm_34 ?_
      refine lv_iconst (v := 1) hx hb d_Su_takeWarm_37 (by decide) ?_
      have hB : SubW g (inW (wSu g qsu qte qteb qdp qdpe qdpr qdpu qdpb su t tb d0 d1 d2 d3 d4)) s (wSu g qsu qte qteb qdp qdpe qdpr qdpu qdpb su y2 tb d0 d1 d2 d3 d4) (wTe g qte qteb y2 tb) [1, 2] _ _ := ⟨rfl, rfl, hP, hD, hS⟩
      refine goV1 hB (run_v C mf_Te_fail qm_Su_43 (c_Te_fail l g qte qteb y2 tb (1 : Int32)) rfl rfl ⟨Nat.le_of_ble_eq_true rfl, Nat.le_of_ble_eq_true rfl⟩ ⟨Nat.le_of_ble_eq_true rfl, Nat.le_of_ble_eq_true rfl⟩ hB rfl rfl hl rfl rfl (Nat.le_of_ble_eq_true rfl) d_Su_takeWarm_38) (fun _ => rfl) (fun y9 ey9 H locs hP hD hS => ?_)
      have hP : va_P g.1 vwCl (wSu g qsu qte qteb qdp qdpe qdpr qdpu qdpb su y9 tb d0 d1 d2 d3 d4) H := cP (spq hB.1 hB.2.1 [0, 3, 4, 5, 6, 7] 8 rfl rfl (by decide +kernel) rfl) hP
      have hD : va_D (inW (wSu g qsu qte qteb qdp qdpe qdpr qdpu qdpb su t tb d0 d1 d2 d3 d4)) (wSu g qsu qte qteb qdp qdpe qdpr qdpu qdpb su y9 tb d0 d1 d2 d3 d4) := cD (spq hB.1 hB.2.1 [0, 3, 4, 5, 6, 7] 8 rfl rfl (by decide +kernel) rfl) hD
      have hz := lett_z hz ey9
      have hok := lett_o hok ey9
      exact k_Su_takeWarm_41 C y9 hok _ hz _ _ ls hP hD hS (lv_sub hl [1, 0] rfl)
abbrev rm_Su_takeLeads : Room := { frames := 3, cells := 0, slots := 0, locals := 68 }
noncomputable def sp_Su_takeLeads (su : IV) (t : IV) (tb : IV) (d0 : IV) : IV × IV × IV := lett (sp_Su_takeOnce (4 : Int32) su t tb) fun (y2 : IV × IV) => lett (sp_Te_number (0 : Int32) (99999 : Int32) y2.2 tb) fun (y4 : Int32 × IV) => lett (upd d0 8 y4.1) fun (d_5 : IV) => lett (sp_Te_number (0 : Int32) (99999 : Int32) y4.2 tb) fun (y7 : Int32 × IV) => lett (upd d_5 9 y7.1) fun (d_8 : IV) => lett (sp_Te_number (0 : Int32) (99999 : Int32) y7.2 tb) fun (y10 : Int32 × IV) => lett (upd d_8 10 y10.1) fun (d_11 : IV) => (y2.1, y10.2, d_11)
def ok_Su_takeLeads (su : IV) (t : IV) (tb : IV) (d0 : IV) : Prop := (ok_Su_takeOnce (4 : Int32) su t tb) ∧ lett (sp_Su_takeOnce (4 : Int32) su t tb) fun (y2 : IV × IV) => (ok_Te_number (0 : Int32) (99999 : Int32) y2.2 tb) ∧ lett (sp_Te_number (0 : Int32) (99999 : Int32) y2.2 tb) fun (y4 : Int32 × IV) => lett (upd d0 8 y4.1) fun (d_5 : IV) => (ok_Te_number (0 : Int32) (99999 : Int32) y4.2 tb) ∧ lett (sp_Te_number (0 : Int32) (99999 : Int32) y4.2 tb) fun (y7 : Int32 × IV) => lett (upd d_5 9 y7.1) fun (d_8 : IV) => (ok_Te_number (0 : Int32) (99999 : Int32) y7.2 tb) ∧ True
set_option maxRecDepth 100000 in
set_option maxHeartbeats 4000000 in
theorem c_Su_takeLeads (l : Launch) (g : GX) (qsu : Nat) (qte : Nat) (qteb : Nat) (qdp : Nat) (qdpe : Nat) (qdpr : Nat) (qdpu : Nat) (qdpb : Nat) (su : IV) (t : IV) (tb : IV) (d0 : IV) (d1 : IV) (d2 : IV) (d3 : IV) (d4 : IV)  (hok : ok_Su_takeLeads su t tb d0) : Met l y_Su_takeLeads (wsY y_Su_takeLeads b_Su_takeLeads 1 none) rm_Su_takeLeads (CP g [.ref qsu] (wSu g qsu qte qteb qdp qdpe qdpr qdpu qdpb su t tb d0 d1 d2 d3 d4)) (CV g (wSu g qsu qte qteb qdp qdpe qdpr qdpu qdpb su t tb d0 d1 d2 d3 d4) (fun u : IV × IV × IV => wSu g qsu qte qteb qdp qdpe qdpr qdpu qdpb u.1 u.2.1 tb u.2.2 d1 d2 d3 d4) (sp_Su_takeLeads su t tb d0)) 0 0 (inW (wSu g qsu qte qteb qdp qdpe qdpr qdpu qdpb su t tb d0 d1 d2 d3 d4)) := by
  refine Met.ofW (cc := b_Su_takeLeads) (maxL := 1) (ret := none) pn_Su rfl ?_
  intro p e s m args below meth c s₁ B hml hv
  obtain ⟨rfl, C, hP, hD, hS⟩ := enter "DecadeBridge$SetupReader" rfl B hml hv
  obtain ⟨hx, hb, hr, hml, hown, hlk, hts, hK, hZo, hZ⟩ := id C
  refine entryW (lv := [(0, .ref qsu)]) rfl (Nat.le_of_ble_eq_true rfl) (fun ls hl => ?_)
  obtain ⟨z, hz⟩ : ∃ z, z = sp_Su_takeLeads su t tb d0 := ⟨_, rfl⟩
  rw [← hz]
  unfold sp_Su_takeLeads at hz
  unfold ok_Su_takeLeads at hok
  refine lv_aload_n hx hb d_Su_takeLeads_0 rfl (lv_at hl 0 rfl) ?_
  refine lv_iconst (v := 4) hx hb d_Su_takeLeads_1 (by decide) ?_
  have hs1 := hok.1
  have hok := hok.2
  have hB : SubW g (inW (wSu g qsu qte qteb qdp qdpe qdpr qdpu qdpb su t tb d0 d1 d2 d3 d4)) s (wSu g qsu qte qteb qdp qdpe qdpr qdpu qdpb su t tb d0 d1 d2 d3 d4) _ (List.range _) _ _ := (subF hP hD hS)
  refine goVF hB (run_v C mf_Su_takeOnce qm_Su_66 (c_Su_takeOnce l g qsu qte qteb qdp qdpe qdpr qdpu qdpb su t tb d0 d1 d2 d3 d4 (4 : Int32) hs1) rfl rfl ⟨Nat.le_of_ble_eq_true rfl, Nat.le_of_ble_eq_true rfl⟩ ⟨Nat.le_of_ble_eq_true rfl, Nat.le_of_ble_eq_true rfl⟩ hB rfl rfl hl rfl rfl (Nat.le_of_ble_eq_true rfl) d_Su_takeLeads_2) (fun _ => rfl) (fun y2 ey2 H locs hP hD hS => ?_)
  have hP : va_P g.1 vwCl (wSu g qsu qte qteb qdp qdpe qdpr qdpu qdpb y2.1 y2.2 tb d0 d1 d2 d3 d4) H := hP
  have hD : va_D (inW (wSu g qsu qte qteb qdp qdpe qdpr qdpu qdpb su t tb d0 d1 d2 d3 d4)) (wSu g qsu qte qteb qdp qdpe qdpr qdpu qdpb y2.1 y2.2 tb d0 d1 d2 d3 d4) := hD
  have hz := lett_z hz ey2
  have hok := lett_o hok ey2
  refine lv_aload_n hx hb d_Su_takeLeads_5 rfl (lv_at hl 0 rfl) ?_
  refine gf C hP 0 1 fkSu rfl (by decide) rfl qf_Su_12 (gSu_1 _ _ _) d_Su_takeLeads_6 ?_
  refine lv_aload_n hx hb d_Su_takeLeads_9 rfl (lv_at hl 0 rfl) ?_
  refine gf C hP 0 0 fkSu rfl (by decide) rfl qf_Su_18 (gSu_0 _ _ _) d_Su_takeLeads_10 ?_
  refine lv_iconst (v := 0) hx hb d_Su_takeLeads_13 (by decide) ?_
  refine lv_ldc hx hb hown (hts _ qk_Su_103) d_Su_takeLeads_14 ?_
  have hs3 := hok.1
  have hok := hok.2
  have hB : SubW g (inW (wSu g qsu qte qteb qdp qdpe qdpr qdpu qdpb su t tb d0 d1 d2 d3 d4)) s (wSu g qsu qte qteb qdp qdpe qdpr qdpu qdpb y2.1 y2.2 tb d0 d1 d2 d3 d4) (wTe g qte qteb y2.2 tb) [1, 2] _ _ := ⟨rfl, rfl, hP, hD, hS⟩
  refine goI1 hB (run_v C mf_Te_number qm_Su_70 (c_Te_number l g qte qteb y2.2 tb (0 : Int32) (99999 : Int32) hs3) rfl rfl ⟨Nat.le_of_ble_eq_true rfl, Nat.le_of_ble_eq_true rfl⟩ ⟨Nat.le_of_ble_eq_true rfl, Nat.le_of_ble_eq_true rfl⟩ hB rfl rfl hl rfl rfl (Nat.le_of_ble_eq_true rfl) d_Su_takeLeads_16) (fun _ => rfl) (fun y4 ey4 H locs hP hD hS => ?_)
  have hP : va_P g.1 vwCl (wSu g qsu qte qteb qdp qdpe qdpr qdpu qdpb y2.1 y4.2 tb d0 d1 d2 d3 d4) H := cP (spq hB.1 hB.2.1 [0, 3, 4, 5, 6, 7] 8 rfl rfl (by decide +kernel) rfl) hP
  have hD : va_D (inW (wSu g qsu qte qteb qdp qdpe qdpr qdpu qdpb su t tb d0 d1 d2 d3 d4)) (wSu g qsu qte qteb qdp qdpe qdpr qdpu qdpb y2.1 y4.2 tb d0 d1 d2 d3 d4) := cD (spq hB.1 hB.2.1 [0, 3, 4, 5, 6, 7] 8 rfl rfl (by decide +kernel) rfl) hD
  have hz := lett_z hz ey4
  have hok := lett_o hok ey4
  refine pfI C hP hD hS 3 8 fkPa rfl (by decide) rfl qf_Su_154 rfl rfl rfl (Nat.le_of_ble_eq_true rfl) (ff := fun o => fPa qdpe qdpr qdpu qdpb o) (sPa_8 _ _ _ _ _ _) d_Su_takeLeads_19 (fun d_5 ed_5 H locs hP hD hS => ?_)
  have hP : va_P g.1 vwCl (wSu g qsu qte qteb qdp qdpe qdpr qdpu qdpb y2.1 y4.2 tb d_5 d1 d2 d3 d4) H := hP
  have hD : va_D (inW (wSu g qsu qte qteb qdp qdpe qdpr qdpu qdpb su t tb d0 d1 d2 d3 d4)) (wSu g qsu qte qteb qdp qdpe qdpr qdpu qdpb y2.1 y4.2 tb d_5 d1 d2 d3 d4) := hD
  have hz := lett_z hz ed_5
  have hok := lett_o hok ed_5
  refine lv_aload_n hx hb d_Su_takeLeads_22 rfl (lv_at hl 0 rfl) ?_
  refine gf C hP 0 1 fkSu rfl (by decide) rfl qf_Su_12 (gSu_1 _ _ _) d_Su_takeLeads_23 ?_
  refine lv_aload_n hx hb d_Su_takeLeads_26 rfl (lv_at hl 0 rfl) ?_
  refine gf C hP 0 0 fkSu rfl (by decide) rfl qf_Su_18 (gSu_0 _ _ _) d_Su_takeLeads_27 ?_
  refine lv_iconst (v := 0) hx hb d_Su_takeLeads_30 (by decide) ?_
  refine lv_ldc hx hb hown (hts _ qk_Su_103) d_Su_takeLeads_31 ?_
  have hs6 := hok.1
  have hok := hok.2
  have hB : SubW g (inW (wSu g qsu qte qteb qdp qdpe qdpr qdpu qdpb su t tb d0 d1 d2 d3 d4)) s (wSu g qsu qte qteb qdp qdpe qdpr qdpu qdpb y2.1 y4.2 tb d_5 d1 d2 d3 d4) (wTe g qte qteb y4.2 tb) [1, 2] _ _ := ⟨rfl, rfl, hP, hD, hS⟩
  refine goI1 hB (run_v C mf_Te_number qm_Su_70 (c_Te_number l g qte qteb y4.2 tb (0 : Int32) (99999 : Int32) hs6) rfl rfl ⟨Nat.le_of_ble_eq_true rfl, Nat.le_of_ble_eq_true rfl⟩ ⟨Nat.le_of_ble_eq_true rfl, Nat.le_of_ble_eq_true rfl⟩ hB rfl rfl hl rfl rfl (Nat.le_of_ble_eq_true rfl) d_Su_takeLeads_33) (fun _ => rfl) (fun y7 ey7 H locs hP hD hS => ?_)
  have hP : va_P g.1 vwCl (wSu g qsu qte qteb qdp qdpe qdpr qdpu qdpb y2.1 y7.2 tb d_5 d1 d2 d3 d4) H := cP (spq hB.1 hB.2.1 [0, 3, 4, 5, 6, 7] 8 rfl rfl (by decide +kernel) rfl) hP
  have hD : va_D (inW (wSu g qsu qte qteb qdp qdpe qdpr qdpu qdpb su t tb d0 d1 d2 d3 d4)) (wSu g qsu qte qteb qdp qdpe qdpr qdpu qdpb y2.1 y7.2 tb d_5 d1 d2 d3 d4) := cD (spq hB.1 hB.2.1 [0, 3, 4, 5, 6, 7] 8 rfl rfl (by decide +kernel) rfl) hD
  have hz := lett_z hz ey7
  have hok := lett_o hok ey7
  refine pfI C hP hD hS 3 9 fkPa rfl (by decide) rfl qf_Su_157 rfl rfl rfl (Nat.le_of_ble_eq_true rfl) (ff := fun o => fPa qdpe qdpr qdpu qdpb o) (sPa_9 _ _ _ _ _ _) d_Su_takeLeads_36 (fun d_8 ed_8 H locs hP hD hS => ?_)
  have hP : va_P g.1 vwCl (wSu g qsu qte qteb qdp qdpe qdpr qdpu qdpb y2.1 y7.2 tb d_8 d1 d2 d3 d4) H := hP
  have hD : va_D (inW (wSu g qsu qte qteb qdp qdpe qdpr qdpu qdpb su t tb d0 d1 d2 d3 d4)) (wSu g qsu qte qteb qdp qdpe qdpr qdpu qdpb y2.1 y7.2 tb d_8 d1 d2 d3 d4) := hD
  have hz := lett_z hz ed_8
  have hok := lett_o hok ed_8
  refine lv_aload_n hx hb d_Su_takeLeads_39 rfl (lv_at hl 0 rfl) ?_
  refine gf C hP 0 1 fkSu rfl (by decide) rfl qf_Su_12 (gSu_1 _ _ _) d_Su_takeLeads_40 ?_
  refine lv_aload_n hx hb d_Su_takeLeads_43 rfl (lv_at hl 0 rfl) ?_
  refine gf C hP 0 0 fkSu rfl (by decide) rfl qf_Su_18 (gSu_0 _ _ _) d_Su_takeLeads_44 ?_
  refine lv_iconst (v := 0) hx hb d_Su_takeLeads_47 (by decide) ?_
  refine lv_ldc hx hb hown (hts _ qk_Su_103) d_Su_takeLeads_48 ?_
  have hs9 := hok.1
  have hok := hok.2
  have hB : SubW g (inW (wSu g qsu qte qteb qdp qdpe qdpr qdpu qdpb su t tb d0 d1 d2 d3 d4)) s (wSu g qsu qte qteb qdp qdpe qdpr qdpu qdpb y2.1 y7.2 tb d_8 d1 d2 d3 d4) (wTe g qte qteb y7.2 tb) [1, 2] _ _ := ⟨rfl, rfl, hP, hD, hS⟩
  refine goI1 hB (run_v C mf_Te_number qm_Su_70 (c_Te_number l g qte qteb y7.2 tb (0 : Int32) (99999 : Int32) hs9) rfl rfl ⟨Nat.le_of_ble_eq_true rfl, Nat.le_of_ble_eq_true rfl⟩ ⟨Nat.le_of_ble_eq_true rfl, Nat.le_of_ble_eq_true rfl⟩ hB rfl rfl hl rfl rfl (Nat.le_of_ble_eq_true rfl) d_Su_takeLeads_50) (fun _ => rfl) (fun y10 ey10 H locs hP hD hS => ?_)
  have hP : va_P g.1 vwCl (wSu g qsu qte qteb qdp qdpe qdpr qdpu qdpb y2.1 y10.2 tb d_8 d1 d2 d3 d4) H := cP (spq hB.1 hB.2.1 [0, 3, 4, 5, 6, 7] 8 rfl rfl (by decide +kernel) rfl) hP
  have hD : va_D (inW (wSu g qsu qte qteb qdp qdpe qdpr qdpu qdpb su t tb d0 d1 d2 d3 d4)) (wSu g qsu qte qteb qdp qdpe qdpr qdpu qdpb y2.1 y10.2 tb d_8 d1 d2 d3 d4) := cD (spq hB.1 hB.2.1 [0, 3, 4, 5, 6, 7] 8 rfl rfl (by decide +kernel) rfl) hD
  have hz := lett_z hz ey10
  refine pfI C hP hD hS 3 10 fkPa rfl (by decide) rfl qf_Su_160 rfl rfl rfl (Nat.le_of_ble_eq_true rfl) (ff := fun o => fPa qdpe qdpr qdpu qdpb o) (sPa_10 _ _ _ _ _ _) d_Su_takeLeads_53 (fun d_11 ed_11 H locs hP hD hS => ?_)
  have hP : va_P g.1 vwCl (wSu g qsu qte qteb qdp qdpe qdpr qdpu qdpb y2.1 y10.2 tb d_11 d1 d2 d3 d4) H := hP
  have hD : va_D (inW (wSu g qsu qte qteb qdp qdpe qdpr qdpu qdpb su t tb d0 d1 d2 d3 d4)) (wSu g qsu qte qteb qdp qdpe qdpr qdpu qdpb y2.1 y10.2 tb d_11 d1 d2 d3 d4) := hD
  have hz := lett_z hz ed_11
  exact endV C hz hP hS d_Su_takeLeads_56
abbrev rm_Su_takeDetector : Room := { frames := 3, cells := 0, slots := 0, locals := 68 }
noncomputable def sp_Su_takeDetector (su : IV) (t : IV) (tb : IV) (d0 : IV) : IV × IV × IV := lett (sp_Su_takeOnce (16 : Int32) su t tb) fun (y2 : IV × IV) => lett (sp_Te_number (1 : Int32) (9999999 : Int32) y2.2 tb) fun (y4 : Int32 × IV) => lett (upd d0 13 y4.1) fun (d_5 : IV) => lett (sp_Te_number (0 : Int32) (9999 : Int32) y4.2 tb) fun (y7 : Int32 × IV) => lett (upd d_5 14 y7.1) fun (d_8 : IV) => lett (sp_Te_number (0 : Int32) (999 : Int32) y7.2 tb) fun (y10 : Int32 × IV) => lett (upd d_8 15 y10.1) fun (d_11 : IV) => lett (sp_Te_number (-99999 : Int32) (99999 : Int32) y10.2 tb) fun (y13 : Int32 × IV) => lett (upd d_11 16 y13.1) fun (d_14 : IV) => (y2.1, y13.2, d_14)
def ok_Su_takeDetector (su : IV) (t : IV) (tb : IV) (d0 : IV) : Prop := (ok_Su_takeOnce (16 : Int32) su t tb) ∧ lett (sp_Su_takeOnce (16 : Int32) su t tb) fun (y2 : IV × IV) => (ok_Te_number (1 : Int32) (9999999 : Int32) y2.2 tb) ∧ lett (sp_Te_number (1 : Int32) (9999999 : Int32) y2.2 tb) fun (y4 : Int32 × IV) => lett (upd d0 13 y4.1) fun (d_5 : IV) => (ok_Te_number (0 : Int32) (9999 : Int32) y4.2 tb) ∧ lett (sp_Te_number (0 : Int32) (9999 : Int32) y4.2 tb) fun (y7 : Int32 × IV) => lett (upd d_5 14 y7.1) fun (d_8 : IV) => (ok_Te_number (0 : Int32) (999 : Int32) y7.2 tb) ∧ lett (sp_Te_number (0 : Int32) (999 : Int32) y7.2 tb) fun (y10 : Int32 × IV) => lett (upd d_8 15 y10.1) fun (d_11 : IV) => (ok_Te_number (-99999 : Int32) (99999 : Int32) y10.2 tb) ∧ True
set_option maxRecDepth 100000 in
set_option maxHeartbeats 4000000 in
theorem c_Su_takeDetector (l : Launch) (g : GX) (qsu : Nat) (qte : Nat) (qteb : Nat) (qdp : Nat) (qdpe : Nat) (qdpr : Nat) (qdpu : Nat) (qdpb : Nat) (su : IV) (t : IV) (tb : IV) (d0 : IV) (d1 : IV) (d2 : IV) (d3 : IV) (d4 : IV)  (hok : ok_Su_takeDetector su t tb d0) : Met l y_Su_takeDetector (wsY y_Su_takeDetector b_Su_takeDetector 1 none) rm_Su_takeDetector (CP g [.ref qsu] (wSu g qsu qte qteb qdp qdpe qdpr qdpu qdpb su t tb d0 d1 d2 d3 d4)) (CV g (wSu g qsu qte qteb qdp qdpe qdpr qdpu qdpb su t tb d0 d1 d2 d3 d4) (fun u : IV × IV × IV => wSu g qsu qte qteb qdp qdpe qdpr qdpu qdpb u.1 u.2.1 tb u.2.2 d1 d2 d3 d4) (sp_Su_takeDetector su t tb d0)) 0 0 (inW (wSu g qsu qte qteb qdp qdpe qdpr qdpu qdpb su t tb d0 d1 d2 d3 d4)) := by
  refine Met.ofW (cc := b_Su_takeDetector) (maxL := 1) (ret := none) pn_Su rfl ?_
  intro p e s m args below meth c s₁ B hml hv
  obtain ⟨rfl, C, hP, hD, hS⟩ := enter "DecadeBridge$SetupReader" rfl B hml hv
  obtain ⟨hx, hb, hr, hml, hown, hlk, hts, hK, hZo, hZ⟩ := id C
  refine entryW (lv := [(0, .ref qsu)]) rfl (Nat.le_of_ble_eq_true rfl) (fun ls hl => ?_)
  obtain ⟨z, hz⟩ : ∃ z, z = sp_Su_takeDetector su t tb d0 := ⟨_, rfl⟩
  rw [← hz]
  unfold sp_Su_takeDetector at hz
  unfold ok_Su_takeDetector at hok
  refine lv_aload_n hx hb d_Su_takeDetector_0 rfl (lv_at hl 0 rfl) ?_
  refine lv_bipush (v := 16) hx hb d_Su_takeDetector_1 (by decide) ?_
  have hs1 := hok.1
  have hok := hok.2
  have hB : SubW g (inW (wSu g qsu qte qteb qdp qdpe qdpr qdpu qdpb su t tb d0 d1 d2 d3 d4)) s (wSu g qsu qte qteb qdp qdpe qdpr qdpu qdpb su t tb d0 d1 d2 d3 d4) _ (List.range _) _ _ := (subF hP hD hS)
  refine goVF hB (run_v C mf_Su_takeOnce qm_Su_66 (c_Su_takeOnce l g qsu qte qteb qdp qdpe qdpr qdpu qdpb su t tb d0 d1 d2 d3 d4 (16 : Int32) hs1) rfl rfl ⟨Nat.le_of_ble_eq_true rfl, Nat.le_of_ble_eq_true rfl⟩ ⟨Nat.le_of_ble_eq_true rfl, Nat.le_of_ble_eq_true rfl⟩ hB rfl rfl hl rfl rfl (Nat.le_of_ble_eq_true rfl) d_Su_takeDetector_3) (fun _ => rfl) (fun y2 ey2 H locs hP hD hS => ?_)
  have hP : va_P g.1 vwCl (wSu g qsu qte qteb qdp qdpe qdpr qdpu qdpb y2.1 y2.2 tb d0 d1 d2 d3 d4) H := hP
  have hD : va_D (inW (wSu g qsu qte qteb qdp qdpe qdpr qdpu qdpb su t tb d0 d1 d2 d3 d4)) (wSu g qsu qte qteb qdp qdpe qdpr qdpu qdpb y2.1 y2.2 tb d0 d1 d2 d3 d4) := hD
  have hz := lett_z hz ey2
  have hok := lett_o hok ey2
  refine lv_aload_n hx hb d_Su_takeDetector_6 rfl (lv_at hl 0 rfl) ?_
  refine gf C hP 0 1 fkSu rfl (by decide) rfl qf_Su_12 (gSu_1 _ _ _) d_Su_takeDetector_7 ?_
  refine lv_aload_n hx hb d_Su_takeDetector_10 rfl (lv_at hl 0 rfl) ?_
  refine gf C hP 0 0 fkSu rfl (by decide) rfl qf_Su_18 (gSu_0 _ _ _) d_Su_takeDetector_11 ?_
  refine lv_iconst (v := 1) hx hb d_Su_takeDetector_14 (by decide) ?_
  refine lv_ldc hx hb hown (hts _ qk_Su_163) d_Su_takeDetector_15 ?_
  have hs3 := hok.1
  have hok := hok.2
  have hB : SubW g (inW (wSu g qsu qte qteb qdp qdpe qdpr qdpu qdpb su t tb d0 d1 d2 d3 d4)) s (wSu g qsu qte qteb qdp qdpe qdpr qdpu qdpb y2.1 y2.2 tb d0 d1 d2 d3 d4) (wTe g qte qteb y2.2 tb) [1, 2] _ _ := ⟨rfl, rfl, hP, hD, hS⟩
  refine goI1 hB (run_v C mf_Te_number qm_Su_70 (c_Te_number l g qte qteb y2.2 tb (1 : Int32) (9999999 : Int32) hs3) rfl rfl ⟨Nat.le_of_ble_eq_true rfl, Nat.le_of_ble_eq_true rfl⟩ ⟨Nat.le_of_ble_eq_true rfl, Nat.le_of_ble_eq_true rfl⟩ hB rfl rfl hl rfl rfl (Nat.le_of_ble_eq_true rfl) d_Su_takeDetector_17) (fun _ => rfl) (fun y4 ey4 H locs hP hD hS => ?_)
  have hP : va_P g.1 vwCl (wSu g qsu qte qteb qdp qdpe qdpr qdpu qdpb y2.1 y4.2 tb d0 d1 d2 d3 d4) H := cP (spq hB.1 hB.2.1 [0, 3, 4, 5, 6, 7] 8 rfl rfl (by decide +kernel) rfl) hP
  have hD : va_D (inW (wSu g qsu qte qteb qdp qdpe qdpr qdpu qdpb su t tb d0 d1 d2 d3 d4)) (wSu g qsu qte qteb qdp qdpe qdpr qdpu qdpb y2.1 y4.2 tb d0 d1 d2 d3 d4) := cD (spq hB.1 hB.2.1 [0, 3, 4, 5, 6, 7] 8 rfl rfl (by decide +kernel) rfl) hD
  have hz := lett_z hz ey4
  have hok := lett_o hok ey4
  refine pfI C hP hD hS 3 13 fkPa rfl (by decide) rfl qf_Su_164 rfl rfl rfl (Nat.le_of_ble_eq_true rfl) (ff := fun o => fPa qdpe qdpr qdpu qdpb o) (sPa_13 _ _ _ _ _ _) d_Su_takeDetector_20 (fun d_5 ed_5 H locs hP hD hS => ?_)
  have hP : va_P g.1 vwCl (wSu g qsu qte qteb qdp qdpe qdpr qdpu qdpb y2.1 y4.2 tb d_5 d1 d2 d3 d4) H := hP
  have hD : va_D (inW (wSu g qsu qte qteb qdp qdpe qdpr qdpu qdpb su t tb d0 d1 d2 d3 d4)) (wSu g qsu qte qteb qdp qdpe qdpr qdpu qdpb y2.1 y4.2 tb d_5 d1 d2 d3 d4) := hD
  have hz := lett_z hz ed_5
  have hok := lett_o hok ed_5
  refine lv_aload_n hx hb d_Su_takeDetector_23 rfl (lv_at hl 0 rfl) ?_
  refine gf C hP 0 1 fkSu rfl (by decide) rfl qf_Su_12 (gSu_1 _ _ _) d_Su_takeDetector_24 ?_
  refine lv_aload_n hx hb d_Su_takeDetector_27 rfl (lv_at hl 0 rfl) ?_
  refine gf C hP 0 0 fkSu rfl (by decide) rfl qf_Su_18 (gSu_0 _ _ _) d_Su_takeDetector_28 ?_
  refine lv_iconst (v := 0) hx hb d_Su_takeDetector_31 (by decide) ?_
  refine lv_sipush (v := 9999) hx hb d_Su_takeDetector_32 (by decide) ?_
  have hs6 := hok.1
  have hok := hok.2
  have hB : SubW g (inW (wSu g qsu qte qteb qdp qdpe qdpr qdpu qdpb su t tb d0 d1 d2 d3 d4)) s (wSu g qsu qte qteb qdp qdpe qdpr qdpu qdpb y2.1 y4.2 tb d_5 d1 d2 d3 d4) (wTe g qte qteb y4.2 tb) [1, 2] _ _ := ⟨rfl, rfl, hP, hD, hS⟩
  refine goI1 hB (run_v C mf_Te_number qm_Su_70 (c_Te_number l g qte qteb y4.2 tb (0 : Int32) (9999 : Int32) hs6) rfl rfl ⟨Nat.le_of_ble_eq_true rfl, Nat.le_of_ble_eq_true rfl⟩ ⟨Nat.le_of_ble_eq_true rfl, Nat.le_of_ble_eq_true rfl⟩ hB rfl rfl hl rfl rfl (Nat.le_of_ble_eq_true rfl) d_Su_takeDetector_35) (fun _ => rfl) (fun y7 ey7 H locs hP hD hS => ?_)
  have hP : va_P g.1 vwCl (wSu g qsu qte qteb qdp qdpe qdpr qdpu qdpb y2.1 y7.2 tb d_5 d1 d2 d3 d4) H := cP (spq hB.1 hB.2.1 [0, 3, 4, 5, 6, 7] 8 rfl rfl (by decide +kernel) rfl) hP
  have hD : va_D (inW (wSu g qsu qte qteb qdp qdpe qdpr qdpu qdpb su t tb d0 d1 d2 d3 d4)) (wSu g qsu qte qteb qdp qdpe qdpr qdpu qdpb y2.1 y7.2 tb d_5 d1 d2 d3 d4) := cD (spq hB.1 hB.2.1 [0, 3, 4, 5, 6, 7] 8 rfl rfl (by decide +kernel) rfl) hD
  have hz := lett_z hz ey7
  have hok := lett_o hok ey7
  refine pfI C hP hD hS 3 14 fkPa rfl (by decide) rfl qf_Su_167 rfl rfl rfl (Nat.le_of_ble_eq_true rfl) (ff := fun o => fPa qdpe qdpr qdpu qdpb o) (sPa_14 _ _ _ _ _ _) d_Su_takeDetector_38 (fun d_8 ed_8 H locs hP hD hS => ?_)
  have hP : va_P g.1 vwCl (wSu g qsu qte qteb qdp qdpe qdpr qdpu qdpb y2.1 y7.2 tb d_8 d1 d2 d3 d4) H := hP
  have hD : va_D (inW (wSu g qsu qte qteb qdp qdpe qdpr qdpu qdpb su t tb d0 d1 d2 d3 d4)) (wSu g qsu qte qteb qdp qdpe qdpr qdpu qdpb y2.1 y7.2 tb d_8 d1 d2 d3 d4) := hD
  have hz := lett_z hz ed_8
  have hok := lett_o hok ed_8
  refine lv_aload_n hx hb d_Su_takeDetector_41 rfl (lv_at hl 0 rfl) ?_
  refine gf C hP 0 1 fkSu rfl (by decide) rfl qf_Su_12 (gSu_1 _ _ _) d_Su_takeDetector_42 ?_
  refine lv_aload_n hx hb d_Su_takeDetector_45 rfl (lv_at hl 0 rfl) ?_
  refine gf C hP 0 0 fkSu rfl (by decide) rfl qf_Su_18 (gSu_0 _ _ _) d_Su_takeDetector_46 ?_
  refine lv_iconst (v := 0) hx hb d_Su_takeDetector_49 (by decide) ?_
  refine lv_sipush (v := 999) hx hb d_Su_takeDetector_50 (by decide) ?_
  have hs9 := hok.1
  have hok := hok.2
  have hB : SubW g (inW (wSu g qsu qte qteb qdp qdpe qdpr qdpu qdpb su t tb d0 d1 d2 d3 d4)) s (wSu g qsu qte qteb qdp qdpe qdpr qdpu qdpb y2.1 y7.2 tb d_8 d1 d2 d3 d4) (wTe g qte qteb y7.2 tb) [1, 2] _ _ := ⟨rfl, rfl, hP, hD, hS⟩
  refine goI1 hB (run_v C mf_Te_number qm_Su_70 (c_Te_number l g qte qteb y7.2 tb (0 : Int32) (999 : Int32) hs9) rfl rfl ⟨Nat.le_of_ble_eq_true rfl, Nat.le_of_ble_eq_true rfl⟩ ⟨Nat.le_of_ble_eq_true rfl, Nat.le_of_ble_eq_true rfl⟩ hB rfl rfl hl rfl rfl (Nat.le_of_ble_eq_true rfl) d_Su_takeDetector_53) (fun _ => rfl) (fun y10 ey10 H locs hP hD hS => ?_)
  have hP : va_P g.1 vwCl (wSu g qsu qte qteb qdp qdpe qdpr qdpu qdpb y2.1 y10.2 tb d_8 d1 d2 d3 d4) H := cP (spq hB.1 hB.2.1 [0, 3, 4, 5, 6, 7] 8 rfl rfl (by decide +kernel) rfl) hP
  have hD : va_D (inW (wSu g qsu qte qteb qdp qdpe qdpr qdpu qdpb su t tb d0 d1 d2 d3 d4)) (wSu g qsu qte qteb qdp qdpe qdpr qdpu qdpb y2.1 y10.2 tb d_8 d1 d2 d3 d4) := cD (spq hB.1 hB.2.1 [0, 3, 4, 5, 6, 7] 8 rfl rfl (by decide +kernel) rfl) hD
  have hz := lett_z hz ey10
  have hok := lett_o hok ey10
  refine pfI C hP hD hS 3 15 fkPa rfl (by decide) rfl qf_Su_170 rfl rfl rfl (Nat.le_of_ble_eq_true rfl) (ff := fun o => fPa qdpe qdpr qdpu qdpb o) (sPa_15 _ _ _ _ _ _) d_Su_takeDetector_56 (fun d_11 ed_11 H locs hP hD hS => ?_)
  have hP : va_P g.1 vwCl (wSu g qsu qte qteb qdp qdpe qdpr qdpu qdpb y2.1 y10.2 tb d_11 d1 d2 d3 d4) H := hP
  have hD : va_D (inW (wSu g qsu qte qteb qdp qdpe qdpr qdpu qdpb su t tb d0 d1 d2 d3 d4)) (wSu g qsu qte qteb qdp qdpe qdpr qdpu qdpb y2.1 y10.2 tb d_11 d1 d2 d3 d4) := hD
  have hz := lett_z hz ed_11
  have hok := lett_o hok ed_11
  refine lv_aload_n hx hb d_Su_takeDetector_59 rfl (lv_at hl 0 rfl) ?_
  refine gf C hP 0 1 fkSu rfl (by decide) rfl qf_Su_12 (gSu_1 _ _ _) d_Su_takeDetector_60 ?_
  refine lv_aload_n hx hb d_Su_takeDetector_63 rfl (lv_at hl 0 rfl) ?_
  refine gf C hP 0 0 fkSu rfl (by decide) rfl qf_Su_18 (gSu_0 _ _ _) d_Su_takeDetector_64 ?_
  refine lv_ldc hx hb hown (hts _ qk_Su_173) d_Su_takeDetector_67 ?_
  refine lv_ldc hx hb hown (hts _ qk_Su_103) d_Su_takeDetector_69 ?_
  have hs12 := hok.1
  have hok := hok.2
  have hB : SubW g (inW (wSu g qsu qte qteb qdp qdpe qdpr qdpu qdpb su t tb d0 d1 d2 d3 d4)) s (wSu g qsu qte qteb qdp qdpe qdpr qdpu qdpb y2.1 y10.2 tb d_11 d1 d2 d3 d4) (wTe g qte qteb y10.2 tb) [1, 2] _ _ := ⟨rfl, rfl, hP, hD, hS⟩
  refine goI1 hB (run_v C mf_Te_number qm_Su_70 (c_Te_number l g qte qteb y10.2 tb (-99999 : Int32) (99999 : Int32) hs12) rfl rfl ⟨Nat.le_of_ble_eq_true rfl, Nat.le_of_ble_eq_true rfl⟩ ⟨Nat.le_of_ble_eq_true rfl, Nat.le_of_ble_eq_true rfl⟩ hB rfl rfl hl rfl rfl (Nat.le_of_ble_eq_true rfl) d_Su_takeDetector_71) (fun _ => rfl) (fun y13 ey13 H locs hP hD hS => ?_)
  have hP : va_P g.1 vwCl (wSu g qsu qte qteb qdp qdpe qdpr qdpu qdpb y2.1 y13.2 tb d_11 d1 d2 d3 d4) H := cP (spq hB.1 hB.2.1 [0, 3, 4, 5, 6, 7] 8 rfl rfl (by decide +kernel) rfl) hP
  have hD : va_D (inW (wSu g qsu qte qteb qdp qdpe qdpr qdpu qdpb su t tb d0 d1 d2 d3 d4)) (wSu g qsu qte qteb qdp qdpe qdpr qdpu qdpb y2.1 y13.2 tb d_11 d1 d2 d3 d4) := cD (spq hB.1 hB.2.1 [0, 3, 4, 5, 6, 7] 8 rfl rfl (by decide +kernel) rfl) hD
  have hz := lett_z hz ey13
  refine pfI C hP hD hS 3 16 fkPa rfl (by decide) rfl qf_Su_174 rfl rfl rfl (Nat.le_of_ble_eq_true rfl) (ff := fun o => fPa qdpe qdpr qdpu qdpb o) (sPa_16 _ _ _ _ _ _) d_Su_takeDetector_74 (fun d_14 ed_14 H locs hP hD hS => ?_)
  have hP : va_P g.1 vwCl (wSu g qsu qte qteb qdp qdpe qdpr qdpu qdpb y2.1 y13.2 tb d_14 d1 d2 d3 d4) H := hP
  have hD : va_D (inW (wSu g qsu qte qteb qdp qdpe qdpr qdpu qdpb su t tb d0 d1 d2 d3 d4)) (wSu g qsu qte qteb qdp qdpe qdpr qdpu qdpb y2.1 y13.2 tb d_14 d1 d2 d3 d4) := hD
  have hz := lett_z hz ed_14
  exact endV C hz hP hS d_Su_takeDetector_77
abbrev rm_Te_begin : Room := { frames := 2, cells := 0, slots := 0, locals := 43 }
noncomputable def sp_Te_begin (t : IV) (tb : IV) : IV := lett (upd t 5 (0 : Int32)) fun (t_1 : IV) => lett (upd t_1 6 (-1 : Int32)) fun (t_2 : IV) => lett (upd t_2 4 (0 : Int32)) fun (t_3 : IV) => lett (sp_Te_advance t_3 tb) fun (y5 : IV) => y5
def ok_Te_begin (t : IV) (tb : IV) : Prop := lett (upd t 5 (0 : Int32)) fun (t_1 : IV) => lett (upd t_1 6 (-1 : Int32)) fun (t_2 : IV) => lett (upd t_2 4 (0 : Int32)) fun (t_3 : IV) => (ok_Te_advance t_3 tb) ∧ True
set_option maxRecDepth 100000 in
set_option maxHeartbeats 4000000 in
theorem c_Te_begin (l : Launch) (g : GX) (qte : Nat) (qteb : Nat) (t : IV) (tb : IV)  (hok : ok_Te_begin t tb) : Met l y_Te_begin (wsY y_Te_begin b_Te_begin 1 none) rm_Te_begin (CP g [.ref qte] (wTe g qte qteb t tb)) (CV g (wTe g qte qteb t tb) (fun u : IV => wTe g qte qteb u tb) (sp_Te_begin t tb)) 0 0 (inW (wTe g qte qteb t tb)) := by
  refine Met.ofW (cc := b_Te_begin) (maxL := 1) (ret := none) pn_Te rfl ?_
  intro p e s m args below meth c s₁ B hml hv
  obtain ⟨rfl, C, hP, hD, hS⟩ := enter "DecadeBridge$Text" rfl B hml hv
  obtain ⟨hx, hb, hr, hml, hown, hlk, hts, hK, hZo, hZ⟩ := id C
  refine entryW (lv := [(0, .ref qte)]) rfl (Nat.le_of_ble_eq_true rfl) (fun ls hl => ?_)
  obtain ⟨z, hz⟩ : ∃ z, z = sp_Te_begin t tb := ⟨_, rfl⟩
  rw [← hz]
  unfold sp_Te_begin at hz
  unfold ok_Te_begin at hok
  refine lv_aload_n hx hb d_Te_begin_0 rfl (lv_at hl 0 rfl) ?_
  refine lv_iconst (v := 0) hx hb d_Te_begin_1 (by decide) ?_
  refine pfI C hP hD hS 0 5 fkTe rfl (by decide) rfl qf_Te_22 rfl rfl rfl (Nat.le_of_ble_eq_true rfl) (ff := fun o => fTe qteb o) (sTe_5 _ _ _) d_Te_begin_2 (fun t_1 et_1 H locs hP hD hS => ?_)
  have hP : va_P g.1 vwCl (wTe g qte qteb t_1 tb) H := hP
  have hD : va_D (inW (wTe g qte qteb t tb)) (wTe g qte qteb t_1 tb) := hD
  have hz := lett_z hz et_1
  have hok := lett_o hok et_1
  refine lv_aload_n hx hb d_Te_begin_5 rfl (lv_at hl 0 rfl) ?_
  refine lv_iconst (v := -1) hx hb d_Te_begin_6 (by decide) ?_
  refine pfI C hP hD hS 0 6 fkTe rfl (by decide) rfl qf_Te_15 rfl rfl rfl (Nat.le_of_ble_eq_true rfl) (ff := fun o => fTe qteb o) (sTe_6 _ _ _) d_Te_begin_7 (fun t_2 et_2 H locs hP hD hS => ?_)
  have hP : va_P g.1 vwCl (wTe g qte qteb t_2 tb) H := hP
  have hD : va_D (inW (wTe g qte qteb t tb)) (wTe g qte qteb t_2 tb) := hD
  have hz := lett_z hz et_2
  have hok := lett_o hok et_2
  refine lv_aload_n hx hb d_Te_begin_10 rfl (lv_at hl 0 rfl) ?_
  refine lv_iconst (v := 0) hx hb d_Te_begin_11 (by decide) ?_
  refine pfI C hP hD hS 0 4 fkTe rfl (by decide) rfl qf_Te_25 rfl rfl rfl (Nat.le_of_ble_eq_true rfl) (ff := fun o => fTe qteb o) (sTe_4 _ _ _) d_Te_begin_12 (fun t_3 et_3 H locs hP hD hS => ?_)
  have hP : va_P g.1 vwCl (wTe g qte qteb t_3 tb) H := hP
  have hD : va_D (inW (wTe g qte qteb t tb)) (wTe g qte qteb t_3 tb) := hD
  have hz := lett_z hz et_3
  have hok := lett_o hok et_3
  refine lv_aload_n hx hb d_Te_begin_15 rfl (lv_at hl 0 rfl) ?_
  have hs4 := hok.1
  have hok := hok.2
  have hB : SubW g (inW (wTe g qte qteb t tb)) s (wTe g qte qteb t_3 tb) _ (List.range _) _ _ := (subF hP hD hS)
  refine goVF hB (run_v C mf_Te_advance qm_Te_28 (c_Te_advance l g qte qteb t_3 tb hs4) rfl rfl ⟨Nat.le_of_ble_eq_true rfl, Nat.le_of_ble_eq_true rfl⟩ ⟨Nat.le_of_ble_eq_true rfl, Nat.le_of_ble_eq_true rfl⟩ hB rfl rfl hl rfl rfl (Nat.le_of_ble_eq_true rfl) d_Te_begin_16) (fun _ => rfl) (fun y5 ey5 H locs hP hD hS => ?_)
  have hP : va_P g.1 vwCl (wTe g qte qteb y5 tb) H := hP
  have hD : va_D (inW (wTe g qte qteb t tb)) (wTe g qte qteb y5 tb) := hD
  have hz := lett_z hz ey5
  exact endV C hz hP hS d_Te_begin_19
abbrev rm_Be_reset : Room := { frames := 3, cells := 0, slots := 0, locals := 69 }
noncomputable def sp_Be_reset (ba : IV) (ca : IV) (cal : LV) (ea : IV) (w0 : IV) (w1 : IV) (w2 : IV) (w3 : IV) (w4 : IV) : IV × IV × LV × IV := lett (sp_Ci_reset ca cal w0 w1 w2 w3 w4) fun (y2 : IV × LV) => lett (upd ba 3 (0 : Int32)) fun (ba_3 : IV) => lett (upd ba_3 4 (0 : Int32)) fun (ba_4 : IV) => lett (upd ba_4 5 (0 : Int32)) fun (ba_5 : IV) => lett (upd ea 1 (0 : Int32)) fun (ea_6 : IV) => (ba_5, y2.1, y2.2, ea_6)
def ok_Be_reset (ca : IV) (cal : LV) (w0 : IV) (w1 : IV) (w2 : IV) : Prop := (ok_Ci_reset ca cal w0 w1 w2) ∧ True
set_option maxRecDepth 100000 in
set_option maxHeartbeats 4000000 in
theorem c_Be_reset (l : Launch) (g : GX) (qbe : Nat) (qci : Nat) (qrd : Nat) (qrs : Nat) (qrsr : Nat) (ua : Nat → Nat) (qpa : Nat) (qpae : Nat) (qpar : Nat) (qpau : Nat) (qpab : Nat) (ba : IV) (ca : IV) (cal : LV) (da : IV) (ea : IV) (eal : LV) (rar : NI) (ral : NL) (w0 : IV) (w1 : IV) (w2 : IV) (w3 : IV) (w4 : IV)  (hok : ok_Be_reset ca cal w0 w1 w2) : Met l y_Be_reset (wsY y_Be_reset b_Be_reset 1 none) rm_Be_reset (CP g [.ref qbe] (wBe g qbe qci qrd qrs qrsr ua qpa qpae qpar qpau qpab ba ca cal da ea eal rar ral w0 w1 w2 w3 w4)) (CV g (wBe g qbe qci qrd qrs qrsr ua qpa qpae qpar qpau qpab ba ca cal da ea eal rar ral w0 w1 w2 w3 w4) (fun u : IV × IV × LV × IV => wBe g qbe qci qrd qrs qrsr ua qpa qpae qpar qpau qpab u.1 u.2.1 u.2.2.1 da u.2.2.2 eal rar ral w0 w1 w2 w3 w4) (sp_Be_reset ba ca cal ea w0 w1 w2 w3 w4)) 0 0 (inW (wBe g qbe qci qrd qrs qrsr ua qpa qpae qpar qpau qpab ba ca cal da ea eal rar ral w0 w1 w2 w3 w4)) := by
  refine Met.ofW (cc := b_Be_reset) (maxL := 1) (ret := none) pn_Be rfl ?_
  intro p e s m args below meth c s₁ B hml hv
  obtain ⟨rfl, C, hP, hD, hS⟩ := enter "DecadeBridge$Bench" rfl B hml hv
  obtain ⟨hx, hb, hr, hml, hown, hlk, hts, hK, hZo, hZ⟩ := id C
  refine entryW (lv := [(0, .ref qbe)]) rfl (Nat.le_of_ble_eq_true rfl) (fun ls hl => ?_)
  obtain ⟨z, hz⟩ : ∃ z, z = sp_Be_reset ba ca cal ea w0 w1 w2 w3 w4 := ⟨_, rfl⟩
  rw [← hz]
  unfold sp_Be_reset at hz
  unfold ok_Be_reset at hok
  refine lv_aload_n hx hb d_Be_reset_0 rfl (lv_at hl 0 rfl) ?_
  refine gf C hP 0 0 fkBe rfl (by decide) rfl qf_Be_31 (gBe_0 _ _ _ _ _) d_Be_reset_1 ?_
  have hs1 := hok.1
  have hok := hok.2
  have hB : SubW g (inW (wBe g qbe qci qrd qrs qrsr ua qpa qpae qpar qpau qpab ba ca cal da ea eal rar ral w0 w1 w2 w3 w4)) s (wBe g qbe qci qrd qrs qrsr ua qpa qpae qpar qpau qpab ba ca cal da ea eal rar ral w0 w1 w2 w3 w4) (wCi g qci qpa qpae qpar qpau qpab ca cal w0 w1 w2 w3 w4) [1, 25, 26, 27, 28, 29] _ _ := ⟨rfl, rfl, hP, hD, hS⟩
  refine goV1 hB (run_v C mf_Ci_reset qm_Be_35 (c_Ci_reset l g qci qpa qpae qpar qpau qpab ca cal w0 w1 w2 w3 w4 hs1) rfl rfl ⟨Nat.le_of_ble_eq_true rfl, Nat.le_of_ble_eq_true rfl⟩ ⟨Nat.le_of_ble_eq_true rfl, Nat.le_of_ble_eq_true rfl⟩ hB rfl rfl hl rfl rfl (Nat.le_of_ble_eq_true rfl) d_Be_reset_4) (fun _ => rfl) (fun y2 ey2 H locs hP hD hS => ?_)
  have hP : va_P g.1 vwCl (wBe g qbe qci qrd qrs qrsr ua qpa qpae qpar qpau qpab ba y2.1 y2.2 da ea eal rar ral w0 w1 w2 w3 w4) H := cP (spq hB.1 hB.2.1 [0, 2, 3, 4, 5, 6, 7, 8, 9, 10, 11, 12, 13, 14, 15, 16, 17, 18, 19, 20, 21, 22, 23, 24] 30 rfl rfl (by decide +kernel) rfl) hP
  have hD : va_D (inW (wBe g qbe qci qrd qrs qrsr ua qpa qpae qpar qpau qpab ba ca cal da ea eal rar ral w0 w1 w2 w3 w4)) (wBe g qbe qci qrd qrs qrsr ua qpa qpae qpar qpau qpab ba y2.1 y2.2 da ea eal rar ral w0 w1 w2 w3 w4) := cD (spq hB.1 hB.2.1 [0, 2, 3, 4, 5, 6, 7, 8, 9, 10, 11, 12, 13, 14, 15, 16, 17, 18, 19, 20, 21, 22, 23, 24] 30 rfl rfl (by decide +kernel) rfl) hD
  have hz := lett_z hz ey2
  refine lv_aload_n hx hb d_Be_reset_7 rfl (lv_at hl 0 rfl) ?_
  refine lv_iconst (v := 0) hx hb d_Be_reset_8 (by decide) ?_
  refine pfI C hP hD hS 0 3 fkBe rfl (by decide) rfl qf_Be_38 rfl rfl rfl (Nat.le_of_ble_eq_true rfl) (ff := fun o => fBe qci qpa qrd qrs o) (sBe_3 _ _ _ _ _ _) d_Be_reset_9 (fun ba_3 eba_3 H locs hP hD hS => ?_)
  have hP : va_P g.1 vwCl (wBe g qbe qci qrd qrs qrsr ua qpa qpae qpar qpau qpab ba_3 y2.1 y2.2 da ea eal rar ral w0 w1 w2 w3 w4) H := hP
  have hD : va_D (inW (wBe g qbe qci qrd qrs qrsr ua qpa qpae qpar qpau qpab ba ca cal da ea eal rar ral w0 w1 w2 w3 w4)) (wBe g qbe qci qrd qrs qrsr ua qpa qpae qpar qpau qpab ba_3 y2.1 y2.2 da ea eal rar ral w0 w1 w2 w3 w4) := hD
  have hz := lett_z hz eba_3
  refine lv_aload_n hx hb d_Be_reset_12 rfl (lv_at hl 0 rfl) ?_
  refine lv_iconst (v := 0) hx hb d_Be_reset_13 (by decide) ?_
  refine pfI C hP hD hS 0 4 fkBe rfl (by decide) rfl qf_Be_42 rfl rfl rfl (Nat.le_of_ble_eq_true rfl) (ff := fun o => fBe qci qpa qrd qrs o) (sBe_4 _ _ _ _ _ _) d_Be_reset_14 (fun ba_4 eba_4 H locs hP hD hS => ?_)
  have hP : va_P g.1 vwCl (wBe g qbe qci qrd qrs qrsr ua qpa qpae qpar qpau qpab ba_4 y2.1 y2.2 da ea eal rar ral w0 w1 w2 w3 w4) H := hP
  have hD : va_D (inW (wBe g qbe qci qrd qrs qrsr ua qpa qpae qpar qpau qpab ba ca cal da ea eal rar ral w0 w1 w2 w3 w4)) (wBe g qbe qci qrd qrs qrsr ua qpa qpae qpar qpau qpab ba_4 y2.1 y2.2 da ea eal rar ral w0 w1 w2 w3 w4) := hD
  have hz := lett_z hz eba_4
  refine lv_aload_n hx hb d_Be_reset_17 rfl (lv_at hl 0 rfl) ?_
  refine lv_iconst (v := 0) hx hb d_Be_reset_18 (by decide) ?_
  refine pfI C hP hD hS 0 5 fkBe rfl (by decide) rfl qf_Be_45 rfl rfl rfl (Nat.le_of_ble_eq_true rfl) (ff := fun o => fBe qci qpa qrd qrs o) (sBe_5 _ _ _ _ _ _) d_Be_reset_19 (fun ba_5 eba_5 H locs hP hD hS => ?_)
  have hP : va_P g.1 vwCl (wBe g qbe qci qrd qrs qrsr ua qpa qpae qpar qpau qpab ba_5 y2.1 y2.2 da ea eal rar ral w0 w1 w2 w3 w4) H := hP
  have hD : va_D (inW (wBe g qbe qci qrd qrs qrsr ua qpa qpae qpar qpau qpab ba ca cal da ea eal rar ral w0 w1 w2 w3 w4)) (wBe g qbe qci qrd qrs qrsr ua qpa qpae qpar qpau qpab ba_5 y2.1 y2.2 da ea eal rar ral w0 w1 w2 w3 w4) := hD
  have hz := lett_z hz eba_5
  refine lv_aload_n hx hb d_Be_reset_22 rfl (lv_at hl 0 rfl) ?_
  refine gf C hP 0 6 fkBe rfl (by decide) rfl qf_Be_18 (gBe_6 _ _ _ _ _) d_Be_reset_23 ?_
  refine lv_iconst (v := 0) hx hb d_Be_reset_26 (by decide) ?_
  refine pfI C hP hD hS 3 1 fkRs rfl (by decide) rfl qf_Be_48 rfl rfl rfl (Nat.le_of_ble_eq_true rfl) (ff := fun o => fRs qrsr o eal) (sRs_1 _ _ _ _) d_Be_reset_27 (fun ea_6 eea_6 H locs hP hD hS => ?_)
  have hP : va_P g.1 vwCl (wBe g qbe qci qrd qrs qrsr ua qpa qpae qpar qpau qpab ba_5 y2.1 y2.2 da ea_6 eal rar ral w0 w1 w2 w3 w4) H := hP
  have hD : va_D (inW (wBe g qbe qci qrd qrs qrsr ua qpa qpae qpar qpau qpab ba ca cal da ea eal rar ral w0 w1 w2 w3 w4)) (wBe g qbe qci qrd qrs qrsr ua qpa qpae qpar qpau qpab ba_5 y2.1 y2.2 da ea_6 eal rar ral w0 w1 w2 w3 w4) := hD
  have hz := lett_z hz eea_6
  exact endV C hz hP hS d_Be_reset_30
abbrev rm_Pr_takeStep : Room := { frames := 6, cells := 0, slots := 0, locals := 129 }
def HL_Pr_takeStep_84 (p : Program) (l : Launch) (e : Env) (s : State) (m : MethodId) (args : Array Value) (below : List Frame) (meth : Method) (c : Code) (g : GX) (qpr : Nat) (qpro : Nat) (qprf : Nat) (qprs : Nat) (qprb : Nat) (qprn : Nat) (qprt : Nat) (qte : Nat) (qteb : Nat) (ws0 : va_W) (pi_6 : IV) (po_8 : IV) (y12 : IV × IV × IV) (pb : IV) (pn : IV) (pt : IV) (tb : IV) (v5 : Int32) (sp : (IV × IV × IV × IV × IV × IV)) (ok : Prop) : Prop := ∀ (_ : Unit), ok → ∀ z : (IV × IV × IV × IV × IV × IV), z = sp → ∀ (H : Heap) (locs : List Loc) (ls : Array Slot), va_P g.1 vwCl (wPr g qpr qpro qprf qprs qprb qprn qprt qte qteb pi_6 po_8 y12.1 y12.2.1 pb pn pt y12.2.2 tb) H → va_D (inW ws0) (wPr g qpr qpro qprf qprs qprb qprn qprt qte qteb pi_6 po_8 y12.1 y12.2.1 pb pn pt y12.2.2 tb) → va_S (inW ws0) s.heap H locs → lv_has ls 3 [(0, .ref qpr), (2, .int v5)] → W p l e rm_Pr_takeStep s m args below meth c H locs 0 0 (MQ below (CV g ws0 (fun u : IV × IV × IV × IV × IV × IV => wPr g qpr qpro qprf qprs qprb qprn qprt qte qteb u.1 u.2.1 u.2.2.1 u.2.2.2.1 pb u.2.2.2.2.1 pt u.2.2.2.2.2 tb) z) args s 0 0 (inW ws0)) (F0 m 84 ls [])
noncomputable def sp_Pr_takeStep_84 (v5 : Int32) (pi_6 : IV) (pn : IV) (y12 : IV × IV × IV) (tb : IV) (po_8 : IV)   : IV × IV × IV × IV × IV × IV := lett (sp_Pr_openBracket v5 pi_6 pn y12.2.2 tb) fun (y20 : IV × IV × IV) => (y20.1, po_8, y12.1, y12.2.1, y20.2.1, y20.2.2)
def ok_Pr_takeStep_84 (v5 : Int32) (pi_6 : IV) (pn : IV) (y12 : IV × IV × IV) (tb : IV) (po_8 : IV)    : Prop := (ok_Pr_openBracket v5 pi_6 pn y12.2.2 tb) ∧ True
set_option maxRecDepth 100000 in
set_option maxHeartbeats 4000000 in
theorem k_Pr_takeStep_84 {p : Program} {l : Launch} {e : Env} {s : State} {m : MethodId} {args : Array Value} {below : List Frame} {meth : Method} {c : Code} {g : GX} {qpr : Nat} {qpro : Nat} {qprf : Nat} {qprs : Nat} {qprb : Nat} {qprn : Nat} {qprt : Nat} {qte : Nat} {qteb : Nat} {ws0 : va_W} {pi_6 : IV} {po_8 : IV} {y12 : IV × IV × IV} {pb : IV} {pn : IV} {pt : IV} {tb : IV} {v5 : Int32}  (C : Cx p s m args meth c (inW ws0) g "DecadeBridge$Protocol" b_Pr_takeStep none 3)  : HL_Pr_takeStep_84 p l e s m args below meth c g qpr qpro qprf qprs qprb qprn qprt qte qteb ws0 pi_6 po_8 y12 pb pn pt tb v5 (sp_Pr_takeStep_84 v5 pi_6 pn y12 tb po_8 ) (ok_Pr_takeStep_84 v5 pi_6 pn y12 tb po_8  ) := by
  intro _ hok z hz H locs ls hP hD hS hl
  obtain ⟨hx, hb, hr, hml, hown, hlk, hts, hK, hZo, hZ⟩ := id C
  unfold sp_Pr_takeStep_84 at hz
  unfold ok_Pr_takeStep_84 at hok
  refine lv_aload_n hx hb d_Pr_takeStep_84 rfl (lv_at hl 0 rfl) ?_
  refine lv_iload_n hx hb d_Pr_takeStep_85 rfl (lv_at hl 1 rfl) ?_
  have hs19 := hok.1
  have hok := hok.2
  have hB : SubW g (inW ws0) s (wPr g qpr qpro qprf qprs qprb qprn qprt qte qteb pi_6 po_8 y12.1 y12.2.1 pb pn pt y12.2.2 tb) _ (List.range _) _ _ := (subF hP hD hS)
  refine goVF hB (run_v C mf_Pr_openBracket qm_Pr_81 (c_Pr_openBracket l g qpr qpro qprf qprs qprb qprn qprt qte qteb pi_6 po_8 y12.1 y12.2.1 pb pn pt y12.2.2 tb v5 hs19) rfl rfl ⟨Nat.le_of_ble_eq_true rfl, Nat.le_of_ble_eq_true rfl⟩ ⟨Nat.le_of_ble_eq_true rfl, Nat.le_of_ble_eq_true rfl⟩ hB rfl rfl hl rfl rfl (Nat.le_of_ble_eq_true rfl) d_Pr_takeStep_86) (fun _ => rfl) (fun y20 ey20 H locs hP hD hS => ?_)
  have hP : va_P g.1 vwCl (wPr g qpr qpro qprf qprs qprb qprn qprt qte qteb y20.1 po_8 y12.1 y12.2.1 pb y20.2.1 pt y20.2.2 tb) H := hP
  have hD : va_D (inW ws0) (wPr g qpr qpro qprf qprs qprb qprn qprt qte qteb y20.1 po_8 y12.1 y12.2.1 pb y20.2.1 pt y20.2.2 tb) := hD
  have hz := lett_z hz ey20
  refine lv_goto (tgt := 101) hx hb d_Pr_takeStep_89 (by decide) ?_
  exact endV C hz hP hS d_Pr_takeStep_101
noncomputable def sp_Pr_takeStep (pi : IV) (po : IV) (pf : IV) (ps : IV) (pn : IV) (t : IV) (tb : IV) : IV × IV × IV × IV × IV × IV := lett (sp_Pr_orderHere t tb) fun (y2 : Int32) => if y2 = (-1 : Int32) then (lett (sp_Te_fail (1 : Int32) t) fun (y18 : IV) => (pi, po, pf, ps, pn, y18)) else (if (pi 7) < (30 : Int32) then (lett (pi 7) fun (v5 : Int32) => lett (upd pi 7 ((pi 7) + (1 : Int32))) fun (pi_6 : IV) => lett (upd po v5.toNatClampNeg y2) fun (po_8 : IV) => lett (sp_Te_advance t tb) fun (y10 : IV) => lett (sp_Pr_takeNumbers v5 y2 pf ps y10 tb) fun (y12 : IV × IV × IV) => if y2 = (8 : Int32) then (sp_Pr_takeStep_84 v5 pi_6 pn y12 tb po_8) else (if y2 = (9 : Int32) then (sp_Pr_takeStep_84 v5 pi_6 pn y12 tb po_8) else (lett (sp_Te_takeSign (59 : Int32) y12.2.2 tb) fun (y16 : IV) => (pi_6, po_8, y12.1, y12.2.1, pn, y16)))) else (lett (sp_Te_fail (4 : Int32) t) fun (y17 : IV) => (pi, po, pf, ps, pn, y17)))
def ok_Pr_takeStep (pi : IV) (po : IV) (pf : IV) (ps : IV) (pn : IV) (t : IV) (tb : IV) : Prop := (ok_Pr_orderHere t tb) ∧ lett (sp_Pr_orderHere t tb) fun (y2 : Int32) => ((y2 = (-1 : Int32) → True) ∧ (¬ (y2 = (-1 : Int32)) → (((pi 7) < (30 : Int32) → lett (pi 7) fun (v5 : Int32) => lett (upd pi 7 ((pi 7) + (1 : Int32))) fun (pi_6 : IV) => (vp_in v5 30) ∧ lett (upd po v5.toNatClampNeg y2) fun (po_8 : IV) => (ok_Te_advance t tb) ∧ lett (sp_Te_advance t tb) fun (y10 : IV) => (ok_Pr_takeNumbers v5 y2 pf ps y10 tb) ∧ lett (sp_Pr_takeNumbers v5 y2 pf ps y10 tb) fun (y12 : IV × IV × IV) => ((y2 = (8 : Int32) → ok_Pr_takeStep_84 v5 pi_6 pn y12 tb po_8) ∧ (¬ (y2 = (8 : Int32)) → ((y2 = (9 : Int32) → ok_Pr_takeStep_84 v5 pi_6 pn y12 tb po_8) ∧ (¬ (y2 = (9 : Int32)) → (ok_Te_takeSign (59 : Int32) y12.2.2 tb) ∧ True))))) ∧ (¬ ((pi 7) < (30 : Int32)) → True))))
set_option maxRecDepth 100000 in
set_option maxHeartbeats 4000000 in
theorem c_Pr_takeStep (l : Launch) (g : GX) (qpr : Nat) (qpro : Nat) (qprf : Nat) (qprs : Nat) (qprb : Nat) (qprn : Nat) (qprt : Nat) (qte : Nat) (qteb : Nat) (pi : IV) (po : IV) (pf : IV) (ps : IV) (pb : IV) (pn : IV) (pt : IV) (t : IV) (tb : IV)  (hok : ok_Pr_takeStep pi po pf ps pn t tb) : Met l y_Pr_takeStep (wsY y_Pr_takeStep b_Pr_takeStep 3 none) rm_Pr_takeStep (CP g [.ref qpr] (wPr g qpr qpro qprf qprs qprb qprn qprt qte qteb pi po pf ps pb pn pt t tb)) (CV g (wPr g qpr qpro qprf qprs qprb qprn qprt qte qteb pi po pf ps pb pn pt t tb) (fun u : IV × IV × IV × IV × IV × IV => wPr g qpr qpro qprf qprs qprb qprn qprt qte qteb u.1 u.2.1 u.2.2.1 u.2.2.2.1 pb u.2.2.2.2.1 pt u.2.2.2.2.2 tb) (sp_Pr_takeStep pi po pf ps pn t tb)) 0 0 (inW (wPr g qpr qpro qprf qprs qprb qprn qprt qte qteb pi po pf ps pb pn pt t tb)) := by
  refine Met.ofW (cc := b_Pr_takeStep) (maxL := 3) (ret := none) pn_Pr rfl ?_
  intro p e s m args below meth c s₁ B hml hv
  obtain ⟨rfl, C, hP, hD, hS⟩ := enter "DecadeBridge$Protocol" rfl B hml hv
  obtain ⟨hx, hb, hr, hml, hown, hlk, hts, hK, hZo, hZ⟩ := id C
  refine entryW (lv := [(0, .ref qpr)]) rfl (Nat.le_of_ble_eq_true rfl) (fun ls hl => ?_)
  obtain ⟨z, hz⟩ : ∃ z, z = sp_Pr_takeStep pi po pf ps pn t tb := ⟨_, rfl⟩
  rw [← hz]
  unfold sp_Pr_takeStep at hz
  unfold ok_Pr_takeStep at hok
  refine lv_aload_n hx hb d_Pr_takeStep_0 rfl (lv_at hl 0 rfl) ?_
  have hs1 := hok.1
  have hok := hok.2
  have hB : SubW g (inW (wPr g qpr qpro qprf qprs qprb qprn qprt qte qteb pi po pf ps pb pn pt t tb)) s (wPr g qpr qpro qprf qprs qprb qprn qprt qte qteb pi po pf ps pb pn pt t tb) _ (List.range _) _ _ := (subF hP hD hS)
  refine goI0 hB (run_v C mf_Pr_orderHere qm_Pr_70 (c_Pr_orderHere l g qpr qpro qprf qprs qprb qprn qprt qte qteb pi po pf ps pb pn pt t tb hs1) rfl rfl ⟨Nat.le_of_ble_eq_true rfl, Nat.le_of_ble_eq_true rfl⟩ ⟨Nat.le_of_ble_eq_true rfl, Nat.le_of_ble_eq_true rfl⟩ hB rfl rfl hl rfl rfl (Nat.le_of_ble_eq_true rfl) d_Pr_takeStep_1) (fun y2 ey2 H locs hP hS => ?_)
  have hz := lett_z hz ey2
  have hok := lett_o hok ey2
  refine lv_istore_n (lv' := [(1, .int y2), (0, .ref qpr)]) hx hb d_Pr_takeStep_4 rfl hl (by decide) rfl (fun ls hl => ?_)
  refine lv_iload_n hx hb d_Pr_takeStep_5 rfl (lv_at hl 0 rfl) ?_
  refine lv_iconst (v := -1) hx hb d_Pr_takeStep_6 (by decide) ?_
  refine lv_icmp_ne (tgt := 19) hx hb d_Pr_takeStep_7 (by decide) (fun c3 => ?_) (fun c3 => ?_)
  · have hz := hz.trans (if_neg c3)
    have hok := hok.2 c3
    refine lv_aload_n hx hb d_Pr_takeStep_19 rfl (lv_at hl 1 rfl) ?_
    refine gf C hP 0 7 fkPr rfl (by decide) rfl qf_Pr_38 (gPr_7 _ _ _ _ _ _ _ _) d_Pr_takeStep_20 ?_
    refine lv_bipush (v := 30) hx hb d_Pr_takeStep_23 (by decide) ?_
    refine lv_icmp_lt (tgt := 37) hx hb d_Pr_takeStep_25 (by decide) (fun c4 => ?_) (fun c4 => ?_)
    · have hz := hz.trans (if_pos c4)
      have hok := hok.1 c4
      refine lv_aload_n hx hb d_Pr_takeStep_37 rfl (lv_at hl 1 rfl) ?_
      refine gf C hP 0 7 fkPr rfl (by decide) rfl qf_Pr_38 (gPr_7 _ _ _ _ _ _ _ _) d_Pr_takeStep_38 ?_
      refine lv_topi (fun v5 ev5 => ?_)
      have hz := lett_z hz ev5
      have hok := lett_o hok ev5
      refine lv_istore_n (lv' := [(2, .int v5), (1, .int y2), (0, .ref qpr)]) hx hb d_Pr_takeStep_41 rfl hl (by decide) rfl (fun ls hl => ?_)
      refine lv_aload_n hx hb d_Pr_takeStep_42 rfl (lv_at hl 2 rfl) ?_
      refine lv_dup hx hb d_Pr_takeStep_43 rfl ?_
      refine gf C hP 0 7 fkPr rfl (by decide) rfl qf_Pr_38 (gPr_7 _ _ _ _ _ _ _ _) d_Pr_takeStep_44 ?_
      refine lv_iconst (v := 1) hx hb d_Pr_takeStep_47 (by decide) ?_
      refine lv_iadd hx hb d_Pr_takeStep_48 ?_
      refine pfI C hP hD hS 0 7 fkPr rfl (by decide) rfl qf_Pr_38 rfl rfl rfl (Nat.le_of_ble_eq_true rfl) (ff := fun o => fPr qte qpro qprf qprs qprb qprn qprt o) (sPr_7 _ _ _ _ _ _ _ _ _) d_Pr_takeStep_49 (fun pi_6 epi_6 H locs hP hD hS => ?_)
      have hP : va_P g.1 vwCl (wPr g qpr qpro qprf qprs qprb qprn qprt qte qteb pi_6 po pf ps pb pn pt t tb) H := hP
      have hD : va_D (inW (wPr g qpr qpro qprf qprs qprb qprn qprt qte qteb pi po pf ps pb pn pt t tb)) (wPr g qpr qpro qprf qprs qprb qprn qprt qte qteb pi_6 po pf ps pb pn pt t tb) := hD
      have hz := lett_z hz epi_6
      have hok := lett_o hok epi_6
      refine lv_aload_n hx hb d_Pr_takeStep_52 rfl (lv_at hl 2 rfl) ?_
      refine gf C hP 0 1 fkPr rfl (by decide) rfl qf_Pr_11 (gPr_1 _ _ _ _ _ _ _ _) d_Pr_takeStep_53 ?_
      refine lv_iload_n hx hb d_Pr_takeStep_56 rfl (lv_at hl 0 rfl) ?_
      refine lv_iload_n hx hb d_Pr_takeStep_57 rfl (lv_at hl 1 rfl) ?_
      have hs7 := hok.1
      have hok := hok.2
      refine stI C hP hD hS 1 rfl hs7 rfl d_Pr_takeStep_58 (fun po_8 epo_8 H locs hP hD hS => ?_)
      have hP : va_P g.1 vwCl (wPr g qpr qpro qprf qprs qprb qprn qprt qte qteb pi_6 po_8 pf ps pb pn pt t tb) H := hP
      have hD : va_D (inW (wPr g qpr qpro qprf qprs qprb qprn qprt qte qteb pi po pf ps pb pn pt t tb)) (wPr g qpr qpro qprf qprs qprb qprn qprt qte qteb pi_6 po_8 pf ps pb pn pt t tb) := hD
      have hz := lett_z hz epo_8
      have hok := lett_o hok epo_8
      refine lv_aload_n hx hb d_Pr_takeStep_59 rfl (lv_at hl 2 rfl) ?_
      refine gf C hP 0 0 fkPr rfl (by decide) rfl qf_Pr_30 (gPr_0 _ _ _ _ _ _ _ _) d_Pr_takeStep_60 ?_
      have hs9 := hok.1
      have hok := hok.2
      have hB : SubW g (inW (wPr g qpr qpro qprf qprs qprb qprn qprt qte qteb pi po pf ps pb pn pt t tb)) s (wPr g qpr qpro qprf qprs qprb qprn qprt qte qteb pi_6 po_8 pf ps pb pn pt t tb) (wTe g qte qteb t tb) [7, 8] _ _ := ⟨rfl, rfl, hP, hD, hS⟩
      refine goV1 hB (run_v C mf_Te_advance qm_Pr_74 (c_Te_advance l g qte qteb t tb hs9) rfl rfl ⟨Nat.le_of_ble_eq_true rfl, Nat.le_of_ble_eq_true rfl⟩ ⟨Nat.le_of_ble_eq_true rfl, Nat.le_of_ble_eq_true rfl⟩ hB rfl rfl hl rfl rfl (Nat.le_of_ble_eq_true rfl) d_Pr_takeStep_63) (fun _ => rfl) (fun y10 ey10 H locs hP hD hS => ?_)
      have hP : va_P g.1 vwCl (wPr g qpr qpro qprf qprs qprb qprn qprt qte qteb pi_6 po_8 pf ps pb pn pt y10 tb) H := cP (spq hB.1 hB.2.1 [0, 1, 2, 3, 4, 5, 6] 9 rfl rfl (by decide +kernel) rfl) hP
      have hD : va_D (inW (wPr g qpr qpro qprf qprs qprb qprn qprt qte qteb pi po pf ps pb pn pt t tb)) (wPr g qpr qpro qprf qprs qprb qprn qprt qte qteb pi_6 po_8 pf ps pb pn pt y10 tb) := cD (spq hB.1 hB.2.1 [0, 1, 2, 3, 4, 5, 6] 9 rfl rfl (by decide +kernel) rfl) hD
      have hz := lett_z hz ey10
      have hok := lett_o hok ey10
      refine lv_aload_n hx hb d_Pr_takeStep_66 rfl (lv_at hl 2 rfl) ?_
      refine lv_iload_n hx hb d_Pr_takeStep_67 rfl (lv_at hl 0 rfl) ?_
      refine lv_iload_n hx hb d_Pr_takeStep_68 rfl (lv_at hl 1 rfl) ?_
      have hs11 := hok.1
      have hok := hok.2
      have hB : SubW g (inW (wPr g qpr qpro qprf qprs qprb qprn qprt qte qteb pi po pf ps pb pn pt t tb)) s (wPr g qpr qpro qprf qprs qprb qprn qprt qte qteb pi_6 po_8 pf ps pb pn pt y10 tb) _ (List.range _) _ _ := (subF hP hD hS)
      refine goVF hB (run_v C mf_Pr_takeNumbers qm_Pr_77 (c_Pr_takeNumbers l g qpr qpro qprf qprs qprb qprn qprt qte qteb pi_6 po_8 pf ps pb pn pt y10 tb v5 y2 hs11) rfl rfl ⟨Nat.le_of_ble_eq_true rfl, Nat.le_of_ble_eq_true rfl⟩ ⟨Nat.le_of_ble_eq_true rfl, Nat.le_of_ble_eq_true rfl⟩ hB rfl rfl hl rfl rfl (Nat.le_of_ble_eq_true rfl) d_Pr_takeStep_69) (fun _ => rfl) (fun y12 ey12 H locs hP hD hS => ?_)
      have hP : va_P g.1 vwCl (wPr g qpr qpro qprf qprs qprb qprn qprt qte qteb pi_6 po_8 y12.1 y12.2.1 pb pn pt y12.2.2 tb) H := hP
      have hD : va_D (inW (wPr g qpr qpro qprf qprs qprb qprn qprt qte qteb pi po pf ps pb pn pt t tb)) (wPr g qpr qpro qprf qprs qprb qprn qprt qte qteb pi_6 po_8 y12.1 y12.2.1 pb pn pt y12.2.2 tb) := hD
      have hz := lett_z hz ey12
      have hok := lett_o hok ey12
      refine lv_iload_n hx hb d_Pr_takeStep_72 rfl (lv_at hl 1 rfl) ?_
      refine lv_bipush (v := 8) hx hb d_Pr_takeStep_73 (by decide) ?_
      refine lv_icmp_eq (tgt := 84) hx hb d_Pr_takeStep_75 (by decide) (fun c13 => ?_) (fun c13 => ?_)
      · have hz := hz.trans (if_pos c13)
        have hok := hok.1 c13
        exact k_Pr_takeStep_84 C () hok _ hz _ _ ls hP hD hS (lv_sub hl [2, 0] rfl)
      · have hz := hz.trans (if_neg c13)
        have hok := hok.2 c13
        refine lv_iload_n hx hb d_Pr_takeStep_78 rfl (lv_at hl 1 rfl) ?_
        refine lv_bipush (v := 9) hx hb d_Pr_takeStep_79 (by decide) ?_
        refine lv_icmp_ne (tgt := 92) hx hb d_Pr_takeStep_81 (by decide) (fun c14 => ?_) (fun c14 => ?_)
        · have hz := hz.trans (if_neg c14)
          have hok := hok.2 c14
          refine lv_aload_n hx hb d_Pr_takeStep_92 rfl (lv_at hl 2 rfl) ?_
          refine gf C hP 0 0 fkPr rfl (by decide) rfl qf_Pr_30 (gPr_0 _ _ _ _ _ _ _ _) d_Pr_takeStep_93 ?_
          refine lv_bipush (v := 59) hx hb d_Pr_takeStep_96 (by decide) ?_
          have hs15 := hok.1
          have hok := hok.2
          have hB : SubW g (inW (wPr g qpr qpro qprf qprs qprb qprn qprt qte qteb pi po pf ps pb pn pt t tb)) s (wPr g qpr qpro qprf qprs qprb qprn qprt qte qteb pi_6 po_8 y12.1 y12.2.1 pb pn pt y12.2.2 tb) (wTe g qte qteb y12.2.2 tb) [7, 8] _ _ := ⟨rfl, rfl, hP, hD, hS⟩
          refine goV1 hB (run_v C mf_Te_takeSign qm_Pr_66 (c_Te_takeSign l g qte qteb y12.2.2 tb (59 : Int32) hs15) rfl rfl ⟨Nat.le_of_ble_eq_true rfl, Nat.le_of_ble_eq_true rfl⟩ ⟨Nat.le_of_ble_eq_true rfl, Nat.le_of_ble_eq_true rfl⟩ hB rfl rfl hl rfl rfl (Nat.le_of_ble_eq_true rfl) d_Pr_takeStep_98) (fun _ => rfl) (fun y16 ey16 H locs hP hD hS => ?_)
          have hP : va_P g.1 vwCl (wPr g qpr qpro qprf qprs qprb qprn qprt qte qteb pi_6 po_8 y12.1 y12.2.1 pb pn pt y16 tb) H := cP (spq hB.1 hB.2.1 [0, 1, 2, 3, 4, 5, 6] 9 rfl rfl (by decide +kernel) rfl) hP
          have hD : va_D (inW (wPr g qpr qpro qprf qprs qprb qprn qprt qte qteb pi po pf ps pb pn pt t tb)) (wPr g qpr qpro qprf qprs qprb qprn qprt qte qteb pi_6 po_8 y12.1 y12.2.1 pb pn pt y16 tb) := cD (spq hB.1 hB.2.1 [0, 1, 2, 3, 4, 5, 6] 9 rfl rfl (by decide +kernel) rfl) hD
          have hz := lett_z hz ey16
          exact endV C hz hP hS d_Pr_takeStep_101
        · have hz := hz.trans (if_pos c14)
          have hok := hok.1 c14
          exact k_Pr_takeStep_84 C () hok _ hz _ _ ls hP hD hS (lv_sub hl [2, 0] rfl)
    · have hz := hz.trans (if_neg c4)
      refine lv_aload_n hx hb d_Pr_takeStep_28 rfl (lv_at hl 1 rfl) ?_
      refine gf C hP 0 0 fkPr rfl (by decide) rfl qf_Pr_30 (gPr_0 _ _ _ _ _ _ _ _) d_Pr_takeStep_29 ?_
      refine lv_iconst (v := 4) hx hb d_Pr_takeStep_32 (by decide) ?_
      have hB : SubW g (inW (wPr g qpr qpro qprf qprs qprb qprn qprt qte qteb pi po pf ps pb pn pt t tb)) s (wPr g qpr qpro qprf qprs qprb qprn qprt qte qteb pi po pf ps pb pn pt t tb) (wTe g qte qteb t tb) [7, 8] _ _ := ⟨rfl, rfl, hP, hD, hS⟩
      refine goV1 hB (run_v C mf_Te_fail qm_Pr_62 (c_Te_fail l g qte qteb t tb (4 : Int32)) rfl rfl ⟨Nat.le_of_ble_eq_true rfl, Nat.le_of_ble_eq_true rfl⟩ ⟨Nat.le_of_ble_eq_true rfl, Nat.le_of_ble_eq_true rfl⟩ hB rfl rfl hl rfl rfl (Nat.le_of_ble_eq_true rfl) d_Pr_takeStep_33) (fun _ => rfl) (fun y17 ey17 H locs hP hD hS => ?_)
      have hP : va_P g.1 vwCl (wPr g qpr qpro qprf qprs qprb qprn qprt qte qteb pi po pf ps pb pn pt y17 tb) H := cP (spq hB.1 hB.2.1 [0, 1, 2, 3, 4, 5, 6] 9 rfl rfl (by decide +kernel) rfl) hP
      have hD : va_D (inW (wPr g qpr qpro qprf qprs qprb qprn qprt qte qteb pi po pf ps pb pn pt t tb)) (wPr g qpr qpro qprf qprs qprb qprn qprt qte qteb pi po pf ps pb pn pt y17 tb) := cD (spq hB.1 hB.2.1 [0, 1, 2, 3, 4, 5, 6] 9 rfl rfl (by decide +kernel) rfl) hD
      have hz := lett_z hz ey17
      exact endV C hz hP hS d_Pr_takeStep_36
  · have hz := hz.trans (if_pos c3)
    refine lv_aload_n hx hb d_Pr_takeStep_10 rfl (lv_at hl 1 rfl) ?_
    refine gf C hP 0 0 fkPr rfl (by decide) rfl qf_Pr_30 (gPr_0 _ _ _ _ _ _ _ _) d_Pr_takeStep_11 ?_
    refine lv_iconst (v := 1) hx hb d_Pr_takeStep_14 (by decide) ?_
    have hB : SubW g (inW (wPr g qpr qpro qprf qprs qprb qprn qprt qte qteb pi po pf ps pb pn pt t tb)) s (wPr g qpr qpro qprf qprs qprb qprn qprt qte qteb pi po pf ps pb pn pt t tb) (wTe g qte qteb t tb) [7, 8] _ _ := ⟨rfl, rfl, hP, hD, hS⟩
    refine goV1 hB (run_v C mf_Te_fail qm_Pr_62 (c_Te_fail l g qte qteb t tb (1 : Int32)) rfl rfl ⟨Nat.le_of_ble_eq_true rfl, Nat.le_of_ble_eq_true rfl⟩ ⟨Nat.le_of_ble_eq_true rfl, Nat.le_of_ble_eq_true rfl⟩ hB rfl rfl hl rfl rfl (Nat.le_of_ble_eq_true rfl) d_Pr_takeStep_15) (fun _ => rfl) (fun y18 ey18 H locs hP hD hS => ?_)
    have hP : va_P g.1 vwCl (wPr g qpr qpro qprf qprs qprb qprn qprt qte qteb pi po pf ps pb pn pt y18 tb) H := cP (spq hB.1 hB.2.1 [0, 1, 2, 3, 4, 5, 6] 9 rfl rfl (by decide +kernel) rfl) hP
    have hD : va_D (inW (wPr g qpr qpro qprf qprs qprb qprn qprt qte qteb pi po pf ps pb pn pt t tb)) (wPr g qpr qpro qprf qprs qprb qprn qprt qte qteb pi po pf ps pb pn pt y18 tb) := cD (spq hB.1 hB.2.1 [0, 1, 2, 3, 4, 5, 6] 9 rfl rfl (by decide +kernel) rfl) hD
    have hz := lett_z hz ey18
    exact endV C hz hP hS d_Pr_takeStep_18
abbrev rm_Re_write : Room := { frames := 3, cells := 0, slots := 0, locals := 70 }
def HL_Re_write_7 (p : Program) (l : Launch) (e : Env) (s : State) (m : MethodId) (args : Array Value) (below : List Frame) (meth : Method) (c : Code) (g : GX) (qre : Nat) (qreb : Nat) (qrs : Nat) (qrsr : Nat) (uR : Nat → Nat) (ws0 : va_W) (ra : IV) (ral : LV) (rr : NI) (rl : NL) (p2 : Int32) (sp : Int32 → IV → IV → (IV × IV)) (ok : Int32 → IV → IV → Prop) : Prop := ∀ (x3p7 : Int32) (revp7 : IV) (rbp7 : IV), ok x3p7 revp7 rbp7 → ∀ z : (IV × IV), z = sp x3p7 revp7 rbp7 → ∀ (H : Heap) (locs : List Loc) (ls : Array Slot), va_P g.1 vwCl (wReS g qre qreb qrs qrsr uR revp7 rbp7 ra ral rr rl) H → va_D (inW ws0) (wReS g qre qreb qrs qrsr uR revp7 rbp7 ra ral rr rl) → va_S (inW ws0) s.heap H locs → lv_has ls 5 [(0, .ref qre), (1, .ref qrs), (2, .int p2), (3, .int x3p7)] → W p l e rm_Re_write s m args below meth c H locs 0 0 (MQ below (CV g ws0 (fun u : IV × IV => wReS g qre qreb qrs qrsr uR u.1 u.2 ra ral rr rl) z) args s 0 0 (inW ws0)) (F0 m 7 ls [])
def HL_Re_write_34 (p : Program) (l : Launch) (e : Env) (s : State) (m : MethodId) (args : Array Value) (below : List Frame) (meth : Method) (c : Code) (g : GX) (qre : Nat) (qreb : Nat) (qrs : Nat) (qrsr : Nat) (uR : Nat → Nat) (ws0 : va_W) (ra : IV) (ral : LV) (rr : NI) (rl : NL) (p2 : Int32) (x3p7 : Int32) (sp : IV → IV → (IV × IV)) (ok : IV → IV → Prop) : Prop := ∀ (revp34 : IV) (rbp34 : IV), ok revp34 rbp34 → ∀ z : (IV × IV), z = sp revp34 rbp34 → ∀ (H : Heap) (locs : List Loc) (ls : Array Slot), va_P g.1 vwCl (wReS g qre qreb qrs qrsr uR revp34 rbp34 ra ral rr rl) H → va_D (inW ws0) (wReS g qre qreb qrs qrsr uR revp34 rbp34 ra ral rr rl) → va_S (inW ws0) s.heap H locs → lv_has ls 5 [(0, .ref qre), (1, .ref qrs), (2, .int p2), (3, .int x3p7)] → W p l e rm_Re_write s m args below meth c H locs 0 0 (MQ below (CV g ws0 (fun u : IV × IV => wReS g qre qreb qrs qrsr uR u.1 u.2 ra ral rr rl) z) args s 0 0 (inW ws0)) (F0 m 34 ls [])
noncomputable def sp_Re_write_34 (x3p7 : Int32) (r7 : Int32 → IV → IV → (IV × IV)) (revp34 : IV) (rbp34 : IV) : IV × IV := lett (x3p7 + (1 : Int32)) fun (v7 : Int32) => r7 v7 revp34 rbp34
def ok_Re_write_34 (x3p7 : Int32) (r7 : Int32 → IV → IV → (IV × IV)) (q7 : Int32 → IV → IV → Prop) (revp34 : IV) (rbp34 : IV) : Prop := lett (x3p7 + (1 : Int32)) fun (v7 : Int32) => q7 v7 revp34 rbp34
set_option maxRecDepth 100000 in
set_option maxHeartbeats 4000000 in
theorem k_Re_write_34 {p : Program} {l : Launch} {e : Env} {s : State} {m : MethodId} {args : Array Value} {below : List Frame} {meth : Method} {c : Code} {g : GX} {qre : Nat} {qreb : Nat} {qrs : Nat} {qrsr : Nat} {uR : Nat → Nat} {ws0 : va_W} {ra : IV} {ral : LV} {rr : NI} {rl : NL} {p2 : Int32} {x3p7 : Int32} {r7 : Int32 → IV → IV → (IV × IV)} {q7 : Int32 → IV → IV → Prop} (C : Cx p s m args meth c (inW ws0) g "DecadeBridge$Report" b_Re_write none 5) (ih7 : HL_Re_write_7 p l e s m args below meth c g qre qreb qrs qrsr uR ws0 ra ral rr rl p2 r7 q7) : HL_Re_write_34 p l e s m args below meth c g qre qreb qrs qrsr uR ws0 ra ral rr rl p2 x3p7 (sp_Re_write_34 x3p7 r7) (ok_Re_write_34 x3p7 r7 q7) := by
  intro revp34 rbp34 hok z hz H locs ls hP hD hS hl
  obtain ⟨hx, hb, hr, hml, hown, hlk, hts, hK, hZo, hZ⟩ := id C
  unfold sp_Re_write_34 at hz
  unfold ok_Re_write_34 at hok
  obtain ⟨v7, ev7⟩ : ∃ y : Int32, y = x3p7 + (1 : Int32) := ⟨_, rfl⟩
  have hz := lett_z hz ev7
  have hok := lett_o hok ev7
  refine lv_iinc (v := v7) (lv' := [(3, .int v7), (0, .ref qre), (1, .ref qrs), (2, .int p2)]) hx hb d_Re_write_34 hl (k := 3) rfl (by rw [ev7]; rfl) (by decide) rfl (fun ls hl => ?_)
  refine lv_goto (tgt := 7) hx hb d_Re_write_37 (by decide) ?_
  exact ih7 v7 revp34 rbp34 hok _ hz _ _ ls hP hD hS (lv_sub hl [1, 2, 3, 0] rfl)
noncomputable def bd_Re_write_7 (ra : IV) (p2 : Int32) (rr : NI) (rl : NL) (r7 : Int32 → IV → IV → (IV × IV)) (x3p7 : Int32) (revp7 : IV) (rbp7 : IV) : IV × IV := if (ra 1) ≤ x3p7 then ((revp7, rbp7)) else (lett (sp_Rs_at x3p7 ra) fun (y3 : Option Nat) => optt y3 (sp_Re_write_34 x3p7 r7 revp7 rbp7) (fun (k4 : Nat) => lett (sp_Re_addLine k4 p2 revp7 rbp7 rr rl) fun (y6 : IV × IV) => sp_Re_write_34 x3p7 r7 y6.1 y6.2))
def okb_Re_write_7 (ra : IV) (p2 : Int32) (rr : NI) (rl : NL) (r7 : Int32 → IV → IV → (IV × IV)) (q7 : Int32 → IV → IV → Prop) (x3p7 : Int32) (revp7 : IV) (rbp7 : IV) : Prop := (((ra 1) ≤ x3p7 → True) ∧ (¬ ((ra 1) ≤ x3p7) → lett (sp_Rs_at x3p7 ra) fun (y3 : Option Nat) => ((y3 = none → ok_Re_write_34 x3p7 r7 q7 revp7 rbp7) ∧ (∀ k4 : Nat, y3 = some k4 → (ok_Re_addLine k4 p2 revp7 rbp7 rr rl) ∧ lett (sp_Re_addLine k4 p2 revp7 rbp7 rr rl) fun (y6 : IV × IV) => ok_Re_write_34 x3p7 r7 q7 y6.1 y6.2))))
noncomputable def sp_Re_write_7 (ra : IV) (p2 : Int32) (rr : NI) (rl : NL)  : Nat → Int32 → IV → IV → (IV × IV)
  | 0 => fun _ _ _ => default
  | f + 1 => bd_Re_write_7 ra p2 rr rl  (sp_Re_write_7 ra p2 rr rl  f)
def ok_Re_write_7 (ra : IV) (p2 : Int32) (rr : NI) (rl : NL)   : Nat → Int32 → IV → IV → Prop
  | 0 => fun _ _ _ => False
  | f + 1 => okb_Re_write_7 ra p2 rr rl  (sp_Re_write_7 ra p2 rr rl  f)  (ok_Re_write_7 ra p2 rr rl   f)
set_option maxRecDepth 100000 in
set_option maxHeartbeats 4000000 in
theorem kb_Re_write_7 {p : Program} {l : Launch} {e : Env} {s : State} {m : MethodId} {args : Array Value} {below : List Frame} {meth : Method} {c : Code} {g : GX} {qre : Nat} {qreb : Nat} {qrs : Nat} {qrsr : Nat} {uR : Nat → Nat} {ws0 : va_W} {ra : IV} {ral : LV} {rr : NI} {rl : NL} {p2 : Int32}  (C : Cx p s m args meth c (inW ws0) g "DecadeBridge$Report" b_Re_write none 5) {r7 : Int32 → IV → IV → (IV × IV)} {q7 : Int32 → IV → IV → Prop}  (ih7 : HL_Re_write_7 p l e s m args below meth c g qre qreb qrs qrsr uR ws0 ra ral rr rl p2 r7 q7) : HL_Re_write_7 p l e s m args below meth c g qre qreb qrs qrsr uR ws0 ra ral rr rl p2 (bd_Re_write_7 ra p2 rr rl  r7) (okb_Re_write_7 ra p2 rr rl  r7  q7) := by
  intro x3p7 revp7 rbp7 hok z hz H locs ls hP hD hS hl
  obtain ⟨hx, hb, hr, hml, hown, hlk, hts, hK, hZo, hZ⟩ := id C
  unfold bd_Re_write_7 at hz
  unfold okb_Re_write_7 at hok
  refine lv_iload_n hx hb d_Re_write_7 rfl (lv_at hl 3 rfl) ?_
  refine lv_aload_n hx hb d_Re_write_8 rfl (lv_at hl 1 rfl) ?_
  refine gf C hP 2 1 fkRs rfl (by decide) rfl qf_Re_19 (gRs_1 _ _ _) d_Re_write_9 ?_
  refine lv_icmp_ge (tgt := 40) hx hb d_Re_write_12 (by decide) (fun c2 => ?_) (fun c2 => ?_)
  · have hz := hz.trans (if_pos c2)
    exact endV C hz hP hS d_Re_write_40
  · have hz := hz.trans (if_neg c2)
    have hok := hok.2 c2
    refine lv_aload_n hx hb d_Re_write_15 rfl (lv_at hl 1 rfl) ?_
    refine lv_iload_n hx hb d_Re_write_16 rfl (lv_at hl 3 rfl) ?_
    have hB : SubW g (inW ws0) s (wReS g qre qreb qrs qrsr uR revp7 rbp7 ra ral rr rl) (wRs g qrs qrsr uR ra ral rr rl) [2, 3, 4, 5, 6, 7, 8, 9, 10, 11, 12, 13, 14, 15, 16, 17, 18, 19, 20, 21, 22, 23] _ _ := ⟨rfl, rfl, hP, hD, hS⟩
    refine goO0 hB (run_v C mf_Rs_at qm_Re_24 (c_Rs_at l g qrs qrsr uR ra ral rr rl x3p7) rfl rfl ⟨Nat.le_of_ble_eq_true rfl, Nat.le_of_ble_eq_true rfl⟩ ⟨Nat.le_of_ble_eq_true rfl, Nat.le_of_ble_eq_true rfl⟩ hB rfl rfl hl rfl rfl (Nat.le_of_ble_eq_true rfl) d_Re_write_17) (fun y3 ey3 H locs hP hS => ?_)
    have hz := lett_z hz ey3
    have hok := lett_o hok ey3
    refine lv_astoreQ (Rf := uR) (o := y3) (lv' := [(4, va_rf (Option.map uR y3)), (0, .ref qre), (1, .ref qrs), (2, .int p2), (3, .int x3p7)]) hx hb d_Re_write_20 hl (by decide) rfl (fun ls hl => ?_)
    refine lv_aloadQ (Rf := uR) (o := y3) hx hb d_Re_write_22 (lv_at hl 0 rfl) ?_
    rcases y3 with _ | k4
    · have hz := optt_n hz
      have hok := hok.1 rfl
      refine lv_ifnullN (tgt := 34) hx hb d_Re_write_24 (by decide) ?_
      exact k_Re_write_34 C ih7 revp7 rbp7 hok _ hz _ _ ls hP hD hS (lv_sub hl [1, 2, 3, 4] rfl)
    · have hz := optt_s hz
      have hok := hok.2 _ rfl
      refine lv_ifnull hx hb d_Re_write_24 ?_
      refine lv_aload_n hx hb d_Re_write_27 rfl (lv_at hl 1 rfl) ?_
      refine lv_aload hx hb d_Re_write_28 (lv_at hl 0 rfl) ?_
      refine lv_iload_n hx hb d_Re_write_30 rfl (lv_at hl 3 rfl) ?_
      have hs5 := hok.1
      have hok := hok.2
      have hB : SubW g (inW ws0) s (wReS g qre qreb qrs qrsr uR revp7 rbp7 ra ral rr rl) (wReP g qre qreb uR revp7 rbp7 rr rl) [0, 1, 4, 5, 6, 7, 8, 9, 10, 11, 12, 13, 14, 15, 16, 17, 18, 19, 20, 21, 22, 23] _ _ := ⟨rfl, rfl, hP, hD, hS⟩
      refine goV1 hB (run_v C mf_Re_addLine qm_Re_28 (c_Re_addLine l g qre qreb uR revp7 rbp7 rr rl k4 p2 hs5) rfl rfl ⟨Nat.le_of_ble_eq_true rfl, Nat.le_of_ble_eq_true rfl⟩ ⟨Nat.le_of_ble_eq_true rfl, Nat.le_of_ble_eq_true rfl⟩ hB rfl rfl hl rfl rfl (Nat.le_of_ble_eq_true rfl) d_Re_write_31) (fun _ => rfl) (fun y6 ey6 H locs hP hD hS => ?_)
      have hP : va_P g.1 vwCl (wReS g qre qreb qrs qrsr uR y6.1 y6.2 ra ral rr rl) H := cP (spq hB.1 hB.2.1 [2, 3] 24 rfl rfl (by decide +kernel) rfl) hP
      have hD : va_D (inW ws0) (wReS g qre qreb qrs qrsr uR y6.1 y6.2 ra ral rr rl) := cD (spq hB.1 hB.2.1 [2, 3] 24 rfl rfl (by decide +kernel) rfl) hD
      have hz := lett_z hz ey6
      have hok := lett_o hok ey6
      exact k_Re_write_34 C ih7 y6.1 y6.2 hok _ hz _ _ ls hP hD hS (lv_sub hl [1, 2, 3, 4] rfl)
theorem k_Re_write_7 {p : Program} {l : Launch} {e : Env} {s : State} {m : MethodId} {args : Array Value} {below : List Frame} {meth : Method} {c : Code} {g : GX} {qre : Nat} {qreb : Nat} {qrs : Nat} {qrsr : Nat} {uR : Nat → Nat} {ws0 : va_W} {ra : IV} {ral : LV} {rr : NI} {rl : NL} {p2 : Int32}  (C : Cx p s m args meth c (inW ws0) g "DecadeBridge$Report" b_Re_write none 5) (f : Nat)  : HL_Re_write_7 p l e s m args below meth c g qre qreb qrs qrsr uR ws0 ra ral rr rl p2 (sp_Re_write_7 ra p2 rr rl  f) (ok_Re_write_7 ra p2 rr rl   f) := by
  induction f with
  | zero => intro x3p7 revp7 rbp7 hok; exact False.elim hok
  | succ f ih => exact kb_Re_write_7 C  ih
noncomputable def sp_Re_write (p2 : Int32) (rev : IV) (rb : IV) (ra : IV) (rr : NI) (rl : NL) : IV × IV := lett (upd rev 1 (0 : Int32)) fun (rev_1 : IV) => sp_Re_write_7 ra p2 rr rl big (0 : Int32) rev_1 rb
def ok_Re_write (p2 : Int32) (rev : IV) (rb : IV) (ra : IV) (rr : NI) (rl : NL) : Prop := lett (upd rev 1 (0 : Int32)) fun (rev_1 : IV) => ok_Re_write_7 ra p2 rr rl big (0 : Int32) rev_1 rb
set_option maxRecDepth 100000 in
set_option maxHeartbeats 4000000 in
theorem c_Re_write (l : Launch) (g : GX) (qre : Nat) (qreb : Nat) (qrs : Nat) (qrsr : Nat) (uR : Nat → Nat) (rev : IV) (rb : IV) (ra : IV) (ral : LV) (rr : NI) (rl : NL) (p2 : Int32) (hok : ok_Re_write p2 rev rb ra rr rl) : Met l y_Re_write (wsY y_Re_write b_Re_write 5 none) rm_Re_write (CP g [.ref qre, .ref qrs, .int p2] (wReS g qre qreb qrs qrsr uR rev rb ra ral rr rl)) (CV g (wReS g qre qreb qrs qrsr uR rev rb ra ral rr rl) (fun u : IV × IV => wReS g qre qreb qrs qrsr uR u.1 u.2 ra ral rr rl) (sp_Re_write p2 rev rb ra rr rl)) 0 0 (inW (wReS g qre qreb qrs qrsr uR rev rb ra ral rr rl)) := by
  refine Met.ofW (cc := b_Re_write) (maxL := 5) (ret := none) pn_Re rfl ?_
  intro p e s m args below meth c s₁ B hml hv
  obtain ⟨rfl, C, hP, hD, hS⟩ := enter "DecadeBridge$Report" rfl B hml hv
  obtain ⟨hx, hb, hr, hml, hown, hlk, hts, hK, hZo, hZ⟩ := id C
  refine entryW (lv := [(0, .ref qre), (1, .ref qrs), (2, .int p2)]) rfl (Nat.le_of_ble_eq_true rfl) (fun ls hl => ?_)
  obtain ⟨z, hz⟩ : ∃ z, z = sp_Re_write p2 rev rb ra rr rl := ⟨_, rfl⟩
  rw [← hz]
  unfold sp_Re_write at hz
  unfold ok_Re_write at hok
  refine lv_aload_n hx hb d_Re_write_0 rfl (lv_at hl 0 rfl) ?_
  refine lv_iconst (v := 0) hx hb d_Re_write_1 (by decide) ?_
  refine pfI C hP hD hS 0 1 fkRe rfl (by decide) rfl qf_Re_15 rfl rfl rfl (Nat.le_of_ble_eq_true rfl) (ff := fun o => fRe qreb o) (sRe_1 _ _ _) d_Re_write_2 (fun rev_1 erev_1 H locs hP hD hS => ?_)
  have hP : va_P g.1 vwCl (wReS g qre qreb qrs qrsr uR rev_1 rb ra ral rr rl) H := hP
  have hD : va_D (inW (wReS g qre qreb qrs qrsr uR rev rb ra ral rr rl)) (wReS g qre qreb qrs qrsr uR rev_1 rb ra ral rr rl) := hD
  have hz := lett_z hz erev_1
  have hok := lett_o hok erev_1
  refine lv_iconst (v := 0) hx hb d_Re_write_5 (by decide) ?_
  refine lv_istore_n (lv' := [(3, .int (0 : Int32)), (0, .ref qre), (1, .ref qrs), (2, .int p2)]) hx hb d_Re_write_6 rfl hl (by decide) rfl (fun ls hl => ?_)
  exact k_Re_write_7 C big (0 : Int32) rev_1 rb hok _ hz _ _ ls hP hD hS (lv_sub hl [1, 2, 3, 0] rfl)
abbrev rm_Su_takeStatement : Room := { frames := 6, cells := 0, slots := 0, locals := 129 }
noncomputable def sp_Su_takeStatement (su : IV) (t : IV) (tb : IV) (d0 : IV) (d1 : IV) (d2 : IV) (d3 : IV) (d4 : IV) : IV × IV × IV × IV × IV × IV × IV := lett (sp_Te_isWord 0 t tb) fun (y2 : Int32) => if y2 = 0 then (lett (sp_Te_isWord 1 t tb) fun (y5 : Int32) => if y5 = 0 then (lett (sp_Te_isWord 2 t tb) fun (y8 : Int32) => if y8 = 0 then (lett (sp_Te_isWord 3 t tb) fun (y11 : Int32) => if y11 = 0 then (lett (sp_Te_isWord 4 t tb) fun (y14 : Int32) => if y14 = 0 then (lett (sp_Te_isWord 5 t tb) fun (y17 : Int32) => if y17 = 0 then (lett (sp_Te_isWord 6 t tb) fun (y20 : Int32) => if y20 = 0 then (lett (sp_Te_isWord 7 t tb) fun (y23 : Int32) => if y23 = 0 then (lett (sp_Te_fail (1 : Int32) t) fun (y25 : IV) => (su, y25, d0, d1, d2, d3, d4)) else (lett (sp_Su_takeOnce (32 : Int32) su t tb) fun (y27 : IV × IV) => lett (sp_Te_number (0 : Int32) (99999 : Int32) y27.2 tb) fun (y29 : Int32 × IV) => lett (upd d0 17 y29.1) fun (d_30 : IV) => (y27.1, y29.2, d_30, d1, d2, d3, d4))) else (lett (sp_Su_takeDetector su t tb d0) fun (y32 : IV × IV × IV) => (y32.1, y32.2.1, y32.2.2, d1, d2, d3, d4))) else (lett (sp_Su_takeOnce (8 : Int32) su t tb) fun (y34 : IV × IV) => lett (sp_Te_number (0 : Int32) (20000 : Int32) y34.2 tb) fun (y36 : Int32 × IV) => lett (upd d0 11 y36.1) fun (d_37 : IV) => lett (sp_Te_number (1 : Int32) (1000000 : Int32) y36.2 tb) fun (y39 : Int32 × IV) => lett (upd d_37 12 y39.1) fun (d_40 : IV) => (y34.1, y39.2, d_40, d1, d2, d3, d4))) else (lett (sp_Su_takeLeads su t tb d0) fun (y42 : IV × IV × IV) => (y42.1, y42.2.1, y42.2.2, d1, d2, d3, d4))) else (lett (sp_Su_takeWarm su t tb d3 d4) fun (y44 : IV × IV × IV × IV) => (y44.1, y44.2.1, d0, d1, d2, y44.2.2.1, y44.2.2.2))) else (lett (sp_Su_takeOnce (2 : Int32) su t tb) fun (y46 : IV × IV) => lett (sp_Te_number (1000 : Int32) (100000000 : Int32) y46.2 tb) fun (y48 : Int32 × IV) => lett (upd d0 5 y48.1) fun (d_49 : IV) => (y46.1, y48.2, d_49, d1, d2, d3, d4))) else (lett (sp_Su_takeRatio su t tb d2) fun (y51 : IV × IV × IV) => (y51.1, y51.2.1, d0, d1, y51.2.2, d3, d4))) else (lett (sp_Su_takeBox su t tb d0 d1) fun (y53 : IV × IV × IV × IV) => (y53.1, y53.2.1, y53.2.2.1, y53.2.2.2, d2, d3, d4))
def ok_Su_takeStatement (su : IV) (t : IV) (tb : IV) (d0 : IV) (d1 : IV) (d2 : IV) (d3 : IV) (d4 : IV) : Prop := (ok_Te_isWord 0 t tb) ∧ lett (sp_Te_isWord 0 t tb) fun (y2 : Int32) => ((y2 = 0 → (ok_Te_isWord 1 t tb) ∧ lett (sp_Te_isWord 1 t tb) fun (y5 : Int32) => ((y5 = 0 → (ok_Te_isWord 2 t tb) ∧ lett (sp_Te_isWord 2 t tb) fun (y8 : Int32) => ((y8 = 0 → (ok_Te_isWord 3 t tb) ∧ lett (sp_Te_isWord 3 t tb) fun (y11 : Int32) => ((y11 = 0 → (ok_Te_isWord 4 t tb) ∧ lett (sp_Te_isWord 4 t tb) fun (y14 : Int32) => ((y14 = 0 → (ok_Te_isWord 5 t tb) ∧ lett (sp_Te_isWord 5 t tb) fun (y17 : Int32) => ((y17 = 0 → (ok_Te_isWord 6 t tb) ∧ lett (sp_Te_isWord 6 t tb) fun (y20 : Int32) => ((y20 = 0 → (ok_Te_isWord 7 t tb) ∧ lett (sp_Te_isWord 7 t tb) fun (y23 : Int32) => ((y23 = 0 → True) ∧ (¬ (y23 = 0) → (ok_Su_takeOnce (32 : Int32) su t tb) ∧ lett (sp_Su_takeOnce (32 : Int32) su t tb) fun (y27 : IV × IV) => (ok_Te_number (0 : Int32) (99999 : Int32) y27.2 tb) ∧ True))) ∧ (¬ (y20 = 0) → (ok_Su_takeDetector su t tb d0) ∧ True))) ∧ (¬ (y17 = 0) → (ok_Su_takeOnce (8 : Int32) su t tb) ∧ lett (sp_Su_takeOnce (8 : Int32) su t tb) fun (y34 : IV × IV) => (ok_Te_number (0 : Int32) (20000 : Int32) y34.2 tb) ∧ lett (sp_Te_number (0 : Int32) (20000 : Int32) y34.2 tb) fun (y36 : Int32 × IV) => lett (upd d0 11 y36.1) fun (d_37 : IV) => (ok_Te_number (1 : Int32) (1000000 : Int32) y36.2 tb) ∧ True))) ∧ (¬ (y14 = 0) → (ok_Su_takeLeads su t tb d0) ∧ True))) ∧ (¬ (y11 = 0) → (ok_Su_takeWarm su t tb d3 d4) ∧ True))) ∧ (¬ (y8 = 0) → (ok_Su_takeOnce (2 : Int32) su t tb) ∧ lett (sp_Su_takeOnce (2 : Int32) su t tb) fun (y46 : IV × IV) => (ok_Te_number (1000 : Int32) (100000000 : Int32) y46.2 tb) ∧ True))) ∧ (¬ (y5 = 0) → (ok_Su_takeRatio su t tb d2) ∧ True))) ∧ (¬ (y2 = 0) → (ok_Su_takeBox su t tb d0 d1) ∧ True))
set_option maxRecDepth 100000 in
set_option maxHeartbeats 4000000 in
theorem c_Su_takeStatement (l : Launch) (g : GX) (qsu : Nat) (qte : Nat) (qteb : Nat) (qdp : Nat) (qdpe : Nat) (qdpr : Nat) (qdpu : Nat) (qdpb : Nat) (su : IV) (t : IV) (tb : IV) (d0 : IV) (d1 : IV) (d2 : IV) (d3 : IV) (d4 : IV)  (hok : ok_Su_takeStatement su t tb d0 d1 d2 d3 d4) : Met l y_Su_takeStatement (wsY y_Su_takeStatement b_Su_takeStatement 1 none) rm_Su_takeStatement (CP g [.ref qsu] (wSu g qsu qte qteb qdp qdpe qdpr qdpu qdpb su t tb d0 d1 d2 d3 d4)) (CV g (wSu g qsu qte qteb qdp qdpe qdpr qdpu qdpb su t tb d0 d1 d2 d3 d4) (fun u : IV × IV × IV × IV × IV × IV × IV => wSu g qsu qte qteb qdp qdpe qdpr qdpu qdpb u.1 u.2.1 tb u.2.2.1 u.2.2.2.1 u.2.2.2.2.1 u.2.2.2.2.2.1 u.2.2.2.2.2.2) (sp_Su_takeStatement su t tb d0 d1 d2 d3 d4)) 0 0 (inW (wSu g qsu qte qteb qdp qdpe qdpr qdpu qdpb su t tb d0 d1 d2 d3 d4)) := by
  refine Met.ofW (cc := b_Su_takeStatement) (maxL := 1) (ret := none) pn_Su rfl ?_
  intro p e s m args below meth c s₁ B hml hv
  obtain ⟨rfl, C, hP, hD, hS⟩ := enter "DecadeBridge$SetupReader" rfl B hml hv
  obtain ⟨hx, hb, hr, hml, hown, hlk, hts, hK, hZo, hZ⟩ := id C
  refine entryW (lv := [(0, .ref qsu)]) rfl (Nat.le_of_ble_eq_true rfl) (fun ls hl => ?_)
  obtain ⟨z, hz⟩ : ∃ z, z = sp_Su_takeStatement su t tb d0 d1 d2 d3 d4 := ⟨_, rfl⟩
  rw [← hz]
  unfold sp_Su_takeStatement at hz
  unfold ok_Su_takeStatement at hok
  refine lv_aload_n hx hb d_Su_takeStatement_0 rfl (lv_at hl 0 rfl) ?_
  refine gf C hP 0 0 fkSu rfl (by decide) rfl qf_Su_18 (gSu_0 _ _ _) d_Su_takeStatement_1 ?_
  refine va_ldcS hx hb hown (zRef hZo hZ ("DecadeBridge$SetupReader", 50, 0) (by decide +kernel)) d_Su_takeStatement_4 ?_
  have hs1 := hok.1
  have hok := hok.2
  have hB : SubW g (inW (wSu g qsu qte qteb qdp qdpe qdpr qdpu qdpb su t tb d0 d1 d2 d3 d4)) s (wSu g qsu qte qteb qdp qdpe qdpr qdpu qdpb su t tb d0 d1 d2 d3 d4) (wTe g qte qteb t tb) [1, 2] _ _ := ⟨rfl, rfl, hP, hD, hS⟩
  refine goI0 hB (run_v C mf_Te_isWord qm_Su_52 (c_Te_isWord l g qte qteb t tb 0 hs1) rfl rfl ⟨Nat.le_of_ble_eq_true rfl, Nat.le_of_ble_eq_true rfl⟩ ⟨Nat.le_of_ble_eq_true rfl, Nat.le_of_ble_eq_true rfl⟩ hB rfl rfl hl rfl rfl (Nat.le_of_ble_eq_true rfl) d_Su_takeStatement_6) (fun y2 ey2 H locs hP hS => ?_)
  have hz := lett_z hz ey2
  have hok := lett_o hok ey2
  refine lv_if_eq (tgt := 19) hx hb d_Su_takeStatement_9 (by decide) (fun c3 => ?_) (fun c3 => ?_)
  · have hz := hz.trans (if_pos c3)
    have hok := hok.1 c3
    refine lv_aload_n hx hb d_Su_takeStatement_19 rfl (lv_at hl 0 rfl) ?_
    refine gf C hP 0 0 fkSu rfl (by decide) rfl qf_Su_18 (gSu_0 _ _ _) d_Su_takeStatement_20 ?_
    refine va_ldcS hx hb hown (zRef hZo hZ ("DecadeBridge$SetupReader", 59, 1) (by decide +kernel)) d_Su_takeStatement_23 ?_
    have hs4 := hok.1
    have hok := hok.2
    have hB : SubW g (inW (wSu g qsu qte qteb qdp qdpe qdpr qdpu qdpb su t tb d0 d1 d2 d3 d4)) s (wSu g qsu qte qteb qdp qdpe qdpr qdpu qdpb su t tb d0 d1 d2 d3 d4) (wTe g qte qteb t tb) [1, 2] _ _ := ⟨rfl, rfl, hP, hD, hS⟩
    refine goI0 hB (run_v C mf_Te_isWord qm_Su_52 (c_Te_isWord l g qte qteb t tb 1 hs4) rfl rfl ⟨Nat.le_of_ble_eq_true rfl, Nat.le_of_ble_eq_true rfl⟩ ⟨Nat.le_of_ble_eq_true rfl, Nat.le_of_ble_eq_true rfl⟩ hB rfl rfl hl rfl rfl (Nat.le_of_ble_eq_true rfl) d_Su_takeStatement_25) (fun y5 ey5 H locs hP hS => ?_)
    have hz := lett_z hz ey5
    have hok := lett_o hok ey5
    refine lv_if_eq (tgt := 38) hx hb d_Su_takeStatement_28 (by decide) (fun c6 => ?_) (fun c6 => ?_)
    · have hz := hz.trans (if_pos c6)
      have hok := hok.1 c6
      refine lv_aload_n hx hb d_Su_takeStatement_38 rfl (lv_at hl 0 rfl) ?_
      refine gf C hP 0 0 fkSu rfl (by decide) rfl qf_Su_18 (gSu_0 _ _ _) d_Su_takeStatement_39 ?_
      refine va_ldcS hx hb hown (zRef hZo hZ ("DecadeBridge$SetupReader", 64, 2) (by decide +kernel)) d_Su_takeStatement_42 ?_
      have hs7 := hok.1
      have hok := hok.2
      have hB : SubW g (inW (wSu g qsu qte qteb qdp qdpe qdpr qdpu qdpb su t tb d0 d1 d2 d3 d4)) s (wSu g qsu qte qteb qdp qdpe qdpr qdpu qdpb su t tb d0 d1 d2 d3 d4) (wTe g qte qteb t tb) [1, 2] _ _ := ⟨rfl, rfl, hP, hD, hS⟩
      refine goI0 hB (run_v C mf_Te_isWord qm_Su_52 (c_Te_isWord l g qte qteb t tb 2 hs7) rfl rfl ⟨Nat.le_of_ble_eq_true rfl, Nat.le_of_ble_eq_true rfl⟩ ⟨Nat.le_of_ble_eq_true rfl, Nat.le_of_ble_eq_true rfl⟩ hB rfl rfl hl rfl rfl (Nat.le_of_ble_eq_true rfl) d_Su_takeStatement_44) (fun y8 ey8 H locs hP hS => ?_)
      have hz := lett_z hz ey8
      have hok := lett_o hok ey8
      refine lv_if_eq (tgt := 77) hx hb d_Su_takeStatement_47 (by decide) (fun c9 => ?_) (fun c9 => ?_)
      · have hz := hz.trans (if_pos c9)
        have hok := hok.1 c9
        refine lv_aload_n hx hb d_Su_takeStatement_77 rfl (lv_at hl 0 rfl) ?_
        refine gf C hP 0 0 fkSu rfl (by decide) rfl qf_Su_18 (gSu_0 _ _ _) d_Su_takeStatement_78 ?_
        refine va_ldcS hx hb hown (zRef hZo hZ ("DecadeBridge$SetupReader", 77, 3) (by decide +kernel)) d_Su_takeStatement_81 ?_
        have hs10 := hok.1
        have hok := hok.2
        have hB : SubW g (inW (wSu g qsu qte qteb qdp qdpe qdpr qdpu qdpb su t tb d0 d1 d2 d3 d4)) s (wSu g qsu qte qteb qdp qdpe qdpr qdpu qdpb su t tb d0 d1 d2 d3 d4) (wTe g qte qteb t tb) [1, 2] _ _ := ⟨rfl, rfl, hP, hD, hS⟩
        refine goI0 hB (run_v C mf_Te_isWord qm_Su_52 (c_Te_isWord l g qte qteb t tb 3 hs10) rfl rfl ⟨Nat.le_of_ble_eq_true rfl, Nat.le_of_ble_eq_true rfl⟩ ⟨Nat.le_of_ble_eq_true rfl, Nat.le_of_ble_eq_true rfl⟩ hB rfl rfl hl rfl rfl (Nat.le_of_ble_eq_true rfl) d_Su_takeStatement_83) (fun y11 ey11 H locs hP hS => ?_)
        have hz := lett_z hz ey11
        have hok := lett_o hok ey11
        refine lv_if_eq (tgt := 96) hx hb d_Su_takeStatement_86 (by decide) (fun c12 => ?_) (fun c12 => ?_)
        · have hz := hz.trans (if_pos c12)
          have hok := hok.1 c12
          refine lv_aload_n hx hb d_Su_takeStatement_96 rfl (lv_at hl 0 rfl) ?_
          refine gf C hP 0 0 fkSu rfl (by decide) rfl qf_Su_18 (gSu_0 _ _ _) d_Su_takeStatement_97 ?_
          refine va_ldcS hx hb hown (zRef hZo hZ ("DecadeBridge$SetupReader", 82, 4) (by decide +kernel)) d_Su_takeStatement_100 ?_
          have hs13 := hok.1
          have hok := hok.2
          have hB : SubW g (inW (wSu g qsu qte qteb qdp qdpe qdpr qdpu qdpb su t tb d0 d1 d2 d3 d4)) s (wSu g qsu qte qteb qdp qdpe qdpr qdpu qdpb su t tb d0 d1 d2 d3 d4) (wTe g qte qteb t tb) [1, 2] _ _ := ⟨rfl, rfl, hP, hD, hS⟩
          refine goI0 hB (run_v C mf_Te_isWord qm_Su_52 (c_Te_isWord l g qte qteb t tb 4 hs13) rfl rfl ⟨Nat.le_of_ble_eq_true rfl, Nat.le_of_ble_eq_true rfl⟩ ⟨Nat.le_of_ble_eq_true rfl, Nat.le_of_ble_eq_true rfl⟩ hB rfl rfl hl rfl rfl (Nat.le_of_ble_eq_true rfl) d_Su_takeStatement_102) (fun y14 ey14 H locs hP hS => ?_)
          have hz := lett_z hz ey14
          have hok := lett_o hok ey14
          refine lv_if_eq (tgt := 115) hx hb d_Su_takeStatement_105 (by decide) (fun c15 => ?_) (fun c15 => ?_)
          · have hz := hz.trans (if_pos c15)
            have hok := hok.1 c15
            refine lv_aload_n hx hb d_Su_takeStatement_115 rfl (lv_at hl 0 rfl) ?_
            refine gf C hP 0 0 fkSu rfl (by decide) rfl qf_Su_18 (gSu_0 _ _ _) d_Su_takeStatement_116 ?_
            refine va_ldcS hx hb hown (zRef hZo hZ ("DecadeBridge$SetupReader", 87, 5) (by decide +kernel)) d_Su_takeStatement_119 ?_
            have hs16 := hok.1
            have hok := hok.2
            have hB : SubW g (inW (wSu g qsu qte qteb qdp qdpe qdpr qdpu qdpb su t tb d0 d1 d2 d3 d4)) s (wSu g qsu qte qteb qdp qdpe qdpr qdpu qdpb su t tb d0 d1 d2 d3 d4) (wTe g qte qteb t tb) [1, 2] _ _ := ⟨rfl, rfl, hP, hD, hS⟩
            refine goI0 hB (run_v C mf_Te_isWord qm_Su_52 (c_Te_isWord l g qte qteb t tb 5 hs16) rfl rfl ⟨Nat.le_of_ble_eq_true rfl, Nat.le_of_ble_eq_true rfl⟩ ⟨Nat.le_of_ble_eq_true rfl, Nat.le_of_ble_eq_true rfl⟩ hB rfl rfl hl rfl rfl (Nat.le_of_ble_eq_true rfl) d_Su_takeStatement_121) (fun y17 ey17 H locs hP hS => ?_)
            have hz := lett_z hz ey17
            have hok := lett_o hok ey17
            refine lv_if_eq (tgt := 171) hx hb d_Su_takeStatement_124 (by decide) (fun c18 => ?_) (fun c18 => ?_)
            · have hz := hz.trans (if_pos c18)
              have hok := hok.1 c18
              refine lv_aload_n hx hb d_Su_takeStatement_171 rfl (lv_at hl 0 rfl) ?_
              refine gf C hP 0 0 fkSu rfl (by decide) rfl qf_Su_18 (gSu_0 _ _ _) d_Su_takeStatement_172 ?_
              refine va_ldcS hx hb hown (zRef hZo hZ ("DecadeBridge$SetupReader", 96, 6) (by decide +kernel)) d_Su_takeStatement_175 ?_
              have hs19 := hok.1
              have hok := hok.2
              have hB : SubW g (inW (wSu g qsu qte qteb qdp qdpe qdpr qdpu qdpb su t tb d0 d1 d2 d3 d4)) s (wSu g qsu qte qteb qdp qdpe qdpr qdpu qdpb su t tb d0 d1 d2 d3 d4) (wTe g qte qteb t tb) [1, 2] _ _ := ⟨rfl, rfl, hP, hD, hS⟩
              refine goI0 hB (run_v C mf_Te_isWord qm_Su_52 (c_Te_isWord l g qte qteb t tb 6 hs19) rfl rfl ⟨Nat.le_of_ble_eq_true rfl, Nat.le_of_ble_eq_true rfl⟩ ⟨Nat.le_of_ble_eq_true rfl, Nat.le_of_ble_eq_true rfl⟩ hB rfl rfl hl rfl rfl (Nat.le_of_ble_eq_true rfl) d_Su_takeStatement_177) (fun y20 ey20 H locs hP hS => ?_)
              have hz := lett_z hz ey20
              have hok := lett_o hok ey20
              refine lv_if_eq (tgt := 190) hx hb d_Su_takeStatement_180 (by decide) (fun c21 => ?_) (fun c21 => ?_)
              · have hz := hz.trans (if_pos c21)
                have hok := hok.1 c21
                refine lv_aload_n hx hb d_Su_takeStatement_190 rfl (lv_at hl 0 rfl) ?_
                refine gf C hP 0 0 fkSu rfl (by decide) rfl qf_Su_18 (gSu_0 _ _ _) d_Su_takeStatement_191 ?_
                refine va_ldcS hx hb hown (zRef hZo hZ ("DecadeBridge$SetupReader", 101, 7) (by decide +kernel)) d_Su_takeStatement_194 ?_
                have hs22 := hok.1
                have hok := hok.2
                have hB : SubW g (inW (wSu g qsu qte qteb qdp qdpe qdpr qdpu qdpb su t tb d0 d1 d2 d3 d4)) s (wSu g qsu qte qteb qdp qdpe qdpr qdpu qdpb su t tb d0 d1 d2 d3 d4) (wTe g qte qteb t tb) [1, 2] _ _ := ⟨rfl, rfl, hP, hD, hS⟩
                refine goI0 hB (run_v C mf_Te_isWord qm_Su_52 (c_Te_isWord l g qte qteb t tb 7 hs22) rfl rfl ⟨Nat.le_of_ble_eq_true rfl, Nat.le_of_ble_eq_true rfl⟩ ⟨Nat.le_of_ble_eq_true rfl, Nat.le_of_ble_eq_true rfl⟩ hB rfl rfl hl rfl rfl (Nat.le_of_ble_eq_true rfl) d_Su_takeStatement_196) (fun y23 ey23 H locs hP hS => ?_)
                have hz := lett_z hz ey23
                have hok := lett_o hok ey23
                refine lv_if_eq (tgt := 228) hx hb d_Su_takeStatement_199 (by decide) (fun c24 => ?_) (fun c24 => ?_)
                · have hz := hz.trans (if_pos c24)
                  refine lv_aload_n hx hb d_Su_takeStatement_228 rfl (lv_at hl 0 rfl) ?_
                  refine gf C hP 0 0 fkSu rfl (by decide) rfl qf_Su_18 (gSu_0 _ _ _) d_Su_takeStatement_229 ?_
                  refine lv_iconst (v := 1) hx hb d_Su_takeStatement_232 (by decide) ?_
                  have hB : SubW g (inW (wSu g qsu qte qteb qdp qdpe qdpr qdpu qdpb su t tb d0 d1 d2 d3 d4)) s (wSu g qsu qte qteb qdp qdpe qdpr qdpu qdpb su t tb d0 d1 d2 d3 d4) (wTe g qte qteb t tb) [1, 2] _ _ := ⟨rfl, rfl, hP, hD, hS⟩
                  refine goV1 hB (run_v C mf_Te_fail qm_Su_43 (c_Te_fail l g qte qteb t tb (1 : Int32)) rfl rfl ⟨Nat.le_of_ble_eq_true rfl, Nat.le_of_ble_eq_true rfl⟩ ⟨Nat.le_of_ble_eq_true rfl, Nat.le_of_ble_eq_true rfl⟩ hB rfl rfl hl rfl rfl (Nat.le_of_ble_eq_true rfl) d_Su_takeStatement_233) (fun _ => rfl) (fun y25 ey25 H locs hP hD hS => ?_)
                  have hP : va_P g.1 vwCl (wSu g qsu qte qteb qdp qdpe qdpr qdpu qdpb su y25 tb d0 d1 d2 d3 d4) H := cP (spq hB.1 hB.2.1 [0, 3, 4, 5, 6, 7] 8 rfl rfl (by decide +kernel) rfl) hP
                  have hD : va_D (inW (wSu g qsu qte qteb qdp qdpe qdpr qdpu qdpb su t tb d0 d1 d2 d3 d4)) (wSu g qsu qte qteb qdp qdpe qdpr qdpu qdpb su y25 tb d0 d1 d2 d3 d4) := cD (spq hB.1 hB.2.1 [0, 3, 4, 5, 6, 7] 8 rfl rfl (by decide +kernel) rfl) hD
                  have hz := lett_z hz ey25
                  exact endV C hz hP hS d_Su_takeStatement_236
                · have hz := hz.trans (if_neg c24)
                  have hok := hok.2 c24
                  refine lv_aload_n hx hb d_Su_takeStatement_202 rfl (lv_at hl 0 rfl) ?_
                  refine lv_bipush (v := 32) hx hb d_Su_takeStatement_203 (by decide) ?_
                  have hs26 := hok.1
                  have hok := hok.2
                  have hB : SubW g (inW (wSu g qsu qte qteb qdp qdpe qdpr qdpu qdpb su t tb d0 d1 d2 d3 d4)) s (wSu g qsu qte qteb qdp qdpe qdpr qdpu qdpb su t tb d0 d1 d2 d3 d4) _ (List.range _) _ _ := (subF hP hD hS)
                  refine goVF hB (run_v C mf_Su_takeOnce qm_Su_66 (c_Su_takeOnce l g qsu qte qteb qdp qdpe qdpr qdpu qdpb su t tb d0 d1 d2 d3 d4 (32 : Int32) hs26) rfl rfl ⟨Nat.le_of_ble_eq_true rfl, Nat.le_of_ble_eq_true rfl⟩ ⟨Nat.le_of_ble_eq_true rfl, Nat.le_of_ble_eq_true rfl⟩ hB rfl rfl hl rfl rfl (Nat.le_of_ble_eq_true rfl) d_Su_takeStatement_205) (fun _ => rfl) (fun y27 ey27 H locs hP hD hS => ?_)
                  have hP : va_P g.1 vwCl (wSu g qsu qte qteb qdp qdpe qdpr qdpu qdpb y27.1 y27.2 tb d0 d1 d2 d3 d4) H := hP
                  have hD : va_D (inW (wSu g qsu qte qteb qdp qdpe qdpr qdpu qdpb su t tb d0 d1 d2 d3 d4)) (wSu g qsu qte qteb qdp qdpe qdpr qdpu qdpb y27.1 y27.2 tb d0 d1 d2 d3 d4) := hD
                  have hz := lett_z hz ey27
                  have hok := lett_o hok ey27
                  refine lv_aload_n hx hb d_Su_takeStatement_208 rfl (lv_at hl 0 rfl) ?_
                  refine gf C hP 0 1 fkSu rfl (by decide) rfl qf_Su_12 (gSu_1 _ _ _) d_Su_takeStatement_209 ?_
                  refine lv_aload_n hx hb d_Su_takeStatement_212 rfl (lv_at hl 0 rfl) ?_
                  refine gf C hP 0 0 fkSu rfl (by decide) rfl qf_Su_18 (gSu_0 _ _ _) d_Su_takeStatement_213 ?_
                  refine lv_iconst (v := 0) hx hb d_Su_takeStatement_216 (by decide) ?_
                  refine lv_ldc hx hb hown (hts _ qk_Su_103) d_Su_takeStatement_217 ?_
                  have hs28 := hok.1
                  have hok := hok.2
                  have hB : SubW g (inW (wSu g qsu qte qteb qdp qdpe qdpr qdpu qdpb su t tb d0 d1 d2 d3 d4)) s (wSu g qsu qte qteb qdp qdpe qdpr qdpu qdpb y27.1 y27.2 tb d0 d1 d2 d3 d4) (wTe g qte qteb y27.2 tb) [1, 2] _ _ := ⟨rfl, rfl, hP, hD, hS⟩
                  refine goI1 hB (run_v C mf_Te_number qm_Su_70 (c_Te_number l g qte qteb y27.2 tb (0 : Int32) (99999 : Int32) hs28) rfl rfl ⟨Nat.le_of_ble_eq_true rfl, Nat.le_of_ble_eq_true rfl⟩ ⟨Nat.le_of_ble_eq_true rfl, Nat.le_of_ble_eq_true rfl⟩ hB rfl rfl hl rfl rfl (Nat.le_of_ble_eq_true rfl) d_Su_takeStatement_219) (fun _ => rfl) (fun y29 ey29 H locs hP hD hS => ?_)
                  have hP : va_P g.1 vwCl (wSu g qsu qte qteb qdp qdpe qdpr qdpu qdpb y27.1 y29.2 tb d0 d1 d2 d3 d4) H := cP (spq hB.1 hB.2.1 [0, 3, 4, 5, 6, 7] 8 rfl rfl (by decide +kernel) rfl) hP
                  have hD : va_D (inW (wSu g qsu qte qteb qdp qdpe qdpr qdpu qdpb su t tb d0 d1 d2 d3 d4)) (wSu g qsu qte qteb qdp qdpe qdpr qdpu qdpb y27.1 y29.2 tb d0 d1 d2 d3 d4) := cD (spq hB.1 hB.2.1 [0, 3, 4, 5, 6, 7] 8 rfl rfl (by decide +kernel) rfl) hD
                  have hz := lett_z hz ey29
                  refine pfI C hP hD hS 3 17 fkPa rfl (by decide) rfl qf_Su_104 rfl rfl rfl (Nat.le_of_ble_eq_true rfl) (ff := fun o => fPa qdpe qdpr qdpu qdpb o) (sPa_17 _ _ _ _ _ _) d_Su_takeStatement_222 (fun d_30 ed_30 H locs hP hD hS => ?_)
                  have hP : va_P g.1 vwCl (wSu g qsu qte qteb qdp qdpe qdpr qdpu qdpb y27.1 y29.2 tb d_30 d1 d2 d3 d4) H := hP
                  have hD : va_D (inW (wSu g qsu qte qteb qdp qdpe qdpr qdpu qdpb su t tb d0 d1 d2 d3 d4)) (wSu g qsu qte qteb qdp qdpe qdpr qdpu qdpb y27.1 y29.2 tb d_30 d1 d2 d3 d4) := hD
                  have hz := lett_z hz ed_30
                  refine lv_goto (tgt := 236) hx hb d_Su_takeStatement_225 (by decide) ?_
                  exact endV C hz hP hS d_Su_takeStatement_236
              · have hz := hz.trans (if_neg c21)
                have hok := hok.2 c21
                refine lv_aload_n hx hb d_Su_takeStatement_183 rfl (lv_at hl 0 rfl) ?_
                have hs31 := hok.1
                have hok := hok.2
                have hB : SubW g (inW (wSu g qsu qte qteb qdp qdpe qdpr qdpu qdpb su t tb d0 d1 d2 d3 d4)) s (wSu g qsu qte qteb qdp qdpe qdpr qdpu qdpb su t tb d0 d1 d2 d3 d4) _ (List.range _) _ _ := (subF hP hD hS)
                refine goVF hB (run_v C mf_Su_takeDetector qm_Su_98 (c_Su_takeDetector l g qsu qte qteb qdp qdpe qdpr qdpu qdpb su t tb d0 d1 d2 d3 d4 hs31) rfl rfl ⟨Nat.le_of_ble_eq_true rfl, Nat.le_of_ble_eq_true rfl⟩ ⟨Nat.le_of_ble_eq_true rfl, Nat.le_of_ble_eq_true rfl⟩ hB rfl rfl hl rfl rfl (Nat.le_of_ble_eq_true rfl) d_Su_takeStatement_184) (fun _ => rfl) (fun y32 ey32 H locs hP hD hS => ?_)
                have hP : va_P g.1 vwCl (wSu g qsu qte qteb qdp qdpe qdpr qdpu qdpb y32.1 y32.2.1 tb y32.2.2 d1 d2 d3 d4) H := hP
                have hD : va_D (inW (wSu g qsu qte qteb qdp qdpe qdpr qdpu qdpb su t tb d0 d1 d2 d3 d4)) (wSu g qsu qte qteb qdp qdpe qdpr qdpu qdpb y32.1 y32.2.1 tb y32.2.2 d1 d2 d3 d4) := hD
                have hz := lett_z hz ey32
                refine lv_goto (tgt := 236) hx hb d_Su_takeStatement_187 (by decide) ?_
                exact endV C hz hP hS d_Su_takeStatement_236
            · have hz := hz.trans (if_neg c18)
              have hok := hok.2 c18
              refine lv_aload_n hx hb d_Su_takeStatement_127 rfl (lv_at hl 0 rfl) ?_
              refine lv_bipush (v := 8) hx hb d_Su_takeStatement_128 (by decide) ?_
              have hs33 := hok.1
              have hok := hok.2
              have hB : SubW g (inW (wSu g qsu qte qteb qdp qdpe qdpr qdpu qdpb su t tb d0 d1 d2 d3 d4)) s (wSu g qsu qte qteb qdp qdpe qdpr qdpu qdpb su t tb d0 d1 d2 d3 d4) _ (List.range _) _ _ := (subF hP hD hS)
              refine goVF hB (run_v C mf_Su_takeOnce qm_Su_66 (c_Su_takeOnce l g qsu qte qteb qdp qdpe qdpr qdpu qdpb su t tb d0 d1 d2 d3 d4 (8 : Int32) hs33) rfl rfl ⟨Nat.le_of_ble_eq_true rfl, Nat.le_of_ble_eq_true rfl⟩ ⟨Nat.le_of_ble_eq_true rfl, Nat.le_of_ble_eq_true rfl⟩ hB rfl rfl hl rfl rfl (Nat.le_of_ble_eq_true rfl) d_Su_takeStatement_130) (fun _ => rfl) (fun y34 ey34 H locs hP hD hS => ?_)
              have hP : va_P g.1 vwCl (wSu g qsu qte qteb qdp qdpe qdpr qdpu qdpb y34.1 y34.2 tb d0 d1 d2 d3 d4) H := hP
              have hD : va_D (inW (wSu g qsu qte qteb qdp qdpe qdpr qdpu qdpb su t tb d0 d1 d2 d3 d4)) (wSu g qsu qte qteb qdp qdpe qdpr qdpu qdpb y34.1 y34.2 tb d0 d1 d2 d3 d4) := hD
              have hz := lett_z hz ey34
              have hok := lett_o hok ey34
              refine lv_aload_n hx hb d_Su_takeStatement_133 rfl (lv_at hl 0 rfl) ?_
              refine gf C hP 0 1 fkSu rfl (by decide) rfl qf_Su_12 (gSu_1 _ _ _) d_Su_takeStatement_134 ?_
              refine lv_aload_n hx hb d_Su_takeStatement_137 rfl (lv_at hl 0 rfl) ?_
              refine gf C hP 0 0 fkSu rfl (by decide) rfl qf_Su_18 (gSu_0 _ _ _) d_Su_takeStatement_138 ?_
              refine lv_iconst (v := 0) hx hb d_Su_takeStatement_141 (by decide) ?_
              refine lv_sipush (v := 20000) hx hb d_Su_takeStatement_142 (by decide) ?_
              have hs35 := hok.1
              have hok := hok.2
              have hB : SubW g (inW (wSu g qsu qte qteb qdp qdpe qdpr qdpu qdpb su t tb d0 d1 d2 d3 d4)) s (wSu g qsu qte qteb qdp qdpe qdpr qdpu qdpb y34.1 y34.2 tb d0 d1 d2 d3 d4) (wTe g qte qteb y34.2 tb) [1, 2] _ _ := ⟨rfl, rfl, hP, hD, hS⟩
              refine goI1 hB (run_v C mf_Te_number qm_Su_70 (c_Te_number l g qte qteb y34.2 tb (0 : Int32) (20000 : Int32) hs35) rfl rfl ⟨Nat.le_of_ble_eq_true rfl, Nat.le_of_ble_eq_true rfl⟩ ⟨Nat.le_of_ble_eq_true rfl, Nat.le_of_ble_eq_true rfl⟩ hB rfl rfl hl rfl rfl (Nat.le_of_ble_eq_true rfl) d_Su_takeStatement_145) (fun _ => rfl) (fun y36 ey36 H locs hP hD hS => ?_)
              have hP : va_P g.1 vwCl (wSu g qsu qte qteb qdp qdpe qdpr qdpu qdpb y34.1 y36.2 tb d0 d1 d2 d3 d4) H := cP (spq hB.1 hB.2.1 [0, 3, 4, 5, 6, 7] 8 rfl rfl (by decide +kernel) rfl) hP
              have hD : va_D (inW (wSu g qsu qte qteb qdp qdpe qdpr qdpu qdpb su t tb d0 d1 d2 d3 d4)) (wSu g qsu qte qteb qdp qdpe qdpr qdpu qdpb y34.1 y36.2 tb d0 d1 d2 d3 d4) := cD (spq hB.1 hB.2.1 [0, 3, 4, 5, 6, 7] 8 rfl rfl (by decide +kernel) rfl) hD
              have hz := lett_z hz ey36
              have hok := lett_o hok ey36
              refine pfI C hP hD hS 3 11 fkPa rfl (by decide) rfl qf_Su_89 rfl rfl rfl (Nat.le_of_ble_eq_true rfl) (ff := fun o => fPa qdpe qdpr qdpu qdpb o) (sPa_11 _ _ _ _ _ _) d_Su_takeStatement_148 (fun d_37 ed_37 H locs hP hD hS => ?_)
              have hP : va_P g.1 vwCl (wSu g qsu qte qteb qdp qdpe qdpr qdpu qdpb y34.1 y36.2 tb d_37 d1 d2 d3 d4) H := hP
              have hD : va_D (inW (wSu g qsu qte qteb qdp qdpe qdpr qdpu qdpb su t tb d0 d1 d2 d3 d4)) (wSu g qsu qte qteb qdp qdpe qdpr qdpu qdpb y34.1 y36.2 tb d_37 d1 d2 d3 d4) := hD
              have hz := lett_z hz ed_37
              have hok := lett_o hok ed_37
              refine lv_aload_n hx hb d_Su_takeStatement_151 rfl (lv_at hl 0 rfl) ?_
              refine gf C hP 0 1 fkSu rfl (by decide) rfl qf_Su_12 (gSu_1 _ _ _) d_Su_takeStatement_152 ?_
              refine lv_aload_n hx hb d_Su_takeStatement_155 rfl (lv_at hl 0 rfl) ?_
              refine gf C hP 0 0 fkSu rfl (by decide) rfl qf_Su_18 (gSu_0 _ _ _) d_Su_takeStatement_156 ?_
              refine lv_iconst (v := 1) hx hb d_Su_takeStatement_159 (by decide) ?_
              refine lv_ldc hx hb hown (hts _ qk_Su_92) d_Su_takeStatement_160 ?_
              have hs38 := hok.1
              have hok := hok.2
              have hB : SubW g (inW (wSu g qsu qte qteb qdp qdpe qdpr qdpu qdpb su t tb d0 d1 d2 d3 d4)) s (wSu g qsu qte qteb qdp qdpe qdpr qdpu qdpb y34.1 y36.2 tb d_37 d1 d2 d3 d4) (wTe g qte qteb y36.2 tb) [1, 2] _ _ := ⟨rfl, rfl, hP, hD, hS⟩
              refine goI1 hB (run_v C mf_Te_number qm_Su_70 (c_Te_number l g qte qteb y36.2 tb (1 : Int32) (1000000 : Int32) hs38) rfl rfl ⟨Nat.le_of_ble_eq_true rfl, Nat.le_of_ble_eq_true rfl⟩ ⟨Nat.le_of_ble_eq_true rfl, Nat.le_of_ble_eq_true rfl⟩ hB rfl rfl hl rfl rfl (Nat.le_of_ble_eq_true rfl) d_Su_takeStatement_162) (fun _ => rfl) (fun y39 ey39 H locs hP hD hS => ?_)
              have hP : va_P g.1 vwCl (wSu g qsu qte qteb qdp qdpe qdpr qdpu qdpb y34.1 y39.2 tb d_37 d1 d2 d3 d4) H := cP (spq hB.1 hB.2.1 [0, 3, 4, 5, 6, 7] 8 rfl rfl (by decide +kernel) rfl) hP
              have hD : va_D (inW (wSu g qsu qte qteb qdp qdpe qdpr qdpu qdpb su t tb d0 d1 d2 d3 d4)) (wSu g qsu qte qteb qdp qdpe qdpr qdpu qdpb y34.1 y39.2 tb d_37 d1 d2 d3 d4) := cD (spq hB.1 hB.2.1 [0, 3, 4, 5, 6, 7] 8 rfl rfl (by decide +kernel) rfl) hD
              have hz := lett_z hz ey39
              refine pfI C hP hD hS 3 12 fkPa rfl (by decide) rfl qf_Su_93 rfl rfl rfl (Nat.le_of_ble_eq_true rfl) (ff := fun o => fPa qdpe qdpr qdpu qdpb o) (sPa_12 _ _ _ _ _ _) d_Su_takeStatement_165 (fun d_40 ed_40 H locs hP hD hS => ?_)
              have hP : va_P g.1 vwCl (wSu g qsu qte qteb qdp qdpe qdpr qdpu qdpb y34.1 y39.2 tb d_40 d1 d2 d3 d4) H := hP
              have hD : va_D (inW (wSu g qsu qte qteb qdp qdpe qdpr qdpu qdpb su t tb d0 d1 d2 d3 d4)) (wSu g qsu qte qteb qdp qdpe qdpr qdpu qdpb y34.1 y39.2 tb d_40 d1 d2 d3 d4) := hD
              have hz := lett_z hz ed_40
              refine lv_goto (tgt := 236) hx hb d_Su_takeStatement_168 (by decide) ?_
              exact endV C hz hP hS d_Su_takeStatement_236
          · have hz := hz.trans (if_neg c15)
            have hok := hok.2 c15
            refine lv_aload_n hx hb d_Su_takeStatement_108 rfl (lv_at hl 0 rfl) ?_
            have hs41 := hok.1
            have hok := hok.2
            have hB : SubW g (inW (wSu g qsu qte qteb qdp qdpe qdpr qdpu qdpb su t tb d0 d1 d2 d3 d4)) s (wSu g qsu qte qteb qdp qdpe qdpr qdpu qdpb su t tb d0 d1 d2 d3 d4) _ (List.range _) _ _ := (subF hP hD hS)
            refine goVF hB (run_v C mf_Su_takeLeads qm_Su_84 (c_Su_takeLeads l g qsu qte qteb qdp qdpe qdpr qdpu qdpb su t tb d0 d1 d2 d3 d4 hs41) rfl rfl ⟨Nat.le_of_ble_eq_true rfl, Nat.le_of_ble_eq_true rfl⟩ ⟨Nat.le_of_ble_eq_true rfl, Nat.le_of_ble_eq_true rfl⟩ hB rfl rfl hl rfl rfl (Nat.le_of_ble_eq_true rfl) d_Su_takeStatement_109) (fun _ => rfl) (fun y42 ey42 H locs hP hD hS => ?_)
            have hP : va_P g.1 vwCl (wSu g qsu qte qteb qdp qdpe qdpr qdpu qdpb y42.1 y42.2.1 tb y42.2.2 d1 d2 d3 d4) H := hP
            have hD : va_D (inW (wSu g qsu qte qteb qdp qdpe qdpr qdpu qdpb su t tb d0 d1 d2 d3 d4)) (wSu g qsu qte qteb qdp qdpe qdpr qdpu qdpb y42.1 y42.2.1 tb y42.2.2 d1 d2 d3 d4) := hD
            have hz := lett_z hz ey42
            refine lv_goto (tgt := 236) hx hb d_Su_takeStatement_112 (by decide) ?_
            exact endV C hz hP hS d_Su_takeStatement_236
        · have hz := hz.trans (if_neg c12)
          have hok := hok.2 c12
          refine lv_aload_n hx hb d_Su_takeStatement_89 rfl (lv_at hl 0 rfl) ?_
          have hs43 := hok.1
          have hok := hok.2
          have hB : SubW g (inW (wSu g qsu qte qteb qdp qdpe qdpr qdpu qdpb su t tb d0 d1 d2 d3 d4)) s (wSu g qsu qte qteb qdp qdpe qdpr qdpu qdpb su t tb d0 d1 d2 d3 d4) _ (List.range _) _ _ := (subF hP hD hS)
          refine goVF hB (run_v C mf_Su_takeWarm qm_Su_79 (c_Su_takeWarm l g qsu qte qteb qdp qdpe qdpr qdpu qdpb su t tb d0 d1 d2 d3 d4 hs43) rfl rfl ⟨Nat.le_of_ble_eq_true rfl, Nat.le_of_ble_eq_true rfl⟩ ⟨Nat.le_of_ble_eq_true rfl, Nat.le_of_ble_eq_true rfl⟩ hB rfl rfl hl rfl rfl (Nat.le_of_ble_eq_true rfl) d_Su_takeStatement_90) (fun _ => rfl) (fun y44 ey44 H locs hP hD hS => ?_)
          have hP : va_P g.1 vwCl (wSu g qsu qte qteb qdp qdpe qdpr qdpu qdpb y44.1 y44.2.1 tb d0 d1 d2 y44.2.2.1 y44.2.2.2) H := hP
          have hD : va_D (inW (wSu g qsu qte qteb qdp qdpe qdpr qdpu qdpb su t tb d0 d1 d2 d3 d4)) (wSu g qsu qte qteb qdp qdpe qdpr qdpu qdpb y44.1 y44.2.1 tb d0 d1 d2 y44.2.2.1 y44.2.2.2) := hD
          have hz := lett_z hz ey44
          refine lv_goto (tgt := 236) hx hb d_Su_takeStatement_93 (by decide) ?_
          exact endV C hz hP hS d_Su_takeStatement_236
      · have hz := hz.trans (if_neg c9)
        have hok := hok.2 c9
        refine lv_aload_n hx hb d_Su_takeStatement_50 rfl (lv_at hl 0 rfl) ?_
        refine lv_iconst (v := 2) hx hb d_Su_takeStatement_51 (by decide) ?_
        have hs45 := hok.1
        have hok := hok.2
        have hB : SubW g (inW (wSu g qsu qte qteb qdp qdpe qdpr qdpu qdpb su t tb d0 d1 d2 d3 d4)) s (wSu g qsu qte qteb qdp qdpe qdpr qdpu qdpb su t tb d0 d1 d2 d3 d4) _ (List.range _) _ _ := (subF hP hD hS)
        refine goVF hB (run_v C mf_Su_takeOnce qm_Su_66 (c_Su_takeOnce l g qsu qte qteb qdp qdpe qdpr qdpu qdpb su t tb d0 d1 d2 d3 d4 (2 : Int32) hs45) rfl rfl ⟨Nat.le_of_ble_eq_true rfl, Nat.le_of_ble_eq_true rfl⟩ ⟨Nat.le_of_ble_eq_true rfl, Nat.le_of_ble_eq_true rfl⟩ hB rfl rfl hl rfl rfl (Nat.le_of_ble_eq_true rfl) d_Su_takeStatement_52) (fun _ => rfl) (fun y46 ey46 H locs hP hD hS => ?_)
        have hP : va_P g.1 vwCl (wSu g qsu qte qteb qdp qdpe qdpr qdpu qdpb y46.1 y46.2 tb d0 d1 d2 d3 d4) H := hP
        have hD : va_D (inW (wSu g qsu qte qteb qdp qdpe qdpr qdpu qdpb su t tb d0 d1 d2 d3 d4)) (wSu g qsu qte qteb qdp qdpe qdpr qdpu qdpb y46.1 y46.2 tb d0 d1 d2 d3 d4) := hD
        have hz := lett_z hz ey46
        have hok := lett_o hok ey46
        refine lv_aload_n hx hb d_Su_takeStatement_55 rfl (lv_at hl 0 rfl) ?_
        refine gf C hP 0 1 fkSu rfl (by decide) rfl qf_Su_12 (gSu_1 _ _ _) d_Su_takeStatement_56 ?_
        refine lv_aload_n hx hb d_Su_takeStatement_59 rfl (lv_at hl 0 rfl) ?_
        refine gf C hP 0 0 fkSu rfl (by decide) rfl qf_Su_18 (gSu_0 _ _ _) d_Su_takeStatement_60 ?_
        refine lv_sipush (v := 1000) hx hb d_Su_takeStatement_63 (by decide) ?_
        refine lv_ldc hx hb hown (hts _ qk_Su_69) d_Su_takeStatement_66 ?_
        have hs47 := hok.1
        have hok := hok.2
        have hB : SubW g (inW (wSu g qsu qte qteb qdp qdpe qdpr qdpu qdpb su t tb d0 d1 d2 d3 d4)) s (wSu g qsu qte qteb qdp qdpe qdpr qdpu qdpb y46.1 y46.2 tb d0 d1 d2 d3 d4) (wTe g qte qteb y46.2 tb) [1, 2] _ _ := ⟨rfl, rfl, hP, hD, hS⟩
        refine goI1 hB (run_v C mf_Te_number qm_Su_70 (c_Te_number l g qte qteb y46.2 tb (1000 : Int32) (100000000 : Int32) hs47) rfl rfl ⟨Nat.le_of_ble_eq_true rfl, Nat.le_of_ble_eq_true rfl⟩ ⟨Nat.le_of_ble_eq_true rfl, Nat.le_of_ble_eq_true rfl⟩ hB rfl rfl hl rfl rfl (Nat.le_of_ble_eq_true rfl) d_Su_takeStatement_68) (fun _ => rfl) (fun y48 ey48 H locs hP hD hS => ?_)
        have hP : va_P g.1 vwCl (wSu g qsu qte qteb qdp qdpe qdpr qdpu qdpb y46.1 y48.2 tb d0 d1 d2 d3 d4) H := cP (spq hB.1 hB.2.1 [0, 3, 4, 5, 6, 7] 8 rfl rfl (by decide +kernel) rfl) hP
        have hD : va_D (inW (wSu g qsu qte qteb qdp qdpe qdpr qdpu qdpb su t tb d0 d1 d2 d3 d4)) (wSu g qsu qte qteb qdp qdpe qdpr qdpu qdpb y46.1 y48.2 tb d0 d1 d2 d3 d4) := cD (spq hB.1 hB.2.1 [0, 3, 4, 5, 6, 7] 8 rfl rfl (by decide +kernel) rfl) hD
        have hz := lett_z hz ey48
        refine pfI C hP hD hS 3 5 fkPa rfl (by decide) rfl qf_Su_74 rfl rfl rfl (Nat.le_of_ble_eq_true rfl) (ff := fun o => fPa qdpe qdpr qdpu qdpb o) (sPa_5 _ _ _ _ _ _) d_Su_takeStatement_71 (fun d_49 ed_49 H locs hP hD hS => ?_)
        have hP : va_P g.1 vwCl (wSu g qsu qte qteb qdp qdpe qdpr qdpu qdpb y46.1 y48.2 tb d_49 d1 d2 d3 d4) H := hP
        have hD : va_D (inW (wSu g qsu qte qteb qdp qdpe qdpr qdpu qdpb su t tb d0 d1 d2 d3 d4)) (wSu g qsu qte qteb qdp qdpe qdpr qdpu qdpb y46.1 y48.2 tb d_49 d1 d2 d3 d4) := hD
        have hz := lett_z hz ed_49
        refine lv_goto (tgt := 236) hx hb d_Su_takeStatement_74 (by decide) ?_
        exact endV C hz hP hS d_Su_takeStatement_236
    · have hz := hz.trans (if_neg c6)
      have hok := hok.2 c6
      refine lv_aload_n hx hb d_Su_takeStatement_31 rfl (lv_at hl 0 rfl) ?_
      have hs50 := hok.1
      have hok := hok.2
      have hB : SubW g (inW (wSu g qsu qte qteb qdp qdpe qdpr qdpu qdpb su t tb d0 d1 d2 d3 d4)) s (wSu g qsu qte qteb qdp qdpe qdpr qdpu qdpb su t tb d0 d1 d2 d3 d4) _ (List.range _) _ _ := (subF hP hD hS)
      refine goVF hB (run_v C mf_Su_takeRatio qm_Su_61 (c_Su_takeRatio l g qsu qte qteb qdp qdpe qdpr qdpu qdpb su t tb d0 d1 d2 d3 d4 hs50) rfl rfl ⟨Nat.le_of_ble_eq_true rfl, Nat.le_of_ble_eq_true rfl⟩ ⟨Nat.le_of_ble_eq_true rfl, Nat.le_of_ble_eq_true rfl⟩ hB rfl rfl hl rfl rfl (Nat.le_of_ble_eq_true rfl) d_Su_takeStatement_32) (fun _ => rfl) (fun y51 ey51 H locs hP hD hS => ?_)
      have hP : va_P g.1 vwCl (wSu g qsu qte qteb qdp qdpe qdpr qdpu qdpb y51.1 y51.2.1 tb d0 d1 y51.2.2 d3 d4) H := hP
      have hD : va_D (inW (wSu g qsu qte qteb qdp qdpe qdpr qdpu qdpb su t tb d0 d1 d2 d3 d4)) (wSu g qsu qte qteb qdp qdpe qdpr qdpu qdpb y51.1 y51.2.1 tb d0 d1 y51.2.2 d3 d4) := hD
      have hz := lett_z hz ey51
      refine lv_goto (tgt := 236) hx hb d_Su_takeStatement_35 (by decide) ?_
      exact endV C hz hP hS d_Su_takeStatement_236
  · have hz := hz.trans (if_neg c3)
    have hok := hok.2 c3
    refine lv_aload_n hx hb d_Su_takeStatement_12 rfl (lv_at hl 0 rfl) ?_
    have hs52 := hok.1
    have hok := hok.2
    have hB : SubW g (inW (wSu g qsu qte qteb qdp qdpe qdpr qdpu qdpb su t tb d0 d1 d2 d3 d4)) s (wSu g qsu qte qteb qdp qdpe qdpr qdpu qdpb su t tb d0 d1 d2 d3 d4) _ (List.range _) _ _ := (subF hP hD hS)
    refine goVF hB (run_v C mf_Su_takeBox qm_Su_56 (c_Su_takeBox l g qsu qte qteb qdp qdpe qdpr qdpu qdpb su t tb d0 d1 d2 d3 d4 hs52) rfl rfl ⟨Nat.le_of_ble_eq_true rfl, Nat.le_of_ble_eq_true rfl⟩ ⟨Nat.le_of_ble_eq_true rfl, Nat.le_of_ble_eq_true rfl⟩ hB rfl rfl hl rfl rfl (Nat.le_of_ble_eq_true rfl) d_Su_takeStatement_13) (fun _ => rfl) (fun y53 ey53 H locs hP hD hS => ?_)
    have hP : va_P g.1 vwCl (wSu g qsu qte qteb qdp qdpe qdpr qdpu qdpb y53.1 y53.2.1 tb y53.2.2.1 y53.2.2.2 d2 d3 d4) H := hP
    have hD : va_D (inW (wSu g qsu qte qteb qdp qdpe qdpr qdpu qdpb su t tb d0 d1 d2 d3 d4)) (wSu g qsu qte qteb qdp qdpe qdpr qdpu qdpb y53.1 y53.2.1 tb y53.2.2.1 y53.2.2.2 d2 d3 d4) := hD
    have hz := lett_z hz ey53
    refine lv_goto (tgt := 236) hx hb d_Su_takeStatement_16 (by decide) ?_
    exact endV C hz hP hS d_Su_takeStatement_236
abbrev rm_Pr_understood : Room := { frames := 7, cells := 0, slots := 0, locals := 151 }
def HL_Pr_understood_19 (p : Program) (l : Launch) (e : Env) (s : State) (m : MethodId) (args : Array Value) (below : List Frame) (meth : Method) (c : Code) (g : GX) (qpr : Nat) (qpro : Nat) (qprf : Nat) (qprs : Nat) (qprb : Nat) (qprn : Nat) (qprt : Nat) (qte : Nat) (qteb : Nat) (ws0 : va_W) (pt : IV) (tb : IV) (sp : Int32 → IV → IV → IV → IV → IV → IV → IV → (Int32 × IV × IV × IV × IV × IV × IV × IV)) (ok : Int32 → IV → IV → IV → IV → IV → IV → IV → Prop) : Prop := ∀ (x1p19 : Int32) (pip19 : IV) (pop19 : IV) (pfp19 : IV) (psp19 : IV) (pbp19 : IV) (pnp19 : IV) (tp19 : IV), ok x1p19 pip19 pop19 pfp19 psp19 pbp19 pnp19 tp19 → ∀ z : (Int32 × IV × IV × IV × IV × IV × IV × IV), z = sp x1p19 pip19 pop19 pfp19 psp19 pbp19 pnp19 tp19 → ∀ (H : Heap) (locs : List Loc) (ls : Array Slot), va_P g.1 vwCl (wPr g qpr qpro qprf qprs qprb qprn qprt qte qteb pip19 pop19 pfp19 psp19 pbp19 pnp19 pt tp19 tb) H → va_D (inW ws0) (wPr g qpr qpro qprf qprs qprb qprn qprt qte qteb pip19 pop19 pfp19 psp19 pbp19 pnp19 pt tp19 tb) → va_S (inW ws0) s.heap H locs → lv_has ls 2 [(0, .ref qpr), (1, .int x1p19)] → W p l e rm_Pr_understood s m args below meth c H locs 0 0 (MQ below (CI g ws0 (fun u : IV × IV × IV × IV × IV × IV × IV => wPr g qpr qpro qprf qprs qprb qprn qprt qte qteb u.1 u.2.1 u.2.2.1 u.2.2.2.1 u.2.2.2.2.1 u.2.2.2.2.2.1 pt u.2.2.2.2.2.2 tb) z) args s 0 0 (inW ws0)) (F0 m 19 ls [])
def HL_Pr_understood_72 (p : Program) (l : Launch) (e : Env) (s : State) (m : MethodId) (args : Array Value) (below : List Frame) (meth : Method) (c : Code) (g : GX) (qpr : Nat) (qpro : Nat) (qprf : Nat) (qprs : Nat) (qprb : Nat) (qprn : Nat) (qprt : Nat) (qte : Nat) (qteb : Nat) (ws0 : va_W) (pip19 : IV) (pop19 : IV) (pfp19 : IV) (psp19 : IV) (pbp19 : IV) (pnp19 : IV) (pt : IV) (tp19 : IV) (tb : IV) (x1p19 : Int32) (sp : (Int32 × IV × IV × IV × IV × IV × IV × IV)) (ok : Prop) : Prop := ∀ (_ : Unit), ok → ∀ z : (Int32 × IV × IV × IV × IV × IV × IV × IV), z = sp → ∀ (H : Heap) (locs : List Loc) (ls : Array Slot), va_P g.1 vwCl (wPr g qpr qpro qprf qprs qprb qprn qprt qte qteb pip19 pop19 pfp19 psp19 pbp19 pnp19 pt tp19 tb) H → va_D (inW ws0) (wPr g qpr qpro qprf qprs qprb qprn qprt qte qteb pip19 pop19 pfp19 psp19 pbp19 pnp19 pt tp19 tb) → va_S (inW ws0) s.heap H locs → lv_has ls 2 [(0, .ref qpr), (1, .int x1p19)] → W p l e rm_Pr_understood s m args below meth c H locs 0 0 (MQ below (CI g ws0 (fun u : IV × IV × IV × IV × IV × IV × IV => wPr g qpr qpro qprf qprs qprb qprn qprt qte qteb u.1 u.2.1 u.2.2.1 u.2.2.2.1 u.2.2.2.2.1 u.2.2.2.2.2.1 pt u.2.2.2.2.2.2 tb) z) args s 0 0 (inW ws0)) (F0 m 72 ls [])
def HL_Pr_understood_76 (p : Program) (l : Launch) (e : Env) (s : State) (m : MethodId) (args : Array Value) (below : List Frame) (meth : Method) (c : Code) (g : GX) (qpr : Nat) (qpro : Nat) (qprf : Nat) (qprs : Nat) (qprb : Nat) (qprn : Nat) (qprt : Nat) (qte : Nat) (qteb : Nat) (ws0 : va_W) (pt : IV) (tb : IV) (x1p19 : Int32) (sp : IV → IV → IV → IV → IV → IV → IV → (Int32 × IV × IV × IV × IV × IV × IV × IV)) (ok : IV → IV → IV → IV → IV → IV → IV → Prop) : Prop := ∀ (pip76 : IV) (pop76 : IV) (pfp76 : IV) (psp76 : IV) (pbp76 : IV) (pnp76 : IV) (tp76 : IV), ok pip76 pop76 pfp76 psp76 pbp76 pnp76 tp76 → ∀ z : (Int32 × IV × IV × IV × IV × IV × IV × IV), z = sp pip76 pop76 pfp76 psp76 pbp76 pnp76 tp76 → ∀ (H : Heap) (locs : List Loc) (ls : Array Slot), va_P g.1 vwCl (wPr g qpr qpro qprf qprs qprb qprn qprt qte qteb pip76 pop76 pfp76 psp76 pbp76 pnp76 pt tp76 tb) H → va_D (inW ws0) (wPr g qpr qpro qprf qprs qprb qprn qprt qte qteb pip76 pop76 pfp76 psp76 pbp76 pnp76 pt tp76 tb) → va_S (inW ws0) s.heap H locs → lv_has ls 2 [(0, .ref qpr), (1, .int x1p19)] → W p l e rm_Pr_understood s m args below meth c H locs 0 0 (MQ below (CI g ws0 (fun u : IV × IV × IV × IV × IV × IV × IV => wPr g qpr qpro qprf qprs qprb qprn qprt qte qteb u.1 u.2.1 u.2.2.1 u.2.2.2.1 u.2.2.2.2.1 u.2.2.2.2.2.1 pt u.2.2.2.2.2.2 tb) z) args s 0 0 (inW ws0)) (F0 m 76 ls [])
def HL_Pr_understood_82 (p : Program) (l : Launch) (e : Env) (s : State) (m : MethodId) (args : Array Value) (below : List Frame) (meth : Method) (c : Code) (g : GX) (qpr : Nat) (qpro : Nat) (qprf : Nat) (qprs : Nat) (qprb : Nat) (qprn : Nat) (qprt : Nat) (qte : Nat) (qteb : Nat) (ws0 : va_W) (pip19 : IV) (pop19 : IV) (pfp19 : IV) (psp19 : IV) (pbp19 : IV) (pnp19 : IV) (pt : IV) (tp19 : IV) (tb : IV) (sp : (Int32 × IV × IV × IV × IV × IV × IV × IV)) (ok : Prop) : Prop := ∀ (_ : Unit), ok → ∀ z : (Int32 × IV × IV × IV × IV × IV × IV × IV), z = sp → ∀ (H : Heap) (locs : List Loc) (ls : Array Slot), va_P g.1 vwCl (wPr g qpr qpro qprf qprs qprb qprn qprt qte qteb pip19 pop19 pfp19 psp19 pbp19 pnp19 pt tp19 tb) H → va_D (inW ws0) (wPr g qpr qpro qprf qprs qprb qprn qprt qte qteb pip19 pop19 pfp19 psp19 pbp19 pnp19 pt tp19 tb) → va_S (inW ws0) s.heap H locs → lv_has ls 2 [(0, .ref qpr)] → W p l e rm_Pr_understood s m args below meth c H locs 0 0 (MQ below (CI g ws0 (fun u : IV × IV × IV × IV × IV × IV × IV => wPr g qpr qpro qprf qprs qprb qprn qprt qte qteb u.1 u.2.1 u.2.2.1 u.2.2.2.1 u.2.2.2.2.1 u.2.2.2.2.2.1 pt u.2.2.2.2.2.2 tb) z) args s 0 0 (inW ws0)) (F0 m 82 ls [])
def HL_Pr_understood_97 (p : Program) (l : Launch) (e : Env) (s : State) (m : MethodId) (args : Array Value) (below : List Frame) (meth : Method) (c : Code) (g : GX) (qpr : Nat) (qpro : Nat) (qprf : Nat) (qprs : Nat) (qprb : Nat) (qprn : Nat) (qprt : Nat) (qte : Nat) (qteb : Nat) (ws0 : va_W) (pip19 : IV) (pop19 : IV) (pfp19 : IV) (psp19 : IV) (pbp19 : IV) (pnp19 : IV) (pt : IV) (tb : IV) (sp : IV → (Int32 × IV × IV × IV × IV × IV × IV × IV)) (ok : IV → Prop) : Prop := ∀ (tp97 : IV), ok tp97 → ∀ z : (Int32 × IV × IV × IV × IV × IV × IV × IV), z = sp tp97 → ∀ (H : Heap) (locs : List Loc) (ls : Array Slot), va_P g.1 vwCl (wPr g qpr qpro qprf qprs qprb qprn qprt qte qteb pip19 pop19 pfp19 psp19 pbp19 pnp19 pt tp97 tb) H → va_D (inW ws0) (wPr g qpr qpro qprf qprs qprb qprn qprt qte qteb pip19 pop19 pfp19 psp19 pbp19 pnp19 pt tp97 tb) → va_S (inW ws0) s.heap H locs → lv_has ls 2 [(0, .ref qpr)] → W p l e rm_Pr_understood s m args below meth c H locs 0 0 (MQ below (CI g ws0 (fun u : IV × IV × IV × IV × IV × IV × IV => wPr g qpr qpro qprf qprs qprb qprn qprt qte qteb u.1 u.2.1 u.2.2.1 u.2.2.2.1 u.2.2.2.2.1 u.2.2.2.2.2.1 pt u.2.2.2.2.2.2 tb) z) args s 0 0 (inW ws0)) (F0 m 97 ls [])
noncomputable def sp_Pr_understood_97 (pip19 : IV) (pop19 : IV) (pfp19 : IV) (psp19 : IV) (pbp19 : IV) (pnp19 : IV)  (tp97 : IV) : Int32 × IV × IV × IV × IV × IV × IV × IV := if (tp97 5) = 0 then (((1 : Int32), (pip19, pop19, pfp19, psp19, pbp19, pnp19, tp97))) else (((0 : Int32), (pip19, pop19, pfp19, psp19, pbp19, pnp19, tp97)))
def ok_Pr_understood_97 (pip19 : IV) (pop19 : IV) (pfp19 : IV) (psp19 : IV) (pbp19 : IV) (pnp19 : IV)   (tp97 : IV) : Prop := True
set_option maxRecDepth 100000 in
set_option maxHeartbeats 4000000 in
theorem k_Pr_understood_97 {p : Program} {l : Launch} {e : Env} {s : State} {m : MethodId} {args : Array Value} {below : List Frame} {meth : Method} {c : Code} {g : GX} {qpr : Nat} {qpro : Nat} {qprf : Nat} {qprs : Nat} {qprb : Nat} {qprn : Nat} {qprt : Nat} {qte : Nat} {qteb : Nat} {ws0 : va_W} {pip19 : IV} {pop19 : IV} {pfp19 : IV} {psp19 : IV} {pbp19 : IV} {pnp19 : IV} {pt : IV} {tb : IV}  (C : Cx p s m args meth c (inW ws0) g "DecadeBridge$Protocol" b_Pr_understood (some .boolean) 2)  : HL_Pr_understood_97 p l e s m args below meth c g qpr qpro qprf qprs qprb qprn qprt qte qteb ws0 pip19 pop19 pfp19 psp19 pbp19 pnp19 pt tb (sp_Pr_understood_97 pip19 pop19 pfp19 psp19 pbp19 pnp19 ) (ok_Pr_understood_97 pip19 pop19 pfp19 psp19 pbp19 pnp19  ) := by
  intro tp97 hok z hz H locs ls hP hD hS hl
  obtain ⟨hx, hb, hr, hml, hown, hlk, hts, hK, hZo, hZ⟩ := id C
  unfold sp_Pr_understood_97 at hz
  refine lv_aload_n hx hb d_Pr_understood_97 rfl (lv_at hl 0 rfl) ?_
  refine gf C hP 0 0 fkPr rfl (by decide) rfl qf_Pr_30 (gPr_0 _ _ _ _ _ _ _ _) d_Pr_understood_98 ?_
  refine gf C hP 7 5 fkTe rfl (by decide) rfl qf_Pr_50 (gTe_5 _ _) d_Pr_understood_101 ?_
  refine lv_if_ne (tgt := 111) hx hb d_Pr_understood_104 (by decide) (fun c17 => ?_) (fun c17 => ?_)
  · have hz := hz.trans (if_neg c17)
    refine lv_iconst (v := 0) hx hb d_Pr_understood_111 (by decide) ?_
    exact endZ1 C hz hP hS rfl d_Pr_understood_112
  · have hz := hz.trans (if_pos c17)
    refine lv_iconst (v := 1) hx hb d_Pr_understood_107 (by decide) ?_
    refine lv_goto (tgt := 112) hx hb d_Pr_understood_108 (by decide) ?_
    exact endZ1 C hz hP hS rfl d_Pr_understood_112
noncomputable def sp_Pr_understood_82 (pip19 : IV) (pop19 : IV) (pfp19 : IV) (psp19 : IV) (pbp19 : IV) (pnp19 : IV) (tp19 : IV)   : Int32 × IV × IV × IV × IV × IV × IV × IV := if (pip19 8) ≤ 0 then (sp_Pr_understood_97 pip19 pop19 pfp19 psp19 pbp19 pnp19 tp19) else (lett (sp_Te_fail (1 : Int32) tp19) fun (y16 : IV) => sp_Pr_understood_97 pip19 pop19 pfp19 psp19 pbp19 pnp19 y16)
def ok_Pr_understood_82 (pip19 : IV) (pop19 : IV) (pfp19 : IV) (psp19 : IV) (pbp19 : IV) (pnp19 : IV) (tp19 : IV)    : Prop := True
set_option maxRecDepth 100000 in
set_option maxHeartbeats 4000000 in
theorem k_Pr_understood_82 {p : Program} {l : Launch} {e : Env} {s : State} {m : MethodId} {args : Array Value} {below : List Frame} {meth : Method} {c : Code} {g : GX} {qpr : Nat} {qpro : Nat} {qprf : Nat} {qprs : Nat} {qprb : Nat} {qprn : Nat} {qprt : Nat} {qte : Nat} {qteb : Nat} {ws0 : va_W} {pip19 : IV} {pop19 : IV} {pfp19 : IV} {psp19 : IV} {pbp19 : IV} {pnp19 : IV} {pt : IV} {tp19 : IV} {tb : IV}  (C : Cx p s m args meth c (inW ws0) g "DecadeBridge$Protocol" b_Pr_understood (some .boolean) 2)  : HL_Pr_understood_82 p l e s m args below meth c g qpr qpro qprf qprs qprb qprn qprt qte qteb ws0 pip19 pop19 pfp19 psp19 pbp19 pnp19 pt tp19 tb (sp_Pr_understood_82 pip19 pop19 pfp19 psp19 pbp19 pnp19 tp19 ) (ok_Pr_understood_82 pip19 pop19 pfp19 psp19 pbp19 pnp19 tp19  ) := by
  intro _ hok z hz H locs ls hP hD hS hl
  obtain ⟨hx, hb, hr, hml, hown, hlk, hts, hK, hZo, hZ⟩ := id C
  unfold sp_Pr_understood_82 at hz
  refine lv_aload_n hx hb d_Pr_understood_82 rfl (lv_at hl 0 rfl) ?_
  refine gf C hP 0 8 fkPr rfl (by decide) rfl qf_Pr_42 (gPr_8 _ _ _ _ _ _ _ _) d_Pr_understood_83 ?_
  refine lv_if_le (tgt := 97) hx hb d_Pr_understood_86 (by decide) (fun c15 => ?_) (fun c15 => ?_)
  · have hz := hz.trans (if_pos c15)
    exact k_Pr_understood_97 C tp19 trivial _ hz _ _ ls hP hD hS hl
  · have hz := hz.trans (if_neg c15)
    refine lv_aload_n hx hb d_Pr_understood_89 rfl (lv_at hl 0 rfl) ?_
    refine gf C hP 0 0 fkPr rfl (by decide) rfl qf_Pr_30 (gPr_0 _ _ _ _ _ _ _ _) d_Pr_understood_90 ?_
    refine lv_iconst (v := 1) hx hb d_Pr_understood_93 (by decide) ?_
    have hB : SubW g (inW ws0) s (wPr g qpr qpro qprf qprs qprb qprn qprt qte qteb pip19 pop19 pfp19 psp19 pbp19 pnp19 pt tp19 tb) (wTe g qte qteb tp19 tb) [7, 8] _ _ := ⟨rfl, rfl, hP, hD, hS⟩
    refine goV1 hB (run_v C mf_Te_fail qm_Pr_62 (c_Te_fail l g qte qteb tp19 tb (1 : Int32)) rfl rfl ⟨Nat.le_of_ble_eq_true rfl, Nat.le_of_ble_eq_true rfl⟩ ⟨Nat.le_of_ble_eq_true rfl, Nat.le_of_ble_eq_true rfl⟩ hB rfl rfl hl rfl rfl (Nat.le_of_ble_eq_true rfl) d_Pr_understood_94) (fun _ => rfl) (fun y16 ey16 H locs hP hD hS => ?_)
    have hP : va_P g.1 vwCl (wPr g qpr qpro qprf qprs qprb qprn qprt qte qteb pip19 pop19 pfp19 psp19 pbp19 pnp19 pt y16 tb) H := cP (spq hB.1 hB.2.1 [0, 1, 2, 3, 4, 5, 6] 9 rfl rfl (by decide +kernel) rfl) hP
    have hD : va_D (inW ws0) (wPr g qpr qpro qprf qprs qprb qprn qprt qte qteb pip19 pop19 pfp19 psp19 pbp19 pnp19 pt y16 tb) := cD (spq hB.1 hB.2.1 [0, 1, 2, 3, 4, 5, 6] 9 rfl rfl (by decide +kernel) rfl) hD
    have hz := lett_z hz ey16
    exact k_Pr_understood_97 C y16 trivial _ hz _ _ ls hP hD hS hl
noncomputable def sp_Pr_understood_76 (x1p19 : Int32) (r19 : Int32 → IV → IV → IV → IV → IV → IV → IV → (Int32 × IV × IV × IV × IV × IV × IV × IV)) (pip76 : IV) (pop76 : IV) (pfp76 : IV) (psp76 : IV) (pbp76 : IV) (pnp76 : IV) (tp76 : IV) : Int32 × IV × IV × IV × IV × IV × IV × IV := lett (x1p19 + (1 : Int32)) fun (v14 : Int32) => r19 v14 pip76 pop76 pfp76 psp76 pbp76 pnp76 tp76
def ok_Pr_understood_76 (x1p19 : Int32) (r19 : Int32 → IV → IV → IV → IV → IV → IV → IV → (Int32 × IV × IV × IV × IV × IV × IV × IV)) (q19 : Int32 → IV → IV → IV → IV → IV → IV → IV → Prop) (pip76 : IV) (pop76 : IV) (pfp76 : IV) (psp76 : IV) (pbp76 : IV) (pnp76 : IV) (tp76 : IV) : Prop := lett (x1p19 + (1 : Int32)) fun (v14 : Int32) => q19 v14 pip76 pop76 pfp76 psp76 pbp76 pnp76 tp76
set_option maxRecDepth 100000 in
set_option maxHeartbeats 4000000 in
theorem k_Pr_understood_76 {p : Program} {l : Launch} {e : Env} {s : State} {m : MethodId} {args : Array Value} {below : List Frame} {meth : Method} {c : Code} {g : GX} {qpr : Nat} {qpro : Nat} {qprf : Nat} {qprs : Nat} {qprb : Nat} {qprn : Nat} {qprt : Nat} {qte : Nat} {qteb : Nat} {ws0 : va_W} {pt : IV} {tb : IV} {x1p19 : Int32} {r19 : Int32 → IV → IV → IV → IV → IV → IV → IV → (Int32 × IV × IV × IV × IV × IV × IV × IV)} {q19 : Int32 → IV → IV → IV → IV → IV → IV → IV → Prop} (C : Cx p s m args meth c (inW ws0) g "DecadeBridge$Protocol" b_Pr_understood (some .boolean) 2) (ih19 : HL_Pr_understood_19 p l e s m args below meth c g qpr qpro qprf qprs qprb qprn qprt qte qteb ws0 pt tb r19 q19) : HL_Pr_understood_76 p l e s m args below meth c g qpr qpro qprf qprs qprb qprn qprt qte qteb ws0 pt tb x1p19 (sp_Pr_understood_76 x1p19 r19) (ok_Pr_understood_76 x1p19 r19 q19) := by
  intro pip76 pop76 pfp76 psp76 pbp76 pnp76 tp76 hok z hz H locs ls hP hD hS hl
  obtain ⟨hx, hb, hr, hml, hown, hlk, hts, hK, hZo, hZ⟩ := id C
  unfold sp_Pr_understood_76 at hz
  unfold ok_Pr_understood_76 at hok
  obtain ⟨v14, ev14⟩ : ∃ y : Int32, y = x1p19 + (1 : Int32) := ⟨_, rfl⟩
  have hz := lett_z hz ev14
  have hok := lett_o hok ev14
  refine lv_iinc (v := v14) (lv' := [(1, .int v14), (0, .ref qpr)]) hx hb d_Pr_understood_76 hl (k := 1) rfl (by rw [ev14]; rfl) (by decide) rfl (fun ls hl => ?_)
  refine lv_goto (tgt := 19) hx hb d_Pr_understood_79 (by decide) ?_
  exact ih19 v14 pip76 pop76 pfp76 psp76 pbp76 pnp76 tp76 hok _ hz _ _ ls hP hD hS (lv_sub hl [1, 0] rfl)
noncomputable def sp_Pr_understood_72 (pip19 : IV) (pop19 : IV) (pfp19 : IV) (psp19 : IV) (pnp19 : IV) (tp19 : IV) (tb : IV) (x1p19 : Int32) (pbp19 : IV) (r19 : Int32 → IV → IV → IV → IV → IV → IV → IV → (Int32 × IV × IV × IV × IV × IV × IV × IV))  : Int32 × IV × IV × IV × IV × IV × IV × IV := lett (sp_Pr_takeStep pip19 pop19 pfp19 psp19 pnp19 tp19 tb) fun (y13 : IV × IV × IV × IV × IV × IV) => sp_Pr_understood_76 x1p19 r19 y13.1 y13.2.1 y13.2.2.1 y13.2.2.2.1 pbp19 y13.2.2.2.2.1 y13.2.2.2.2.2
def ok_Pr_understood_72 (pip19 : IV) (pop19 : IV) (pfp19 : IV) (psp19 : IV) (pnp19 : IV) (tp19 : IV) (tb : IV) (x1p19 : Int32) (pbp19 : IV) (r19 : Int32 → IV → IV → IV → IV → IV → IV → IV → (Int32 × IV × IV × IV × IV × IV × IV × IV)) (q19 : Int32 → IV → IV → IV → IV → IV → IV → IV → Prop)  : Prop := (ok_Pr_takeStep pip19 pop19 pfp19 psp19 pnp19 tp19 tb) ∧ lett (sp_Pr_takeStep pip19 pop19 pfp19 psp19 pnp19 tp19 tb) fun (y13 : IV × IV × IV × IV × IV × IV) => ok_Pr_understood_76 x1p19 r19 q19 y13.1 y13.2.1 y13.2.2.1 y13.2.2.2.1 pbp19 y13.2.2.2.2.1 y13.2.2.2.2.2
set_option maxRecDepth 100000 in
set_option maxHeartbeats 4000000 in
theorem k_Pr_understood_72 {p : Program} {l : Launch} {e : Env} {s : State} {m : MethodId} {args : Array Value} {below : List Frame} {meth : Method} {c : Code} {g : GX} {qpr : Nat} {qpro : Nat} {qprf : Nat} {qprs : Nat} {qprb : Nat} {qprn : Nat} {qprt : Nat} {qte : Nat} {qteb : Nat} {ws0 : va_W} {pip19 : IV} {pop19 : IV} {pfp19 : IV} {psp19 : IV} {pbp19 : IV} {pnp19 : IV} {pt : IV} {tp19 : IV} {tb : IV} {x1p19 : Int32} {r19 : Int32 → IV → IV → IV → IV → IV → IV → IV → (Int32 × IV × IV × IV × IV × IV × IV × IV)} {q19 : Int32 → IV → IV → IV → IV → IV → IV → IV → Prop} (C : Cx p s m args meth c (inW ws0) g "DecadeBridge$Protocol" b_Pr_understood (some .boolean) 2) (ih19 : HL_Pr_understood_19 p l e s m args below meth c g qpr qpro qprf qprs qprb qprn qprt qte qteb ws0 pt tb r19 q19) : HL_Pr_understood_72 p l e s m args below meth c g qpr qpro qprf qprs qprb qprn qprt qte qteb ws0 pip19 pop19 pfp19 psp19 pbp19 pnp19 pt tp19 tb x1p19 (sp_Pr_understood_72 pip19 pop19 pfp19 psp19 pnp19 tp19 tb x1p19 pbp19 r19) (ok_Pr_understood_72 pip19 pop19 pfp19 psp19 pnp19 tp19 tb x1p19 pbp19 r19 q19) := by
  intro _ hok z hz H locs ls hP hD hS hl
  obtain ⟨hx, hb, hr, hml, hown, hlk, hts, hK, hZo, hZ⟩ := id C
  unfold sp_Pr_understood_72 at hz
  unfold ok_Pr_understood_72 at hok
  refine lv_aload_n hx hb d_Pr_understood_72 rfl (lv_at hl 0 rfl) ?_
  have hs12 := hok.1
  have hok := hok.2
  have hB : SubW g (inW ws0) s (wPr g qpr qpro qprf qprs qprb qprn qprt qte qteb pip19 pop19 pfp19 psp19 pbp19 pnp19 pt tp19 tb) _ (List.range _) _ _ := (subF hP hD hS)
  refine goVF hB (run_v C mf_Pr_takeStep qm_Pr_59 (c_Pr_takeStep l g qpr qpro qprf qprs qprb qprn qprt qte qteb pip19 pop19 pfp19 psp19 pbp19 pnp19 pt tp19 tb hs12) rfl rfl ⟨Nat.le_of_ble_eq_true rfl, Nat.le_of_ble_eq_true rfl⟩ ⟨Nat.le_of_ble_eq_true rfl, Nat.le_of_ble_eq_true rfl⟩ hB rfl rfl hl rfl rfl (Nat.le_of_ble_eq_true rfl) d_Pr_understood_73) (fun _ => rfl) (fun y13 ey13 H locs hP hD hS => ?_)
  have hP : va_P g.1 vwCl (wPr g qpr qpro qprf qprs qprb qprn qprt qte qteb y13.1 y13.2.1 y13.2.2.1 y13.2.2.2.1 pbp19 y13.2.2.2.2.1 pt y13.2.2.2.2.2 tb) H := hP
  have hD : va_D (inW ws0) (wPr g qpr qpro qprf qprs qprb qprn qprt qte qteb y13.1 y13.2.1 y13.2.2.1 y13.2.2.2.1 pbp19 y13.2.2.2.2.1 pt y13.2.2.2.2.2 tb) := hD
  have hz := lett_z hz ey13
  have hok := lett_o hok ey13
  exact k_Pr_understood_76 C ih19 y13.1 y13.2.1 y13.2.2.1 y13.2.2.2.1 pbp19 y13.2.2.2.2.1 y13.2.2.2.2.2 hok _ hz _ _ ls hP hD hS hl
noncomputable def bd_Pr_understood_19 (tb : IV) (r19 : Int32 → IV → IV → IV → IV → IV → IV → IV → (Int32 × IV × IV × IV × IV × IV × IV × IV)) (x1p19 : Int32) (pip19 : IV) (pop19 : IV) (pfp19 : IV) (psp19 : IV) (pbp19 : IV) (pnp19 : IV) (tp19 : IV) : Int32 × IV × IV × IV × IV × IV × IV × IV := if (600 : Int32) ≤ x1p19 then (sp_Pr_understood_82 pip19 pop19 pfp19 psp19 pbp19 pnp19 tp19) else (if (tp19 5) = 0 then (if (tp19 2) = 0 then (sp_Pr_understood_82 pip19 pop19 pfp19 psp19 pbp19 pnp19 tp19) else (if (pip19 8) ≤ 0 then (sp_Pr_understood_72 pip19 pop19 pfp19 psp19 pnp19 tp19 tb x1p19 pbp19 r19) else (if (tp19 2) = (41 : Int32) then (lett (sp_Pr_closeBracket pip19 pbp19 pnp19 tp19 tb) fun (y11 : IV × IV × IV) => sp_Pr_understood_76 x1p19 r19 y11.1 pop19 pfp19 psp19 y11.2.1 pnp19 y11.2.2) else (sp_Pr_understood_72 pip19 pop19 pfp19 psp19 pnp19 tp19 tb x1p19 pbp19 r19)))) else (sp_Pr_understood_82 pip19 pop19 pfp19 psp19 pbp19 pnp19 tp19))
def okb_Pr_understood_19 (tb : IV) (r19 : Int32 → IV → IV → IV → IV → IV → IV → IV → (Int32 × IV × IV × IV × IV × IV × IV × IV)) (q19 : Int32 → IV → IV → IV → IV → IV → IV → IV → Prop) (x1p19 : Int32) (pip19 : IV) (pop19 : IV) (pfp19 : IV) (psp19 : IV) (pbp19 : IV) (pnp19 : IV) (tp19 : IV) : Prop := (((600 : Int32) ≤ x1p19 → True) ∧ (¬ ((600 : Int32) ≤ x1p19) → (((tp19 5) = 0 → (((tp19 2) = 0 → True) ∧ (¬ ((tp19 2) = 0) → (((pip19 8) ≤ 0 → ok_Pr_understood_72 pip19 pop19 pfp19 psp19 pnp19 tp19 tb x1p19 pbp19 r19 q19) ∧ (¬ ((pip19 8) ≤ 0) → (((tp19 2) = (41 : Int32) → (ok_Pr_closeBracket pip19 pbp19 pnp19 tp19 tb) ∧ lett (sp_Pr_closeBracket pip19 pbp19 pnp19 tp19 tb) fun (y11 : IV × IV × IV) => ok_Pr_understood_76 x1p19 r19 q19 y11.1 pop19 pfp19 psp19 y11.2.1 pnp19 y11.2.2) ∧ (¬ ((tp19 2) = (41 : Int32)) → ok_Pr_understood_72 pip19 pop19 pfp19 psp19 pnp19 tp19 tb x1p19 pbp19 r19 q19))))))) ∧ (¬ ((tp19 5) = 0) → True))))
noncomputable def sp_Pr_understood_19 (tb : IV)  : Nat → Int32 → IV → IV → IV → IV → IV → IV → IV → (Int32 × IV × IV × IV × IV × IV × IV × IV)
  | 0 => fun _ _ _ _ _ _ _ _ => default
  | f + 1 => bd_Pr_understood_19 tb  (sp_Pr_understood_19 tb  f)
def ok_Pr_understood_19 (tb : IV)   : Nat → Int32 → IV → IV → IV → IV → IV → IV → IV → Prop
  | 0 => fun _ _ _ _ _ _ _ _ => False
  | f + 1 => okb_Pr_understood_19 tb  (sp_Pr_understood_19 tb  f)  (ok_Pr_understood_19 tb   f)
set_option maxRecDepth 100000 in
set_option maxHeartbeats 4000000 in
theorem kb_Pr_understood_19 {p : Program} {l : Launch} {e : Env} {s : State} {m : MethodId} {args : Array Value} {below : List Frame} {meth : Method} {c : Code} {g : GX} {qpr : Nat} {qpro : Nat} {qprf : Nat} {qprs : Nat} {qprb : Nat} {qprn : Nat} {qprt : Nat} {qte : Nat} {qteb : Nat} {ws0 : va_W} {pt : IV} {tb : IV}  (C : Cx p s m args meth c (inW ws0) g "DecadeBridge$Protocol" b_Pr_understood (some .boolean) 2) {r19 : Int32 → IV → IV → IV → IV → IV → IV → IV → (Int32 × IV × IV × IV × IV × IV × IV × IV)} {q19 : Int32 → IV → IV → IV → IV → IV → IV → IV → Prop}  (ih19 : HL_Pr_understood_19 p l e s m args below meth c g qpr qpro qprf qprs qprb qprn qprt qte qteb ws0 pt tb r19 q19) : HL_Pr_understood_19 p l e s m args below meth c g qpr qpro qprf qprs qprb qprn qprt qte qteb ws0 pt tb (bd_Pr_understood_19 tb  r19) (okb_Pr_understood_19 tb  r19  q19) := by
  intro x1p19 pip19 pop19 pfp19 psp19 pbp19 pnp19 tp19 hok z hz H locs ls hP hD hS hl
  obtain ⟨hx, hb, hr, hml, hown, hlk, hts, hK, hZo, hZ⟩ := id C
  unfold bd_Pr_understood_19 at hz
  unfold okb_Pr_understood_19 at hok
  refine lv_iload_n hx hb d_Pr_understood_19 rfl (lv_at hl 1 rfl) ?_
  refine lv_sipush (v := 600) hx hb d_Pr_understood_20 (by decide) ?_
  refine lv_icmp_ge (tgt := 82) hx hb d_Pr_understood_23 (by decide) (fun c5 => ?_) (fun c5 => ?_)
  · have hz := hz.trans (if_pos c5)
    exact k_Pr_understood_82 C () trivial _ hz _ _ ls hP hD hS (lv_sub hl [0] rfl)
  · have hz := hz.trans (if_neg c5)
    have hok := hok.2 c5
    refine lv_aload_n hx hb d_Pr_understood_26 rfl (lv_at hl 0 rfl) ?_
    refine gf C hP 0 0 fkPr rfl (by decide) rfl qf_Pr_30 (gPr_0 _ _ _ _ _ _ _ _) d_Pr_understood_27 ?_
    refine gf C hP 7 5 fkTe rfl (by decide) rfl qf_Pr_50 (gTe_5 _ _) d_Pr_understood_30 ?_
    refine lv_if_ne (tgt := 82) hx hb d_Pr_understood_33 (by decide) (fun c6 => ?_) (fun c6 => ?_)
    · have hz := hz.trans (if_neg c6)
      exact k_Pr_understood_82 C () trivial _ hz _ _ ls hP hD hS (lv_sub hl [0] rfl)
    · have hz := hz.trans (if_pos c6)
      have hok := hok.1 c6
      refine lv_aload_n hx hb d_Pr_understood_36 rfl (lv_at hl 0 rfl) ?_
      refine gf C hP 0 0 fkPr rfl (by decide) rfl qf_Pr_30 (gPr_0 _ _ _ _ _ _ _ _) d_Pr_understood_37 ?_
      refine gf C hP 7 2 fkTe rfl (by decide) rfl qf_Pr_53 (gTe_2 _ _) d_Pr_understood_40 ?_
      refine lv_if_eq (tgt := 82) hx hb d_Pr_understood_43 (by decide) (fun c7 => ?_) (fun c7 => ?_)
      · have hz := hz.trans (if_pos c7)
        exact k_Pr_understood_82 C () trivial _ hz _ _ ls hP hD hS (lv_sub hl [0] rfl)
      · have hz := hz.trans (if_neg c7)
        have hok := hok.2 c7
        refine lv_aload_n hx hb d_Pr_understood_46 rfl (lv_at hl 0 rfl) ?_
        refine gf C hP 0 8 fkPr rfl (by decide) rfl qf_Pr_42 (gPr_8 _ _ _ _ _ _ _ _) d_Pr_understood_47 ?_
        refine lv_if_le (tgt := 72) hx hb d_Pr_understood_50 (by decide) (fun c8 => ?_) (fun c8 => ?_)
        · have hz := hz.trans (if_pos c8)
          have hok := hok.1 c8
          exact k_Pr_understood_72 C ih19 () hok _ hz _ _ ls hP hD hS hl
        · have hz := hz.trans (if_neg c8)
          have hok := hok.2 c8
          refine lv_aload_n hx hb d_Pr_understood_53 rfl (lv_at hl 0 rfl) ?_
          refine gf C hP 0 0 fkPr rfl (by decide) rfl qf_Pr_30 (gPr_0 _ _ _ _ _ _ _ _) d_Pr_understood_54 ?_
          refine gf C hP 7 2 fkTe rfl (by decide) rfl qf_Pr_53 (gTe_2 _ _) d_Pr_understood_57 ?_
          refine lv_bipush (v := 41) hx hb d_Pr_understood_60 (by decide) ?_
          refine lv_icmp_ne (tgt := 72) hx hb d_Pr_understood_62 (by decide) (fun c9 => ?_) (fun c9 => ?_)
          · have hz := hz.trans (if_neg c9)
            have hok := hok.2 c9
            exact k_Pr_understood_72 C ih19 () hok _ hz _ _ ls hP hD hS hl
          · have hz := hz.trans (if_pos c9)
            have hok := hok.1 c9
            refine lv_aload_n hx hb d_Pr_understood_65 rfl (lv_at hl 0 rfl) ?_
            have hs10 := hok.1
            have hok := hok.2
            have hB : SubW g (inW ws0) s (wPr g qpr qpro qprf qprs qprb qprn qprt qte qteb pip19 pop19 pfp19 psp19 pbp19 pnp19 pt tp19 tb) _ (List.range _) _ _ := (subF hP hD hS)
            refine goVF hB (run_v C mf_Pr_closeBracket qm_Pr_56 (c_Pr_closeBracket l g qpr qpro qprf qprs qprb qprn qprt qte qteb pip19 pop19 pfp19 psp19 pbp19 pnp19 pt tp19 tb hs10) rfl rfl ⟨Nat.le_of_ble_eq_true rfl, Nat.le_of_ble_eq_true rfl⟩ ⟨Nat.le_of_ble_eq_true rfl, Nat.le_of_ble_eq_true rfl⟩ hB rfl rfl hl rfl rfl (Nat.le_of_ble_eq_true rfl) d_Pr_understood_66) (fun _ => rfl) (fun y11 ey11 H locs hP hD hS => ?_)
            have hP : va_P g.1 vwCl (wPr g qpr qpro qprf qprs qprb qprn qprt qte qteb y11.1 pop19 pfp19 psp19 y11.2.1 pnp19 pt y11.2.2 tb) H := hP
            have hD : va_D (inW ws0) (wPr g qpr qpro qprf qprs qprb qprn qprt qte qteb y11.1 pop19 pfp19 psp19 y11.2.1 pnp19 pt y11.2.2 tb) := hD
            have hz := lett_z hz ey11
            have hok := lett_o hok ey11
            refine lv_goto (tgt := 76) hx hb d_Pr_understood_69 (by decide) ?_
            exact k_Pr_understood_76 C ih19 y11.1 pop19 pfp19 psp19 y11.2.1 pnp19 y11.2.2 hok _ hz _ _ ls hP hD hS hl
theorem k_Pr_understood_19 {p : Program} {l : Launch} {e : Env} {s : State} {m : MethodId} {args : Array Value} {below : List Frame} {meth : Method} {c : Code} {g : GX} {qpr : Nat} {qpro : Nat} {qprf : Nat} {qprs : Nat} {qprb : Nat} {qprn : Nat} {qprt : Nat} {qte : Nat} {qteb : Nat} {ws0 : va_W} {pt : IV} {tb : IV}  (C : Cx p s m args meth c (inW ws0) g "DecadeBridge$Protocol" b_Pr_understood (some .boolean) 2) (f : Nat)  : HL_Pr_understood_19 p l e s m args below meth c g qpr qpro qprf qprs qprb qprn qprt qte qteb ws0 pt tb (sp_Pr_understood_19 tb  f) (ok_Pr_understood_19 tb   f) := by
  induction f with
  | zero => intro x1p19 pip19 pop19 pfp19 psp19 pbp19 pnp19 tp19 hok; exact False.elim hok
  | succ f ih => exact kb_Pr_understood_19 C  ih
noncomputable def sp_Pr_understood (pi : IV) (po : IV) (pf : IV) (ps : IV) (pb : IV) (pn : IV) (t : IV) (tb : IV) : Int32 × IV × IV × IV × IV × IV × IV × IV := lett (upd pi 7 (0 : Int32)) fun (pi_1 : IV) => lett (upd pi_1 8 (0 : Int32)) fun (pi_2 : IV) => lett (sp_Te_begin t tb) fun (y4 : IV) => sp_Pr_understood_19 tb big (0 : Int32) pi_2 po pf ps pb pn y4
def ok_Pr_understood (pi : IV) (po : IV) (pf : IV) (ps : IV) (pb : IV) (pn : IV) (t : IV) (tb : IV) : Prop := lett (upd pi 7 (0 : Int32)) fun (pi_1 : IV) => lett (upd pi_1 8 (0 : Int32)) fun (pi_2 : IV) => (ok_Te_begin t tb) ∧ lett (sp_Te_begin t tb) fun (y4 : IV) => ok_Pr_understood_19 tb big (0 : Int32) pi_2 po pf ps pb pn y4
set_option maxRecDepth 100000 in
set_option maxHeartbeats 4000000 in
theorem c_Pr_understood (l : Launch) (g : GX) (qpr : Nat) (qpro : Nat) (qprf : Nat) (qprs : Nat) (qprb : Nat) (qprn : Nat) (qprt : Nat) (qte : Nat) (qteb : Nat) (pi : IV) (po : IV) (pf : IV) (ps : IV) (pb : IV) (pn : IV) (pt : IV) (t : IV) (tb : IV)  (hok : ok_Pr_understood pi po pf ps pb pn t tb) : Met l y_Pr_understood (wsY y_Pr_understood b_Pr_understood 2 (some .boolean)) rm_Pr_understood (CP g [.ref qpr] (wPr g qpr qpro qprf qprs qprb qprn qprt qte qteb pi po pf ps pb pn pt t tb)) (CI g (wPr g qpr qpro qprf qprs qprb qprn qprt qte qteb pi po pf ps pb pn pt t tb) (fun u : IV × IV × IV × IV × IV × IV × IV => wPr g qpr qpro qprf qprs qprb qprn qprt qte qteb u.1 u.2.1 u.2.2.1 u.2.2.2.1 u.2.2.2.2.1 u.2.2.2.2.2.1 pt u.2.2.2.2.2.2 tb) (sp_Pr_understood pi po pf ps pb pn t tb)) 0 0 (inW (wPr g qpr qpro qprf qprs qprb qprn qprt qte qteb pi po pf ps pb pn pt t tb)) := by
  refine Met.ofW (cc := b_Pr_understood) (maxL := 2) (ret := (some .boolean)) pn_Pr rfl ?_
  intro p e s m args below meth c s₁ B hml hv
  obtain ⟨rfl, C, hP, hD, hS⟩ := enter "DecadeBridge$Protocol" rfl B hml hv
  obtain ⟨hx, hb, hr, hml, hown, hlk, hts, hK, hZo, hZ⟩ := id C
  refine entryW (lv := [(0, .ref qpr)]) rfl (Nat.le_of_ble_eq_true rfl) (fun ls hl => ?_)
  obtain ⟨z, hz⟩ : ∃ z, z = sp_Pr_understood pi po pf ps pb pn t tb := ⟨_, rfl⟩
  rw [← hz]
  unfold sp_Pr_understood at hz
  unfold ok_Pr_understood at hok
  refine lv_aload_n hx hb d_Pr_understood_0 rfl (lv_at hl 0 rfl) ?_
  refine lv_iconst (v := 0) hx hb d_Pr_understood_1 (by decide) ?_
  refine pfI C hP hD hS 0 7 fkPr rfl (by decide) rfl qf_Pr_38 rfl rfl rfl (Nat.le_of_ble_eq_true rfl) (ff := fun o => fPr qte qpro qprf qprs qprb qprn qprt o) (sPr_7 _ _ _ _ _ _ _ _ _) d_Pr_understood_2 (fun pi_1 epi_1 H locs hP hD hS => ?_)
  have hP : va_P g.1 vwCl (wPr g qpr qpro qprf qprs qprb qprn qprt qte qteb pi_1 po pf ps pb pn pt t tb) H := hP
  have hD : va_D (inW (wPr g qpr qpro qprf qprs qprb qprn qprt qte qteb pi po pf ps pb pn pt t tb)) (wPr g qpr qpro qprf qprs qprb qprn qprt qte qteb pi_1 po pf ps pb pn pt t tb) := hD
  have hz := lett_z hz epi_1
  have hok := lett_o hok epi_1
  refine lv_aload_n hx hb d_Pr_understood_5 rfl (lv_at hl 0 rfl) ?_
  refine lv_iconst (v := 0) hx hb d_Pr_understood_6 (by decide) ?_
  refine pfI C hP hD hS 0 8 fkPr rfl (by decide) rfl qf_Pr_42 rfl rfl rfl (Nat.le_of_ble_eq_true rfl) (ff := fun o => fPr qte qpro qprf qprs qprb qprn qprt o) (sPr_8 _ _ _ _ _ _ _ _ _) d_Pr_understood_7 (fun pi_2 epi_2 H locs hP hD hS => ?_)
  have hP : va_P g.1 vwCl (wPr g qpr qpro qprf qprs qprb qprn qprt qte qteb pi_2 po pf ps pb pn pt t tb) H := hP
  have hD : va_D (inW (wPr g qpr qpro qprf qprs qprb qprn qprt qte qteb pi po pf ps pb pn pt t tb)) (wPr g qpr qpro qprf qprs qprb qprn qprt qte qteb pi_2 po pf ps pb pn pt t tb) := hD
  have hz := lett_z hz epi_2
  have hok := lett_o hok epi_2
  refine lv_aload_n hx hb d_Pr_understood_10 rfl (lv_at hl 0 rfl) ?_
  refine gf C hP 0 0 fkPr rfl (by decide) rfl qf_Pr_30 (gPr_0 _ _ _ _ _ _ _ _) d_Pr_understood_11 ?_
  have hs3 := hok.1
  have hok := hok.2
  have hB : SubW g (inW (wPr g qpr qpro qprf qprs qprb qprn qprt qte qteb pi po pf ps pb pn pt t tb)) s (wPr g qpr qpro qprf qprs qprb qprn qprt qte qteb pi_2 po pf ps pb pn pt t tb) (wTe g qte qteb t tb) [7, 8] _ _ := ⟨rfl, rfl, hP, hD, hS⟩
  refine goV1 hB (run_v C mf_Te_begin qm_Pr_45 (c_Te_begin l g qte qteb t tb hs3) rfl rfl ⟨Nat.le_of_ble_eq_true rfl, Nat.le_of_ble_eq_true rfl⟩ ⟨Nat.le_of_ble_eq_true rfl, Nat.le_of_ble_eq_true rfl⟩ hB rfl rfl hl rfl rfl (Nat.le_of_ble_eq_true rfl) d_Pr_understood_14) (fun _ => rfl) (fun y4 ey4 H locs hP hD hS => ?_)
  have hP : va_P g.1 vwCl (wPr g qpr qpro qprf qprs qprb qprn qprt qte qteb pi_2 po pf ps pb pn pt y4 tb) H := cP (spq hB.1 hB.2.1 [0, 1, 2, 3, 4, 5, 6] 9 rfl rfl (by decide +kernel) rfl) hP
  have hD : va_D (inW (wPr g qpr qpro qprf qprs qprb qprn qprt qte qteb pi po pf ps pb pn pt t tb)) (wPr g qpr qpro qprf qprs qprb qprn qprt qte qteb pi_2 po pf ps pb pn pt y4 tb) := cD (spq hB.1 hB.2.1 [0, 1, 2, 3, 4, 5, 6] 9 rfl rfl (by decide +kernel) rfl) hD
  have hz := lett_z hz ey4
  have hok := lett_o hok ey4
  refine lv_iconst (v := 0) hx hb d_Pr_understood_17 (by decide) ?_
  refine lv_istore_n (lv' := [(1, .int (0 : Int32)), (0, .ref qpr)]) hx hb d_Pr_understood_18 rfl hl (by decide) rfl (fun ls hl => ?_)
  exact k_Pr_understood_19 C big (0 : Int32) pi_2 po pf ps pb pn y4 hok _ hz _ _ ls hP hD hS (lv_sub hl [1, 0] rfl)
abbrev rm_Su_understood : Room := { frames := 7, cells := 0, slots := 0, locals := 149 }
def HL_Su_understood_25 (p : Program) (l : Launch) (e : Env) (s : State) (m : MethodId) (args : Array Value) (below : List Frame) (meth : Method) (c : Code) (g : GX) (qsu : Nat) (qte : Nat) (qteb : Nat) (qdp : Nat) (qdpe : Nat) (qdpr : Nat) (qdpu : Nat) (qdpb : Nat) (ws0 : va_W) (tb : IV) (sp : Int32 → IV → IV → IV → IV → IV → IV → IV → (Int32 × IV × IV × IV × IV × IV × IV × IV)) (ok : Int32 → IV → IV → IV → IV → IV → IV → IV → Prop) : Prop := ∀ (x1p25 : Int32) (sup25 : IV) (tp25 : IV) (d0p25 : IV) (d1p25 : IV) (d2p25 : IV) (d3p25 : IV) (d4p25 : IV), ok x1p25 sup25 tp25 d0p25 d1p25 d2p25 d3p25 d4p25 → ∀ z : (Int32 × IV × IV × IV × IV × IV × IV × IV), z = sp x1p25 sup25 tp25 d0p25 d1p25 d2p25 d3p25 d4p25 → ∀ (H : Heap) (locs : List Loc) (ls : Array Slot), va_P g.1 vwCl (wSu g qsu qte qteb qdp qdpe qdpr qdpu qdpb sup25 tp25 tb d0p25 d1p25 d2p25 d3p25 d4p25) H → va_D (inW ws0) (wSu g qsu qte qteb qdp qdpe qdpr qdpu qdpb sup25 tp25 tb d0p25 d1p25 d2p25 d3p25 d4p25) → va_S (inW ws0) s.heap H locs → lv_has ls 2 [(0, .ref qsu), (1, .int x1p25)] → W p l e rm_Su_understood s m args below meth c H locs 0 0 (MQ below (CI g ws0 (fun u : IV × IV × IV × IV × IV × IV × IV => wSu g qsu qte qteb qdp qdpe qdpr qdpu qdpb u.1 u.2.1 tb u.2.2.1 u.2.2.2.1 u.2.2.2.2.1 u.2.2.2.2.2.1 u.2.2.2.2.2.2) z) args s 0 0 (inW ws0)) (F0 m 25 ls [])
def HL_Su_understood_61 (p : Program) (l : Launch) (e : Env) (s : State) (m : MethodId) (args : Array Value) (below : List Frame) (meth : Method) (c : Code) (g : GX) (qsu : Nat) (qte : Nat) (qteb : Nat) (qdp : Nat) (qdpe : Nat) (qdpr : Nat) (qdpu : Nat) (qdpb : Nat) (ws0 : va_W) (sup25 : IV) (tp25 : IV) (tb : IV) (d0p25 : IV) (d1p25 : IV) (d2p25 : IV) (d3p25 : IV) (d4p25 : IV) (sp : (Int32 × IV × IV × IV × IV × IV × IV × IV)) (ok : Prop) : Prop := ∀ (_ : Unit), ok → ∀ z : (Int32 × IV × IV × IV × IV × IV × IV × IV), z = sp → ∀ (H : Heap) (locs : List Loc) (ls : Array Slot), va_P g.1 vwCl (wSu g qsu qte qteb qdp qdpe qdpr qdpu qdpb sup25 tp25 tb d0p25 d1p25 d2p25 d3p25 d4p25) H → va_D (inW ws0) (wSu g qsu qte qteb qdp qdpe qdpr qdpu qdpb sup25 tp25 tb d0p25 d1p25 d2p25 d3p25 d4p25) → va_S (inW ws0) s.heap H locs → lv_has ls 2 [(0, .ref qsu)] → W p l e rm_Su_understood s m args below meth c H locs 0 0 (MQ below (CI g ws0 (fun u : IV × IV × IV × IV × IV × IV × IV => wSu g qsu qte qteb qdp qdpe qdpr qdpu qdpb u.1 u.2.1 tb u.2.2.1 u.2.2.2.1 u.2.2.2.2.1 u.2.2.2.2.2.1 u.2.2.2.2.2.2) z) args s 0 0 (inW ws0)) (F0 m 61 ls [])
def HL_Su_understood_100 (p : Program) (l : Launch) (e : Env) (s : State) (m : MethodId) (args : Array Value) (below : List Frame) (meth : Method) (c : Code) (g : GX) (qsu : Nat) (qte : Nat) (qteb : Nat) (qdp : Nat) (qdpe : Nat) (qdpr : Nat) (qdpu : Nat) (qdpb : Nat) (ws0 : va_W) (sup25 : IV) (tp25 : IV) (tb : IV) (d0p25 : IV) (d1p25 : IV) (d2p25 : IV) (d3p25 : IV) (d4p25 : IV) (sp : (Int32 × IV × IV × IV × IV × IV × IV × IV)) (ok : Prop) : Prop := ∀ (_ : Unit), ok → ∀ z : (Int32 × IV × IV × IV × IV × IV × IV × IV), z = sp → ∀ (H : Heap) (locs : List Loc) (ls : Array Slot), va_P g.1 vwCl (wSu g qsu qte qteb qdp qdpe qdpr qdpu qdpb sup25 tp25 tb d0p25 d1p25 d2p25 d3p25 d4p25) H → va_D (inW ws0) (wSu g qsu qte qteb qdp qdpe qdpr qdpu qdpb sup25 tp25 tb d0p25 d1p25 d2p25 d3p25 d4p25) → va_S (inW ws0) s.heap H locs → lv_has ls 2 [(0, .ref qsu)] → W p l e rm_Su_understood s m args below meth c H locs 0 0 (MQ below (CI g ws0 (fun u : IV × IV × IV × IV × IV × IV × IV => wSu g qsu qte qteb qdp qdpe qdpr qdpu qdpb u.1 u.2.1 tb u.2.2.1 u.2.2.2.1 u.2.2.2.2.1 u.2.2.2.2.2.1 u.2.2.2.2.2.2) z) args s 0 0 (inW ws0)) (F0 m 100 ls [])
def HL_Su_understood_108 (p : Program) (l : Launch) (e : Env) (s : State) (m : MethodId) (args : Array Value) (below : List Frame) (meth : Method) (c : Code) (g : GX) (qsu : Nat) (qte : Nat) (qteb : Nat) (qdp : Nat) (qdpe : Nat) (qdpr : Nat) (qdpu : Nat) (qdpb : Nat) (ws0 : va_W) (sup25 : IV) (tb : IV) (d0p25 : IV) (d1p25 : IV) (d2p25 : IV) (d3p25 : IV) (d4p25 : IV) (sp : IV → (Int32 × IV × IV × IV × IV × IV × IV × IV)) (ok : IV → Prop) : Prop := ∀ (tp108 : IV), ok tp108 → ∀ z : (Int32 × IV × IV × IV × IV × IV × IV × IV), z = sp tp108 → ∀ (H : Heap) (locs : List Loc) (ls : Array Slot), va_P g.1 vwCl (wSu g qsu qte qteb qdp qdpe qdpr qdpu qdpb sup25 tp108 tb d0p25 d1p25 d2p25 d3p25 d4p25) H → va_D (inW ws0) (wSu g qsu qte qteb qdp qdpe qdpr qdpu qdpb sup25 tp108 tb d0p25 d1p25 d2p25 d3p25 d4p25) → va_S (inW ws0) s.heap H locs → lv_has ls 2 [(0, .ref qsu)] → W p l e rm_Su_understood s m args below meth c H locs 0 0 (MQ below (CI g ws0 (fun u : IV × IV × IV × IV × IV × IV × IV => wSu g qsu qte qteb qdp qdpe qdpr qdpu qdpb u.1 u.2.1 tb u.2.2.1 u.2.2.2.1 u.2.2.2.2.1 u.2.2.2.2.2.1 u.2.2.2.2.2.2) z) args s 0 0 (inW ws0)) (F0 m 108 ls [])
noncomputable def sp_Su_understood_108 (sup25 : IV) (d0p25 : IV) (d1p25 : IV) (d2p25 : IV) (d3p25 : IV) (d4p25 : IV)  (tp108 : IV) : Int32 × IV × IV × IV × IV × IV × IV × IV := if (tp108 5) = 0 then (((1 : Int32), (sup25, tp108, d0p25, d1p25, d2p25, d3p25, d4p25))) else (((0 : Int32), (sup25, tp108, d0p25, d1p25, d2p25, d3p25, d4p25)))
def ok_Su_understood_108 (sup25 : IV) (d0p25 : IV) (d1p25 : IV) (d2p25 : IV) (d3p25 : IV) (d4p25 : IV)   (tp108 : IV) : Prop := True
set_option maxRecDepth 100000 in
set_option maxHeartbeats 4000000 in
theorem k_Su_understood_108 {p : Program} {l : Launch} {e : Env} {s : State} {m : MethodId} {args : Array Value} {below : List Frame} {meth : Method} {c : Code} {g : GX} {qsu : Nat} {qte : Nat} {qteb : Nat} {qdp : Nat} {qdpe : Nat} {qdpr : Nat} {qdpu : Nat} {qdpb : Nat} {ws0 : va_W} {sup25 : IV} {tb : IV} {d0p25 : IV} {d1p25 : IV} {d2p25 : IV} {d3p25 : IV} {d4p25 : IV}  (C : Cx p s m args meth c (inW ws0) g "DecadeBridge$SetupReader" b_Su_understood (some .boolean) 2)  : HL_Su_understood_108 p l e s m args below meth c g qsu qte qteb qdp qdpe qdpr qdpu qdpb ws0 sup25 tb d0p25 d1p25 d2p25 d3p25 d4p25 (sp_Su_understood_108 sup25 d0p25 d1p25 d2p25 d3p25 d4p25 ) (ok_Su_understood_108 sup25 d0p25 d1p25 d2p25 d3p25 d4p25  ) := by
  intro tp108 hok z hz H locs ls hP hD hS hl
  obtain ⟨hx, hb, hr, hml, hown, hlk, hts, hK, hZo, hZ⟩ := id C
  unfold sp_Su_understood_108 at hz
  refine lv_aload_n hx hb d_Su_understood_108 rfl (lv_at hl 0 rfl) ?_
  refine gf C hP 0 0 fkSu rfl (by decide) rfl qf_Su_18 (gSu_0 _ _ _) d_Su_understood_109 ?_
  refine gf C hP 1 5 fkTe rfl (by decide) rfl qf_Su_47 (gTe_5 _ _) d_Su_understood_112 ?_
  refine lv_if_ne (tgt := 122) hx hb d_Su_understood_115 (by decide) (fun c20 => ?_) (fun c20 => ?_)
  · have hz := hz.trans (if_neg c20)
    refine lv_iconst (v := 0) hx hb d_Su_understood_122 (by decide) ?_
    exact endZ1 C hz hP hS rfl d_Su_understood_123
  · have hz := hz.trans (if_pos c20)
    refine lv_iconst (v := 1) hx hb d_Su_understood_118 (by decide) ?_
    refine lv_goto (tgt := 123) hx hb d_Su_understood_119 (by decide) ?_
    exact endZ1 C hz hP hS rfl d_Su_understood_123
noncomputable def sp_Su_understood_100 (tp25 : IV) (sup25 : IV) (d0p25 : IV) (d1p25 : IV) (d2p25 : IV) (d3p25 : IV) (d4p25 : IV)   : Int32 × IV × IV × IV × IV × IV × IV × IV := lett (sp_Te_fail (4 : Int32) tp25) fun (y19 : IV) => sp_Su_understood_108 sup25 d0p25 d1p25 d2p25 d3p25 d4p25 y19
def ok_Su_understood_100 (tp25 : IV) (sup25 : IV) (d0p25 : IV) (d1p25 : IV) (d2p25 : IV) (d3p25 : IV) (d4p25 : IV)    : Prop := True
set_option maxRecDepth 100000 in
set_option maxHeartbeats 4000000 in
theorem k_Su_understood_100 {p : Program} {l : Launch} {e : Env} {s : State} {m : MethodId} {args : Array Value} {below : List Frame} {meth : Method} {c : Code} {g : GX} {qsu : Nat} {qte : Nat} {qteb : Nat} {qdp : Nat} {qdpe : Nat} {qdpr : Nat} {qdpu : Nat} {qdpb : Nat} {ws0 : va_W} {sup25 : IV} {tp25 : IV} {tb : IV} {d0p25 : IV} {d1p25 : IV} {d2p25 : IV} {d3p25 : IV} {d4p25 : IV}  (C : Cx p s m args meth c (inW ws0) g "DecadeBridge$SetupReader" b_Su_understood (some .boolean) 2)  : HL_Su_understood_100 p l e s m args below meth c g qsu qte qteb qdp qdpe qdpr qdpu qdpb ws0 sup25 tp25 tb d0p25 d1p25 d2p25 d3p25 d4p25 (sp_Su_understood_100 tp25 sup25 d0p25 d1p25 d2p25 d3p25 d4p25 ) (ok_Su_understood_100 tp25 sup25 d0p25 d1p25 d2p25 d3p25 d4p25  ) := by
  intro _ hok z hz H locs ls hP hD hS hl
  obtain ⟨hx, hb, hr, hml, hown, hlk, hts, hK, hZo, hZ⟩ := id C
  unfold sp_Su_understood_100 at hz
  refine lv_aload_n hx hb d_Su_understood_100 rfl (lv_at hl 0 rfl) ?_
  refine gf C hP 0 0 fkSu rfl (by decide) rfl qf_Su_18 (gSu_0 _ _ _) d_Su_understood_101 ?_
  refine lv_iconst (v := 4) hx hb d_Su_understood_104 (by decide) ?_
  have hB : SubW g (inW ws0) s (wSu g qsu qte qteb qdp qdpe qdpr qdpu qdpb sup25 tp25 tb d0p25 d1p25 d2p25 d3p25 d4p25) (wTe g qte qteb tp25 tb) [1, 2] _ _ := ⟨rfl, rfl, hP, hD, hS⟩
  refine goV1 hB (run_v C mf_Te_fail qm_Su_43 (c_Te_fail l g qte qteb tp25 tb (4 : Int32)) rfl rfl ⟨Nat.le_of_ble_eq_true rfl, Nat.le_of_ble_eq_true rfl⟩ ⟨Nat.le_of_ble_eq_true rfl, Nat.le_of_ble_eq_true rfl⟩ hB rfl rfl hl rfl rfl (Nat.le_of_ble_eq_true rfl) d_Su_understood_105) (fun _ => rfl) (fun y19 ey19 H locs hP hD hS => ?_)
  have hP : va_P g.1 vwCl (wSu g qsu qte qteb qdp qdpe qdpr qdpu qdpb sup25 y19 tb d0p25 d1p25 d2p25 d3p25 d4p25) H := cP (spq hB.1 hB.2.1 [0, 3, 4, 5, 6, 7] 8 rfl rfl (by decide +kernel) rfl) hP
  have hD : va_D (inW ws0) (wSu g qsu qte qteb qdp qdpe qdpr qdpu qdpb sup25 y19 tb d0p25 d1p25 d2p25 d3p25 d4p25) := cD (spq hB.1 hB.2.1 [0, 3, 4, 5, 6, 7] 8 rfl rfl (by decide +kernel) rfl) hD
  have hz := lett_z hz ey19
  exact k_Su_understood_108 C y19 trivial _ hz _ _ ls hP hD hS hl
noncomputable def sp_Su_understood_61 (tp25 : IV) (sup25 : IV) (d0p25 : IV) (d1p25 : IV) (d2p25 : IV) (d3p25 : IV) (d4p25 : IV)   : Int32 × IV × IV × IV × IV × IV × IV × IV := if (tp25 2) = 0 then (if ((sup25 2) &&& (1 : Int32)) = 0 then (sp_Su_understood_100 tp25 sup25 d0p25 d1p25 d2p25 d3p25 d4p25) else (if ((sup25 2) &&& (2 : Int32)) = 0 then (sp_Su_understood_100 tp25 sup25 d0p25 d1p25 d2p25 d3p25 d4p25) else (sp_Su_understood_108 sup25 d0p25 d1p25 d2p25 d3p25 d4p25 tp25))) else (lett (sp_Te_fail (1 : Int32) tp25) fun (y18 : IV) => sp_Su_understood_108 sup25 d0p25 d1p25 d2p25 d3p25 d4p25 y18)
def ok_Su_understood_61 (tp25 : IV) (sup25 : IV) (d0p25 : IV) (d1p25 : IV) (d2p25 : IV) (d3p25 : IV) (d4p25 : IV)    : Prop := True
set_option maxRecDepth 100000 in
set_option maxHeartbeats 4000000 in
theorem k_Su_understood_61 {p : Program} {l : Launch} {e : Env} {s : State} {m : MethodId} {args : Array Value} {below : List Frame} {meth : Method} {c : Code} {g : GX} {qsu : Nat} {qte : Nat} {qteb : Nat} {qdp : Nat} {qdpe : Nat} {qdpr : Nat} {qdpu : Nat} {qdpb : Nat} {ws0 : va_W} {sup25 : IV} {tp25 : IV} {tb : IV} {d0p25 : IV} {d1p25 : IV} {d2p25 : IV} {d3p25 : IV} {d4p25 : IV}  (C : Cx p s m args meth c (inW ws0) g "DecadeBridge$SetupReader" b_Su_understood (some .boolean) 2)  : HL_Su_understood_61 p l e s m args below meth c g qsu qte qteb qdp qdpe qdpr qdpu qdpb ws0 sup25 tp25 tb d0p25 d1p25 d2p25 d3p25 d4p25 (sp_Su_understood_61 tp25 sup25 d0p25 d1p25 d2p25 d3p25 d4p25 ) (ok_Su_understood_61 tp25 sup25 d0p25 d1p25 d2p25 d3p25 d4p25  ) := by
  intro _ hok z hz H locs ls hP hD hS hl
  obtain ⟨hx, hb, hr, hml, hown, hlk, hts, hK, hZo, hZ⟩ := id C
  unfold sp_Su_understood_61 at hz
  refine lv_aload_n hx hb d_Su_understood_61 rfl (lv_at hl 0 rfl) ?_
  refine gf C hP 0 0 fkSu rfl (by decide) rfl qf_Su_18 (gSu_0 _ _ _) d_Su_understood_62 ?_
  refine gf C hP 1 2 fkTe rfl (by decide) rfl qf_Su_37 (gTe_2 _ _) d_Su_understood_65 ?_
  refine lv_if_eq (tgt := 82) hx hb d_Su_understood_68 (by decide) (fun c15 => ?_) (fun c15 => ?_)
  · have hz := hz.trans (if_pos c15)
    refine lv_aload_n hx hb d_Su_understood_82 rfl (lv_at hl 0 rfl) ?_
    refine gf C hP 0 2 fkSu rfl (by decide) rfl qf_Su_25 (gSu_2 _ _ _) d_Su_understood_83 ?_
    refine lv_iconst (v := 1) hx hb d_Su_understood_86 (by decide) ?_
    refine lv_iand hx hb d_Su_understood_87 ?_
    refine lv_if_eq (tgt := 100) hx hb d_Su_understood_88 (by decide) (fun c16 => ?_) (fun c16 => ?_)
    · have hz := hz.trans (if_pos c16)
      exact k_Su_understood_100 C () trivial _ hz _ _ ls hP hD hS hl
    · have hz := hz.trans (if_neg c16)
      refine lv_aload_n hx hb d_Su_understood_91 rfl (lv_at hl 0 rfl) ?_
      refine gf C hP 0 2 fkSu rfl (by decide) rfl qf_Su_25 (gSu_2 _ _ _) d_Su_understood_92 ?_
      refine lv_iconst (v := 2) hx hb d_Su_understood_95 (by decide) ?_
      refine lv_iand hx hb d_Su_understood_96 ?_
      refine lv_if_ne (tgt := 108) hx hb d_Su_understood_97 (by decide) (fun c17 => ?_) (fun c17 => ?_)
      · have hz := hz.trans (if_neg c17)
        exact k_Su_understood_108 C tp25 trivial _ hz _ _ ls hP hD hS hl
      · have hz := hz.trans (if_pos c17)
        exact k_Su_understood_100 C () trivial _ hz _ _ ls hP hD hS hl
  · have hz := hz.trans (if_neg c15)
    refine lv_aload_n hx hb d_Su_understood_71 rfl (lv_at hl 0 rfl) ?_
    refine gf C hP 0 0 fkSu rfl (by decide) rfl qf_Su_18 (gSu_0 _ _ _) d_Su_understood_72 ?_
    refine lv_iconst (v := 1) hx hb d_Su_understood_75 (by decide) ?_
    have hB : SubW g (inW ws0) s (wSu g qsu qte qteb qdp qdpe qdpr qdpu qdpb sup25 tp25 tb d0p25 d1p25 d2p25 d3p25 d4p25) (wTe g qte qteb tp25 tb) [1, 2] _ _ := ⟨rfl, rfl, hP, hD, hS⟩
    refine goV1 hB (run_v C mf_Te_fail qm_Su_43 (c_Te_fail l g qte qteb tp25 tb (1 : Int32)) rfl rfl ⟨Nat.le_of_ble_eq_true rfl, Nat.le_of_ble_eq_true rfl⟩ ⟨Nat.le_of_ble_eq_true rfl, Nat.le_of_ble_eq_true rfl⟩ hB rfl rfl hl rfl rfl (Nat.le_of_ble_eq_true rfl) d_Su_understood_76) (fun _ => rfl) (fun y18 ey18 H locs hP hD hS => ?_)
    have hP : va_P g.1 vwCl (wSu g qsu qte qteb qdp qdpe qdpr qdpu qdpb sup25 y18 tb d0p25 d1p25 d2p25 d3p25 d4p25) H := cP (spq hB.1 hB.2.1 [0, 3, 4, 5, 6, 7] 8 rfl rfl (by decide +kernel) rfl) hP
    have hD : va_D (inW ws0) (wSu g qsu qte qteb qdp qdpe qdpr qdpu qdpb sup25 y18 tb d0p25 d1p25 d2p25 d3p25 d4p25) := cD (spq hB.1 hB.2.1 [0, 3, 4, 5, 6, 7] 8 rfl rfl (by decide +kernel) rfl) hD
    have hz := lett_z hz ey18
    refine lv_goto (tgt := 108) hx hb d_Su_understood_79 (by decide) ?_
    exact k_Su_understood_108 C y18 trivial _ hz _ _ ls hP hD hS hl
noncomputable def bd_Su_understood_25 (tb : IV) (r25 : Int32 → IV → IV → IV → IV → IV → IV → IV → (Int32 × IV × IV × IV × IV × IV × IV × IV)) (x1p25 : Int32) (sup25 : IV) (tp25 : IV) (d0p25 : IV) (d1p25 : IV) (d2p25 : IV) (d3p25 : IV) (d4p25 : IV) : Int32 × IV × IV × IV × IV × IV × IV × IV := if (600 : Int32) ≤ x1p25 then (sp_Su_understood_61 tp25 sup25 d0p25 d1p25 d2p25 d3p25 d4p25) else (if (tp25 2) = (59 : Int32) then (lett (sp_Te_advance tp25 tb) fun (y11 : IV) => lett (sp_Su_takeStatement sup25 y11 tb d0p25 d1p25 d2p25 d3p25 d4p25) fun (y13 : IV × IV × IV × IV × IV × IV × IV) => lett (x1p25 + (1 : Int32)) fun (v14 : Int32) => r25 v14 y13.1 y13.2.1 y13.2.2.1 y13.2.2.2.1 y13.2.2.2.2.1 y13.2.2.2.2.2.1 y13.2.2.2.2.2.2) else (sp_Su_understood_61 tp25 sup25 d0p25 d1p25 d2p25 d3p25 d4p25))
def okb_Su_understood_25 (tb : IV) (r25 : Int32 → IV → IV → IV → IV → IV → IV → IV → (Int32 × IV × IV × IV × IV × IV × IV × IV)) (q25 : Int32 → IV → IV → IV → IV → IV → IV → IV → Prop) (x1p25 : Int32) (sup25 : IV) (tp25 : IV) (d0p25 : IV) (d1p25 : IV) (d2p25 : IV) (d3p25 : IV) (d4p25 : IV) : Prop := (((600 : Int32) ≤ x1p25 → True) ∧ (¬ ((600 : Int32) ≤ x1p25) → (((tp25 2) = (59 : Int32) → (ok_Te_advance tp25 tb) ∧ lett (sp_Te_advance tp25 tb) fun (y11 : IV) => (ok_Su_takeStatement sup25 y11 tb d0p25 d1p25 d2p25 d3p25 d4p25) ∧ lett (sp_Su_takeStatement sup25 y11 tb d0p25 d1p25 d2p25 d3p25 d4p25) fun (y13 : IV × IV × IV × IV × IV × IV × IV) => lett (x1p25 + (1 : Int32)) fun (v14 : Int32) => q25 v14 y13.1 y13.2.1 y13.2.2.1 y13.2.2.2.1 y13.2.2.2.2.1 y13.2.2.2.2.2.1 y13.2.2.2.2.2.2) ∧ (¬ ((tp25 2) = (59 : Int32)) → True))))
noncomputable def sp_Su_understood_25 (tb : IV)  : Nat → Int32 → IV → IV → IV → IV → IV → IV → IV → (Int32 × IV × IV × IV × IV × IV × IV × IV)
  | 0 => fun _ _ _ _ _ _ _ _ => default
  | f + 1 => bd_Su_understood_25 tb  (sp_Su_understood_25 tb  f)
def ok_Su_understood_25 (tb : IV)   : Nat → Int32 → IV → IV → IV → IV → IV → IV → IV → Prop
  | 0 => fun _ _ _ _ _ _ _ _ => False
  | f + 1 => okb_Su_understood_25 tb  (sp_Su_understood_25 tb  f)  (ok_Su_understood_25 tb   f)
set_option maxRecDepth 100000 in
set_option maxHeartbeats 4000000 in
theorem kb_Su_understood_25 {p : Program} {l : Launch} {e : Env} {s : State} {m : MethodId} {args : Array Value} {below : List Frame} {meth : Method} {c : Code} {g : GX} {qsu : Nat} {qte : Nat} {qteb : Nat} {qdp : Nat} {qdpe : Nat} {qdpr : Nat} {qdpu : Nat} {qdpb : Nat} {ws0 : va_W} {tb : IV}  (C : Cx p s m args meth c (inW ws0) g "DecadeBridge$SetupReader" b_Su_understood (some .boolean) 2) {r25 : Int32 → IV → IV → IV → IV → IV → IV → IV → (Int32 × IV × IV × IV × IV × IV × IV × IV)} {q25 : Int32 → IV → IV → IV → IV → IV → IV → IV → Prop}  (ih25 : HL_Su_understood_25 p l e s m args below meth c g qsu qte qteb qdp qdpe qdpr qdpu qdpb ws0 tb r25 q25) : HL_Su_understood_25 p l e s m args below meth c g qsu qte qteb qdp qdpe qdpr qdpu qdpb ws0 tb (bd_Su_understood_25 tb  r25) (okb_Su_understood_25 tb  r25  q25) := by
  intro x1p25 sup25 tp25 d0p25 d1p25 d2p25 d3p25 d4p25 hok z hz H locs ls hP hD hS hl
  obtain ⟨hx, hb, hr, hml, hown, hlk, hts, hK, hZo, hZ⟩ := id C
  unfold bd_Su_understood_25 at hz
  unfold okb_Su_understood_25 at hok
  refine lv_iload_n hx hb d_Su_understood_25 rfl (lv_at hl 1 rfl) ?_
  refine lv_sipush (v := 600) hx hb d_Su_understood_26 (by decide) ?_
  refine lv_icmp_ge (tgt := 61) hx hb d_Su_understood_29 (by decide) (fun c8 => ?_) (fun c8 => ?_)
  · have hz := hz.trans (if_pos c8)
    exact k_Su_understood_61 C () trivial _ hz _ _ ls hP hD hS (lv_sub hl [0] rfl)
  · have hz := hz.trans (if_neg c8)
    have hok := hok.2 c8
    refine lv_aload_n hx hb d_Su_understood_32 rfl (lv_at hl 0 rfl) ?_
    refine gf C hP 0 0 fkSu rfl (by decide) rfl qf_Su_18 (gSu_0 _ _ _) d_Su_understood_33 ?_
    refine gf C hP 1 2 fkTe rfl (by decide) rfl qf_Su_37 (gTe_2 _ _) d_Su_understood_36 ?_
    refine lv_bipush (v := 59) hx hb d_Su_understood_39 (by decide) ?_
    refine lv_icmp_ne (tgt := 61) hx hb d_Su_understood_41 (by decide) (fun c9 => ?_) (fun c9 => ?_)
    · have hz := hz.trans (if_neg c9)
      exact k_Su_understood_61 C () trivial _ hz _ _ ls hP hD hS (lv_sub hl [0] rfl)
    · have hz := hz.trans (if_pos c9)
      have hok := hok.1 c9
      refine lv_aload_n hx hb d_Su_understood_44 rfl (lv_at hl 0 rfl) ?_
      refine gf C hP 0 0 fkSu rfl (by decide) rfl qf_Su_18 (gSu_0 _ _ _) d_Su_understood_45 ?_
      have hs10 := hok.1
      have hok := hok.2
      have hB : SubW g (inW ws0) s (wSu g qsu qte qteb qdp qdpe qdpr qdpu qdpb sup25 tp25 tb d0p25 d1p25 d2p25 d3p25 d4p25) (wTe g qte qteb tp25 tb) [1, 2] _ _ := ⟨rfl, rfl, hP, hD, hS⟩
      refine goV1 hB (run_v C mf_Te_advance qm_Su_40 (c_Te_advance l g qte qteb tp25 tb hs10) rfl rfl ⟨Nat.le_of_ble_eq_true rfl, Nat.le_of_ble_eq_true rfl⟩ ⟨Nat.le_of_ble_eq_true rfl, Nat.le_of_ble_eq_true rfl⟩ hB rfl rfl hl rfl rfl (Nat.le_of_ble_eq_true rfl) d_Su_understood_48) (fun _ => rfl) (fun y11 ey11 H locs hP hD hS => ?_)
      have hP : va_P g.1 vwCl (wSu g qsu qte qteb qdp qdpe qdpr qdpu qdpb sup25 y11 tb d0p25 d1p25 d2p25 d3p25 d4p25) H := cP (spq hB.1 hB.2.1 [0, 3, 4, 5, 6, 7] 8 rfl rfl (by decide +kernel) rfl) hP
      have hD : va_D (inW ws0) (wSu g qsu qte qteb qdp qdpe qdpr qdpu qdpb sup25 y11 tb d0p25 d1p25 d2p25 d3p25 d4p25) := cD (spq hB.1 hB.2.1 [0, 3, 4, 5, 6, 7] 8 rfl rfl (by decide +kernel) rfl) hD
      have hz := lett_z hz ey11
      have hok := lett_o hok ey11
      refine lv_aload_n hx hb d_Su_understood_51 rfl (lv_at hl 0 rfl) ?_
      have hs12 := hok.1
      have hok := hok.2
      have hB : SubW g (inW ws0) s (wSu g qsu qte qteb qdp qdpe qdpr qdpu qdpb sup25 y11 tb d0p25 d1p25 d2p25 d3p25 d4p25) _ (List.range _) _ _ := (subF hP hD hS)
      refine goVF hB (run_v C mf_Su_takeStatement qm_Su_34 (c_Su_takeStatement l g qsu qte qteb qdp qdpe qdpr qdpu qdpb sup25 y11 tb d0p25 d1p25 d2p25 d3p25 d4p25 hs12) rfl rfl ⟨Nat.le_of_ble_eq_true rfl, Nat.le_of_ble_eq_true rfl⟩ ⟨Nat.le_of_ble_eq_true rfl, Nat.le_of_ble_eq_true rfl⟩ hB rfl rfl hl rfl rfl (Nat.le_of_ble_eq_true rfl) d_Su_understood_52) (fun _ => rfl) (fun y13 ey13 H locs hP hD hS => ?_)
      have hP : va_P g.1 vwCl (wSu g qsu qte qteb qdp qdpe qdpr qdpu qdpb y13.1 y13.2.1 tb y13.2.2.1 y13.2.2.2.1 y13.2.2.2.2.1 y13.2.2.2.2.2.1 y13.2.2.2.2.2.2) H := hP
      have hD : va_D (inW ws0) (wSu g qsu qte qteb qdp qdpe qdpr qdpu qdpb y13.1 y13.2.1 tb y13.2.2.1 y13.2.2.2.1 y13.2.2.2.2.1 y13.2.2.2.2.2.1 y13.2.2.2.2.2.2) := hD
      have hz := lett_z hz ey13
      have hok := lett_o hok ey13
      obtain ⟨v14, ev14⟩ : ∃ y : Int32, y = x1p25 + (1 : Int32) := ⟨_, rfl⟩
      have hz := lett_z hz ev14
      have hok := lett_o hok ev14
      refine lv_iinc (v := v14) (lv' := [(1, .int v14), (0, .ref qsu)]) hx hb d_Su_understood_55 hl (k := 1) rfl (by rw [ev14]; rfl) (by decide) rfl (fun ls hl => ?_)
      refine lv_goto (tgt := 25) hx hb d_Su_understood_58 (by decide) ?_
      exact ih25 v14 y13.1 y13.2.1 y13.2.2.1 y13.2.2.2.1 y13.2.2.2.2.1 y13.2.2.2.2.2.1 y13.2.2.2.2.2.2 hok _ hz _ _ ls hP hD hS (lv_sub hl [1, 0] rfl)
theorem k_Su_understood_25 {p : Program} {l : Launch} {e : Env} {s : State} {m : MethodId} {args : Array Value} {below : List Frame} {meth : Method} {c : Code} {g : GX} {qsu : Nat} {qte : Nat} {qteb : Nat} {qdp : Nat} {qdpe : Nat} {qdpr : Nat} {qdpu : Nat} {qdpb : Nat} {ws0 : va_W} {tb : IV}  (C : Cx p s m args meth c (inW ws0) g "DecadeBridge$SetupReader" b_Su_understood (some .boolean) 2) (f : Nat)  : HL_Su_understood_25 p l e s m args below meth c g qsu qte qteb qdp qdpe qdpr qdpu qdpb ws0 tb (sp_Su_understood_25 tb  f) (ok_Su_understood_25 tb   f) := by
  induction f with
  | zero => intro x1p25 sup25 tp25 d0p25 d1p25 d2p25 d3p25 d4p25 hok; exact False.elim hok
  | succ f ih => exact kb_Su_understood_25 C  ih
noncomputable def sp_Su_understood (su : IV) (t : IV) (tb : IV) (d0 : IV) (d1 : IV) (d2 : IV) (d3 : IV) (d4 : IV) : Int32 × IV × IV × IV × IV × IV × IV × IV := lett (sp_Pa_clear d0 d1 d2 d3 d4) fun (y2 : IV × IV × IV × IV × IV) => lett (upd su 2 (0 : Int32)) fun (su_3 : IV) => lett (sp_Te_begin t tb) fun (y5 : IV) => lett (sp_Su_takeStatement su_3 y5 tb y2.1 y2.2.1 y2.2.2.1 y2.2.2.2.1 y2.2.2.2.2) fun (y7 : IV × IV × IV × IV × IV × IV × IV) => sp_Su_understood_25 tb big (0 : Int32) y7.1 y7.2.1 y7.2.2.1 y7.2.2.2.1 y7.2.2.2.2.1 y7.2.2.2.2.2.1 y7.2.2.2.2.2.2
def ok_Su_understood (su : IV) (t : IV) (tb : IV) (d0 : IV) (d1 : IV) (d2 : IV) (d3 : IV) (d4 : IV) : Prop := (ok_Pa_clear d0 d1 d2 d3 d4) ∧ lett (sp_Pa_clear d0 d1 d2 d3 d4) fun (y2 : IV × IV × IV × IV × IV) => lett (upd su 2 (0 : Int32)) fun (su_3 : IV) => (ok_Te_begin t tb) ∧ lett (sp_Te_begin t tb) fun (y5 : IV) => (ok_Su_takeStatement su_3 y5 tb y2.1 y2.2.1 y2.2.2.1 y2.2.2.2.1 y2.2.2.2.2) ∧ lett (sp_Su_takeStatement su_3 y5 tb y2.1 y2.2.1 y2.2.2.1 y2.2.2.2.1 y2.2.2.2.2) fun (y7 : IV × IV × IV × IV × IV × IV × IV) => ok_Su_understood_25 tb big (0 : Int32) y7.1 y7.2.1 y7.2.2.1 y7.2.2.2.1 y7.2.2.2.2.1 y7.2.2.2.2.2.1 y7.2.2.2.2.2.2
set_option maxRecDepth 100000 in
set_option maxHeartbeats 4000000 in
theorem c_Su_understood (l : Launch) (g : GX) (qsu : Nat) (qte : Nat) (qteb : Nat) (qdp : Nat) (qdpe : Nat) (qdpr : Nat) (qdpu : Nat) (qdpb : Nat) (su : IV) (t : IV) (tb : IV) (d0 : IV) (d1 : IV) (d2 : IV) (d3 : IV) (d4 : IV)  (hok : ok_Su_understood su t tb d0 d1 d2 d3 d4) : Met l y_Su_understood (wsY y_Su_understood b_Su_understood 2 (some .boolean)) rm_Su_understood (CP g [.ref qsu] (wSu g qsu qte qteb qdp qdpe qdpr qdpu qdpb su t tb d0 d1 d2 d3 d4)) (CI g (wSu g qsu qte qteb qdp qdpe qdpr qdpu qdpb su t tb d0 d1 d2 d3 d4) (fun u : IV × IV × IV × IV × IV × IV × IV => wSu g qsu qte qteb qdp qdpe qdpr qdpu qdpb u.1 u.2.1 tb u.2.2.1 u.2.2.2.1 u.2.2.2.2.1 u.2.2.2.2.2.1 u.2.2.2.2.2.2) (sp_Su_understood su t tb d0 d1 d2 d3 d4)) 0 0 (inW (wSu g qsu qte qteb qdp qdpe qdpr qdpu qdpb su t tb d0 d1 d2 d3 d4)) := by
  refine Met.ofW (cc := b_Su_understood) (maxL := 2) (ret := (some .boolean)) pn_Su rfl ?_
  intro p e s m args below meth c s₁ B hml hv
  obtain ⟨rfl, C, hP, hD, hS⟩ := enter "DecadeBridge$SetupReader" rfl B hml hv
  obtain ⟨hx, hb, hr, hml, hown, hlk, hts, hK, hZo, hZ⟩ := id C
  refine entryW (lv := [(0, .ref qsu)]) rfl (Nat.le_of_ble_eq_true rfl) (fun ls hl => ?_)
  obtain ⟨z, hz⟩ : ∃ z, z = sp_Su_understood su t tb d0 d1 d2 d3 d4 := ⟨_, rfl⟩
  rw [← hz]
  unfold sp_Su_understood at hz
  unfold ok_Su_understood at hok
  refine lv_aload_n hx hb d_Su_understood_0 rfl (lv_at hl 0 rfl) ?_
  refine gf C hP 0 1 fkSu rfl (by decide) rfl qf_Su_12 (gSu_1 _ _ _) d_Su_understood_1 ?_
  have hs1 := hok.1
  have hok := hok.2
  have hB : SubW g (inW (wSu g qsu qte qteb qdp qdpe qdpr qdpu qdpb su t tb d0 d1 d2 d3 d4)) s (wSu g qsu qte qteb qdp qdpe qdpr qdpu qdpb su t tb d0 d1 d2 d3 d4) (wPa g qdp qdpe qdpr qdpu qdpb d0 d1 d2 d3 d4) [3, 4, 5, 6, 7] _ _ := ⟨rfl, rfl, hP, hD, hS⟩
  refine goV1 hB (run_v C mf_Pa_clear qm_Su_22 (c_Pa_clear l g qdp qdpe qdpr qdpu qdpb d0 d1 d2 d3 d4 hs1) rfl rfl ⟨Nat.le_of_ble_eq_true rfl, Nat.le_of_ble_eq_true rfl⟩ ⟨Nat.le_of_ble_eq_true rfl, Nat.le_of_ble_eq_true rfl⟩ hB rfl rfl hl rfl rfl (Nat.le_of_ble_eq_true rfl) d_Su_understood_4) (fun _ => rfl) (fun y2 ey2 H locs hP hD hS => ?_)
  have hP : va_P g.1 vwCl (wSu g qsu qte qteb qdp qdpe qdpr qdpu qdpb su t tb y2.1 y2.2.1 y2.2.2.1 y2.2.2.2.1 y2.2.2.2.2) H := cP (spq hB.1 hB.2.1 [0, 1, 2] 8 rfl rfl (by decide +kernel) rfl) hP
  have hD : va_D (inW (wSu g qsu qte qteb qdp qdpe qdpr qdpu qdpb su t tb d0 d1 d2 d3 d4)) (wSu g qsu qte qteb qdp qdpe qdpr qdpu qdpb su t tb y2.1 y2.2.1 y2.2.2.1 y2.2.2.2.1 y2.2.2.2.2) := cD (spq hB.1 hB.2.1 [0, 1, 2] 8 rfl rfl (by decide +kernel) rfl) hD
  have hz := lett_z hz ey2
  have hok := lett_o hok ey2
  refine lv_aload_n hx hb d_Su_understood_7 rfl (lv_at hl 0 rfl) ?_
  refine lv_iconst (v := 0) hx hb d_Su_understood_8 (by decide) ?_
  refine pfI C hP hD hS 0 2 fkSu rfl (by decide) rfl qf_Su_25 rfl rfl rfl (Nat.le_of_ble_eq_true rfl) (ff := fun o => fSu qte qdp o) (sSu_2 _ _ _ _) d_Su_understood_9 (fun su_3 esu_3 H locs hP hD hS => ?_)
  have hP : va_P g.1 vwCl (wSu g qsu qte qteb qdp qdpe qdpr qdpu qdpb su_3 t tb y2.1 y2.2.1 y2.2.2.1 y2.2.2.2.1 y2.2.2.2.2) H := hP
  have hD : va_D (inW (wSu g qsu qte qteb qdp qdpe qdpr qdpu qdpb su t tb d0 d1 d2 d3 d4)) (wSu g qsu qte qteb qdp qdpe qdpr qdpu qdpb su_3 t tb y2.1 y2.2.1 y2.2.2.1 y2.2.2.2.1 y2.2.2.2.2) := hD
  have hz := lett_z hz esu_3
  have hok := lett_o hok esu_3
  refine lv_aload_n hx hb d_Su_understood_12 rfl (lv_at hl 0 rfl) ?_
  refine gf C hP 0 0 fkSu rfl (by decide) rfl qf_Su_18 (gSu_0 _ _ _) d_Su_understood_13 ?_
  have hs4 := hok.1
  have hok := hok.2
  have hB : SubW g (inW (wSu g qsu qte qteb qdp qdpe qdpr qdpu qdpb su t tb d0 d1 d2 d3 d4)) s (wSu g qsu qte qteb qdp qdpe qdpr qdpu qdpb su_3 t tb y2.1 y2.2.1 y2.2.2.1 y2.2.2.2.1 y2.2.2.2.2) (wTe g qte qteb t tb) [1, 2] _ _ := ⟨rfl, rfl, hP, hD, hS⟩
  refine goV1 hB (run_v C mf_Te_begin qm_Su_29 (c_Te_begin l g qte qteb t tb hs4) rfl rfl ⟨Nat.le_of_ble_eq_true rfl, Nat.le_of_ble_eq_true rfl⟩ ⟨Nat.le_of_ble_eq_true rfl, Nat.le_of_ble_eq_true rfl⟩ hB rfl rfl hl rfl rfl (Nat.le_of_ble_eq_true rfl) d_Su_understood_16) (fun _ => rfl) (fun y5 ey5 H locs hP hD hS => ?_)
  have hP : va_P g.1 vwCl (wSu g qsu qte qteb qdp qdpe qdpr qdpu qdpb su_3 y5 tb y2.1 y2.2.1 y2.2.2.1 y2.2.2.2.1 y2.2.2.2.2) H := cP (spq hB.1 hB.2.1 [0, 3, 4, 5, 6, 7] 8 rfl rfl (by decide +kernel) rfl) hP
  have hD : va_D (inW (wSu g qsu qte qteb qdp qdpe qdpr qdpu qdpb su t tb d0 d1 d2 d3 d4)) (wSu g qsu qte qteb qdp qdpe qdpr qdpu qdpb su_3 y5 tb y2.1 y2.2.1 y2.2.2.1 y2.2.2.2.1 y2.2.2.2.2) := cD (spq hB.1 hB.2.1 [0, 3, 4, 5, 6, 7] 8 rfl rfl (by decide +kernel) rfl) hD
  have hz := lett_z hz ey5
  have hok := lett_o hok ey5
  refine lv_aload_n hx hb d_Su_understood_19 rfl (lv_at hl 0 rfl) ?_
  have hs6 := hok.1
  have hok := hok.2
  have hB : SubW g (inW (wSu g qsu qte qteb qdp qdpe qdpr qdpu qdpb su t tb d0 d1 d2 d3 d4)) s (wSu g qsu qte qteb qdp qdpe qdpr qdpu qdpb su_3 y5 tb y2.1 y2.2.1 y2.2.2.1 y2.2.2.2.1 y2.2.2.2.2) _ (List.range _) _ _ := (subF hP hD hS)
  refine goVF hB (run_v C mf_Su_takeStatement qm_Su_34 (c_Su_takeStatement l g qsu qte qteb qdp qdpe qdpr qdpu qdpb su_3 y5 tb y2.1 y2.2.1 y2.2.2.1 y2.2.2.2.1 y2.2.2.2.2 hs6) rfl rfl ⟨Nat.le_of_ble_eq_true rfl, Nat.le_of_ble_eq_true rfl⟩ ⟨Nat.le_of_ble_eq_true rfl, Nat.le_of_ble_eq_true rfl⟩ hB rfl rfl hl rfl rfl (Nat.le_of_ble_eq_true rfl) d_Su_understood_20) (fun _ => rfl) (fun y7 ey7 H locs hP hD hS => ?_)
  have hP : va_P g.1 vwCl (wSu g qsu qte qteb qdp qdpe qdpr qdpu qdpb y7.1 y7.2.1 tb y7.2.2.1 y7.2.2.2.1 y7.2.2.2.2.1 y7.2.2.2.2.2.1 y7.2.2.2.2.2.2) H := hP
  have hD : va_D (inW (wSu g qsu qte qteb qdp qdpe qdpr qdpu qdpb su t tb d0 d1 d2 d3 d4)) (wSu g qsu qte qteb qdp qdpe qdpr qdpu qdpb y7.1 y7.2.1 tb y7.2.2.1 y7.2.2.2.1 y7.2.2.2.2.1 y7.2.2.2.2.2.1 y7.2.2.2.2.2.2) := hD
  have hz := lett_z hz ey7
  have hok := lett_o hok ey7
  refine lv_iconst (v := 0) hx hb d_Su_understood_23 (by decide) ?_
  refine lv_istore_n (lv' := [(1, .int (0 : Int32)), (0, .ref qsu)]) hx hb d_Su_understood_24 rfl hl (by decide) rfl (fun ls hl => ?_)
  exact k_Su_understood_25 C big (0 : Int32) y7.1 y7.2.1 y7.2.2.1 y7.2.2.2.1 y7.2.2.2.2.1 y7.2.2.2.2.2.1 y7.2.2.2.2.2.2 hok _ hz _ _ ls hP hD hS (lv_sub hl [1, 0] rfl)
