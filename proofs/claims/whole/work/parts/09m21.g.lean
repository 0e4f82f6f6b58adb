abbrev rm_Db_checkIndex : Room := { frames := 0, cells := 0, slots := 0, locals := 0 }
def HL_Db_checkIndex_9 (p : Program) (l : Launch) (e : Env) (s : State) (m : MethodId) (args : Array Value) (below : List Frame) (meth : Method) (c : Code) (g : GX)   (sp : Unit) (ok : Prop) : Prop := ∀ (_ : Unit), ok → ∀ z : Unit, z = sp → ∀ (H : Heap) (locs : List Loc) (ls : Array Slot), va_P g.1 vwCl (wNil g ) H → va_D (inW (wNil g )) (wNil g ) → va_S (inW (wNil g )) s.heap H locs → lv_has ls 2 [] → W p l e rm_Db_checkIndex s m args below meth c H locs 0 0 (MQ below (CV g (wNil g ) (fun u : Unit => wNil g ) z) args s 0 0 (inW (wNil g ))) (F0 m 9 ls [])
noncomputable def sp_Db_checkIndex_9    : Unit := default
def ok_Db_checkIndex_9     : Prop := (False) ∧ True
set_option maxRecDepth 100000 in
set_option maxHeartbeats 4000000 in
theorem k_Db_checkIndex_9 {p : Program} {l : Launch} {e : Env} {s : State} {m : MethodId} {args : Array Value} {below : List Frame} {meth : Method} {c : Code} {g : GX}    (C : Cx p s m args meth c (inW (wNil g )) g "DecadeBridge" b_Db_checkIndex none 2)  : HL_Db_checkIndex_9 p l e s m args below meth c g   (sp_Db_checkIndex_9  ) (ok_Db_checkIndex_9   ) := by
  intro _ hok z hz H locs ls hP hD hS hl
  obtain ⟨hx, hb, hr, hml, hown, hlk, hts, hK, hZo, hZ⟩ := id C
  unfold sp_Db_checkIndex_9 at hz
  unfold ok_Db_checkIndex_9 at hok
  have hs3 := hok.1
  have hok := hok.2
  exact False.elim hs3
noncomputable def sp_Db_checkIndex (p1 : Int32) (p2 : Int32) : Unit := if p1 < 0 then (sp_Db_checkIndex_9) else (if p1 < p2 then (()) else (sp_Db_checkIndex_9))
def ok_Db_checkIndex (p1 : Int32) (p2 : Int32) : Prop := ((p1 < 0 → ok_Db_checkIndex_9) ∧ (¬ (p1 < 0) → ((p1 < p2 → True) ∧ (¬ (p1 < p2) → ok_Db_checkIndex_9))))
set_option maxRecDepth 100000 in
set_option maxHeartbeats 4000000 in
theorem c_Db_checkIndex (l : Launch) (g : GX)   (p1 : Int32) (p2 : Int32) (hok : ok_Db_checkIndex p1 p2) : Met l y_Db_checkIndex (wsY y_Db_checkIndex b_Db_checkIndex 2 none) rm_Db_checkIndex (CP g [.int p1, .int p2] (wNil g )) (CV g (wNil g ) (fun u : Unit => wNil g ) (sp_Db_checkIndex p1 p2)) 0 0 (inW (wNil g )) := by
  refine Met.ofW (cc := b_Db_checkIndex) (maxL := 2) (ret := none) pn_Db rfl ?_
  intro p e s m args below meth c s₁ B hml hv
  obtain ⟨rfl, C, hP, hD, hS⟩ := enter "DecadeBridge" rfl B hml hv
  obtain ⟨hx, hb, hr, hml, hown, hlk, hts, hK, hZo, hZ⟩ := id C
  refine entryW (lv := [(0, .int p1), (1, .int p2)]) rfl (Nat.le_of_ble_eq_true rfl) (fun ls hl => ?_)
  obtain ⟨z, hz⟩ : ∃ z, z = sp_Db_checkIndex p1 p2 := ⟨_, rfl⟩
  rw [← hz]
  unfold sp_Db_checkIndex at hz
  unfold ok_Db_checkIndex at hok
  refine lv_iload_n hx hb d_Db_checkIndex_0 rfl (lv_at hl 0 rfl) ?_
  refine lv_if_lt (tgt := 9) hx hb d_Db_checkIndex_1 (by decide) (fun c1 => ?_) (fun c1 => ?_)
  · have hz := hz.trans (if_pos c1)
    have hok := hok.1 c1
    exact k_Db_checkIndex_9 C () hok _ hz _ _ ls hP hD hS (lv_sub hl [] rfl)
  · have hz := hz.trans (if_neg c1)
    have hok := hok.2 c1
    refine lv_iload_n hx hb d_Db_checkIndex_4 rfl (lv_at hl 0 rfl) ?_
    refine lv_iload_n hx hb d_Db_checkIndex_5 rfl (lv_at hl 1 rfl) ?_
    refine lv_icmp_lt (tgt := 17) hx hb d_Db_checkIndex_6 (by decide) (fun c2 => ?_) (fun c2 => ?_)
    · have hz := hz.trans (if_pos c2)
      exact endV C hz hP hS d_Db_checkIndex_17
    · have hz := hz.trans (if_neg c2)
      have hok := hok.2 c2
      exact k_Db_checkIndex_9 C () hok _ hz _ _ ls hP hD hS (lv_sub hl [] rfl)
