abbrev rm_Db_checkRange : Room := { frames := 0, cells := 0, slots := 0, locals := 0 }
def HL_Db_checkRange_10 (p : Program) (l : Launch) (e : Env) (s : State) (m : MethodId) (args : Array Value) (below : List Frame) (meth : Method) (c : Code) (g : GX)   (sp : Unit) (ok : Prop) : Prop := ∀ (_ : Unit), ok → ∀ z : Unit, z = sp → ∀ (H : Heap) (locs : List Loc) (ls : Array Slot), va_P g.1 vwCl (wNil g ) H → va_D (inW (wNil g )) (wNil g ) → va_S (inW (wNil g )) s.heap H locs → lv_has ls 3 [] → W p l e rm_Db_checkRange s m args below meth c H locs 0 0 (MQ below (CV g (wNil g ) (fun u : Unit => wNil g ) z) args s 0 0 (inW (wNil g ))) (F0 m 10 ls [])
noncomputable def sp_Db_checkRange_10    : Unit := default
def ok_Db_checkRange_10     : Prop := (False) ∧ True
set_option maxRecDepth 100000 in
set_option maxHeartbeats 4000000 in
theorem k_Db_checkRange_10 {p : Program} {l : Launch} {e : Env} {s : State} {m : MethodId} {args : Array Value} {below : List Frame} {meth : Method} {c : Code} {g : GX}    (C : Cx p s m args meth c (inW (wNil g )) g "DecadeBridge" b_Db_checkRange none 3)  : HL_Db_checkRange_10 p l e s m args below meth c g   (sp_Db_checkRange_10  ) (ok_Db_checkRange_10   ) := by
  intro _ hok z hz H locs ls hP hD hS hl
  obtain ⟨hx, hb, hr, hml, hown, hlk, hts, hK, hZo, hZ⟩ := id C
  unfold sp_Db_checkRange_10 at hz
  unfold ok_Db_checkRange_10 at hok
  have hs3 := hok.1
  have hok := hok.2
  exact False.elim hs3
noncomputable def sp_Db_checkRange (p1 : Int32) (p2 : Int32) (p3 : Int32) : Unit := if p1 < p2 then (sp_Db_checkRange_10) else (if p1 ≤ p3 then (()) else (sp_Db_checkRange_10))
def ok_Db_checkRange (p1 : Int32) (p2 : Int32) (p3 : Int32) : Prop := ((p1 < p2 → ok_Db_checkRange_10) ∧ (¬ (p1 < p2) → ((p1 ≤ p3 → True) ∧ (¬ (p1 ≤ p3) → ok_Db_checkRange_10))))
set_option maxRecDepth 100000 in
set_option maxHeartbeats 4000000 in
theorem c_Db_checkRange (l : Launch) (g : GX)   (p1 : Int32) (p2 : Int32) (p3 : Int32) (hok : ok_Db_checkRange p1 p2 p3) : Met l y_Db_checkRange (wsY y_Db_checkRange b_Db_checkRange 3 none) rm_Db_checkRange (CP g [.int p1, .int p2, .int p3] (wNil g )) (CV g (wNil g ) (fun u : Unit => wNil g ) (sp_Db_checkRange p1 p2 p3)) 0 0 (inW (wNil g )) := by
  refine Met.ofW (cc := b_Db_checkRange) (maxL := 3) (ret := none) pn_Db rfl ?_
  intro p e s m args below meth c s₁ B hml hv
  obtain ⟨rfl, C, hP, hD, hS⟩ := enter "DecadeBridge" rfl B hml hv
  obtain ⟨hx, hb, hr, hml, hown, hlk, hts, hK, hZo, hZ⟩ := id C
  refine entryW (lv := [(0, .int p1), (1, .int p2), (2, .int p3)]) rfl (Nat.le_of_ble_eq_true rfl) (fun ls hl => ?_)
  obtain ⟨z, hz⟩ : ∃ z, z = sp_Db_checkRange p1 p2 p3 := ⟨_, rfl⟩
  rw [← hz]
  unfold sp_Db_checkRange at hz
  unfold ok_Db_checkRange at hok
  refine lv_iload_n hx hb d_Db_checkRange_0 rfl (lv_at hl 0 rfl) ?_
  refine lv_iload_n hx hb d_Db_checkRange_1 rfl (lv_at hl 1 rfl) ?_
  refine lv_icmp_lt (tgt := 10) hx hb d_Db_checkRange_2 (by decide) (fun c1 => ?_) (fun c1 => ?_)
  · have hz := hz.trans (if_pos c1)
    have hok := hok.1 c1
    exact k_Db_checkRange_10 C () hok _ hz _ _ ls hP hD hS (lv_sub hl [] rfl)
  · have hz := hz.trans (if_neg c1)
    have hok := hok.2 c1
    refine lv_iload_n hx hb d_Db_checkRange_5 rfl (lv_at hl 0 rfl) ?_
    refine lv_iload_n hx hb d_Db_checkRange_6 rfl (lv_at hl 2 rfl) ?_
    refine lv_icmp_le (tgt := 18) hx hb d_Db_checkRange_7 (by decide) (fun c2 => ?_) (fun c2 => ?_)
    · have hz := hz.trans (if_pos c2)
      exact endV C hz hP hS d_Db_checkRange_18
    · have hz := hz.trans (if_neg c2)
      have hok := hok.2 c2
      exact k_Db_checkRange_10 C () hok _ hz _ _ ls hP hD hS (lv_sub hl [] rfl)
