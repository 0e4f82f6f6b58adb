abbrev rm_Db_benchAt : Room := { frames := 0, cells := 0, slots := 0, locals := 0 }
def HL_Db_benchAt_16 (p : Program) (l : Launch) (e : Env) (s : State) (m : MethodId) (args : Array Value) (below : List Frame) (meth : Method) (c : Code) (g : GX) (qrow : Nat) (uB : Nat → Nat)  (sp : (Option Nat)) (ok : Prop) : Prop := ∀ (_ : Unit), ok → ∀ z : (Option Nat), z = sp → ∀ (H : Heap) (locs : List Loc) (ls : Array Slot), va_P g.1 vwCl (wK8 g qrow uB) H → va_D (inW (wK8 g qrow uB)) (wK8 g qrow uB) → va_S (inW (wK8 g qrow uB)) s.heap H locs → lv_has ls 2 [] → W p l e rm_Db_benchAt s m args below meth c H locs 0 0 (MQ below (CO g (wK8 g qrow uB) uB z) args s 0 0 (inW (wK8 g qrow uB))) (F0 m 16 ls [])
noncomputable def sp_Db_benchAt_16    : Option Nat := none
def ok_Db_benchAt_16     : Prop := True
set_option maxRecDepth 100000 in
set_option maxHeartbeats 4000000 in
theorem k_Db_benchAt_16 {p : Program} {l : Launch} {e : Env} {s : State} {m : MethodId} {args : Array Value} {below : List Frame} {meth : Method} {c : Code} {g : GX} {qrow : Nat} {uB : Nat → Nat}   (C : Cx p s m args meth c (inW (wK8 g qrow uB)) g "DecadeBridge" b_Db_benchAt (some (.object "DecadeBridge$Bench")) 2)  : HL_Db_benchAt_16 p l e s m args below meth c g qrow uB  (sp_Db_benchAt_16  ) (ok_Db_benchAt_16   ) := by
  intro _ hok z hz H locs ls hP hD hS hl
  obtain ⟨hx, hb, hr, hml, hown, hlk, hts, hK, hZo, hZ⟩ := id C
  unfold sp_Db_benchAt_16 at hz
  refine lv_null hx hb d_Db_benchAt_16 ?_
  exact endO0 (o := none) (Rf := uB) C (Or.inl ⟨_, rfl⟩) hz hP hS d_Db_benchAt_17
noncomputable def sp_Db_benchAt (p2 : Int32) : Option Nat := if p2 < 0 then (sp_Db_benchAt_16) else (if (8 : Int32) ≤ p2 then (sp_Db_benchAt_16) else ((some p2.toNatClampNeg)))
set_option maxRecDepth 100000 in
set_option maxHeartbeats 4000000 in
theorem c_Db_benchAt (l : Launch) (g : GX) (qrow : Nat) (uB : Nat → Nat)  (p2 : Int32) : Met l y_Db_benchAt (wsY y_Db_benchAt b_Db_benchAt 2 (some (.object "DecadeBridge$Bench"))) rm_Db_benchAt (CP g [.ref qrow, .int p2] (wK8 g qrow uB)) (CO g (wK8 g qrow uB) uB (sp_Db_benchAt p2)) 0 0 (inW (wK8 g qrow uB)) := by
  refine Met.ofW (cc := b_Db_benchAt) (maxL := 2) (ret := (some (.object "DecadeBridge$Bench"))) pn_Db rfl ?_
  intro p e s m args below meth c s₁ B hml hv
  obtain ⟨rfl, C, hP, hD, hS⟩ := enter "DecadeBridge" rfl B hml hv
  obtain ⟨hx, hb, hr, hml, hown, hlk, hts, hK, hZo, hZ⟩ := id C
  refine entryW (lv := [(0, .ref qrow), (1, .int p2)]) rfl (Nat.le_of_ble_eq_true rfl) (fun ls hl => ?_)
  obtain ⟨z, hz⟩ : ∃ z, z = sp_Db_benchAt p2 := ⟨_, rfl⟩
  rw [← hz]
  unfold sp_Db_benchAt at hz
  refine lv_iload_n hx hb d_Db_benchAt_0 rfl (lv_at hl 1 rfl) ?_
  refine lv_if_lt (tgt := 16) hx hb d_Db_benchAt_1 (by decide) (fun c1 => ?_) (fun c1 => ?_)
  · have hz := hz.trans (if_pos c1)
    exact k_Db_benchAt_16 C () trivial _ hz _ _ ls hP hD hS (lv_sub hl [] rfl)
  · have hz := hz.trans (if_neg c1)
    refine lv_iload_n hx hb d_Db_benchAt_4 rfl (lv_at hl 1 rfl) ?_
    refine lv_aload_n hx hb d_Db_benchAt_5 rfl (lv_at hl 0 rfl) ?_
    refine alen C hP 0 rfl (t0 := 4) rfl (v := 8) rfl d_Db_benchAt_6 ?_
    refine lv_icmp_ge (tgt := 16) hx hb d_Db_benchAt_7 (by decide) (fun c2 => ?_) (fun c2 => ?_)
    · have hz := hz.trans (if_pos c2)
      exact k_Db_benchAt_16 C () trivial _ hz _ _ ls hP hD hS (lv_sub hl [] rfl)
    · have hz := hz.trans (if_neg c2)
      refine lv_aload_n hx hb d_Db_benchAt_10 rfl (lv_at hl 0 rfl) ?_
      refine lv_iload_n hx hb d_Db_benchAt_11 rfl (lv_at hl 1 rfl) ?_
      refine va_aldq hx hb hK hP 0 4 rfl rfl (vi2 (vlo c1) (vhi c2) (by decide)) d_Db_benchAt_12 ?_
      refine lv_goto (tgt := 17) hx hb d_Db_benchAt_13 (by decide) ?_
      exact endO0 (o := (some p2.toNatClampNeg)) (Rf := uB) C (Or.inl ⟨_, rfl⟩) hz hP hS d_Db_benchAt_17
