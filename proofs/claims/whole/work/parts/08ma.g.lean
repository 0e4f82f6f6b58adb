abbrev rm_Be_readingAt : Room := { frames := 0, cells := 0, slots := 0, locals := 0 }
def HL_Be_readingAt_30 (p : Program) (l : Launch) (e : Env) (s : State) (m : MethodId) (args : Array Value) (below : List Frame) (meth : Method) (c : Code) (g : GX) (qbe : Nat) (qci : Nat) (qrd : Nat) (qrs : Nat) (qrsr : Nat) (ua : Nat → Nat) (qpa : Nat) (qpae : Nat) (qpar : Nat) (qpau : Nat) (qpab : Nat) (ba : IV) (ca : IV) (cal : LV) (da : IV) (ea : IV) (eal : LV) (rar : NI) (ral : NL) (w0 : IV) (w1 : IV) (w2 : IV) (w3 : IV) (w4 : IV) (sp : Int32) (ok : Prop) : Prop := ∀ (_ : Unit), ok → ∀ z : Int32, z = sp → ∀ (H : Heap) (locs : List Loc) (ls : Array Slot), va_P g.1 vwCl (wBe g qbe qci qrd qrs qrsr ua qpa qpae qpar qpau qpab ba ca cal da ea eal rar ral w0 w1 w2 w3 w4) H → va_D (inW (wBe g qbe qci qrd qrs qrsr ua qpa qpae qpar qpau qpab ba ca cal da ea eal rar ral w0 w1 w2 w3 w4)) (wBe g qbe qci qrd qrs qrsr ua qpa qpae qpar qpau qpab ba ca cal da ea eal rar ral w0 w1 w2 w3 w4) → va_S (inW (wBe g qbe qci qrd qrs qrsr ua qpa qpae qpar qpau qpab ba ca cal da ea eal rar ral w0 w1 w2 w3 w4)) s.heap H locs → lv_has ls 2 [] → W p l e rm_Be_readingAt s m args below meth c H locs 0 0 (MQ below (CI0 g (wBe g qbe qci qrd qrs qrsr ua qpa qpae qpar qpau qpab ba ca cal da ea eal rar ral w0 w1 w2 w3 w4) z) args s 0 0 (inW (wBe g qbe qci qrd qrs qrsr ua qpa qpae qpar qpau qpab ba ca cal da ea eal rar ral w0 w1 w2 w3 w4))) (F0 m 30 ls [])
noncomputable def sp_Be_readingAt_30    : Int32 := (-1000000000 : Int32)
def ok_Be_readingAt_30     : Prop := True
set_option maxRecDepth 100000 in
set_option maxHeartbeats 4000000 in
theorem k_Be_readingAt_30 {p : Program} {l : Launch} {e : Env} {s : State} {m : MethodId} {args : Array Value} {below : List Frame} {meth : Method} {c : Code} {g : GX} {qbe : Nat} {qci : Nat} {qrd : Nat} {qrs : Nat} {qrsr : Nat} {ua : Nat → Nat} {qpa : Nat} {qpae : Nat} {qpar : Nat} {qpau : Nat} {qpab : Nat} {ba : IV} {ca : IV} {cal : LV} {da : IV} {ea : IV} {eal : LV} {rar : NI} {ral : NL} {w0 : IV} {w1 : IV} {w2 : IV} {w3 : IV} {w4 : IV}  (C : Cx p s m args meth c (inW (wBe g qbe qci qrd qrs qrsr ua qpa qpae qpar qpau qpab ba ca cal da ea eal rar ral w0 w1 w2 w3 w4)) g "DecadeBridge$Bench" b_Be_readingAt (some .int) 2)  : HL_Be_readingAt_30 p l e s m args below meth c g qbe qci qrd qrs qrsr ua qpa qpae qpar qpau qpab ba ca cal da ea eal rar ral w0 w1 w2 w3 w4 (sp_Be_readingAt_30  ) (ok_Be_readingAt_30   ) := by
  intro _ hok z hz H locs ls hP hD hS hl
  obtain ⟨hx, hb, hr, hml, hown, hlk, hts, hK, hZo, hZ⟩ := id C
  unfold sp_Be_readingAt_30 at hz
  refine lv_ldc hx hb hown (hts _ qk_Be_58) d_Be_readingAt_30 ?_
  exact endI0 C hz hP hS d_Be_readingAt_32
noncomputable def sp_Be_readingAt (p1 : Int32) (ba : IV) (da : IV) : Int32 := if p1 < 0 then (sp_Be_readingAt_30) else (if (ba 3) ≤ p1 then (sp_Be_readingAt_30) else (if (10 : Int32) ≤ p1 then (sp_Be_readingAt_30) else (da p1.toNatClampNeg)))
set_option maxRecDepth 100000 in
set_option maxHeartbeats 4000000 in
theorem c_Be_readingAt (l : Launch) (g : GX) (qbe : Nat) (qci : Nat) (qrd : Nat) (qrs : Nat) (qrsr : Nat) (ua : Nat → Nat) (qpa : Nat) (qpae : Nat) (qpar : Nat) (qpau : Nat) (qpab : Nat) (ba : IV) (ca : IV) (cal : LV) (da : IV) (ea : IV) (eal : LV) (rar : NI) (ral : NL) (w0 : IV) (w1 : IV) (w2 : IV) (w3 : IV) (w4 : IV) (p1 : Int32) : Met l y_Be_readingAt (wsY y_Be_readingAt b_Be_readingAt 2 (some .int)) rm_Be_readingAt (CP g [.ref qbe, .int p1] (wBe g qbe qci qrd qrs qrsr ua qpa qpae qpar qpau qpab ba ca cal da ea eal rar ral w0 w1 w2 w3 w4)) (CI0 g (wBe g qbe qci qrd qrs qrsr ua qpa qpae qpar qpau qpab ba ca cal da ea eal rar ral w0 w1 w2 w3 w4) (sp_Be_readingAt p1 ba da)) 0 0 (inW (wBe g qbe qci qrd qrs qrsr ua qpa qpae qpar qpau qpab ba ca cal da ea eal rar ral w0 w1 w2 w3 w4)) := by
  refine Met.ofW (cc := b_Be_readingAt) (maxL := 2) (ret := (some .int)) pn_Be rfl ?_
  intro p e s m args below meth c s₁ B hml hv
  obtain ⟨rfl, C, hP, hD, hS⟩ := enter "DecadeBridge$Bench" rfl B hml hv
  obtain ⟨hx, hb, hr, hml, hown, hlk, hts, hK, hZo, hZ⟩ := id C
  refine entryW (lv := [(0, .ref qbe), (1, .int p1)]) rfl (Nat.le_of_ble_eq_true rfl) (fun ls hl => ?_)
  obtain ⟨z, hz⟩ : ∃ z, z = sp_Be_readingAt p1 ba da := ⟨_, rfl⟩
  rw [← hz]
  unfold sp_Be_readingAt at hz
  refine lv_iload_n hx hb d_Be_readingAt_0 rfl (lv_at hl 1 rfl) ?_
  refine lv_if_lt (tgt := 30) hx hb d_Be_readingAt_1 (by decide) (fun c1 => ?_) (fun c1 => ?_)
  · have hz := hz.trans (if_pos c1)
    exact k_Be_readingAt_30 C () trivial _ hz _ _ ls hP hD hS (lv_sub hl [] rfl)
  · have hz := hz.trans (if_neg c1)
    refine lv_iload_n hx hb d_Be_readingAt_4 rfl (lv_at hl 1 rfl) ?_
    refine lv_aload_n hx hb d_Be_readingAt_5 rfl (lv_at hl 0 rfl) ?_
    refine gf C hP 0 3 fkBe rfl (by decide) rfl qf_Be_38 (gBe_3 _ _ _ _ _) d_Be_readingAt_6 ?_
    refine lv_icmp_ge (tgt := 30) hx hb d_Be_readingAt_9 (by decide) (fun c2 => ?_) (fun c2 => ?_)
    · have hz := hz.trans (if_pos c2)
      exact k_Be_readingAt_30 C () trivial _ hz _ _ ls hP hD hS (lv_sub hl [] rfl)
    · have hz := hz.trans (if_neg c2)
      refine lv_iload_n hx hb d_Be_readingAt_12 rfl (lv_at hl 1 rfl) ?_
      refine lv_aload_n hx hb d_Be_readingAt_13 rfl (lv_at hl 0 rfl) ?_
      refine gf C hP 0 2 fkBe rfl (by decide) rfl qf_Be_11 (gBe_2 _ _ _ _ _) d_Be_readingAt_14 ?_
      refine alen C hP 2 rfl (t0 := 0) rfl (v := 10) rfl d_Be_readingAt_17 ?_
      refine lv_icmp_ge (tgt := 30) hx hb d_Be_readingAt_18 (by decide) (fun c3 => ?_) (fun c3 => ?_)
      · have hz := hz.trans (if_pos c3)
        exact k_Be_readingAt_30 C () trivial _ hz _ _ ls hP hD hS (lv_sub hl [] rfl)
      · have hz := hz.trans (if_neg c3)
        refine lv_aload_n hx hb d_Be_readingAt_21 rfl (lv_at hl 0 rfl) ?_
        refine gf C hP 0 2 fkBe rfl (by decide) rfl qf_Be_11 (gBe_2 _ _ _ _ _) d_Be_readingAt_22 ?_
        refine lv_iload_n hx hb d_Be_readingAt_25 rfl (lv_at hl 1 rfl) ?_
        refine ldI C hP 2 rfl (vi2 (vlo c1) (vhi c3) (by decide)) rfl d_Be_readingAt_26 ?_
        refine lv_goto (tgt := 32) hx hb d_Be_readingAt_27 (by decide) ?_
        exact endI0 C hz hP hS d_Be_readingAt_32
abbrev rm_Be_sumOfReadings : Room := { frames := 1, cells := 0, slots := 0, locals := 21 }
def HL_Be_sumOfReadings_4 (p : Program) (l : Launch) (e : Env) (s : State) (m : MethodId) (args : Array Value) (below : List Frame) (meth : Method) (c : Code) (g : GX) (qbe : Nat) (qci : Nat) (qrd : Nat) (qrs : Nat) (qrsr : Nat) (ua : Nat → Nat) (qpa : Nat) (qpae : Nat) (qpar : Nat) (qpau : Nat) (qpab : Nat) (ba : IV) (ca : IV) (cal : LV) (da : IV) (ea : IV) (eal : LV) (rar : NI) (ral : NL) (w0 : IV) (w1 : IV) (w2 : IV) (w3 : IV) (w4 : IV) (sp : Int64 → Int32 → Int64) (ok : Int64 → Int32 → Prop) : Prop := ∀ (x1p4 : Int64) (x3p4 : Int32), ok x1p4 x3p4 → ∀ z : Int64, z = sp x1p4 x3p4 → ∀ (H : Heap) (locs : List Loc) (ls : Array Slot), va_P g.1 vwCl (wBe g qbe qci qrd qrs qrsr ua qpa qpae qpar qpau qpab ba ca cal da ea eal rar ral w0 w1 w2 w3 w4) H → va_D (inW (wBe g qbe qci qrd qrs qrsr ua qpa qpae qpar qpau qpab ba ca cal da ea eal rar ral w0 w1 w2 w3 w4)) (wBe g qbe qci qrd qrs qrsr ua qpa qpae qpar qpau qpab ba ca cal da ea eal rar ral w0 w1 w2 w3 w4) → va_S (inW (wBe g qbe qci qrd qrs qrsr ua qpa qpae qpar qpau qpab ba ca cal da ea eal rar ral w0 w1 w2 w3 w4)) s.heap H locs → lv_has ls 4 [(0, .ref qbe), (1, .long x1p4), (3, .int x3p4)] → W p l e rm_Be_sumOfReadings s m args below meth c H locs 0 0 (MQ below (CL0 g (wBe g qbe qci qrd qrs qrsr ua qpa qpae qpar qpau qpab ba ca cal da ea eal rar ral w0 w1 w2 w3 w4) z) args s 0 0 (inW (wBe g qbe qci qrd qrs qrsr ua qpa qpae qpar qpau qpab ba ca cal da ea eal rar ral w0 w1 w2 w3 w4))) (F0 m 4 ls [])
noncomputable def bd_Be_sumOfReadings_4 (ba : IV) (da : IV) (r4 : Int64 → Int32 → Int64) (x1p4 : Int64) (x3p4 : Int32) : Int64 := if (ba 3) ≤ x3p4 then (x1p4) else (lett (sp_Be_readingAt x3p4 ba da) fun (y2 : Int32) => lett (x1p4 + y2.toInt64) fun (v3 : Int64) => lett (x3p4 + (1 : Int32)) fun (v4 : Int32) => r4 v3 v4)
def okb_Be_sumOfReadings_4 (ba : IV) (da : IV) (r4 : Int64 → Int32 → Int64) (q4 : Int64 → Int32 → Prop) (x1p4 : Int64) (x3p4 : Int32) : Prop := (((ba 3) ≤ x3p4 → True) ∧ (¬ ((ba 3) ≤ x3p4) → lett (sp_Be_readingAt x3p4 ba da) fun (y2 : Int32) => lett (x1p4 + y2.toInt64) fun (v3 : Int64) => lett (x3p4 + (1 : Int32)) fun (v4 : Int32) => q4 v3 v4))
noncomputable def sp_Be_sumOfReadings_4 (ba : IV) (da : IV)  : Nat → Int64 → Int32 → Int64
  | 0 => fun _ _ => default
  | f + 1 => bd_Be_sumOfReadings_4 ba da  (sp_Be_sumOfReadings_4 ba da  f)
def ok_Be_sumOfReadings_4 (ba : IV) (da : IV)   : Nat → Int64 → Int32 → Prop
  | 0 => fun _ _ => False
  | f + 1 => okb_Be_sumOfReadings_4 ba da  (sp_Be_sumOfReadings_4 ba da  f)  (ok_Be_sumOfReadings_4 ba da   f)
set_option maxRecDepth 100000 in
set_option maxHeartbeats 4000000 in
theorem kb_Be_sumOfReadings_4 {p : Program} {l : Launch} {e : Env} {s : State} {m : MethodId} {args : Array Value} {below : List Frame} {meth : Method} {c : Code} {g : GX} {qbe : Nat} {qci : Nat} {qrd : Nat} {qrs : Nat} {qrsr : Nat} {ua : Nat → Nat} {qpa : Nat} {qpae : Nat} {qpar : Nat} {qpau : Nat} {qpab : Nat} {ba : IV} {ca : IV} {cal : LV} {da : IV} {ea : IV} {eal : LV} {rar : NI} {ral : NL} {w0 : IV} {w1 : IV} {w2 : IV} {w3 : IV} {w4 : IV}  (C : Cx p s m args meth c (inW (wBe g qbe qci qrd qrs qrsr ua qpa qpae qpar qpau qpab ba ca cal da ea eal rar ral w0 w1 w2 w3 w4)) g "DecadeBridge$Bench" b_Be_sumOfReadings (some .long) 4) {r4 : Int64 → Int32 → Int64} {q4 : Int64 → Int32 → Prop}  (ih4 : HL_Be_sumOfReadings_4 p l e s m args below meth c g qbe qci qrd qrs qrsr ua qpa qpae qpar qpau qpab ba ca cal da ea eal rar ral w0 w1 w2 w3 w4 r4 q4) : HL_Be_sumOfReadings_4 p l e s m args below meth c g qbe qci qrd qrs qrsr ua qpa qpae qpar qpau qpab ba ca cal da ea eal rar ral w0 w1 w2 w3 w4 (bd_Be_sumOfReadings_4 ba da  r4) (okb_Be_sumOfReadings_4 ba da  r4  q4) := by
  intro x1p4 x3p4 hok z hz H locs ls hP hD hS hl
  obtain ⟨hx, hb, hr, hml, hown, hlk, hts, hK, hZo, hZ⟩ := id C
  unfold bd_Be_sumOfReadings_4 at hz
  unfold okb_Be_sumOfReadings_4 at hok
  refine lv_iload_n hx hb d_Be_sumOfReadings_4 rfl (lv_at hl 2 rfl) ?_
  refine lv_aload_n hx hb d_Be_sumOfReadings_5 rfl (lv_at hl 0 rfl) ?_
  refine gf C hP 0 3 fkBe rfl (by decide) rfl qf_Be_38 (gBe_3 _ _ _ _ _) d_Be_sumOfReadings_6 ?_
  refine lv_icmp_ge (tgt := 27) hx hb d_Be_sumOfReadings_9 (by decide) (fun c1 => ?_) (fun c1 => ?_)
  · have hz := hz.trans (if_pos c1)
    refine lv_lload_n hx hb d_Be_sumOfReadings_27 rfl (lv_at hl 1 rfl) ?_
    exact endL0 C hz hP hS d_Be_sumOfReadings_28
  · have hz := hz.trans (if_neg c1)
    have hok := hok.2 c1
    refine lv_lload_n hx hb d_Be_sumOfReadings_12 rfl (lv_at hl 1 rfl) ?_
    refine lv_aload_n hx hb d_Be_sumOfReadings_13 rfl (lv_at hl 0 rfl) ?_
    refine lv_iload_n hx hb d_Be_sumOfReadings_14 rfl (lv_at hl 2 rfl) ?_
    have hB : SubW g (inW (wBe g qbe qci qrd qrs qrsr ua qpa qpae qpar qpau qpab ba ca cal da ea eal rar ral w0 w1 w2 w3 w4)) s (wBe g qbe qci qrd qrs qrsr ua qpa qpae qpar qpau qpab ba ca cal da ea eal rar ral w0 w1 w2 w3 w4) _ (List.range _) _ _ := (subF hP hD hS)
    refine goI0 hB (run_v C mf_Be_readingAt qm_Be_59 (c_Be_readingAt l g qbe qci qrd qrs qrsr ua qpa qpae qpar qpau qpab ba ca cal da ea eal rar ral w0 w1 w2 w3 w4 x3p4) rfl rfl ⟨Nat.le_of_ble_eq_true rfl, Nat.le_of_ble_eq_true rfl⟩ ⟨Nat.le_of_ble_eq_true rfl, Nat.le_of_ble_eq_true rfl⟩ hB rfl rfl hl rfl rfl (Nat.le_of_ble_eq_true rfl) d_Be_sumOfReadings_15) (fun y2 ey2 H locs hP hS => ?_)
    have hz := lett_z hz ey2
    have hok := lett_o hok ey2
    refine lv_i2l hx hb d_Be_sumOfReadings_18 rfl ?_
    refine lv_ladd hx hb d_Be_sumOfReadings_19 ?_
    refine lv_topl (fun v3 ev3 => ?_)
    have hz := lett_z hz ev3
    have hok := lett_o hok ev3
    refine lv_lstore_n (lv' := [(1, .long v3), (0, .ref qbe), (3, .int x3p4)]) hx hb d_Be_sumOfReadings_20 rfl hl (by decide) rfl (fun ls hl => ?_)
    obtain ⟨v4, ev4⟩ : ∃ y : Int32, y = x3p4 + (1 : Int32) := ⟨_, rfl⟩
    have hz := lett_z hz ev4
    have hok := lett_o hok ev4
    refine lv_iinc (v := v4) (lv' := [(3, .int v4), (1, .long v3), (0, .ref qbe)]) hx hb d_Be_sumOfReadings_21 hl (k := 2) rfl (by rw [ev4]; rfl) (by decide) rfl (fun ls hl => ?_)
    refine lv_goto (tgt := 4) hx hb d_Be_sumOfReadings_24 (by decide) ?_
    exact ih4 v3 v4 hok _ hz _ _ ls hP hD hS (lv_sub hl [2, 1, 0] rfl)
theorem k_Be_sumOfReadings_4 {p : Program} {l : Launch} {e : Env} {s : State} {m : MethodId} {args : Array Value} {below : List Frame} {meth : Method} {c : Code} {g : GX} {qbe : Nat} {qci : Nat} {qrd : Nat} {qrs : Nat} {qrsr : Nat} {ua : Nat → Nat} {qpa : Nat} {qpae : Nat} {qpar : Nat} {qpau : Nat} {qpab : Nat} {ba : IV} {ca : IV} {cal : LV} {da : IV} {ea : IV} {eal : LV} {rar : NI} {ral : NL} {w0 : IV} {w1 : IV} {w2 : IV} {w3 : IV} {w4 : IV}  (C : Cx p s m args meth c (inW (wBe g qbe qci qrd qrs qrsr ua qpa qpae qpar qpau qpab ba ca cal da ea eal rar ral w0 w1 w2 w3 w4)) g "DecadeBridge$Bench" b_Be_sumOfReadings (some .long) 4) (f : Nat)  : HL_Be_sumOfReadings_4 p l e s m args below meth c g qbe qci qrd qrs qrsr ua qpa qpae qpar qpau qpab ba ca cal da ea eal rar ral w0 w1 w2 w3 w4 (sp_Be_sumOfReadings_4 ba da  f) (ok_Be_sumOfReadings_4 ba da   f) := by
  induction f with
  | zero => intro x1p4 x3p4 hok; exact False.elim hok
  | succ f ih => exact kb_Be_sumOfReadings_4 C  ih
noncomputable def sp_Be_sumOfReadings (ba : IV) (da : IV) : Int64 := sp_Be_sumOfReadings_4 ba da big (0 : Int64) (0 : Int32)
def ok_Be_sumOfReadings (ba : IV) (da : IV) : Prop := ok_Be_sumOfReadings_4 ba da big (0 : Int64) (0 : Int32)
set_option maxRecDepth 100000 in
set_option maxHeartbeats 4000000 in
theorem c_Be_sumOfReadings (l : Launch) (g : GX) (qbe : Nat) (qci : Nat) (qrd : Nat) (qrs : Nat) (qrsr : Nat) (ua : Nat → Nat) (qpa : Nat) (qpae : Nat) (qpar : Nat) (qpau : Nat) (qpab : Nat) (ba : IV) (ca : IV) (cal : LV) (da : IV) (ea : IV) (eal : LV) (rar : NI) (ral : NL) (w0 : IV) (w1 : IV) (w2 : IV) (w3 : IV) (w4 : IV)  (hok : ok_Be_sumOfReadings ba da) : Met l y_Be_sumOfReadings (wsY y_Be_sumOfReadings b_Be_sumOfReadings 4 (some .long)) rm_Be_sumOfReadings (CP g [.ref qbe] (wBe g qbe qci qrd qrs qrsr ua qpa qpae qpar qpau qpab ba ca cal da ea eal rar ral w0 w1 w2 w3 w4)) (CL0 g (wBe g qbe qci qrd qrs qrsr ua qpa qpae qpar qpau qpab ba ca cal da ea eal rar ral w0 w1 w2 w3 w4) (sp_Be_sumOfReadings ba da)) 0 0 (inW (wBe g qbe qci qrd qrs qrsr ua qpa qpae qpar qpau qpab ba ca cal da ea eal rar ral w0 w1 w2 w3 w4)) := by
  refine Met.ofW (cc := b_Be_sumOfReadings) (maxL := 4) (ret := (some .long)) pn_Be rfl ?_
  intro p e s m args below meth c s₁ B hml hv
  obtain ⟨rfl, C, hP, hD, hS⟩ := enter "DecadeBridge$Bench" rfl B hml hv
  obtain ⟨hx, hb, hr, hml, hown, hlk, hts, hK, hZo, hZ⟩ := id C
  refine entryW (lv := [(0, .ref qbe)]) rfl (Nat.le_of_ble_eq_true rfl) (fun ls hl => ?_)
  obtain ⟨z, hz⟩ : ∃ z, z = sp_Be_sumOfReadings ba da := ⟨_, rfl⟩
  rw [← hz]
  unfold sp_Be_sumOfReadings at hz
  unfold ok_Be_sumOfReadings at hok
  refine lv_lconst (v := 0) hx hb d_Be_sumOfReadings_0 (by decide) ?_
  refine lv_lstore_n (lv' := [(1, .long (0 : Int64)), (0, .ref qbe)]) hx hb d_Be_sumOfReadings_1 rfl hl (by decide) rfl (fun ls hl => ?_)
  refine lv_iconst (v := 0) hx hb d_Be_sumOfReadings_2 (by decide) ?_
  refine lv_istore_n (lv' := [(3, .int (0 : Int32)), (1, .long (0 : Int64)), (0, .ref qbe)]) hx hb d_Be_sumOfReadings_3 rfl hl (by decide) rfl (fun ls hl => ?_)
  exact k_Be_sumOfReadings_4 C big (0 : Int64) (0 : Int32) hok _ hz _ _ ls hP hD hS (lv_sub hl [2, 1, 0] rfl)
abbrev rm_Be_spreadOfReadings : Room := { frames := 1, cells := 0, slots := 0, locals := 30 }
def HL_Be_spreadOfReadings_19 (p : Program) (l : Launch) (e : Env) (s : State) (m : MethodId) (args : Array Value) (below : List Frame) (meth : Method) (c : Code) (g : GX) (qbe : Nat) (qci : Nat) (qrd : Nat) (qrs : Nat) (qrsr : Nat) (ua : Nat → Nat) (qpa : Nat) (qpae : Nat) (qpar : Nat) (qpau : Nat) (qpab : Nat) (ba : IV) (ca : IV) (cal : LV) (da : IV) (ea : IV) (eal : LV) (rar : NI) (ral : NL) (w0 : IV) (w1 : IV) (w2 : IV) (w3 : IV) (w4 : IV) (sp : Int32 → Int32 → Int32 → Int32) (ok : Int32 → Int32 → Int32 → Prop) : Prop := ∀ (x1p19 : Int32) (x2p19 : Int32) (x3p19 : Int32), ok x1p19 x2p19 x3p19 → ∀ z : Int32, z = sp x1p19 x2p19 x3p19 → ∀ (H : Heap) (locs : List Loc) (ls : Array Slot), va_P g.1 vwCl (wBe g qbe qci qrd qrs qrsr ua qpa qpae qpar qpau qpab ba ca cal da ea eal rar ral w0 w1 w2 w3 w4) H → va_D (inW (wBe g qbe qci qrd qrs qrsr ua qpa qpae qpar qpau qpab ba ca cal da ea eal rar ral w0 w1 w2 w3 w4)) (wBe g qbe qci qrd qrs qrsr ua qpa qpae qpar qpau qpab ba ca cal da ea eal rar ral w0 w1 w2 w3 w4) → va_S (inW (wBe g qbe qci qrd qrs qrsr ua qpa qpae qpar qpau qpab ba ca cal da ea eal rar ral w0 w1 w2 w3 w4)) s.heap H locs → lv_has ls 4 [(0, .ref qbe), (1, .int x1p19), (2, .int x2p19), (3, .int x3p19)] → W p l e rm_Be_spreadOfReadings s m args below meth c H locs 0 0 (MQ below (CI0 g (wBe g qbe qci qrd qrs qrsr ua qpa qpae qpar qpau qpab ba ca cal da ea eal rar ral w0 w1 w2 w3 w4) z) args s 0 0 (inW (wBe g qbe qci qrd qrs qrsr ua qpa qpae qpar qpau qpab ba ca cal da ea eal rar ral w0 w1 w2 w3 w4))) (F0 m 19 ls [])
def HL_Be_spreadOfReadings_53 (p : Program) (l : Launch) (e : Env) (s : State) (m : MethodId) (args : Array Value) (below : List Frame) (meth : Method) (c : Code) (g : GX) (qbe : Nat) (qci : Nat) (qrd : Nat) (qrs : Nat) (qrsr : Nat) (ua : Nat → Nat) (qpa : Nat) (qpae : Nat) (qpar : Nat) (qpau : Nat) (qpab : Nat) (ba : IV) (ca : IV) (cal : LV) (da : IV) (ea : IV) (eal : LV) (rar : NI) (ral : NL) (w0 : IV) (w1 : IV) (w2 : IV) (w3 : IV) (w4 : IV) (x1p19 : Int32) (x2p19 : Int32) (sp : Int32) (ok : Prop) : Prop := ∀ (_ : Unit), ok → ∀ z : Int32, z = sp → ∀ (H : Heap) (locs : List Loc) (ls : Array Slot), va_P g.1 vwCl (wBe g qbe qci qrd qrs qrsr ua qpa qpae qpar qpau qpab ba ca cal da ea eal rar ral w0 w1 w2 w3 w4) H → va_D (inW (wBe g qbe qci qrd qrs qrsr ua qpa qpae qpar qpau qpab ba ca cal da ea eal rar ral w0 w1 w2 w3 w4)) (wBe g qbe qci qrd qrs qrsr ua qpa qpae qpar qpau qpab ba ca cal da ea eal rar ral w0 w1 w2 w3 w4) → va_S (inW (wBe g qbe qci qrd qrs qrsr ua qpa qpae qpar qpau qpab ba ca cal da ea eal rar ral w0 w1 w2 w3 w4)) s.heap H locs → lv_has ls 4 [(1, .int x1p19), (2, .int x2p19)] → W p l e rm_Be_spreadOfReadings s m args below meth c H locs 0 0 (MQ below (CI0 g (wBe g qbe qci qrd qrs qrsr ua qpa qpae qpar qpau qpab ba ca cal da ea eal rar ral w0 w1 w2 w3 w4) z) args s 0 0 (inW (wBe g qbe qci qrd qrs qrsr ua qpa qpae qpar qpau qpab ba ca cal da ea eal rar ral w0 w1 w2 w3 w4))) (F0 m 53 ls [])
noncomputable def sp_Be_spreadOfReadings_53 (x2p19 : Int32) (x1p19 : Int32)   : Int32 := x2p19 - x1p19
def ok_Be_spreadOfReadings_53 (x2p19 : Int32) (x1p19 : Int32)    : Prop := True
set_option maxRecDepth 100000 in
set_option maxHeartbeats 4000000 in
theorem k_Be_spreadOfReadings_53 {p : Program} {l : Launch} {e : Env} {s : State} {m : MethodId} {args : Array Value} {below : List Frame} {meth : Method} {c : Code} {g : GX} {qbe : Nat} {qci : Nat} {qrd : Nat} {qrs : Nat} {qrsr : Nat} {ua : Nat → Nat} {qpa : Nat} {qpae : Nat} {qpar : Nat} {qpau : Nat} {qpab : Nat} {ba : IV} {ca : IV} {cal : LV} {da : IV} {ea : IV} {eal : LV} {rar : NI} {ral : NL} {w0 : IV} {w1 : IV} {w2 : IV} {w3 : IV} {w4 : IV} {x1p19 : Int32} {x2p19 : Int32}  (C : Cx p s m args meth c (inW (wBe g qbe qci qrd qrs qrsr ua qpa qpae qpar qpau qpab ba ca cal da ea eal rar ral w0 w1 w2 w3 w4)) g "DecadeBridge$Bench" b_Be_spreadOfReadings (some .int) 4)  : HL_Be_spreadOfReadings_53 p l e s m args below meth c g qbe qci qrd qrs qrsr ua qpa qpae qpar qpau qpab ba ca cal da ea eal rar ral w0 w1 w2 w3 w4 x1p19 x2p19 (sp_Be_spreadOfReadings_53 x2p19 x1p19 ) (ok_Be_spreadOfReadings_53 x2p19 x1p19  ) := by
  intro _ hok z hz H locs ls hP hD hS hl
  obtain ⟨hx, hb, hr, hml, hown, hlk, hts, hK, hZo, hZ⟩ := id C
  unfold sp_Be_spreadOfReadings_53 at hz
  refine lv_iload_n hx hb d_Be_spreadOfReadings_53 rfl (lv_at hl 1 rfl) ?_
  refine lv_iload_n hx hb d_Be_spreadOfReadings_54 rfl (lv_at hl 0 rfl) ?_
  refine lv_isub hx hb d_Be_spreadOfReadings_55 ?_
  exact endI0 C hz hP hS d_Be_spreadOfReadings_56
noncomputable def bd_Be_spreadOfReadings_19 (ba : IV) (da : IV) (r19 : Int32 → Int32 → Int32 → Int32) (x1p19 : Int32) (x2p19 : Int32) (x3p19 : Int32) : Int32 := if (ba 3) ≤ x3p19 then (sp_Be_spreadOfReadings_53 x2p19 x1p19) else (lett (sp_Be_readingAt x3p19 ba da) fun (y4 : Int32) => lett (if y4 < x1p19 then y4 else x1p19) fun (v5 : Int32) => lett (sp_Be_readingAt x3p19 ba da) fun (y6 : Int32) => lett (if x2p19 < y6 then y6 else x2p19) fun (v7 : Int32) => lett (x3p19 + (1 : Int32)) fun (v8 : Int32) => r19 v5 v7 v8)
def okb_Be_spreadOfReadings_19 (ba : IV) (da : IV) (r19 : Int32 → Int32 → Int32 → Int32) (q19 : Int32 → Int32 → Int32 → Prop) (x1p19 : Int32) (x2p19 : Int32) (x3p19 : Int32) : Prop := (((ba 3) ≤ x3p19 → True) ∧ (¬ ((ba 3) ≤ x3p19) → lett (sp_Be_readingAt x3p19 ba da) fun (y4 : Int32) => lett (if y4 < x1p19 then y4 else x1p19) fun (v5 : Int32) => lett (sp_Be_readingAt x3p19 ba da) fun (y6 : Int32) => lett (if x2p19 < y6 then y6 else x2p19) fun (v7 : Int32) => lett (x3p19 + (1 : Int32)) fun (v8 : Int32) => q19 v5 v7 v8))
noncomputable def sp_Be_spreadOfReadings_19 (ba : IV) (da : IV)  : Nat → Int32 → Int32 → Int32 → Int32
  | 0 => fun _ _ _ => default
  | f + 1 => bd_Be_spreadOfReadings_19 ba da  (sp_Be_spreadOfReadings_19 ba da  f)
def ok_Be_spreadOfReadings_19 (ba : IV) (da : IV)   : Nat → Int32 → Int32 → Int32 → Prop
  | 0 => fun _ _ _ => False
  | f + 1 => okb_Be_spreadOfReadings_19 ba da  (sp_Be_spreadOfReadings_19 ba da  f)  (ok_Be_spreadOfReadings_19 ba da   f)
set_option maxRecDepth 100000 in
set_option maxHeartbeats 4000000 in
theorem kb_Be_spreadOfReadings_19 {p : Program} {l : Launch} {e : Env} {s : State} {m : MethodId} {args : Array Value} {below : List Frame} {meth : Method} {c : Code} {g : GX} {qbe : Nat} {qci : Nat} {qrd : Nat} {qrs : Nat} {qrsr : Nat} {ua : Nat → Nat} {qpa : Nat} {qpae : Nat} {qpar : Nat} {qpau : Nat} {qpab : Nat} {ba : IV} {ca : IV} {cal : LV} {da : IV} {ea : IV} {eal : LV} {rar : NI} {ral : NL} {w0 : IV} {w1 : IV} {w2 : IV} {w3 : IV} {w4 : IV}  (C : Cx p s m args meth c (inW (wBe g qbe qci qrd qrs qrsr ua qpa qpae qpar qpau qpab ba ca cal da ea eal rar ral w0 w1 w2 w3 w4)) g "DecadeBridge$Bench" b_Be_spreadOfReadings (some .int) 4) {r19 : Int32 → Int32 → Int32 → Int32} {q19 : Int32 → Int32 → Int32 → Prop}  (ih19 : HL_Be_spreadOfReadings_19 p l e s m args below meth c g qbe qci qrd qrs qrsr ua qpa qpae qpar qpau qpab ba ca cal da ea eal rar ral w0 w1 w2 w3 w4 r19 q19) : HL_Be_spreadOfReadings_19 p l e s m args below meth c g qbe qci qrd qrs qrsr ua qpa qpae qpar qpau qpab ba ca cal da ea eal rar ral w0 w1 w2 w3 w4 (bd_Be_spreadOfReadings_19 ba da  r19) (okb_Be_spreadOfReadings_19 ba da  r19  q19) := by
  intro x1p19 x2p19 x3p19 hok z hz H locs ls hP hD hS hl
  obtain ⟨hx, hb, hr, hml, hown, hlk, hts, hK, hZo, hZ⟩ := id C
  unfold bd_Be_spreadOfReadings_19 at hz
  unfold okb_Be_spreadOfReadings_19 at hok
  refine lv_iload_n hx hb d_Be_spreadOfReadings_19 rfl (lv_at hl 3 rfl) ?_
  refine lv_aload_n hx hb d_Be_spreadOfReadings_20 rfl (lv_at hl 0 rfl) ?_
  refine gf C hP 0 3 fkBe rfl (by decide) rfl qf_Be_38 (gBe_3 _ _ _ _ _) d_Be_spreadOfReadings_21 ?_
  refine lv_icmp_ge (tgt := 53) hx hb d_Be_spreadOfReadings_24 (by decide) (fun c3 => ?_) (fun c3 => ?_)
  · have hz := hz.trans (if_pos c3)
    exact k_Be_spreadOfReadings_53 C () trivial _ hz _ _ ls hP hD hS (lv_sub hl [1, 2] rfl)
  · have hz := hz.trans (if_neg c3)
    have hok := hok.2 c3
    refine lv_iload_n hx hb d_Be_spreadOfReadings_27 rfl (lv_at hl 1 rfl) ?_
    refine lv_aload_n hx hb d_Be_spreadOfReadings_28 rfl (lv_at hl 0 rfl) ?_
    refine lv_iload_n hx hb d_Be_spreadOfReadings_29 rfl (lv_at hl 3 rfl) ?_
    have hB : SubW g (inW (wBe g qbe qci qrd qrs qrsr ua qpa qpae qpar qpau qpab ba ca cal da ea eal rar ral w0 w1 w2 w3 w4)) s (wBe g qbe qci qrd qrs qrsr ua qpa qpae qpar qpau qpab ba ca cal da ea eal rar ral w0 w1 w2 w3 w4) _ (List.range _) _ _ := (subF hP hD hS)
    refine goI0 hB (run_v C mf_Be_readingAt qm_Be_59 (c_Be_readingAt l g qbe qci qrd qrs qrsr ua qpa qpae qpar qpau qpab ba ca cal da ea eal rar ral w0 w1 w2 w3 w4 x3p19) rfl rfl ⟨Nat.le_of_ble_eq_true rfl, Nat.le_of_ble_eq_true rfl⟩ ⟨Nat.le_of_ble_eq_true rfl, Nat.le_of_ble_eq_true rfl⟩ hB rfl rfl hl rfl rfl (Nat.le_of_ble_eq_true rfl) d_Be_spreadOfReadings_30) (fun y4 ey4 H locs hP hS => ?_)
    have hz := lett_z hz ey4
    have hok := lett_o hok ey4
    refine va_mmin hx hb (hml.trans hl.1.symm) hown (hts _ qm_Be_63) (hts _ (mf_JM_min_III).2) (hts _ (mf_JM_min_III).1.2.1) (hts _ (mf_JM_min_III).1.1) (Nat.le_of_ble_eq_true rfl) (Nat.le_of_ble_eq_true rfl) (Nat.le_of_ble_eq_true rfl) (Nat.le_of_ble_eq_true rfl) d_Be_spreadOfReadings_33 ?_
    refine lv_topi (fun v5 ev5 => ?_)
    have hz := lett_z hz ev5
    have hok := lett_o hok ev5
    refine lv_istore_n (lv' := [(1, .int v5), (0, .ref qbe), (2, .int x2p19), (3, .int x3p19)]) hx hb d_Be_spreadOfReadings_36 rfl hl (by decide) rfl (fun ls hl => ?_)
    refine lv_iload_n hx hb d_Be_spreadOfReadings_37 rfl (lv_at hl 2 rfl) ?_
    refine lv_aload_n hx hb d_Be_spreadOfReadings_38 rfl (lv_at hl 1 rfl) ?_
    refine lv_iload_n hx hb d_Be_spreadOfReadings_39 rfl (lv_at hl 3 rfl) ?_
    have hB : SubW g (inW (wBe g qbe qci qrd qrs qrsr ua qpa qpae qpar qpau qpab ba ca cal da ea eal rar ral w0 w1 w2 w3 w4)) s (wBe g qbe qci qrd qrs qrsr ua qpa qpae qpar qpau qpab ba ca cal da ea eal rar ral w0 w1 w2 w3 w4) _ (List.range _) _ _ := (subF hP hD hS)
    refine goI0 hB (run_v C mf_Be_readingAt qm_Be_59 (c_Be_readingAt l g qbe qci qrd qrs qrsr ua qpa qpae qpar qpau qpab ba ca cal da ea eal rar ral w0 w1 w2 w3 w4 x3p19) rfl rfl ⟨Nat.le_of_ble_eq_true rfl, Nat.le_of_ble_eq_true rfl⟩ ⟨Nat.le_of_ble_eq_true rfl, Nat.le_of_ble_eq_true rfl⟩ hB rfl rfl hl rfl rfl (Nat.le_of_ble_eq_true rfl) d_Be_spreadOfReadings_40) (fun y6 ey6 H locs hP hS => ?_)
    have hz := lett_z hz ey6
    have hok := lett_o hok ey6
    refine va_mmax hx hb (hml.trans hl.1.symm) hown (hts _ qm_Be_69) (hts _ (mf_JM_max_III).2) (hts _ (mf_JM_max_III).1.2.1) (hts _ (mf_JM_max_III).1.1) (Nat.le_of_ble_eq_true rfl) (Nat.le_of_ble_eq_true rfl) (Nat.le_of_ble_eq_true rfl) (Nat.le_of_ble_eq_true rfl) d_Be_spreadOfReadings_43 ?_
    refine lv_topi (fun v7 ev7 => ?_)
    have hz := lett_z hz ev7
    have hok := lett_o hok ev7
    refine lv_istore_n (lv' := [(2, .int v7), (1, .int v5), (0, .ref qbe), (3, .int x3p19)]) hx hb d_Be_spreadOfReadings_46 rfl hl (by decide) rfl (fun ls hl => ?_)
    obtain ⟨v8, ev8⟩ : ∃ y : Int32, y = x3p19 + (1 : Int32) := ⟨_, rfl⟩
    have hz := lett_z hz ev8
    have hok := lett_o hok ev8
    refine lv_iinc (v := v8) (lv' := [(3, .int v8), (2, .int v7), (1, .int v5), (0, .ref qbe)]) hx hb d_Be_spreadOfReadings_47 hl (k := 3) rfl (by rw [ev8]; rfl) (by decide) rfl (fun ls hl => ?_)
    refine lv_goto (tgt := 19) hx hb d_Be_spreadOfReadings_50 (by decide) ?_
    exact ih19 v5 v7 v8 hok _ hz _ _ ls hP hD hS (lv_sub hl [3, 2, 1, 0] rfl)
theorem k_Be_spreadOfReadings_19 {p : Program} {l : Launch} {e : Env} {s : State} {m : MethodId} {args : Array Value} {below : List Frame} {meth : Method} {c : Code} {g : GX} {qbe : Nat} {qci : Nat} {qrd : Nat} {qrs : Nat} {qrsr : Nat} {ua : Nat → Nat} {qpa : Nat} {qpae : Nat} {qpar : Nat} {qpau : Nat} {qpab : Nat} {ba : IV} {ca : IV} {cal : LV} {da : IV} {ea : IV} {eal : LV} {rar : NI} {ral : NL} {w0 : IV} {w1 : IV} {w2 : IV} {w3 : IV} {w4 : IV}  (C : Cx p s m args meth c (inW (wBe g qbe qci qrd qrs qrsr ua qpa qpae qpar qpau qpab ba ca cal da ea eal rar ral w0 w1 w2 w3 w4)) g "DecadeBridge$Bench" b_Be_spreadOfReadings (some .int) 4) (f : Nat)  : HL_Be_spreadOfReadings_19 p l e s m args below meth c g qbe qci qrd qrs qrsr ua qpa qpae qpar qpau qpab ba ca cal da ea eal rar ral w0 w1 w2 w3 w4 (sp_Be_spreadOfReadings_19 ba da  f) (ok_Be_spreadOfReadings_19 ba da   f) := by
  induction f with
  | zero => intro x1p19 x2p19 x3p19 hok; exact False.elim hok
  | succ f ih => exact kb_Be_spreadOfReadings_19 C  ih
noncomputable def sp_Be_spreadOfReadings (ba : IV) (da : IV) : Int32 := if (ba 3) = 0 then ((0 : Int32)) else (lett (sp_Be_readingAt (0 : Int32) ba da) fun (y2 : Int32) => sp_Be_spreadOfReadings_19 ba da big y2 y2 (1 : Int32))
def ok_Be_spreadOfReadings (ba : IV) (da : IV) : Prop := (((ba 3) = 0 → True) ∧ (¬ ((ba 3) = 0) → lett (sp_Be_readingAt (0 : Int32) ba da) fun (y2 : Int32) => ok_Be_spreadOfReadings_19 ba da big y2 y2 (1 : Int32)))
set_option maxRecDepth 100000 in
set_option maxHeartbeats 4000000 in
theorem c_Be_spreadOfReadings (l : Launch) (g : GX) (qbe : Nat) (qci : Nat) (qrd : Nat) (qrs : Nat) (qrsr : Nat) (ua : Nat → Nat) (qpa : Nat) (qpae : Nat) (qpar : Nat) (qpau : Nat) (qpab : Nat) (ba : IV) (ca : IV) (cal : LV) (da : IV) (ea : IV) (eal : LV) (rar : NI) (ral : NL) (w0 : IV) (w1 : IV) (w2 : IV) (w3 : IV) (w4 : IV)  (hok : ok_Be_spreadOfReadings ba da) : Met l y_Be_spreadOfReadings (wsY y_Be_spreadOfReadings b_Be_spreadOfReadings 4 (some .int)) rm_Be_spreadOfReadings (CP g [.ref qbe] (wBe g qbe qci qrd qrs qrsr ua qpa qpae qpar qpau qpab ba ca cal da ea eal rar ral w0 w1 w2 w3 w4)) (CI0 g (wBe g qbe qci qrd qrs qrsr ua qpa qpae qpar qpau qpab ba ca cal da ea eal rar ral w0 w1 w2 w3 w4) (sp_Be_spreadOfReadings ba da)) 0 0 (inW (wBe g qbe qci qrd qrs qrsr ua qpa qpae qpar qpau qpab ba ca cal da ea eal rar ral w0 w1 w2 w3 w4)) := by
  refine Met.ofW (cc := b_Be_spreadOfReadings) (maxL := 4) (ret := (some .int)) pn_Be rfl ?_
  intro p e s m args below meth c s₁ B hml hv
  obtain ⟨rfl, C, hP, hD, hS⟩ := enter "DecadeBridge$Bench" rfl B hml hv
  obtain ⟨hx, hb, hr, hml, hown, hlk, hts, hK, hZo, hZ⟩ := id C
  refine entryW (lv := [(0, .ref qbe)]) rfl (Nat.le_of_ble_eq_true rfl) (fun ls hl => ?_)
  obtain ⟨z, hz⟩ : ∃ z, z = sp_Be_spreadOfReadings ba da := ⟨_, rfl⟩
  rw [← hz]
  unfold sp_Be_spreadOfReadings at hz
  unfold ok_Be_spreadOfReadings at hok
  refine lv_aload_n hx hb d_Be_spreadOfReadings_0 rfl (lv_at hl 0 rfl) ?_
  refine gf C hP 0 3 fkBe rfl (by decide) rfl qf_Be_38 (gBe_3 _ _ _ _ _) d_Be_spreadOfReadings_1 ?_
  refine lv_if_ne (tgt := 9) hx hb d_Be_spreadOfReadings_4 (by decide) (fun c1 => ?_) (fun c1 => ?_)
  · have hz := hz.trans (if_neg c1)
    have hok := hok.2 c1
    refine lv_aload_n hx hb d_Be_spreadOfReadings_9 rfl (lv_at hl 0 rfl) ?_
    refine lv_iconst (v := 0) hx hb d_Be_spreadOfReadings_10 (by decide) ?_
    have hB : SubW g (inW (wBe g qbe qci qrd qrs qrsr ua qpa qpae qpar qpau qpab ba ca cal da ea eal rar ral w0 w1 w2 w3 w4)) s (wBe g qbe qci qrd qrs qrsr ua qpa qpae qpar qpau qpab ba ca cal da ea eal rar ral w0 w1 w2 w3 w4) _ (List.range _) _ _ := (subF hP hD hS)
    refine goI0 hB (run_v C mf_Be_readingAt qm_Be_59 (c_Be_readingAt l g qbe qci qrd qrs qrsr ua qpa qpae qpar qpau qpab ba ca cal da ea eal rar ral w0 w1 w2 w3 w4 (0 : Int32)) rfl rfl ⟨Nat.le_of_ble_eq_true rfl, Nat.le_of_ble_eq_true rfl⟩ ⟨Nat.le_of_ble_eq_true rfl, Nat.le_of_ble_eq_true rfl⟩ hB rfl rfl hl rfl rfl (Nat.le_of_ble_eq_true rfl) d_Be_spreadOfReadings_11) (fun y2 ey2 H locs hP hS => ?_)
    have hz := lett_z hz ey2
    have hok := lett_o hok ey2
    refine lv_istore_n (lv' := [(1, .int y2), (0, .ref qbe)]) hx hb d_Be_spreadOfReadings_14 rfl hl (by decide) rfl (fun ls hl => ?_)
    refine lv_iload_n hx hb d_Be_spreadOfReadings_15 rfl (lv_at hl 0 rfl) ?_
    refine lv_istore_n (lv' := [(2, .int y2), (1, .int y2), (0, .ref qbe)]) hx hb d_Be_spreadOfReadings_16 rfl hl (by decide) rfl (fun ls hl => ?_)
    refine lv_iconst (v := 1) hx hb d_Be_spreadOfReadings_17 (by decide) ?_
    refine lv_istore_n (lv' := [(3, .int (1 : Int32)), (2, .int y2), (1, .int y2), (0, .ref qbe)]) hx hb d_Be_spreadOfReadings_18 rfl hl (by decide) rfl (fun ls hl => ?_)
    exact k_Be_spreadOfReadings_19 C big y2 y2 (1 : Int32) hok _ hz _ _ ls hP hD hS (lv_sub hl [3, 2, 1, 0] rfl)
  · have hz := hz.trans (if_pos c1)
    refine lv_iconst (v := 0) hx hb d_Be_spreadOfReadings_7 (by decide) ?_
    exact endI0 C hz hP hS d_Be_spreadOfReadings_8
abbrev rm_Be_isNull : Room := { frames := 0, cells := 0, slots := 0, locals := 0 }
def HL_Be_isNull_27 (p : Program) (l : Launch) (e : Env) (s : State) (m : MethodId) (args : Array Value) (below : List Frame) (meth : Method) (c : Code) (g : GX) (qbe : Nat) (qci : Nat) (qrd : Nat) (qrs : Nat) (qrsr : Nat) (ua : Nat → Nat) (qpa : Nat) (qpae : Nat) (qpar : Nat) (qpau : Nat) (qpab : Nat) (ba : IV) (ca : IV) (cal : LV) (da : IV) (ea : IV) (eal : LV) (rar : NI) (ral : NL) (w0 : IV) (w1 : IV) (w2 : IV) (w3 : IV) (w4 : IV) (sp : Int32) (ok : Prop) : Prop := ∀ (_ : Unit), ok → ∀ z : Int32, z = sp → ∀ (H : Heap) (locs : List Loc) (ls : Array Slot), va_P g.1 vwCl (wBe g qbe qci qrd qrs qrsr ua qpa qpae qpar qpau qpab ba ca cal da ea eal rar ral w0 w1 w2 w3 w4) H → va_D (inW (wBe g qbe qci qrd qrs qrsr ua qpa qpae qpar qpau qpab ba ca cal da ea eal rar ral w0 w1 w2 w3 w4)) (wBe g qbe qci qrd qrs qrsr ua qpa qpae qpar qpau qpab ba ca cal da ea eal rar ral w0 w1 w2 w3 w4) → va_S (inW (wBe g qbe qci qrd qrs qrsr ua qpa qpae qpar qpau qpab ba ca cal da ea eal rar ral w0 w1 w2 w3 w4)) s.heap H locs → lv_has ls 2 [] → W p l e rm_Be_isNull s m args below meth c H locs 0 0 (MQ below (CI0 g (wBe g qbe qci qrd qrs qrsr ua qpa qpae qpar qpau qpab ba ca cal da ea eal rar ral w0 w1 w2 w3 w4) z) args s 0 0 (inW (wBe g qbe qci qrd qrs qrsr ua qpa qpae qpar qpau qpab ba ca cal da ea eal rar ral w0 w1 w2 w3 w4))) (F0 m 27 ls [])
noncomputable def sp_Be_isNull_27    : Int32 := (0 : Int32)
def ok_Be_isNull_27     : Prop := True
set_option maxRecDepth 100000 in
set_option maxHeartbeats 4000000 in
theorem k_Be_isNull_27 {p : Program} {l : Launch} {e : Env} {s : State} {m : MethodId} {args : Array Value} {below : List Frame} {meth : Method} {c : Code} {g : GX} {qbe : Nat} {qci : Nat} {qrd : Nat} {qrs : Nat} {qrsr : Nat} {ua : Nat → Nat} {qpa : Nat} {qpae : Nat} {qpar : Nat} {qpau : Nat} {qpab : Nat} {ba : IV} {ca : IV} {cal : LV} {da : IV} {ea : IV} {eal : LV} {rar : NI} {ral : NL} {w0 : IV} {w1 : IV} {w2 : IV} {w3 : IV} {w4 : IV}  (C : Cx p s m args meth c (inW (wBe g qbe qci qrd qrs qrsr ua qpa qpae qpar qpau qpab ba ca cal da ea eal rar ral w0 w1 w2 w3 w4)) g "DecadeBridge$Bench" b_Be_isNull (some .boolean) 2)  : HL_Be_isNull_27 p l e s m args below meth c g qbe qci qrd qrs qrsr ua qpa qpae qpar qpau qpab ba ca cal da ea eal rar ral w0 w1 w2 w3 w4 (sp_Be_isNull_27  ) (ok_Be_isNull_27   ) := by
  intro _ hok z hz H locs ls hP hD hS hl
  obtain ⟨hx, hb, hr, hml, hown, hlk, hts, hK, hZo, hZ⟩ := id C
  unfold sp_Be_isNull_27 at hz
  refine lv_iconst (v := 0) hx hb d_Be_isNull_27 (by decide) ?_
  exact endZ0 C hz hP hS rfl d_Be_isNull_28
noncomputable def sp_Be_isNull (p1 : Int32) (w0 : IV) : Int32 := if (w0 14) < p1 then (sp_Be_isNull_27) else (if p1 < (-(w0 14)) then (sp_Be_isNull_27) else ((1 : Int32)))
set_option maxRecDepth 100000 in
set_option maxHeartbeats 4000000 in
theorem c_Be_isNull (l : Launch) (g : GX) (qbe : Nat) (qci : Nat) (qrd : Nat) (qrs : Nat) (qrsr : Nat) (ua : Nat → Nat) (qpa : Nat) (qpae : Nat) (qpar : Nat) (qpau : Nat) (qpab : Nat) (ba : IV) (ca : IV) (cal : LV) (da : IV) (ea : IV) (eal : LV) (rar : NI) (ral : NL) (w0 : IV) (w1 : IV) (w2 : IV) (w3 : IV) (w4 : IV) (p1 : Int32) : Met l y_Be_isNull (wsY y_Be_isNull b_Be_isNull 2 (some .boolean)) rm_Be_isNull (CP g [.ref qbe, .int p1] (wBe g qbe qci qrd qrs qrsr ua qpa qpae qpar qpau qpab ba ca cal da ea eal rar ral w0 w1 w2 w3 w4)) (CI0 g (wBe g qbe qci qrd qrs qrsr ua qpa qpae qpar qpau qpab ba ca cal da ea eal rar ral w0 w1 w2 w3 w4) (sp_Be_isNull p1 w0)) 0 0 (inW (wBe g qbe qci qrd qrs qrsr ua qpa qpae qpar qpau qpab ba ca cal da ea eal rar ral w0 w1 w2 w3 w4)) := by
  refine Met.ofW (cc := b_Be_isNull) (maxL := 2) (ret := (some .boolean)) pn_Be rfl ?_
  intro p e s m args below meth c s₁ B hml hv
  obtain ⟨rfl, C, hP, hD, hS⟩ := enter "DecadeBridge$Bench" rfl B hml hv
  obtain ⟨hx, hb, hr, hml, hown, hlk, hts, hK, hZo, hZ⟩ := id C
  refine entryW (lv := [(0, .ref qbe), (1, .int p1)]) rfl (Nat.le_of_ble_eq_true rfl) (fun ls hl => ?_)
  obtain ⟨z, hz⟩ : ∃ z, z = sp_Be_isNull p1 w0 := ⟨_, rfl⟩
  rw [← hz]
  unfold sp_Be_isNull at hz
  refine lv_iload_n hx hb d_Be_isNull_0 rfl (lv_at hl 1 rfl) ?_
  refine lv_aload_n hx hb d_Be_isNull_1 rfl (lv_at hl 0 rfl) ?_
  refine gf C hP 0 1 fkBe rfl (by decide) rfl qf_Be_22 (gBe_1 _ _ _ _ _) d_Be_isNull_2 ?_
  refine gf C hP 25 14 fkPa rfl (by decide) rfl qf_Be_76 (gPa_14 _ _ _ _ _) d_Be_isNull_5 ?_
  refine lv_icmp_gt (tgt := 27) hx hb d_Be_isNull_8 (by decide) (fun c1 => ?_) (fun c1 => ?_)
  · have hz := hz.trans (if_pos c1)
    exact k_Be_isNull_27 C () trivial _ hz _ _ ls hP hD hS (lv_sub hl [] rfl)
  · have hz := hz.trans (if_neg c1)
    refine lv_iload_n hx hb d_Be_isNull_11 rfl (lv_at hl 1 rfl) ?_
    refine lv_aload_n hx hb d_Be_isNull_12 rfl (lv_at hl 0 rfl) ?_
    refine gf C hP 0 1 fkBe rfl (by decide) rfl qf_Be_22 (gBe_1 _ _ _ _ _) d_Be_isNull_13 ?_
    refine gf C hP 25 14 fkPa rfl (by decide) rfl qf_Be_76 (gPa_14 _ _ _ _ _) d_Be_isNull_16 ?_
    refine lv_ineg hx hb d_Be_isNull_19 ?_
    refine lv_icmp_lt (tgt := 27) hx hb d_Be_isNull_20 (by decide) (fun c2 => ?_) (fun c2 => ?_)
    · have hz := hz.trans (if_pos c2)
      exact k_Be_isNull_27 C () trivial _ hz _ _ ls hP hD hS (lv_sub hl [] rfl)
    · have hz := hz.trans (if_neg c2)
      refine lv_iconst (v := 1) hx hb d_Be_isNull_23 (by decide) ?_
      refine lv_goto (tgt := 28) hx hb d_Be_isNull_24 (by decide) ?_
      exact endZ0 C hz hP hS rfl d_Be_isNull_28
abbrev rm_Ci_survey : Room := { frames := 0, cells := 0, slots := 0, locals := 0 }
def HL_Ci_survey_92 (p : Program) (l : Launch) (e : Env) (s : State) (m : MethodId) (args : Array Value) (below : List Frame) (meth : Method) (c : Code) (g : GX) (qci : Nat) (qpa : Nat) (qpae : Nat) (qpar : Nat) (qpau : Nat) (qpab : Nat) (ws0 : va_W) (ca_4 : IV) (cal : LV) (w0 : IV) (w1 : IV) (w2 : IV) (w3 : IV) (w4 : IV) (sp : Int32 → IV) (ok : Int32 → Prop) : Prop := ∀ (t0p92 : Int32), ok t0p92 → ∀ z : IV, z = sp t0p92 → ∀ (H : Heap) (locs : List Loc) (ls : Array Slot), va_P g.1 vwCl (wCi g qci qpa qpae qpar qpau qpab ca_4 cal w0 w1 w2 w3 w4) H → va_D (inW ws0) (wCi g qci qpa qpae qpar qpau qpab ca_4 cal w0 w1 w2 w3 w4) → va_S (inW ws0) s.heap H locs → lv_has ls 6 [(0, .ref qci)] → W p l e rm_Ci_survey s m args below meth c H locs 0 0 (MQ below (CV g ws0 (fun u : IV => wCi g qci qpa qpae qpar qpau qpab u cal w0 w1 w2 w3 w4) z) args s 0 0 (inW ws0)) (F0 m 92 ls [.int t0p92])
def HL_Ci_survey_123 (p : Program) (l : Launch) (e : Env) (s : State) (m : MethodId) (args : Array Value) (below : List Frame) (meth : Method) (c : Code) (g : GX) (qci : Nat) (qpa : Nat) (qpae : Nat) (qpar : Nat) (qpau : Nat) (qpab : Nat) (ws0 : va_W) (ca_4 : IV) (cal : LV) (w0 : IV) (w1 : IV) (w2 : IV) (w3 : IV) (w4 : IV) (t0p92 : Int32) (sp : Int32 → IV) (ok : Int32 → Prop) : Prop := ∀ (t2p123 : Int32), ok t2p123 → ∀ z : IV, z = sp t2p123 → ∀ (H : Heap) (locs : List Loc) (ls : Array Slot), va_P g.1 vwCl (wCi g qci qpa qpae qpar qpau qpab ca_4 cal w0 w1 w2 w3 w4) H → va_D (inW ws0) (wCi g qci qpa qpae qpar qpau qpab ca_4 cal w0 w1 w2 w3 w4) → va_S (inW ws0) s.heap H locs → lv_has ls 6 [(0, .ref qci), (5, .int t0p92)] → W p l e rm_Ci_survey s m args below meth c H locs 0 0 (MQ below (CV g ws0 (fun u : IV => wCi g qci qpa qpae qpar qpau qpab u cal w0 w1 w2 w3 w4) z) args s 0 0 (inW ws0)) (F0 m 123 ls [.int t2p123, .int ((ca_4 15) + (w0 8)), .ref qci])
def HL_Ci_survey_148 (p : Program) (l : Launch) (e : Env) (s : State) (m : MethodId) (args : Array Value) (below : List Frame) (meth : Method) (c : Code) (g : GX) (qci : Nat) (qpa : Nat) (qpae : Nat) (qpar : Nat) (qpau : Nat) (qpab : Nat) (ws0 : va_W) (ca_7 : IV) (cal : LV) (w0 : IV) (w1 : IV) (w2 : IV) (w3 : IV) (w4 : IV) (sp : Int32 → IV) (ok : Int32 → Prop) : Prop := ∀ (t2p148 : Int32), ok t2p148 → ∀ z : IV, z = sp t2p148 → ∀ (H : Heap) (locs : List Loc) (ls : Array Slot), va_P g.1 vwCl (wCi g qci qpa qpae qpar qpau qpab ca_7 cal w0 w1 w2 w3 w4) H → va_D (inW ws0) (wCi g qci qpa qpae qpar qpau qpab ca_7 cal w0 w1 w2 w3 w4) → va_S (inW ws0) s.heap H locs → lv_has ls 6 [] → W p l e rm_Ci_survey s m args below meth c H locs 0 0 (MQ below (CV g ws0 (fun u : IV => wCi g qci qpa qpae qpar qpau qpab u cal w0 w1 w2 w3 w4) z) args s 0 0 (inW ws0)) (F0 m 148 ls [.int t2p148, .int (ca_7 16), .ref qci])
noncomputable def sp_Ci_survey_148 (ca_7 : IV)  (t2p148 : Int32) : IV := lett (upd ca_7 18 ((ca_7 16) + t2p148)) fun (ca_9 : IV) => ca_9
def ok_Ci_survey_148 (ca_7 : IV)   (t2p148 : Int32) : Prop := True
set_option maxRecDepth 100000 in
set_option maxHeartbeats 4000000 in
theorem k_Ci_survey_148 {p : Program} {l : Launch} {e : Env} {s : State} {m : MethodId} {args : Array Value} {below : List Frame} {meth : Method} {c : Code} {g : GX} {qci : Nat} {qpa : Nat} {qpae : Nat} {qpar : Nat} {qpau : Nat} {qpab : Nat} {ws0 : va_W} {ca_7 : IV} {cal : LV} {w0 : IV} {w1 : IV} {w2 : IV} {w3 : IV} {w4 : IV}  (C : Cx p s m args meth c (inW ws0) g "DecadeBridge$Circuit" b_Ci_survey none 6)  : HL_Ci_survey_148 p l e s m args below meth c g qci qpa qpae qpar qpau qpab ws0 ca_7 cal w0 w1 w2 w3 w4 (sp_Ci_survey_148 ca_7 ) (ok_Ci_survey_148 ca_7  ) := by
  intro t2p148 hok z hz H locs ls hP hD hS hl
  obtain ⟨hx, hb, hr, hml, hown, hlk, hts, hK, hZo, hZ⟩ := id C
  unfold sp_Ci_survey_148 at hz
  refine lv_iadd hx hb d_Ci_survey_148 ?_
  refine pfI C hP hD hS 0 18 fkCi rfl (by decide) rfl qf_Ci_118 rfl rfl rfl (Nat.le_of_ble_eq_true rfl) (ff := fun o => fCi qpa o cal) (sCi_18 _ _ _ _) d_Ci_survey_149 (fun ca_9 eca_9 H locs hP hD hS => ?_)
  have hP : va_P g.1 vwCl (wCi g qci qpa qpae qpar qpau qpab ca_9 cal w0 w1 w2 w3 w4) H := hP
  have hD : va_D (inW ws0) (wCi g qci qpa qpae qpar qpau qpab ca_9 cal w0 w1 w2 w3 w4) := hD
  have hz := lett_z hz eca_9
  exact endV C hz hP hS d_Ci_survey_152
noncomputable def sp_Ci_survey_123 (ca_4 : IV) (w0 : IV) (t0p92 : Int32)  (t2p123 : Int32) : IV := lett (upd ca_4 17 (((ca_4 15) + (w0 8)) + t2p123)) fun (ca_7 : IV) => if t0p92 = 0 then (sp_Ci_survey_148 ca_7 (0 : Int32)) else (sp_Ci_survey_148 ca_7 (w0 9))
def ok_Ci_survey_123 (ca_4 : IV) (w0 : IV) (t0p92 : Int32)   (t2p123 : Int32) : Prop := True
set_option maxRecDepth 100000 in
set_option maxHeartbeats 4000000 in
theorem k_Ci_survey_123 {p : Program} {l : Launch} {e : Env} {s : State} {m : MethodId} {args : Array Value} {below : List Frame} {meth : Method} {c : Code} {g : GX} {qci : Nat} {qpa : Nat} {qpae : Nat} {qpar : Nat} {qpau : Nat} {qpab : Nat} {ws0 : va_W} {ca_4 : IV} {cal : LV} {w0 : IV} {w1 : IV} {w2 : IV} {w3 : IV} {w4 : IV} {t0p92 : Int32}  (C : Cx p s m args meth c (inW ws0) g "DecadeBridge$Circuit" b_Ci_survey none 6)  : HL_Ci_survey_123 p l e s m args below meth c g qci qpa qpae qpar qpau qpab ws0 ca_4 cal w0 w1 w2 w3 w4 t0p92 (sp_Ci_survey_123 ca_4 w0 t0p92 ) (ok_Ci_survey_123 ca_4 w0 t0p92  ) := by
  intro t2p123 hok z hz H locs ls hP hD hS hl
  obtain ⟨hx, hb, hr, hml, hown, hlk, hts, hK, hZo, hZ⟩ := id C
  unfold sp_Ci_survey_123 at hz
  refine lv_iadd hx hb d_Ci_survey_123 ?_
  refine pfI C hP hD hS 0 17 fkCi rfl (by decide) rfl qf_Ci_115 rfl rfl rfl (Nat.le_of_ble_eq_true rfl) (ff := fun o => fCi qpa o cal) (sCi_17 _ _ _ _) d_Ci_survey_124 (fun ca_7 eca_7 H locs hP hD hS => ?_)
  have hP : va_P g.1 vwCl (wCi g qci qpa qpae qpar qpau qpab ca_7 cal w0 w1 w2 w3 w4) H := hP
  have hD : va_D (inW ws0) (wCi g qci qpa qpae qpar qpau qpab ca_7 cal w0 w1 w2 w3 w4) := hD
  have hz := lett_z hz eca_7
  refine lv_aload_n hx hb d_Ci_survey_127 rfl (lv_at hl 0 rfl) ?_
  refine lv_aload_n hx hb d_Ci_survey_128 rfl (lv_at hl 0 rfl) ?_
  refine gf C hP 0 16 fkCi rfl (by decide) rfl qf_Ci_106 (gCi_16 _ _ _) d_Ci_survey_129 ?_
  refine lv_iload hx hb d_Ci_survey_132 (lv_at hl 1 rfl) ?_
  refine lv_if_eq (tgt := 147) hx hb d_Ci_survey_134 (by decide) (fun c8 => ?_) (fun c8 => ?_)
  · have hz := hz.trans (if_pos c8)
    refine lv_iconst (v := 0) hx hb d_Ci_survey_147 (by decide) ?_
    exact k_Ci_survey_148 C (0 : Int32) trivial _ hz _ _ ls hP hD hS (lv_sub hl [] rfl)
  · have hz := hz.trans (if_neg c8)
    refine lv_aload_n hx hb d_Ci_survey_137 rfl (lv_at hl 0 rfl) ?_
    refine gf C hP 0 0 fkCi rfl (by decide) rfl qf_Ci_7 (gCi_0 _ _ _) d_Ci_survey_138 ?_
    refine gf C hP 1 9 fkPa rfl (by decide) rfl qf_Ci_112 (gPa_9 _ _ _ _ _) d_Ci_survey_141 ?_
    refine lv_goto (tgt := 148) hx hb d_Ci_survey_144 (by decide) ?_
    exact k_Ci_survey_148 C (w0 9) trivial _ hz _ _ ls hP hD hS (lv_sub hl [] rfl)
noncomputable def sp_Ci_survey_92 (ca_4 : IV) (w0 : IV)  (t0p92 : Int32) : IV := if t0p92 = 0 then (sp_Ci_survey_123 ca_4 w0 t0p92 (w0 9)) else (sp_Ci_survey_123 ca_4 w0 t0p92 (0 : Int32))
def ok_Ci_survey_92 (ca_4 : IV) (w0 : IV)   (t0p92 : Int32) : Prop := True
set_option maxRecDepth 100000 in
set_option maxHeartbeats 4000000 in
theorem k_Ci_survey_92 {p : Program} {l : Launch} {e : Env} {s : State} {m : MethodId} {args : Array Value} {below : List Frame} {meth : Method} {c : Code} {g : GX} {qci : Nat} {qpa : Nat} {qpae : Nat} {qpar : Nat} {qpau : Nat} {qpab : Nat} {ws0 : va_W} {ca_4 : IV} {cal : LV} {w0 : IV} {w1 : IV} {w2 : IV} {w3 : IV} {w4 : IV}  (C : Cx p s m args meth c (inW ws0) g "DecadeBridge$Circuit" b_Ci_survey none 6)  : HL_Ci_survey_92 p l e s m args below meth c g qci qpa qpae qpar qpau qpab ws0 ca_4 cal w0 w1 w2 w3 w4 (sp_Ci_survey_92 ca_4 w0 ) (ok_Ci_survey_92 ca_4 w0  ) := by
  intro t0p92 hok z hz H locs ls hP hD hS hl
  obtain ⟨hx, hb, hr, hml, hown, hlk, hts, hK, hZo, hZ⟩ := id C
  unfold sp_Ci_survey_92 at hz
  refine lv_istore (lv' := [(5, .int t0p92), (0, .ref qci)]) hx hb d_Ci_survey_92 hl (by decide) rfl (fun ls hl => ?_)
  refine lv_aload_n hx hb d_Ci_survey_94 rfl (lv_at hl 1 rfl) ?_
  refine lv_aload_n hx hb d_Ci_survey_95 rfl (lv_at hl 1 rfl) ?_
  refine gf C hP 0 15 fkCi rfl (by decide) rfl qf_Ci_103 (gCi_15 _ _ _) d_Ci_survey_96 ?_
  refine lv_aload_n hx hb d_Ci_survey_99 rfl (lv_at hl 1 rfl) ?_
  refine gf C hP 0 0 fkCi rfl (by decide) rfl qf_Ci_7 (gCi_0 _ _ _) d_Ci_survey_100 ?_
  refine gf C hP 1 8 fkPa rfl (by decide) rfl qf_Ci_109 (gPa_8 _ _ _ _ _) d_Ci_survey_103 ?_
  refine lv_iadd hx hb d_Ci_survey_106 ?_
  refine lv_iload hx hb d_Ci_survey_107 (lv_at hl 0 rfl) ?_
  refine lv_if_eq (tgt := 116) hx hb d_Ci_survey_109 (by decide) (fun c6 => ?_) (fun c6 => ?_)
  · have hz := hz.trans (if_pos c6)
    refine lv_aload_n hx hb d_Ci_survey_116 rfl (lv_at hl 1 rfl) ?_
    refine gf C hP 0 0 fkCi rfl (by decide) rfl qf_Ci_7 (gCi_0 _ _ _) d_Ci_survey_117 ?_
    refine gf C hP 1 9 fkPa rfl (by decide) rfl qf_Ci_112 (gPa_9 _ _ _ _ _) d_Ci_survey_120 ?_
    exact k_Ci_survey_123 C (w0 9) trivial _ hz _ _ ls hP hD hS (lv_sub hl [1, 0] rfl)
  · have hz := hz.trans (if_neg c6)
    refine lv_iconst (v := 0) hx hb d_Ci_survey_112 (by decide) ?_
    refine lv_goto (tgt := 123) hx hb d_Ci_survey_113 (by decide) ?_
    exact k_Ci_survey_123 C (0 : Int32) trivial _ hz _ _ ls hP hD hS (lv_sub hl [1, 0] rfl)
noncomputable def sp_Ci_survey (ca : IV) (w0 : IV) (w3 : IV) (w4 : IV) : IV := lett ((1000000000 : Int64) + (((w3 0).toInt64) * ((ca 7).toInt64))) fun (v1 : Int64) => lett ((1000000000 : Int64) + (((w4 0).toInt64) * ((ca 8).toInt64))) fun (v2 : Int64) => lett (upd ca 15 (((((w0 5).toInt64) * v1) / (1000000000 : Int64)).toInt32)) fun (ca_3 : IV) => lett (upd ca_3 16 (((((ca_3 14).toInt64) * v2) / (1000000000 : Int64)).toInt32)) fun (ca_4 : IV) => if (ca_4 4) = (3 : Int32) then (sp_Ci_survey_92 ca_4 w0 (1 : Int32)) else (sp_Ci_survey_92 ca_4 w0 (0 : Int32))
set_option maxRecDepth 100000 in
set_option maxHeartbeats 4000000 in
theorem c_Ci_survey (l : Launch) (g : GX) (qci : Nat) (qpa : Nat) (qpae : Nat) (qpar : Nat) (qpau : Nat) (qpab : Nat) (ca : IV) (cal : LV) (w0 : IV) (w1 : IV) (w2 : IV) (w3 : IV) (w4 : IV)  : Met l y_Ci_survey (wsY y_Ci_survey b_Ci_survey 6 none) rm_Ci_survey (CP g [.ref qci] (wCi g qci qpa qpae qpar qpau qpab ca cal w0 w1 w2 w3 w4)) (CV g (wCi g qci qpa qpae qpar qpau qpab ca cal w0 w1 w2 w3 w4) (fun u : IV => wCi g qci qpa qpae qpar qpau qpab u cal w0 w1 w2 w3 w4) (sp_Ci_survey ca w0 w3 w4)) 0 0 (inW (wCi g qci qpa qpae qpar qpau qpab ca cal w0 w1 w2 w3 w4)) := by
  refine Met.ofW (cc := b_Ci_survey) (maxL := 6) (ret := none) pn_Ci rfl ?_
  intro p e s m args below meth c s₁ B hml hv
  obtain ⟨rfl, C, hP, hD, hS⟩ := enter "DecadeBridge$Circuit" rfl B hml hv
  obtain ⟨hx, hb, hr, hml, hown, hlk, hts, hK, hZo, hZ⟩ := id C
  refine entryW (lv := [(0, .ref qci)]) rfl (Nat.le_of_ble_eq_true rfl) (fun ls hl => ?_)
  obtain ⟨z, hz⟩ : ∃ z, z = sp_Ci_survey ca w0 w3 w4 := ⟨_, rfl⟩
  rw [← hz]
  unfold sp_Ci_survey at hz
  refine lv_ldc2 hx hb hown (hts _ qk_Ci_83) d_Ci_survey_0 ?_
  refine lv_aload_n hx hb d_Ci_survey_3 rfl (lv_at hl 0 rfl) ?_
  refine gf C hP 0 0 fkCi rfl (by decide) rfl qf_Ci_7 (gCi_0 _ _ _) d_Ci_survey_4 ?_
  refine gf C hP 1 6 fkPa rfl (by decide) rfl qf_Ci_88 (gPa_6 _ _ _ _ _) d_Ci_survey_7 ?_
  refine gf C hP 4 0 fkHe rfl (by decide) rfl qf_Ci_92 (gHe_0 _) d_Ci_survey_10 ?_
  refine lv_i2l hx hb d_Ci_survey_13 rfl ?_
  refine lv_aload_n hx hb d_Ci_survey_14 rfl (lv_at hl 0 rfl) ?_
  refine gf C hP 0 7 fkCi rfl (by decide) rfl qf_Ci_27 (gCi_7 _ _ _) d_Ci_survey_15 ?_
  refine lv_i2l hx hb d_Ci_survey_18 rfl ?_
  refine lv_lmul hx hb d_Ci_survey_19 ?_
  refine lv_ladd hx hb d_Ci_survey_20 ?_
  refine lv_topl (fun v1 ev1 => ?_)
  have hz := lett_z hz ev1
  refine lv_lstore_n (lv' := [(1, .long v1), (0, .ref qci)]) hx hb d_Ci_survey_21 rfl hl (by decide) rfl (fun ls hl => ?_)
  refine lv_ldc2 hx hb hown (hts _ qk_Ci_83) d_Ci_survey_22 ?_
  refine lv_aload_n hx hb d_Ci_survey_25 rfl (lv_at hl 1 rfl) ?_
  refine gf C hP 0 0 fkCi rfl (by decide) rfl qf_Ci_7 (gCi_0 _ _ _) d_Ci_survey_26 ?_
  refine gf C hP 1 7 fkPa rfl (by decide) rfl qf_Ci_97 (gPa_7 _ _ _ _ _) d_Ci_survey_29 ?_
  refine gf C hP 5 0 fkHe rfl (by decide) rfl qf_Ci_92 (gHe_0 _) d_Ci_survey_32 ?_
  refine lv_i2l hx hb d_Ci_survey_35 rfl ?_
  refine lv_aload_n hx hb d_Ci_survey_36 rfl (lv_at hl 1 rfl) ?_
  refine gf C hP 0 8 fkCi rfl (by decide) rfl qf_Ci_30 (gCi_8 _ _ _) d_Ci_survey_37 ?_
  refine lv_i2l hx hb d_Ci_survey_40 rfl ?_
  refine lv_lmul hx hb d_Ci_survey_41 ?_
  refine lv_ladd hx hb d_Ci_survey_42 ?_
  refine lv_topl (fun v2 ev2 => ?_)
  have hz := lett_z hz ev2
  refine lv_lstore_n (lv' := [(3, .long v2), (1, .long v1), (0, .ref qci)]) hx hb d_Ci_survey_43 rfl hl (by decide) rfl (fun ls hl => ?_)
  refine lv_aload_n hx hb d_Ci_survey_44 rfl (lv_at hl 2 rfl) ?_
  refine lv_aload_n hx hb d_Ci_survey_45 rfl (lv_at hl 2 rfl) ?_
  refine gf C hP 0 0 fkCi rfl (by decide) rfl qf_Ci_7 (gCi_0 _ _ _) d_Ci_survey_46 ?_
  refine gf C hP 1 5 fkPa rfl (by decide) rfl qf_Ci_100 (gPa_5 _ _ _ _ _) d_Ci_survey_49 ?_
  refine lv_i2l hx hb d_Ci_survey_52 rfl ?_
  refine lv_lload_n hx hb d_Ci_survey_53 rfl (lv_at hl 1 rfl) ?_
  refine lv_lmul hx hb d_Ci_survey_54 ?_
  refine lv_ldc2 hx hb hown (hts _ qk_Ci_83) d_Ci_survey_55 ?_
  refine lv_ldiv hx hb d_Ci_survey_58 (by decide) ?_
  refine lv_l2i hx hb d_Ci_survey_59 rfl ?_
  refine pfI C hP hD hS 0 15 fkCi rfl (by decide) rfl qf_Ci_103 rfl rfl rfl (Nat.le_of_ble_eq_true rfl) (ff := fun o => fCi qpa o cal) (sCi_15 _ _ _ _) d_Ci_survey_60 (fun ca_3 eca_3 H locs hP hD hS => ?_)
  have hP : va_P g.1 vwCl (wCi g qci qpa qpae qpar qpau qpab ca_3 cal w0 w1 w2 w3 w4) H := hP
  have hD : va_D (inW (wCi g qci qpa qpae qpar qpau qpab ca cal w0 w1 w2 w3 w4)) (wCi g qci qpa qpae qpar qpau qpab ca_3 cal w0 w1 w2 w3 w4) := hD
  have hz := lett_z hz eca_3
  refine lv_aload_n hx hb d_Ci_survey_63 rfl (lv_at hl 2 rfl) ?_
  refine lv_aload_n hx hb d_Ci_survey_64 rfl (lv_at hl 2 rfl) ?_
  refine gf C hP 0 14 fkCi rfl (by decide) rfl qf_Ci_73 (gCi_14 _ _ _) d_Ci_survey_65 ?_
  refine lv_i2l hx hb d_Ci_survey_68 rfl ?_
  refine lv_lload_n hx hb d_Ci_survey_69 rfl (lv_at hl 0 rfl) ?_
  refine lv_lmul hx hb d_Ci_survey_70 ?_
  refine lv_ldc2 hx hb hown (hts _ qk_Ci_83) d_Ci_survey_71 ?_
  refine lv_ldiv hx hb d_Ci_survey_74 (by decide) ?_
  refine lv_l2i hx hb d_Ci_survey_75 rfl ?_
  refine pfI C hP hD hS 0 16 fkCi rfl (by decide) rfl qf_Ci_106 rfl rfl rfl (Nat.le_of_ble_eq_true rfl) (ff := fun o => fCi qpa o cal) (sCi_16 _ _ _ _) d_Ci_survey_76 (fun ca_4 eca_4 H locs hP hD hS => ?_)
  have hP : va_P g.1 vwCl (wCi g qci qpa qpae qpar qpau qpab ca_4 cal w0 w1 w2 w3 w4) H := hP
  have hD : va_D (inW (wCi g qci qpa qpae qpar qpau qpab ca cal w0 w1 w2 w3 w4)) (wCi g qci qpa qpae qpar qpau qpab ca_4 cal w0 w1 w2 w3 w4) := hD
  have hz := lett_z hz eca_4
  refine lv_aload_n hx hb d_Ci_survey_79 rfl (lv_at hl 2 rfl) ?_
  refine gf C hP 0 4 fkCi rfl (by decide) rfl qf_Ci_50 (gCi_4 _ _ _) d_Ci_survey_80 ?_
  refine lv_iconst (v := 3) hx hb d_Ci_survey_83 (by decide) ?_
  refine lv_icmp_ne (tgt := 91) hx hb d_Ci_survey_84 (by decide) (fun c5 => ?_) (fun c5 => ?_)
  · have hz := hz.trans (if_neg c5)
    refine lv_iconst (v := 0) hx hb d_Ci_survey_91 (by decide) ?_
    exact k_Ci_survey_92 C (0 : Int32) trivial _ hz _ _ ls hP hD hS (lv_sub hl [2] rfl)
  · have hz := hz.trans (if_pos c5)
    refine lv_iconst (v := 1) hx hb d_Ci_survey_87 (by decide) ?_
    refine lv_goto (tgt := 92) hx hb d_Ci_survey_88 (by decide) ?_
    exact k_Ci_survey_92 C (1 : Int32) trivial _ hz _ _ ls hP hD hS (lv_sub hl [2] rfl)
abbrev rm_Ci_unknownShare : Room := { frames := 0, cells := 0, slots := 0, locals := 0 }
noncomputable def sp_Ci_unknownShare (ca : IV) : Int32 := lett (((ca 18).toInt64) + ((ca 17).toInt64)) fun (v1 : Int64) => if v1 = (0 : Int64) then ((0 : Int32)) else ((((1000000000 : Int64) * ((ca 17).toInt64)) / v1).toInt32)
set_option maxRecDepth 100000 in
set_option maxHeartbeats 4000000 in
theorem c_Ci_unknownShare (l : Launch) (g : GX) (qci : Nat) (qpa : Nat) (qpae : Nat) (qpar : Nat) (qpau : Nat) (qpab : Nat) (ca : IV) (cal : LV) (w0 : IV) (w1 : IV) (w2 : IV) (w3 : IV) (w4 : IV)  : Met l y_Ci_unknownShare (wsY y_Ci_unknownShare b_Ci_unknownShare 3 (some .int)) rm_Ci_unknownShare (CP g [.ref qci] (wCi g qci qpa qpae qpar qpau qpab ca cal w0 w1 w2 w3 w4)) (CI0 g (wCi g qci qpa qpae qpar qpau qpab ca cal w0 w1 w2 w3 w4) (sp_Ci_unknownShare ca)) 0 0 (inW (wCi g qci qpa qpae qpar qpau qpab ca cal w0 w1 w2 w3 w4)) := by
  refine Met.ofW (cc := b_Ci_unknownShare) (maxL := 3) (ret := (some .int)) pn_Ci rfl ?_
  intro p e s m args below meth c s₁ B hml hv
  obtain ⟨rfl, C, hP, hD, hS⟩ := enter "DecadeBridge$Circuit" rfl B hml hv
  obtain ⟨hx, hb, hr, hml, hown, hlk, hts, hK, hZo, hZ⟩ := id C
  refine entryW (lv := [(0, .ref qci)]) rfl (Nat.le_of_ble_eq_true rfl) (fun ls hl => ?_)
  obtain ⟨z, hz⟩ : ∃ z, z = sp_Ci_unknownShare ca := ⟨_, rfl⟩
  rw [← hz]
  unfold sp_Ci_unknownShare at hz
  refine lv_aload_n hx hb d_Ci_unknownShare_0 rfl (lv_at hl 0 rfl) ?_
  refine gf C hP 0 18 fkCi rfl (by decide) rfl qf_Ci_118 (gCi_18 _ _ _) d_Ci_unknownShare_1 ?_
  refine lv_i2l hx hb d_Ci_unknownShare_4 rfl ?_
  refine lv_aload_n hx hb d_Ci_unknownShare_5 rfl (lv_at hl 0 rfl) ?_
  refine gf C hP 0 17 fkCi rfl (by decide) rfl qf_Ci_115 (gCi_17 _ _ _) d_Ci_unknownShare_6 ?_
  refine lv_i2l hx hb d_Ci_unknownShare_9 rfl ?_
  refine lv_ladd hx hb d_Ci_unknownShare_10 ?_
  refine lv_topl (fun v1 ev1 => ?_)
  have hz := lett_z hz ev1
  refine lv_lstore_n (lv' := [(1, .long v1), (0, .ref qci)]) hx hb d_Ci_unknownShare_11 rfl hl (by decide) rfl (fun ls hl => ?_)
  refine lv_lload_n hx hb d_Ci_unknownShare_12 rfl (lv_at hl 0 rfl) ?_
  refine lv_lconst (v := 0) hx hb d_Ci_unknownShare_13 (by decide) ?_
  refine lc_ne (tgt := 22) hx hb d_Ci_unknownShare_14 d_Ci_unknownShare_15 (by decide) (fun c2 => ?_) (fun c2 => ?_)
  · have hz := hz.trans (if_neg c2)
    refine lv_ldc2 hx hb hown (hts _ qk_Ci_83) d_Ci_unknownShare_22 ?_
    refine lv_aload_n hx hb d_Ci_unknownShare_25 rfl (lv_at hl 1 rfl) ?_
    refine gf C hP 0 17 fkCi rfl (by decide) rfl qf_Ci_115 (gCi_17 _ _ _) d_Ci_unknownShare_26 ?_
    refine lv_i2l hx hb d_Ci_unknownShare_29 rfl ?_
    refine lv_lmul hx hb d_Ci_unknownShare_30 ?_
    refine lv_lload_n hx hb d_Ci_unknownShare_31 rfl (lv_at hl 0 rfl) ?_
    refine lv_ldiv hx hb d_Ci_unknownShare_32 c2 ?_
    refine lv_l2i hx hb d_Ci_unknownShare_33 rfl ?_
    exact endI0 C hz hP hS d_Ci_unknownShare_34
  · have hz := hz.trans (if_pos c2)
    refine lv_iconst (v := 0) hx hb d_Ci_unknownShare_18 (by decide) ?_
    refine lv_goto (tgt := 34) hx hb d_Ci_unknownShare_19 (by decide) ?_
    exact endI0 C hz hP hS d_Ci_unknownShare_34
abbrev rm_Ci_imbalance : Room := { frames := 1, cells := 0, slots := 0, locals := 22 }
noncomputable def sp_Ci_imbalance (ca : IV) : Int64 := lett (sp_Ci_unknownShare ca) fun (y1 : Int32) => lett ((((ca 3).toInt64) * ((y1 - (ca 13)).toInt64)) / (1000 : Int64)) fun (v2 : Int64) => if (ca 6) = 0 then (v2) else (-v2)
set_option maxRecDepth 100000 in
set_option maxHeartbeats 4000000 in
theorem c_Ci_imbalance (l : Launch) (g : GX) (qci : Nat) (qpa : Nat) (qpae : Nat) (qpar : Nat) (qpau : Nat) (qpab : Nat) (ca : IV) (cal : LV) (w0 : IV) (w1 : IV) (w2 : IV) (w3 : IV) (w4 : IV)  : Met l y_Ci_imbalance (wsY y_Ci_imbalance b_Ci_imbalance 3 (some .long)) rm_Ci_imbalance (CP g [.ref qci] (wCi g qci qpa qpae qpar qpau qpab ca cal w0 w1 w2 w3 w4)) (CL0 g (wCi g qci qpa qpae qpar qpau qpab ca cal w0 w1 w2 w3 w4) (sp_Ci_imbalance ca)) 0 0 (inW (wCi g qci qpa qpae qpar qpau qpab ca cal w0 w1 w2 w3 w4)) := by
  refine Met.ofW (cc := b_Ci_imbalance) (maxL := 3) (ret := (some .long)) pn_Ci rfl ?_
  intro p e s m args below meth c s₁ B hml hv
  obtain ⟨rfl, C, hP, hD, hS⟩ := enter "DecadeBridge$Circuit" rfl B hml hv
  obtain ⟨hx, hb, hr, hml, hown, hlk, hts, hK, hZo, hZ⟩ := id C
  refine entryW (lv := [(0, .ref qci)]) rfl (Nat.le_of_ble_eq_true rfl) (fun ls hl => ?_)
  obtain ⟨z, hz⟩ : ∃ z, z = sp_Ci_imbalance ca := ⟨_, rfl⟩
  rw [← hz]
  unfold sp_Ci_imbalance at hz
  refine lv_aload_n hx hb d_Ci_imbalance_0 rfl (lv_at hl 0 rfl) ?_
  refine gf C hP 0 3 fkCi rfl (by decide) rfl qf_Ci_22 (gCi_3 _ _ _) d_Ci_imbalance_1 ?_
  refine lv_i2l hx hb d_Ci_imbalance_4 rfl ?_
  refine lv_aload_n hx hb d_Ci_imbalance_5 rfl (lv_at hl 0 rfl) ?_
  have hB : SubW g (inW (wCi g qci qpa qpae qpar qpau qpab ca cal w0 w1 w2 w3 w4)) s (wCi g qci qpa qpae qpar qpau qpab ca cal w0 w1 w2 w3 w4) _ (List.range _) _ _ := (subF hP hD hS)
  refine goI0 hB (run_v C mf_Ci_unknownShare qm_Ci_121 (c_Ci_unknownShare l g qci qpa qpae qpar qpau qpab ca cal w0 w1 w2 w3 w4) rfl rfl ⟨Nat.le_of_ble_eq_true rfl, Nat.le_of_ble_eq_true rfl⟩ ⟨Nat.le_of_ble_eq_true rfl, Nat.le_of_ble_eq_true rfl⟩ hB rfl rfl hl rfl rfl (Nat.le_of_ble_eq_true rfl) d_Ci_imbalance_6) (fun y1 ey1 H locs hP hS => ?_)
  have hz := lett_z hz ey1
  refine lv_aload_n hx hb d_Ci_imbalance_9 rfl (lv_at hl 0 rfl) ?_
  refine gf C hP 0 13 fkCi rfl (by decide) rfl qf_Ci_70 (gCi_13 _ _ _) d_Ci_imbalance_10 ?_
  refine lv_isub hx hb d_Ci_imbalance_13 ?_
  refine lv_i2l hx hb d_Ci_imbalance_14 rfl ?_
  refine lv_lmul hx hb d_Ci_imbalance_15 ?_
  refine lv_ldc2 hx hb hown (hts _ qk_Ci_125) d_Ci_imbalance_16 ?_
  refine lv_ldiv hx hb d_Ci_imbalance_19 (by decide) ?_
  refine lv_topl (fun v2 ev2 => ?_)
  have hz := lett_z hz ev2
  refine lv_lstore_n (lv' := [(1, .long v2), (0, .ref qci)]) hx hb d_Ci_imbalance_20 rfl hl (by decide) rfl (fun ls hl => ?_)
  refine lv_aload_n hx hb d_Ci_imbalance_21 rfl (lv_at hl 1 rfl) ?_
  refine gf C hP 0 6 fkCi rfl (by decide) rfl qf_Ci_23 (gCi_6 _ _ _) d_Ci_imbalance_22 ?_
  refine lv_if_eq (tgt := 33) hx hb d_Ci_imbalance_25 (by decide) (fun c3 => ?_) (fun c3 => ?_)
  · have hz := hz.trans (if_pos c3)
    refine lv_lload_n hx hb d_Ci_imbalance_33 rfl (lv_at hl 0 rfl) ?_
    exact endL0 C hz hP hS d_Ci_imbalance_34
  · have hz := hz.trans (if_neg c3)
    refine lv_lload_n hx hb d_Ci_imbalance_28 rfl (lv_at hl 0 rfl) ?_
    refine lv_lneg hx hb d_Ci_imbalance_29 ?_
    refine lv_goto (tgt := 34) hx hb d_Ci_imbalance_30 (by decide) ?_
    exact endL0 C hz hP hS d_Ci_imbalance_34
abbrev rm_Ci_amperes : Room := { frames := 0, cells := 0, slots := 0, locals := 0 }
noncomputable def sp_Ci_amperes (ca : IV) : Int64 := lett (((ca 18).toInt64) + ((ca 17).toInt64)) fun (v1 : Int64) => if v1 = (0 : Int64) then ((0 : Int64)) else (((1000000 : Int64) * ((ca 3).toInt64)) / v1)
set_option maxRecDepth 100000 in
set_option maxHeartbeats 4000000 in
theorem c_Ci_amperes (l : Launch) (g : GX) (qci : Nat) (qpa : Nat) (qpae : Nat) (qpar : Nat) (qpau : Nat) (qpab : Nat) (ca : IV) (cal : LV) (w0 : IV) (w1 : IV) (w2 : IV) (w3 : IV) (w4 : IV)  : Met l y_Ci_amperes (wsY y_Ci_amperes b_Ci_amperes 3 (some .long)) rm_Ci_amperes (CP g [.ref qci] (wCi g qci qpa qpae qpar qpau qpab ca cal w0 w1 w2 w3 w4)) (CL0 g (wCi g qci qpa qpae qpar qpau qpab ca cal w0 w1 w2 w3 w4) (sp_Ci_amperes ca)) 0 0 (inW (wCi g qci qpa qpae qpar qpau qpab ca cal w0 w1 w2 w3 w4)) := by
  refine Met.ofW (cc := b_Ci_amperes) (maxL := 3) (ret := (some .long)) pn_Ci rfl ?_
  intro p e s m args below meth c s₁ B hml hv
  obtain ⟨rfl, C, hP, hD, hS⟩ := enter "DecadeBridge$Circuit" rfl B hml hv
  obtain ⟨hx, hb, hr, hml, hown, hlk, hts, hK, hZo, hZ⟩ := id C
  refine entryW (lv := [(0, .ref qci)]) rfl (Nat.le_of_ble_eq_true rfl) (fun ls hl => ?_)
  obtain ⟨z, hz⟩ : ∃ z, z = sp_Ci_amperes ca := ⟨_, rfl⟩
  rw [← hz]
  unfold sp_Ci_amperes at hz
  refine lv_aload_n hx hb d_Ci_amperes_0 rfl (lv_at hl 0 rfl) ?_
  refine gf C hP 0 18 fkCi rfl (by decide) rfl qf_Ci_118 (gCi_18 _ _ _) d_Ci_amperes_1 ?_
  refine lv_i2l hx hb d_Ci_amperes_4 rfl ?_
  refine lv_aload_n hx hb d_Ci_amperes_5 rfl (lv_at hl 0 rfl) ?_
  refine gf C hP 0 17 fkCi rfl (by decide) rfl qf_Ci_115 (gCi_17 _ _ _) d_Ci_amperes_6 ?_
  refine lv_i2l hx hb d_Ci_amperes_9 rfl ?_
  refine lv_ladd hx hb d_Ci_amperes_10 ?_
  refine lv_topl (fun v1 ev1 => ?_)
  have hz := lett_z hz ev1
  refine lv_lstore_n (lv' := [(1, .long v1), (0, .ref qci)]) hx hb d_Ci_amperes_11 rfl hl (by decide) rfl (fun ls hl => ?_)
  refine lv_lload_n hx hb d_Ci_amperes_12 rfl (lv_at hl 0 rfl) ?_
  refine lv_lconst (v := 0) hx hb d_Ci_amperes_13 (by decide) ?_
  refine lc_ne (tgt := 22) hx hb d_Ci_amperes_14 d_Ci_amperes_15 (by decide) (fun c2 => ?_) (fun c2 => ?_)
  · have hz := hz.trans (if_neg c2)
    refine lv_ldc2 hx hb hown (hts _ qk_Ci_127) d_Ci_amperes_22 ?_
    refine lv_aload_n hx hb d_Ci_amperes_25 rfl (lv_at hl 1 rfl) ?_
    refine gf C hP 0 3 fkCi rfl (by decide) rfl qf_Ci_22 (gCi_3 _ _ _) d_Ci_amperes_26 ?_
    refine lv_i2l hx hb d_Ci_amperes_29 rfl ?_
    refine lv_lmul hx hb d_Ci_amperes_30 ?_
    refine lv_lload_n hx hb d_Ci_amperes_31 rfl (lv_at hl 0 rfl) ?_
    refine lv_ldiv hx hb d_Ci_amperes_32 c2 ?_
    exact endL0 C hz hP hS d_Ci_amperes_33
  · have hz := hz.trans (if_pos c2)
    refine lv_lconst (v := 0) hx hb d_Ci_amperes_18 (by decide) ?_
    refine lv_goto (tgt := 33) hx hb d_Ci_amperes_19 (by decide) ?_
    exact endL0 C hz hP hS d_Ci_amperes_33
abbrev rm_Ci_powerBy : Room := { frames := 0, cells := 0, slots := 0, locals := 0 }
def HL_Ci_powerBy_15 (p : Program) (l : Launch) (e : Env) (s : State) (m : MethodId) (args : Array Value) (below : List Frame) (meth : Method) (c : Code) (g : GX)  (p2 : Int32) (sp : Int64 → Int64) (ok : Int64 → Prop) : Prop := ∀ (t0p15 : Int64), ok t0p15 → ∀ z : Int64, z = sp t0p15 → ∀ (H : Heap) (locs : List Loc) (ls : Array Slot), va_P g.1 vwCl (wNil g ) H → va_D (inW (wNil g )) (wNil g ) → va_S (inW (wNil g )) s.heap H locs → lv_has ls 5 [(2, .int p2)] → W p l e rm_Ci_powerBy s m args below meth c H locs 0 0 (MQ below (CL0 g (wNil g ) z) args s 0 0 (inW (wNil g ))) (F0 m 15 ls [.long t0p15])
noncomputable def sp_Ci_powerBy_15 (p2 : Int32)  (t0p15 : Int64) : Int64 := (((t0p15 * t0p15) / (1000 : Int64)) * p2.toInt64) / (1000000 : Int64)
def ok_Ci_powerBy_15 (p2 : Int32)   (t0p15 : Int64) : Prop := True
set_option maxRecDepth 100000 in
set_option maxHeartbeats 4000000 in
theorem k_Ci_powerBy_15 {p : Program} {l : Launch} {e : Env} {s : State} {m : MethodId} {args : Array Value} {below : List Frame} {meth : Method} {c : Code} {g : GX}  {p2 : Int32}  (C : Cx p s m args meth c (inW (wNil g )) g "DecadeBridge$Circuit" b_Ci_powerBy (some .long) 5)  : HL_Ci_powerBy_15 p l e s m args below meth c g  p2 (sp_Ci_powerBy_15 p2 ) (ok_Ci_powerBy_15 p2  ) := by
  intro t0p15 hok z hz H locs ls hP hD hS hl
  obtain ⟨hx, hb, hr, hml, hown, hlk, hts, hK, hZo, hZ⟩ := id C
  unfold sp_Ci_powerBy_15 at hz
  refine lv_lstore_n (lv' := [(3, .long t0p15), (2, .int p2)]) hx hb d_Ci_powerBy_15 rfl hl (by decide) rfl (fun ls hl => ?_)
  refine lv_lload_n hx hb d_Ci_powerBy_16 rfl (lv_at hl 0 rfl) ?_
  refine lv_lload_n hx hb d_Ci_powerBy_17 rfl (lv_at hl 0 rfl) ?_
  refine lv_lmul hx hb d_Ci_powerBy_18 ?_
  refine lv_ldc2 hx hb hown (hts _ qk_Ci_125) d_Ci_powerBy_19 ?_
  refine lv_ldiv hx hb d_Ci_powerBy_22 (by decide) ?_
  refine lv_iload_n hx hb d_Ci_powerBy_23 rfl (lv_at hl 1 rfl) ?_
  refine lv_i2l hx hb d_Ci_powerBy_24 rfl ?_
  refine lv_lmul hx hb d_Ci_powerBy_25 ?_
  refine lv_ldc2 hx hb hown (hts _ qk_Ci_127) d_Ci_powerBy_26 ?_
  refine lv_ldiv hx hb d_Ci_powerBy_29 (by decide) ?_
  exact endL0 C hz hP hS d_Ci_powerBy_30
noncomputable def sp_Ci_powerBy (p1 : Int64) (p2 : Int32) : Int64 := if p1 ≤ (1000000 : Int64) then (sp_Ci_powerBy_15 p2 p1) else (sp_Ci_powerBy_15 p2 (1000000 : Int64))
set_option maxRecDepth 100000 in
set_option maxHeartbeats 4000000 in
theorem c_Ci_powerBy (l : Launch) (g : GX)   (p1 : Int64) (p2 : Int32) : Met l y_Ci_powerBy (wsY y_Ci_powerBy b_Ci_powerBy 5 (some .long)) rm_Ci_powerBy (CP g [.long p1, .int p2] (wNil g )) (CL0 g (wNil g ) (sp_Ci_powerBy p1 p2)) 0 0 (inW (wNil g )) := by
  refine Met.ofW (cc := b_Ci_powerBy) (maxL := 5) (ret := (some .long)) pn_Ci rfl ?_
  intro p e s m args below meth c s₁ B hml hv
  obtain ⟨rfl, C, hP, hD, hS⟩ := enter "DecadeBridge$Circuit" rfl B hml hv
  obtain ⟨hx, hb, hr, hml, hown, hlk, hts, hK, hZo, hZ⟩ := id C
  refine entryW (lv := [(0, .long p1), (2, .int p2)]) rfl (Nat.le_of_ble_eq_true rfl) (fun ls hl => ?_)
  obtain ⟨z, hz⟩ : ∃ z, z = sp_Ci_powerBy p1 p2 := ⟨_, rfl⟩
  rw [← hz]
  unfold sp_Ci_powerBy at hz
  refine lv_lload_n hx hb d_Ci_powerBy_0 rfl (lv_at hl 0 rfl) ?_
  refine lv_ldc2 hx hb hown (hts _ qk_Ci_127) d_Ci_powerBy_1 ?_
  refine lc_le (tgt := 14) hx hb d_Ci_powerBy_4 d_Ci_powerBy_5 (by decide) (fun c1 => ?_) (fun c1 => ?_)
  · have hz := hz.trans (if_pos c1)
    refine lv_lload_n hx hb d_Ci_powerBy_14 rfl (lv_at hl 0 rfl) ?_
    exact k_Ci_powerBy_15 C p1 trivial _ hz _ _ ls hP hD hS (lv_sub hl [1] rfl)
  · have hz := hz.trans (if_neg c1)
    refine lv_ldc2 hx hb hown (hts _ qk_Ci_127) d_Ci_powerBy_8 ?_
    refine lv_goto (tgt := 15) hx hb d_Ci_powerBy_11 (by decide) ?_
    exact k_Ci_powerBy_15 C (1000000 : Int64) trivial _ hz _ _ ls hP hD hS (lv_sub hl [1] rfl)
abbrev rm_Ci_whyBlocked : Room := { frames := 1, cells := 0, slots := 0, locals := 22 }
noncomputable def sp_Ci_whyBlocked (ca : IV) (w0 : IV) : Int32 := if (ca 3) = 0 then ((1 : Int32)) else (lett (sp_Ci_amperes ca) fun (y2 : Int64) => if y2 ≤ ((w0 12).toInt64) then ((0 : Int32)) else ((2 : Int32)))
set_option maxRecDepth 100000 in
set_option maxHeartbeats 4000000 in
theorem c_Ci_whyBlocked (l : Launch) (g : GX) (qci : Nat) (qpa : Nat) (qpae : Nat) (qpar : Nat) (qpau : Nat) (qpab : Nat) (ca : IV) (cal : LV) (w0 : IV) (w1 : IV) (w2 : IV) (w3 : IV) (w4 : IV)  : Met l y_Ci_whyBlocked (wsY y_Ci_whyBlocked b_Ci_whyBlocked 1 (some .int)) rm_Ci_whyBlocked (CP g [.ref qci] (wCi g qci qpa qpae qpar qpau qpab ca cal w0 w1 w2 w3 w4)) (CI0 g (wCi g qci qpa qpae qpar qpau qpab ca cal w0 w1 w2 w3 w4) (sp_Ci_whyBlocked ca w0)) 0 0 (inW (wCi g qci qpa qpae qpar qpau qpab ca cal w0 w1 w2 w3 w4)) := by
  refine Met.ofW (cc := b_Ci_whyBlocked) (maxL := 1) (ret := (some .int)) pn_Ci rfl ?_
  intro p e s m args below meth c s₁ B hml hv
  obtain ⟨rfl, C, hP, hD, hS⟩ := enter "DecadeBridge$Circuit" rfl B hml hv
  obtain ⟨hx, hb, hr, hml, hown, hlk, hts, hK, hZo, hZ⟩ := id C
  refine entryW (lv := [(0, .ref qci)]) rfl (Nat.le_of_ble_eq_true rfl) (fun ls hl => ?_)
  obtain ⟨z, hz⟩ : ∃ z, z = sp_Ci_whyBlocked ca w0 := ⟨_, rfl⟩
  rw [← hz]
  unfold sp_Ci_whyBlocked at hz
  refine lv_aload_n hx hb d_Ci_whyBlocked_0 rfl (lv_at hl 0 rfl) ?_
  refine gf C hP 0 3 fkCi rfl (by decide) rfl qf_Ci_22 (gCi_3 _ _ _) d_Ci_whyBlocked_1 ?_
  refine lv_if_ne (tgt := 9) hx hb d_Ci_whyBlocked_4 (by decide) (fun c1 => ?_) (fun c1 => ?_)
  · have hz := hz.trans (if_neg c1)
    refine lv_aload_n hx hb d_Ci_whyBlocked_9 rfl (lv_at hl 0 rfl) ?_
    have hB : SubW g (inW (wCi g qci qpa qpae qpar qpau qpab ca cal w0 w1 w2 w3 w4)) s (wCi g qci qpa qpae qpar qpau qpab ca cal w0 w1 w2 w3 w4) _ (List.range _) _ _ := (subF hP hD hS)
    refine goL0 hB (run_v C mf_Ci_amperes qm_Ci_129 (c_Ci_amperes l g qci qpa qpae qpar qpau qpab ca cal w0 w1 w2 w3 w4) rfl rfl ⟨Nat.le_of_ble_eq_true rfl, Nat.le_of_ble_eq_true rfl⟩ ⟨Nat.le_of_ble_eq_true rfl, Nat.le_of_ble_eq_true rfl⟩ hB rfl rfl hl rfl rfl (Nat.le_of_ble_eq_true rfl) d_Ci_whyBlocked_10) (fun y2 ey2 H locs hP hS => ?_)
    have hz := lett_z hz ey2
    refine lv_aload_n hx hb d_Ci_whyBlocked_13 rfl (lv_at hl 0 rfl) ?_
    refine gf C hP 0 0 fkCi rfl (by decide) rfl qf_Ci_7 (gCi_0 _ _ _) d_Ci_whyBlocked_14 ?_
    refine gf C hP 1 12 fkPa rfl (by decide) rfl qf_Ci_133 (gPa_12 _ _ _ _ _) d_Ci_whyBlocked_17 ?_
    refine lv_i2l hx hb d_Ci_whyBlocked_20 rfl ?_
    refine lc_le (tgt := 29) hx hb d_Ci_whyBlocked_21 d_Ci_whyBlocked_22 (by decide) (fun c3 => ?_) (fun c3 => ?_)
    · have hz := hz.trans (if_pos c3)
      refine lv_iconst (v := 0) hx hb d_Ci_whyBlocked_29 (by decide) ?_
      exact endI0 C hz hP hS d_Ci_whyBlocked_30
    · have hz := hz.trans (if_neg c3)
      refine lv_iconst (v := 2) hx hb d_Ci_whyBlocked_25 (by decide) ?_
      refine lv_goto (tgt := 30) hx hb d_Ci_whyBlocked_26 (by decide) ?_
      exact endI0 C hz hP hS d_Ci_whyBlocked_30
  · have hz := hz.trans (if_pos c1)
    refine lv_iconst (v := 1) hx hb d_Ci_whyBlocked_7 (by decide) ?_
    exact endI0 C hz hP hS d_Ci_whyBlocked_8
abbrev rm_Ci_draw : Room := { frames := 0, cells := 0, slots := 0, locals := 0 }
noncomputable def sp_Ci_draw (p1 : Int32) (ca : IV) : Int32 × IV := lett (upd ca 11 (((ca 11) * (1103515245 : Int32)) + (12345 : Int32))) fun (ca_1 : IV) => if (1 : Int32) ≤ p1 then (((((ca_1 11).toUInt32 >>> ((16 : Int32).toUInt32 &&& Int32.toUInt32 31)).toInt32) - (((ca_1 11).toUInt32 >>> ((16 : Int32).toUInt32 &&& Int32.toUInt32 31)).toInt32) / p1 * p1, ca_1)) else (((0 : Int32), ca_1))
def ok_Ci_draw (p1 : Int32) (ca : IV) : Prop := lett (upd ca 11 (((ca 11) * (1103515245 : Int32)) + (12345 : Int32))) fun (ca_1 : IV) => (((1 : Int32) ≤ p1 → (¬ p1 = 0) ∧ True) ∧ (¬ ((1 : Int32) ≤ p1) → True))
set_option maxRecDepth 100000 in
set_option maxHeartbeats 4000000 in
theorem c_Ci_draw (l : Launch) (g : GX) (qci : Nat) (qpa : Nat) (qpae : Nat) (qpar : Nat) (qpau : Nat) (qpab : Nat) (ca : IV) (cal : LV) (w0 : IV) (w1 : IV) (w2 : IV) (w3 : IV) (w4 : IV) (p1 : Int32) (hok : ok_Ci_draw p1 ca) : Met l y_Ci_draw (wsY y_Ci_draw b_Ci_draw 2 (some .int)) rm_Ci_draw (CP g [.ref qci, .int p1] (wCi g qci qpa qpae qpar qpau qpab ca cal w0 w1 w2 w3 w4)) (CI g (wCi g qci qpa qpae qpar qpau qpab ca cal w0 w1 w2 w3 w4) (fun u : IV => wCi g qci qpa qpae qpar qpau qpab u cal w0 w1 w2 w3 w4) (sp_Ci_draw p1 ca)) 0 0 (inW (wCi g qci qpa qpae qpar qpau qpab ca cal w0 w1 w2 w3 w4)) := by
  refine Met.ofW (cc := b_Ci_draw) (maxL := 2) (ret := (some .int)) pn_Ci rfl ?_
  intro p e s m args below meth c s₁ B hml hv
  obtain ⟨rfl, C, hP, hD, hS⟩ := enter "DecadeBridge$Circuit" rfl B hml hv
  obtain ⟨hx, hb, hr, hml, hown, hlk, hts, hK, hZo, hZ⟩ := id C
  refine entryW (lv := [(0, .ref qci), (1, .int p1)]) rfl (Nat.le_of_ble_eq_true rfl) (fun ls hl => ?_)
  obtain ⟨z, hz⟩ : ∃ z, z = sp_Ci_draw p1 ca := ⟨_, rfl⟩
  rw [← hz]
  unfold sp_Ci_draw at hz
  unfold ok_Ci_draw at hok
  refine lv_aload_n hx hb d_Ci_draw_0 rfl (lv_at hl 0 rfl) ?_
  refine lv_aload_n hx hb d_Ci_draw_1 rfl (lv_at hl 0 rfl) ?_
  refine gf C hP 0 11 fkCi rfl (by decide) rfl qf_Ci_43 (gCi_11 _ _ _) d_Ci_draw_2 ?_
  refine lv_ldc hx hb hown (hts _ qk_Ci_136) d_Ci_draw_5 ?_
  refine lv_imul hx hb d_Ci_draw_7 ?_
  refine lv_sipush (v := 12345) hx hb d_Ci_draw_8 (by decide) ?_
  refine lv_iadd hx hb d_Ci_draw_11 ?_
  refine pfI C hP hD hS 0 11 fkCi rfl (by decide) rfl qf_Ci_43 rfl rfl rfl (Nat.le_of_ble_eq_true rfl) (ff := fun o => fCi qpa o cal) (sCi_11 _ _ _ _) d_Ci_draw_12 (fun ca_1 eca_1 H locs hP hD hS => ?_)
  have hP : va_P g.1 vwCl (wCi g qci qpa qpae qpar qpau qpab ca_1 cal w0 w1 w2 w3 w4) H := hP
  have hD : va_D (inW (wCi g qci qpa qpae qpar qpau qpab ca cal w0 w1 w2 w3 w4)) (wCi g qci qpa qpae qpar qpau qpab ca_1 cal w0 w1 w2 w3 w4) := hD
  have hz := lett_z hz eca_1
  have hok := lett_o hok eca_1
  refine lv_iload_n hx hb d_Ci_draw_15 rfl (lv_at hl 1 rfl) ?_
  refine lv_iconst (v := 1) hx hb d_Ci_draw_16 (by decide) ?_
  refine lv_icmp_ge (tgt := 24) hx hb d_Ci_draw_17 (by decide) (fun c2 => ?_) (fun c2 => ?_)
  · have hz := hz.trans (if_pos c2)
    have hok := hok.1 c2
    refine lv_aload_n hx hb d_Ci_draw_24 rfl (lv_at hl 0 rfl) ?_
    refine gf C hP 0 11 fkCi rfl (by decide) rfl qf_Ci_43 (gCi_11 _ _ _) d_Ci_draw_25 ?_
    refine lv_bipush (v := 16) hx hb d_Ci_draw_28 (by decide) ?_
    refine lv_iushr hx hb d_Ci_draw_30 rfl ?_
    refine lv_iload_n hx hb d_Ci_draw_31 rfl (lv_at hl 1 rfl) ?_
    have hs3 := hok.1
    have hok := hok.2
    refine lv_irem hx hb d_Ci_draw_32 hs3 ?_
    exact endI1 C hz hP hS d_Ci_draw_33
  · have hz := hz.trans (if_neg c2)
    refine lv_iconst (v := 0) hx hb d_Ci_draw_20 (by decide) ?_
    refine lv_goto (tgt := 33) hx hb d_Ci_draw_21 (by decide) ?_
    exact endI1 C hz hP hS d_Ci_draw_33
abbrev rm_He_clear : Room := { frames := 0, cells := 0, slots := 0, locals := 0 }
noncomputable def sp_He_clear (hw : IV) : IV := lett (upd hw 0 (0 : Int32)) fun (hw_1 : IV) => lett (upd hw_1 1 (0 : Int32)) fun (hw_2 : IV) => lett (upd hw_2 2 (0 : Int32)) fun (hw_3 : IV) => hw_3
set_option maxRecDepth 100000 in
set_option maxHeartbeats 4000000 in
theorem c_He_clear (l : Launch) (g : GX) (qhe : Nat) (hw : IV)  : Met l y_He_clear (wsY y_He_clear b_He_clear 1 none) rm_He_clear (CP g [.ref qhe] (wHe g qhe hw)) (CV g (wHe g qhe hw) (fun u : IV => wHe g qhe u) (sp_He_clear hw)) 0 0 (inW (wHe g qhe hw)) := by
  refine Met.ofW (cc := b_He_clear) (maxL := 1) (ret := none) pn_He rfl ?_
  intro p e s m args below meth c s₁ B hml hv
  obtain ⟨rfl, C, hP, hD, hS⟩ := enter "DecadeBridge$Heating" rfl B hml hv
  obtain ⟨hx, hb, hr, hml, hown, hlk, hts, hK, hZo, hZ⟩ := id C
  refine entryW (lv := [(0, .ref qhe)]) rfl (Nat.le_of_ble_eq_true rfl) (fun ls hl => ?_)
  obtain ⟨z, hz⟩ : ∃ z, z = sp_He_clear hw := ⟨_, rfl⟩
  rw [← hz]
  unfold sp_He_clear at hz
  refine lv_aload_n hx hb d_He_clear_0 rfl (lv_at hl 0 rfl) ?_
  refine lv_iconst (v := 0) hx hb d_He_clear_1 (by decide) ?_
  refine pfI C hP hD hS 0 0 fkHe rfl (by decide) rfl qf_He_7 rfl rfl rfl (Nat.le_of_ble_eq_true rfl) (ff := fun o => fHe o) (sHe_0 _ _) d_He_clear_2 (fun hw_1 ehw_1 H locs hP hD hS => ?_)
  have hP : va_P g.1 vwCl (wHe g qhe hw_1) H := hP
  have hD : va_D (inW (wHe g qhe hw)) (wHe g qhe hw_1) := hD
  have hz := lett_z hz ehw_1
  refine lv_aload_n hx hb d_He_clear_5 rfl (lv_at hl 0 rfl) ?_
  refine lv_iconst (v := 0) hx hb d_He_clear_6 (by decide) ?_
  refine pfI C hP hD hS 0 1 fkHe rfl (by decide) rfl qf_He_13 rfl rfl rfl (Nat.le_of_ble_eq_true rfl) (ff := fun o => fHe o) (sHe_1 _ _) d_He_clear_7 (fun hw_2 ehw_2 H locs hP hD hS => ?_)
  have hP : va_P g.1 vwCl (wHe g qhe hw_2) H := hP
  have hD : va_D (inW (wHe g qhe hw)) (wHe g qhe hw_2) := hD
  have hz := lett_z hz ehw_2
  refine lv_aload_n hx hb d_He_clear_10 rfl (lv_at hl 0 rfl) ?_
  refine lv_iconst (v := 0) hx hb d_He_clear_11 (by decide) ?_
  refine pfI C hP hD hS 0 2 fkHe rfl (by decide) rfl qf_He_16 rfl rfl rfl (Nat.le_of_ble_eq_true rfl) (ff := fun o => fHe o) (sHe_2 _ _) d_He_clear_12 (fun hw_3 ehw_3 H locs hP hD hS => ?_)
  have hP : va_P g.1 vwCl (wHe g qhe hw_3) H := hP
  have hD : va_D (inW (wHe g qhe hw)) (wHe g qhe hw_3) := hD
  have hz := lett_z hz ehw_3
  exact endV C hz hP hS d_He_clear_15
abbrev rm_He_copy : Room := { frames := 0, cells := 0, slots := 0, locals := 0 }
noncomputable def sp_He_copy (hw : IV) (kw : IV) : IV := lett (upd hw 0 (kw 0)) fun (hw_1 : IV) => lett (upd hw_1 1 (kw 1)) fun (hw_2 : IV) => lett (upd hw_2 2 (kw 2)) fun (hw_3 : IV) => hw_3
set_option maxRecDepth 100000 in
set_option maxHeartbeats 4000000 in
theorem c_He_copy (l : Launch) (g : GX) (qhe : Nat) (qhf : Nat) (hw : IV) (kw : IV)  : Met l y_He_copy (wsY y_He_copy b_He_copy 2 none) rm_He_copy (CP g [.ref qhe, .ref qhf] (wHH g qhe qhf hw kw)) (CV g (wHH g qhe qhf hw kw) (fun u : IV => wHH g qhe qhf u kw) (sp_He_copy hw kw)) 0 0 (inW (wHH g qhe qhf hw kw)) := by
  refine Met.ofW (cc := b_He_copy) (maxL := 2) (ret := none) pn_He rfl ?_
  intro p e s m args below meth c s₁ B hml hv
  obtain ⟨rfl, C, hP, hD, hS⟩ := enter "DecadeBridge$Heating" rfl B hml hv
  obtain ⟨hx, hb, hr, hml, hown, hlk, hts, hK, hZo, hZ⟩ := id C
  refine entryW (lv := [(0, .ref qhe), (1, .ref qhf)]) rfl (Nat.le_of_ble_eq_true rfl) (fun ls hl => ?_)
  obtain ⟨z, hz⟩ : ∃ z, z = sp_He_copy hw kw := ⟨_, rfl⟩
  rw [← hz]
  unfold sp_He_copy at hz
  refine lv_aload_n hx hb d_He_copy_0 rfl (lv_at hl 0 rfl) ?_
  refine lv_aload_n hx hb d_He_copy_1 rfl (lv_at hl 1 rfl) ?_
  refine gf C hP 1 0 fkHe rfl (by decide) rfl qf_He_7 (gHe_0 _) d_He_copy_2 ?_
  refine pfI C hP hD hS 0 0 fkHe rfl (by decide) rfl qf_He_7 rfl rfl rfl (Nat.le_of_ble_eq_true rfl) (ff := fun o => fHe o) (sHe_0 _ _) d_He_copy_5 (fun hw_1 ehw_1 H locs hP hD hS => ?_)
  have hP : va_P g.1 vwCl (wHH g qhe qhf hw_1 kw) H := hP
  have hD : va_D (inW (wHH g qhe qhf hw kw)) (wHH g qhe qhf hw_1 kw) := hD
  have hz := lett_z hz ehw_1
  refine lv_aload_n hx hb d_He_copy_8 rfl (lv_at hl 0 rfl) ?_
  refine lv_aload_n hx hb d_He_copy_9 rfl (lv_at hl 1 rfl) ?_
  refine gf C hP 1 1 fkHe rfl (by decide) rfl qf_He_13 (gHe_1 _) d_He_copy_10 ?_
  refine pfI C hP hD hS 0 1 fkHe rfl (by decide) rfl qf_He_13 rfl rfl rfl (Nat.le_of_ble_eq_true rfl) (ff := fun o => fHe o) (sHe_1 _ _) d_He_copy_13 (fun hw_2 ehw_2 H locs hP hD hS => ?_)
  have hP : va_P g.1 vwCl (wHH g qhe qhf hw_2 kw) H := hP
  have hD : va_D (inW (wHH g qhe qhf hw kw)) (wHH g qhe qhf hw_2 kw) := hD
  have hz := lett_z hz ehw_2
  refine lv_aload_n hx hb d_He_copy_16 rfl (lv_at hl 0 rfl) ?_
  refine lv_aload_n hx hb d_He_copy_17 rfl (lv_at hl 1 rfl) ?_
  refine gf C hP 1 2 fkHe rfl (by decide) rfl qf_He_16 (gHe_2 _) d_He_copy_18 ?_
  refine pfI C hP hD hS 0 2 fkHe rfl (by decide) rfl qf_He_16 rfl rfl rfl (Nat.le_of_ble_eq_true rfl) (ff := fun o => fHe o) (sHe_2 _ _) d_He_copy_21 (fun hw_3 ehw_3 H locs hP hD hS => ?_)
  have hP : va_P g.1 vwCl (wHH g qhe qhf hw_3 kw) H := hP
  have hD : va_D (inW (wHH g qhe qhf hw kw)) (wHH g qhe qhf hw_3 kw) := hD
  have hz := lett_z hz ehw_3
  exact endV C hz hP hS d_He_copy_24
abbrev rm_He_behindTick : Room := { frames := 0, cells := 0, slots := 0, locals := 0 }
noncomputable def sp_He_behindTick (p1 : Int32) (p2 : Int64) (hw : IV) : Int32 := lett ((p1.toInt64 + ((p2 * ((hw 1).toInt64)) / (1000 : Int64))) - ((p1.toInt64 * ((hw 2).toInt64)) / (100 : Int64))) fun (v1 : Int64) => if (0 : Int64) ≤ v1 then (if v1 ≤ (200000 : Int64) then (v1.toInt32) else ((200000 : Int32))) else ((0 : Int32))
set_option maxRecDepth 100000 in
set_option maxHeartbeats 4000000 in
theorem c_He_behindTick (l : Launch) (g : GX) (qhe : Nat) (hw : IV) (p1 : Int32) (p2 : Int64) : Met l y_He_behindTick (wsY y_He_behindTick b_He_behindTick 6 (some .int)) rm_He_behindTick (CP g [.ref qhe, .int p1, .long p2] (wHe g qhe hw)) (CI0 g (wHe g qhe hw) (sp_He_behindTick p1 p2 hw)) 0 0 (inW (wHe g qhe hw)) := by
  refine Met.ofW (cc := b_He_behindTick) (maxL := 6) (ret := (some .int)) pn_He rfl ?_
  intro p e s m args below meth c s₁ B hml hv
  obtain ⟨rfl, C, hP, hD, hS⟩ := enter "DecadeBridge$Heating" rfl B hml hv
  obtain ⟨hx, hb, hr, hml, hown, hlk, hts, hK, hZo, hZ⟩ := id C
  refine entryW (lv := [(0, .ref qhe), (1, .int p1), (2, .long p2)]) rfl (Nat.le_of_ble_eq_true rfl) (fun ls hl => ?_)
  obtain ⟨z, hz⟩ : ∃ z, z = sp_He_behindTick p1 p2 hw := ⟨_, rfl⟩
  rw [← hz]
  unfold sp_He_behindTick at hz
  refine lv_iload_n hx hb d_He_behindTick_0 rfl (lv_at hl 1 rfl) ?_
  refine lv_i2l hx hb d_He_behindTick_1 rfl ?_
  refine lv_lload_n hx hb d_He_behindTick_2 rfl (lv_at hl 2 rfl) ?_
  refine lv_aload_n hx hb d_He_behindTick_3 rfl (lv_at hl 0 rfl) ?_
  refine gf C hP 0 1 fkHe rfl (by decide) rfl qf_He_13 (gHe_1 _) d_He_behindTick_4 ?_
  refine lv_i2l hx hb d_He_behindTick_7 rfl ?_
  refine lv_lmul hx hb d_He_behindTick_8 ?_
  refine lv_ldc2 hx hb hown (hts _ qk_He_19) d_He_behindTick_9 ?_
  refine lv_ldiv hx hb d_He_behindTick_12 (by decide) ?_
  refine lv_ladd hx hb d_He_behindTick_13 ?_
  refine lv_iload_n hx hb d_He_behindTick_14 rfl (lv_at hl 1 rfl) ?_
  refine lv_i2l hx hb d_He_behindTick_15 rfl ?_
  refine lv_aload_n hx hb d_He_behindTick_16 rfl (lv_at hl 0 rfl) ?_
  refine gf C hP 0 2 fkHe rfl (by decide) rfl qf_He_16 (gHe_2 _) d_He_behindTick_17 ?_
  refine lv_i2l hx hb d_He_behindTick_20 rfl ?_
  refine lv_lmul hx hb d_He_behindTick_21 ?_
  refine lv_ldc2 hx hb hown (hts _ qk_He_21) d_He_behindTick_22 ?_
  refine lv_ldiv hx hb d_He_behindTick_25 (by decide) ?_
  refine lv_lsub hx hb d_He_behindTick_26 ?_
  refine lv_topl (fun v1 ev1 => ?_)
  have hz := lett_z hz ev1
  refine lv_lstore (lv' := [(4, .long v1), (0, .ref qhe), (1, .int p1), (2, .long p2)]) hx hb d_He_behindTick_27 hl (by decide) rfl (fun ls hl => ?_)
  refine lv_lload hx hb d_He_behindTick_29 (lv_at hl 0 rfl) ?_
  refine lv_lconst (v := 0) hx hb d_He_behindTick_31 (by decide) ?_
  refine lc_ge (tgt := 38) hx hb d_He_behindTick_32 d_He_behindTick_33 (by decide) (fun c2 => ?_) (fun c2 => ?_)
  · have hz := hz.trans (if_pos c2)
    refine lv_lload hx hb d_He_behindTick_38 (lv_at hl 0 rfl) ?_
    refine lv_ldc2 hx hb hown (hts _ qk_He_23) d_He_behindTick_40 ?_
    refine lc_le (tgt := 52) hx hb d_He_behindTick_43 d_He_behindTick_44 (by decide) (fun c3 => ?_) (fun c3 => ?_)
    · have hz := hz.trans (if_pos c3)
      refine lv_lload hx hb d_He_behindTick_52 (lv_at hl 0 rfl) ?_
      refine lv_l2i hx hb d_He_behindTick_54 rfl ?_
      exact endI0 C hz hP hS d_He_behindTick_55
    · have hz := hz.trans (if_neg c3)
      refine lv_ldc hx hb hown (hts _ qk_He_25) d_He_behindTick_47 ?_
      refine lv_goto (tgt := 55) hx hb d_He_behindTick_49 (by decide) ?_
      exact endI0 C hz hP hS d_He_behindTick_55
  · have hz := hz.trans (if_neg c2)
    refine lv_iconst (v := 0) hx hb d_He_behindTick_36 (by decide) ?_
    exact endI0 C hz hP hS d_He_behindTick_37
abbrev rm_Pa_clear : Room := { frames := 1, cells := 0, slots := 0, locals := 20 }
def HL_Pa_clear_17 (p : Program) (l : Launch) (e : Env) (s : State) (m : MethodId) (args : Array Value) (below : List Frame) (meth : Method) (c : Code) (g : GX) (qpa : Nat) (qpae : Nat) (qpar : Nat) (qpau : Nat) (qpab : Nat) (ws0 : va_W) (w_3 : IV) (w2 : IV) (w3 : IV) (w4 : IV) (sp : Int32 → IV → (IV × IV × IV × IV × IV)) (ok : Int32 → IV → Prop) : Prop := ∀ (x1p17 : Int32) (w1p17 : IV), ok x1p17 w1p17 → ∀ z : (IV × IV × IV × IV × IV), z = sp x1p17 w1p17 → ∀ (H : Heap) (locs : List Loc) (ls : Array Slot), va_P g.1 vwCl (wPa g qpa qpae qpar qpau qpab w_3 w1p17 w2 w3 w4) H → va_D (inW ws0) (wPa g qpa qpae qpar qpau qpab w_3 w1p17 w2 w3 w4) → va_S (inW ws0) s.heap H locs → lv_has ls 2 [(0, .ref qpa), (1, .int x1p17)] → W p l e rm_Pa_clear s m args below meth c H locs 0 0 (MQ below (CV g ws0 (fun u : IV × IV × IV × IV × IV => wPa g qpa qpae qpar qpau qpab u.1 u.2.1 u.2.2.1 u.2.2.2.1 u.2.2.2.2) z) args s 0 0 (inW ws0)) (F0 m 17 ls [])
def HL_Pa_clear_39 (p : Program) (l : Launch) (e : Env) (s : State) (m : MethodId) (args : Array Value) (below : List Frame) (meth : Method) (c : Code) (g : GX) (qpa : Nat) (qpae : Nat) (qpar : Nat) (qpau : Nat) (qpab : Nat) (ws0 : va_W) (w_3 : IV) (w1p17 : IV) (w2 : IV) (w3 : IV) (w4 : IV) (sp : (IV × IV × IV × IV × IV)) (ok : Prop) : Prop := ∀ (_ : Unit), ok → ∀ z : (IV × IV × IV × IV × IV), z = sp → ∀ (H : Heap) (locs : List Loc) (ls : Array Slot), va_P g.1 vwCl (wPa g qpa qpae qpar qpau qpab w_3 w1p17 w2 w3 w4) H → va_D (inW ws0) (wPa g qpa qpae qpar qpau qpab w_3 w1p17 w2 w3 w4) → va_S (inW ws0) s.heap H locs → lv_has ls 2 [(0, .ref qpa)] → W p l e rm_Pa_clear s m args below meth c H locs 0 0 (MQ below (CV g ws0 (fun u : IV × IV × IV × IV × IV => wPa g qpa qpae qpar qpau qpab u.1 u.2.1 u.2.2.1 u.2.2.2.1 u.2.2.2.2) z) args s 0 0 (inW ws0)) (F0 m 39 ls [])
def HL_Pa_clear_41 (p : Program) (l : Launch) (e : Env) (s : State) (m : MethodId) (args : Array Value) (below : List Frame) (meth : Method) (c : Code) (g : GX) (qpa : Nat) (qpae : Nat) (qpar : Nat) (qpau : Nat) (qpab : Nat) (ws0 : va_W) (w_3 : IV) (w1p17 : IV) (w3 : IV) (w4 : IV) (sp : Int32 → IV → (IV × IV × IV × IV × IV)) (ok : Int32 → IV → Prop) : Prop := ∀ (x1p41 : Int32) (w2p41 : IV), ok x1p41 w2p41 → ∀ z : (IV × IV × IV × IV × IV), z = sp x1p41 w2p41 → ∀ (H : Heap) (locs : List Loc) (ls : Array Slot), va_P g.1 vwCl (wPa g qpa qpae qpar qpau qpab w_3 w1p17 w2p41 w3 w4) H → va_D (inW ws0) (wPa g qpa qpae qpar qpau qpab w_3 w1p17 w2p41 w3 w4) → va_S (inW ws0) s.heap H locs → lv_has ls 2 [(0, .ref qpa), (1, .int x1p41)] → W p l e rm_Pa_clear s m args below meth c H locs 0 0 (MQ below (CV g ws0 (fun u : IV × IV × IV × IV × IV => wPa g qpa qpae qpar qpau qpab u.1 u.2.1 u.2.2.1 u.2.2.2.1 u.2.2.2.2) z) args s 0 0 (inW ws0)) (F0 m 41 ls [])
def HL_Pa_clear_63 (p : Program) (l : Launch) (e : Env) (s : State) (m : MethodId) (args : Array Value) (below : List Frame) (meth : Method) (c : Code) (g : GX) (qpa : Nat) (qpae : Nat) (qpar : Nat) (qpau : Nat) (qpab : Nat) (ws0 : va_W) (w_3 : IV) (w1p17 : IV) (w2p41 : IV) (w3 : IV) (w4 : IV) (sp : (IV × IV × IV × IV × IV)) (ok : Prop) : Prop := ∀ (_ : Unit), ok → ∀ z : (IV × IV × IV × IV × IV), z = sp → ∀ (H : Heap) (locs : List Loc) (ls : Array Slot), va_P g.1 vwCl (wPa g qpa qpae qpar qpau qpab w_3 w1p17 w2p41 w3 w4) H → va_D (inW ws0) (wPa g qpa qpae qpar qpau qpab w_3 w1p17 w2p41 w3 w4) → va_S (inW ws0) s.heap H locs → lv_has ls 2 [(0, .ref qpa)] → W p l e rm_Pa_clear s m args below meth c H locs 0 0 (MQ below (CV g ws0 (fun u : IV × IV × IV × IV × IV => wPa g qpa qpae qpar qpau qpab u.1 u.2.1 u.2.2.1 u.2.2.2.1 u.2.2.2.2) z) args s 0 0 (inW ws0)) (F0 m 63 ls [])
noncomputable def sp_Pa_clear_63 (w_3 : IV) (w3 : IV) (w4 : IV) (w1p17 : IV) (w2p41 : IV)   : IV × IV × IV × IV × IV := lett (upd w_3 5 (1000 : Int32)) fun (w_12 : IV) => lett (sp_He_clear w3) fun (y13 : IV) => lett (sp_He_clear w4) fun (y14 : IV) => lett (upd w_12 8 (0 : Int32)) fun (w_15 : IV) => lett (upd w_15 9 (0 : Int32)) fun (w_16 : IV) => lett (upd w_16 10 (0 : Int32)) fun (w_17 : IV) => lett (upd w_17 11 (1000 : Int32)) fun (w_18 : IV) => lett (upd w_18 12 (1000000 : Int32)) fun (w_19 : IV) => lett (upd w_19 13 (9999999 : Int32)) fun (w_20 : IV) => lett (upd w_20 14 (0 : Int32)) fun (w_21 : IV) => lett (upd w_21 15 (0 : Int32)) fun (w_22 : IV) => lett (upd w_22 16 (0 : Int32)) fun (w_23 : IV) => lett (upd w_23 17 (1 : Int32)) fun (w_24 : IV) => (w_24, w1p17, w2p41, y13, y14)
def ok_Pa_clear_63 (w_3 : IV) (w3 : IV) (w4 : IV) (w1p17 : IV) (w2p41 : IV)    : Prop := True
set_option maxRecDepth 100000 in
set_option maxHeartbeats 4000000 in
theorem k_Pa_clear_63 {p : Program} {l : Launch} {e : Env} {s : State} {m : MethodId} {args : Array Value} {below : List Frame} {meth : Method} {c : Code} {g : GX} {qpa : Nat} {qpae : Nat} {qpar : Nat} {qpau : Nat} {qpab : Nat} {ws0 : va_W} {w_3 : IV} {w1p17 : IV} {w2p41 : IV} {w3 : IV} {w4 : IV}  (C : Cx p s m args meth c (inW ws0) g "DecadeBridge$Parts" b_Pa_clear none 2)  : HL_Pa_clear_63 p l e s m args below meth c g qpa qpae qpar qpau qpab ws0 w_3 w1p17 w2p41 w3 w4 (sp_Pa_clear_63 w_3 w3 w4 w1p17 w2p41 ) (ok_Pa_clear_63 w_3 w3 w4 w1p17 w2p41  ) := by
  intro _ hok z hz H locs ls hP hD hS hl
  obtain ⟨hx, hb, hr, hml, hown, hlk, hts, hK, hZo, hZ⟩ := id C
  unfold sp_Pa_clear_63 at hz
  refine lv_aload_n hx hb d_Pa_clear_63 rfl (lv_at hl 0 rfl) ?_
  refine lv_sipush (v := 1000) hx hb d_Pa_clear_64 (by decide) ?_
  refine pfI C hP hD hS 0 5 fkPa rfl (by decide) rfl qf_Pa_41 rfl rfl rfl (Nat.le_of_ble_eq_true rfl) (ff := fun o => fPa qpae qpar qpau qpab o) (sPa_5 _ _ _ _ _ _) d_Pa_clear_67 (fun w_12 ew_12 H locs hP hD hS => ?_)
  have hP : va_P g.1 vwCl (wPa g qpa qpae qpar qpau qpab w_12 w1p17 w2p41 w3 w4) H := hP
  have hD : va_D (inW ws0) (wPa g qpa qpae qpar qpau qpab w_12 w1p17 w2p41 w3 w4) := hD
  have hz := lett_z hz ew_12
  refine lv_aload_n hx hb d_Pa_clear_70 rfl (lv_at hl 0 rfl) ?_
  refine gf C hP 0 6 fkPa rfl (by decide) rfl qf_Pa_21 (gPa_6 _ _ _ _ _) d_Pa_clear_71 ?_
  have hB : SubW g (inW ws0) s (wPa g qpa qpae qpar qpau qpab w_12 w1p17 w2p41 w3 w4) (wHe g qpau w3) [3] _ _ := ⟨rfl, rfl, hP, hD, hS⟩
  refine goV1 hB (run_v C mf_He_clear qm_Pa_44 (c_He_clear l g qpau w3) rfl rfl ⟨Nat.le_of_ble_eq_true rfl, Nat.le_of_ble_eq_true rfl⟩ ⟨Nat.le_of_ble_eq_true rfl, Nat.le_of_ble_eq_true rfl⟩ hB rfl rfl hl rfl rfl (Nat.le_of_ble_eq_true rfl) d_Pa_clear_74) (fun _ => rfl) (fun y13 ey13 H locs hP hD hS => ?_)
  have hP : va_P g.1 vwCl (wPa g qpa qpae qpar qpau qpab w_12 w1p17 w2p41 y13 w4) H := cP (spq hB.1 hB.2.1 [0, 1, 2, 4] 5 rfl rfl (by decide +kernel) rfl) hP
  have hD : va_D (inW ws0) (wPa g qpa qpae qpar qpau qpab w_12 w1p17 w2p41 y13 w4) := cD (spq hB.1 hB.2.1 [0, 1, 2, 4] 5 rfl rfl (by decide +kernel) rfl) hD
  have hz := lett_z hz ey13
  refine lv_aload_n hx hb d_Pa_clear_77 rfl (lv_at hl 0 rfl) ?_
  refine gf C hP 0 7 fkPa rfl (by decide) rfl qf_Pa_25 (gPa_7 _ _ _ _ _) d_Pa_clear_78 ?_
  have hB : SubW g (inW ws0) s (wPa g qpa qpae qpar qpau qpab w_12 w1p17 w2p41 y13 w4) (wHe g qpab w4) [4] _ _ := ⟨rfl, rfl, hP, hD, hS⟩
  refine goV1 hB (run_v C mf_He_clear qm_Pa_44 (c_He_clear l g qpab w4) rfl rfl ⟨Nat.le_of_ble_eq_true rfl, Nat.le_of_ble_eq_true rfl⟩ ⟨Nat.le_of_ble_eq_true rfl, Nat.le_of_ble_eq_true rfl⟩ hB rfl rfl hl rfl rfl (Nat.le_of_ble_eq_true rfl) d_Pa_clear_81) (fun _ => rfl) (fun y14 ey14 H locs hP hD hS => ?_)
  have hP : va_P g.1 vwCl (wPa g qpa qpae qpar qpau qpab w_12 w1p17 w2p41 y13 y14) H := cP (spq hB.1 hB.2.1 [0, 1, 2, 3] 5 rfl rfl (by decide +kernel) rfl) hP
  have hD : va_D (inW ws0) (wPa g qpa qpae qpar qpau qpab w_12 w1p17 w2p41 y13 y14) := cD (spq hB.1 hB.2.1 [0, 1, 2, 3] 5 rfl rfl (by decide +kernel) rfl) hD
  have hz := lett_z hz ey14
  refine lv_aload_n hx hb d_Pa_clear_84 rfl (lv_at hl 0 rfl) ?_
  refine lv_iconst (v := 0) hx hb d_Pa_clear_85 (by decide) ?_
  refine pfI C hP hD hS 0 8 fkPa rfl (by decide) rfl qf_Pa_45 rfl rfl rfl (Nat.le_of_ble_eq_true rfl) (ff := fun o => fPa qpae qpar qpau qpab o) (sPa_8 _ _ _ _ _ _) d_Pa_clear_86 (fun w_15 ew_15 H locs hP hD hS => ?_)
  have hP : va_P g.1 vwCl (wPa g qpa qpae qpar qpau qpab w_15 w1p17 w2p41 y13 y14) H := hP
  have hD : va_D (inW ws0) (wPa g qpa qpae qpar qpau qpab w_15 w1p17 w2p41 y13 y14) := hD
  have hz := lett_z hz ew_15
  refine lv_aload_n hx hb d_Pa_clear_89 rfl (lv_at hl 0 rfl) ?_
  refine lv_iconst (v := 0) hx hb d_Pa_clear_90 (by decide) ?_
  refine pfI C hP hD hS 0 9 fkPa rfl (by decide) rfl qf_Pa_48 rfl rfl rfl (Nat.le_of_ble_eq_true rfl) (ff := fun o => fPa qpae qpar qpau qpab o) (sPa_9 _ _ _ _ _ _) d_Pa_clear_91 (fun w_16 ew_16 H locs hP hD hS => ?_)
  have hP : va_P g.1 vwCl (wPa g qpa qpae qpar qpau qpab w_16 w1p17 w2p41 y13 y14) H := hP
  have hD : va_D (inW ws0) (wPa g qpa qpae qpar qpau qpab w_16 w1p17 w2p41 y13 y14) := hD
  have hz := lett_z hz ew_16
  refine lv_aload_n hx hb d_Pa_clear_94 rfl (lv_at hl 0 rfl) ?_
  refine lv_iconst (v := 0) hx hb d_Pa_clear_95 (by decide) ?_
  refine pfI C hP hD hS 0 10 fkPa rfl (by decide) rfl qf_Pa_51 rfl rfl rfl (Nat.le_of_ble_eq_true rfl) (ff := fun o => fPa qpae qpar qpau qpab o) (sPa_10 _ _ _ _ _ _) d_Pa_clear_96 (fun w_17 ew_17 H locs hP hD hS => ?_)
  have hP : va_P g.1 vwCl (wPa g qpa qpae qpar qpau qpab w_17 w1p17 w2p41 y13 y14) H := hP
  have hD : va_D (inW ws0) (wPa g qpa qpae qpar qpau qpab w_17 w1p17 w2p41 y13 y14) := hD
  have hz := lett_z hz ew_17
  refine lv_aload_n hx hb d_Pa_clear_99 rfl (lv_at hl 0 rfl) ?_
  refine lv_sipush (v := 1000) hx hb d_Pa_clear_100 (by decide) ?_
  refine pfI C hP hD hS 0 11 fkPa rfl (by decide) rfl qf_Pa_54 rfl rfl rfl (Nat.le_of_ble_eq_true rfl) (ff := fun o => fPa qpae qpar qpau qpab o) (sPa_11 _ _ _ _ _ _) d_Pa_clear_103 (fun w_18 ew_18 H locs hP hD hS => ?_)
  have hP : va_P g.1 vwCl (wPa g qpa qpae qpar qpau qpab w_18 w1p17 w2p41 y13 y14) H := hP
  have hD : va_D (inW ws0) (wPa g qpa qpae qpar qpau qpab w_18 w1p17 w2p41 y13 y14) := hD
  have hz := lett_z hz ew_18
  refine lv_aload_n hx hb d_Pa_clear_106 rfl (lv_at hl 0 rfl) ?_
  refine lv_ldc hx hb hown (hts _ qk_Pa_57) d_Pa_clear_107 ?_
  refine pfI C hP hD hS 0 12 fkPa rfl (by decide) rfl qf_Pa_58 rfl rfl rfl (Nat.le_of_ble_eq_true rfl) (ff := fun o => fPa qpae qpar qpau qpab o) (sPa_12 _ _ _ _ _ _) d_Pa_clear_109 (fun w_19 ew_19 H locs hP hD hS => ?_)
  have hP : va_P g.1 vwCl (wPa g qpa qpae qpar qpau qpab w_19 w1p17 w2p41 y13 y14) H := hP
  have hD : va_D (inW ws0) (wPa g qpa qpae qpar qpau qpab w_19 w1p17 w2p41 y13 y14) := hD
  have hz := lett_z hz ew_19
  refine lv_aload_n hx hb d_Pa_clear_112 rfl (lv_at hl 0 rfl) ?_
  refine lv_ldc hx hb hown (hts _ qk_Pa_61) d_Pa_clear_113 ?_
  refine pfI C hP hD hS 0 13 fkPa rfl (by decide) rfl qf_Pa_62 rfl rfl rfl (Nat.le_of_ble_eq_true rfl) (ff := fun o => fPa qpae qpar qpau qpab o) (sPa_13 _ _ _ _ _ _) d_Pa_clear_115 (fun w_20 ew_20 H locs hP hD hS => ?_)
  have hP : va_P g.1 vwCl (wPa g qpa qpae qpar qpau qpab w_20 w1p17 w2p41 y13 y14) H := hP
  have hD : va_D (inW ws0) (wPa g qpa qpae qpar qpau qpab w_20 w1p17 w2p41 y13 y14) := hD
  have hz := lett_z hz ew_20
  refine lv_aload_n hx hb d_Pa_clear_118 rfl (lv_at hl 0 rfl) ?_
  refine lv_iconst (v := 0) hx hb d_Pa_clear_119 (by decide) ?_
  refine pfI C hP hD hS 0 14 fkPa rfl (by decide) rfl qf_Pa_65 rfl rfl rfl (Nat.le_of_ble_eq_true rfl) (ff := fun o => fPa qpae qpar qpau qpab o) (sPa_14 _ _ _ _ _ _) d_Pa_clear_120 (fun w_21 ew_21 H locs hP hD hS => ?_)
  have hP : va_P g.1 vwCl (wPa g qpa qpae qpar qpau qpab w_21 w1p17 w2p41 y13 y14) H := hP
  have hD : va_D (inW ws0) (wPa g qpa qpae qpar qpau qpab w_21 w1p17 w2p41 y13 y14) := hD
  have hz := lett_z hz ew_21
  refine lv_aload_n hx hb d_Pa_clear_123 rfl (lv_at hl 0 rfl) ?_
  refine lv_iconst (v := 0) hx hb d_Pa_clear_124 (by decide) ?_
  refine pfI C hP hD hS 0 15 fkPa rfl (by decide) rfl qf_Pa_68 rfl rfl rfl (Nat.le_of_ble_eq_true rfl) (ff := fun o => fPa qpae qpar qpau qpab o) (sPa_15 _ _ _ _ _ _) d_Pa_clear_125 (fun w_22 ew_22 H locs hP hD hS => ?_)
  have hP : va_P g.1 vwCl (wPa g qpa qpae qpar qpau qpab w_22 w1p17 w2p41 y13 y14) H := hP
  have hD : va_D (inW ws0) (wPa g qpa qpae qpar qpau qpab w_22 w1p17 w2p41 y13 y14) := hD
  have hz := lett_z hz ew_22
  refine lv_aload_n hx hb d_Pa_clear_128 rfl (lv_at hl 0 rfl) ?_
  refine lv_iconst (v := 0) hx hb d_Pa_clear_129 (by decide) ?_
  refine pfI C hP hD hS 0 16 fkPa rfl (by decide) rfl qf_Pa_71 rfl rfl rfl (Nat.le_of_ble_eq_true rfl) (ff := fun o => fPa qpae qpar qpau qpab o) (sPa_16 _ _ _ _ _ _) d_Pa_clear_130 (fun w_23 ew_23 H locs hP hD hS => ?_)
  have hP : va_P g.1 vwCl (wPa g qpa qpae qpar qpau qpab w_23 w1p17 w2p41 y13 y14) H := hP
  have hD : va_D (inW ws0) (wPa g qpa qpae qpar qpau qpab w_23 w1p17 w2p41 y13 y14) := hD
  have hz := lett_z hz ew_23
  refine lv_aload_n hx hb d_Pa_clear_133 rfl (lv_at hl 0 rfl) ?_
  refine lv_iconst (v := 1) hx hb d_Pa_clear_134 (by decide) ?_
  refine pfI C hP hD hS 0 17 fkPa rfl (by decide) rfl qf_Pa_74 rfl rfl rfl (Nat.le_of_ble_eq_true rfl) (ff := fun o => fPa qpae qpar qpau qpab o) (sPa_17 _ _ _ _ _ _) d_Pa_clear_135 (fun w_24 ew_24 H locs hP hD hS => ?_)
  have hP : va_P g.1 vwCl (wPa g qpa qpae qpar qpau qpab w_24 w1p17 w2p41 y13 y14) H := hP
  have hD : va_D (inW ws0) (wPa g qpa qpae qpar qpau qpab w_24 w1p17 w2p41 y13 y14) := hD
  have hz := lett_z hz ew_24
  exact endV C hz hP hS d_Pa_clear_138
noncomputable def bd_Pa_clear_41 (w_3 : IV) (w3 : IV) (w4 : IV) (w1p17 : IV) (r41 : Int32 → IV → (IV × IV × IV × IV × IV)) (x1p41 : Int32) (w2p41 : IV) : IV × IV × IV × IV × IV := if (5 : Int32) ≤ x1p41 then (sp_Pa_clear_63 w_3 w3 w4 w1p17 w2p41) else (lett (upd w2p41 x1p41.toNatClampNeg (0 : Int32)) fun (w_10 : IV) => lett (x1p41 + (1 : Int32)) fun (v11 : Int32) => r41 v11 w_10)
def okb_Pa_clear_41 (w_3 : IV) (w3 : IV) (w4 : IV) (w1p17 : IV) (r41 : Int32 → IV → (IV × IV × IV × IV × IV)) (q41 : Int32 → IV → Prop) (x1p41 : Int32) (w2p41 : IV) : Prop := (((5 : Int32) ≤ x1p41 → True) ∧ (¬ ((5 : Int32) ≤ x1p41) → (vp_in x1p41 5) ∧ lett (upd w2p41 x1p41.toNatClampNeg (0 : Int32)) fun (w_10 : IV) => lett (x1p41 + (1 : Int32)) fun (v11 : Int32) => q41 v11 w_10))
noncomputable def sp_Pa_clear_41 (w_3 : IV) (w3 : IV) (w4 : IV) (w1p17 : IV)  : Nat → Int32 → IV → (IV × IV × IV × IV × IV)
  | 0 => fun _ _ => default
  | f + 1 => bd_Pa_clear_41 w_3 w3 w4 w1p17  (sp_Pa_clear_41 w_3 w3 w4 w1p17  f)
def ok_Pa_clear_41 (w_3 : IV) (w3 : IV) (w4 : IV) (w1p17 : IV)   : Nat → Int32 → IV → Prop
  | 0 => fun _ _ => False
  | f + 1 => okb_Pa_clear_41 w_3 w3 w4 w1p17  (sp_Pa_clear_41 w_3 w3 w4 w1p17  f)  (ok_Pa_clear_41 w_3 w3 w4 w1p17   f)
set_option maxRecDepth 100000 in
set_option maxHeartbeats 4000000 in
theorem kb_Pa_clear_41 {p : Program} {l : Launch} {e : Env} {s : State} {m : MethodId} {args : Array Value} {below : List Frame} {meth : Method} {c : Code} {g : GX} {qpa : Nat} {qpae : Nat} {qpar : Nat} {qpau : Nat} {qpab : Nat} {ws0 : va_W} {w_3 : IV} {w1p17 : IV} {w3 : IV} {w4 : IV}  (C : Cx p s m args meth c (inW ws0) g "DecadeBridge$Parts" b_Pa_clear none 2) {r41 : Int32 → IV → (IV × IV × IV × IV × IV)} {q41 : Int32 → IV → Prop}  (ih41 : HL_Pa_clear_41 p l e s m args below meth c g qpa qpae qpar qpau qpab ws0 w_3 w1p17 w3 w4 r41 q41) : HL_Pa_clear_41 p l e s m args below meth c g qpa qpae qpar qpau qpab ws0 w_3 w1p17 w3 w4 (bd_Pa_clear_41 w_3 w3 w4 w1p17  r41) (okb_Pa_clear_41 w_3 w3 w4 w1p17  r41  q41) := by
  intro x1p41 w2p41 hok z hz H locs ls hP hD hS hl
  obtain ⟨hx, hb, hr, hml, hown, hlk, hts, hK, hZo, hZ⟩ := id C
  unfold bd_Pa_clear_41 at hz
  unfold okb_Pa_clear_41 at hok
  refine lv_iload_n hx hb d_Pa_clear_41 rfl (lv_at hl 1 rfl) ?_
  refine lv_aload_n hx hb d_Pa_clear_42 rfl (lv_at hl 0 rfl) ?_
  refine gf C hP 0 4 fkPa rfl (by decide) rfl qf_Pa_15 (gPa_4 _ _ _ _ _) d_Pa_clear_43 ?_
  refine alen C hP 2 rfl (t0 := 0) rfl (v := 5) rfl d_Pa_clear_46 ?_
  refine lv_icmp_ge (tgt := 63) hx hb d_Pa_clear_47 (by decide) (fun c8 => ?_) (fun c8 => ?_)
  · have hz := hz.trans (if_pos c8)
    exact k_Pa_clear_63 C () trivial _ hz _ _ ls hP hD hS (lv_sub hl [0] rfl)
  · have hz := hz.trans (if_neg c8)
    have hok := hok.2 c8
    refine lv_aload_n hx hb d_Pa_clear_50 rfl (lv_at hl 0 rfl) ?_
    refine gf C hP 0 4 fkPa rfl (by decide) rfl qf_Pa_15 (gPa_4 _ _ _ _ _) d_Pa_clear_51 ?_
    refine lv_iload_n hx hb d_Pa_clear_54 rfl (lv_at hl 1 rfl) ?_
    refine lv_iconst (v := 0) hx hb d_Pa_clear_55 (by decide) ?_
    have hs9 := hok.1
    have hok := hok.2
    refine stI C hP hD hS 2 rfl hs9 rfl d_Pa_clear_56 (fun w_10 ew_10 H locs hP hD hS => ?_)
    have hP : va_P g.1 vwCl (wPa g qpa qpae qpar qpau qpab w_3 w1p17 w_10 w3 w4) H := hP
    have hD : va_D (inW ws0) (wPa g qpa qpae qpar qpau qpab w_3 w1p17 w_10 w3 w4) := hD
    have hz := lett_z hz ew_10
    have hok := lett_o hok ew_10
    obtain ⟨v11, ev11⟩ : ∃ y : Int32, y = x1p41 + (1 : Int32) := ⟨_, rfl⟩
    have hz := lett_z hz ev11
    have hok := lett_o hok ev11
    refine lv_iinc (v := v11) (lv' := [(1, .int v11), (0, .ref qpa)]) hx hb d_Pa_clear_57 hl (k := 1) rfl (by rw [ev11]; rfl) (by decide) rfl (fun ls hl => ?_)
    refine lv_goto (tgt := 41) hx hb d_Pa_clear_60 (by decide) ?_
    exact ih41 v11 w_10 hok _ hz _ _ ls hP hD hS (lv_sub hl [1, 0] rfl)
theorem k_Pa_clear_41 {p : Program} {l : Launch} {e : Env} {s : State} {m : MethodId} {args : Array Value} {below : List Frame} {meth : Method} {c : Code} {g : GX} {qpa : Nat} {qpae : Nat} {qpar : Nat} {qpau : Nat} {qpab : Nat} {ws0 : va_W} {w_3 : IV} {w1p17 : IV} {w3 : IV} {w4 : IV}  (C : Cx p s m args meth c (inW ws0) g "DecadeBridge$Parts" b_Pa_clear none 2) (f : Nat)  : HL_Pa_clear_41 p l e s m args below meth c g qpa qpae qpar qpau qpab ws0 w_3 w1p17 w3 w4 (sp_Pa_clear_41 w_3 w3 w4 w1p17  f) (ok_Pa_clear_41 w_3 w3 w4 w1p17   f) := by
  induction f with
  | zero => intro x1p41 w2p41 hok; exact False.elim hok
  | succ f ih => exact kb_Pa_clear_41 C  ih
noncomputable def sp_Pa_clear_39 (w_3 : IV) (w3 : IV) (w4 : IV) (w1p17 : IV) (w2 : IV)   : IV × IV × IV × IV × IV := sp_Pa_clear_41 w_3 w3 w4 w1p17 big (0 : Int32) w2
def ok_Pa_clear_39 (w_3 : IV) (w3 : IV) (w4 : IV) (w1p17 : IV) (w2 : IV)    : Prop := ok_Pa_clear_41 w_3 w3 w4 w1p17 big (0 : Int32) w2
set_option maxRecDepth 100000 in
set_option maxHeartbeats 4000000 in
theorem k_Pa_clear_39 {p : Program} {l : Launch} {e : Env} {s : State} {m : MethodId} {args : Array Value} {below : List Frame} {meth : Method} {c : Code} {g : GX} {qpa : Nat} {qpae : Nat} {qpar : Nat} {qpau : Nat} {qpab : Nat} {ws0 : va_W} {w_3 : IV} {w1p17 : IV} {w2 : IV} {w3 : IV} {w4 : IV}  (C : Cx p s m args meth c (inW ws0) g "DecadeBridge$Parts" b_Pa_clear none 2)  : HL_Pa_clear_39 p l e s m args below meth c g qpa qpae qpar qpau qpab ws0 w_3 w1p17 w2 w3 w4 (sp_Pa_clear_39 w_3 w3 w4 w1p17 w2 ) (ok_Pa_clear_39 w_3 w3 w4 w1p17 w2  ) := by
  intro _ hok z hz H locs ls hP hD hS hl
  obtain ⟨hx, hb, hr, hml, hown, hlk, hts, hK, hZo, hZ⟩ := id C
  unfold sp_Pa_clear_39 at hz
  unfold ok_Pa_clear_39 at hok
  refine lv_iconst (v := 0) hx hb d_Pa_clear_39 (by decide) ?_
  refine lv_istore_n (lv' := [(1, .int (0 : Int32)), (0, .ref qpa)]) hx hb d_Pa_clear_40 rfl hl (by decide) rfl (fun ls hl => ?_)
  exact k_Pa_clear_41 C big (0 : Int32) w2 hok _ hz _ _ ls hP hD hS (lv_sub hl [1, 0] rfl)
noncomputable def bd_Pa_clear_17 (w_3 : IV) (w3 : IV) (w4 : IV) (w2 : IV) (r17 : Int32 → IV → (IV × IV × IV × IV × IV)) (x1p17 : Int32) (w1p17 : IV) : IV × IV × IV × IV × IV := if (4 : Int32) ≤ x1p17 then (sp_Pa_clear_39 w_3 w3 w4 w1p17 w2) else (lett (upd w1p17 x1p17.toNatClampNeg (0 : Int32)) fun (w_6 : IV) => lett (x1p17 + (1 : Int32)) fun (v7 : Int32) => r17 v7 w_6)
def okb_Pa_clear_17 (w_3 : IV) (w3 : IV) (w4 : IV) (w2 : IV) (r17 : Int32 → IV → (IV × IV × IV × IV × IV)) (q17 : Int32 → IV → Prop) (x1p17 : Int32) (w1p17 : IV) : Prop := (((4 : Int32) ≤ x1p17 → ok_Pa_clear_39 w_3 w3 w4 w1p17 w2) ∧ (¬ ((4 : Int32) ≤ x1p17) → (vp_in x1p17 4) ∧ lett (upd w1p17 x1p17.toNatClampNeg (0 : Int32)) fun (w_6 : IV) => lett (x1p17 + (1 : Int32)) fun (v7 : Int32) => q17 v7 w_6))
noncomputable def sp_Pa_clear_17 (w_3 : IV) (w3 : IV) (w4 : IV) (w2 : IV)  : Nat → Int32 → IV → (IV × IV × IV × IV × IV)
  | 0 => fun _ _ => default
  | f + 1 => bd_Pa_clear_17 w_3 w3 w4 w2  (sp_Pa_clear_17 w_3 w3 w4 w2  f)
def ok_Pa_clear_17 (w_3 : IV) (w3 : IV) (w4 : IV) (w2 : IV)   : Nat → Int32 → IV → Prop
  | 0 => fun _ _ => False
  | f + 1 => okb_Pa_clear_17 w_3 w3 w4 w2  (sp_Pa_clear_17 w_3 w3 w4 w2  f)  (ok_Pa_clear_17 w_3 w3 w4 w2   f)
set_option maxRecDepth 100000 in
set_option maxHeartbeats 4000000 in
theorem kb_Pa_clear_17 {p : Program} {l : Launch} {e : Env} {s : State} {m : MethodId} {args : Array Value} {below : List Frame} {meth : Method} {c : Code} {g : GX} {qpa : Nat} {qpae : Nat} {qpar : Nat} {qpau : Nat} {qpab : Nat} {ws0 : va_W} {w_3 : IV} {w2 : IV} {w3 : IV} {w4 : IV}  (C : Cx p s m args meth c (inW ws0) g "DecadeBridge$Parts" b_Pa_clear none 2) {r17 : Int32 → IV → (IV × IV × IV × IV × IV)} {q17 : Int32 → IV → Prop}  (ih17 : HL_Pa_clear_17 p l e s m args below meth c g qpa qpae qpar qpau qpab ws0 w_3 w2 w3 w4 r17 q17) : HL_Pa_clear_17 p l e s m args below meth c g qpa qpae qpar qpau qpab ws0 w_3 w2 w3 w4 (bd_Pa_clear_17 w_3 w3 w4 w2  r17) (okb_Pa_clear_17 w_3 w3 w4 w2  r17  q17) := by
  intro x1p17 w1p17 hok z hz H locs ls hP hD hS hl
  obtain ⟨hx, hb, hr, hml, hown, hlk, hts, hK, hZo, hZ⟩ := id C
  unfold bd_Pa_clear_17 at hz
  unfold okb_Pa_clear_17 at hok
  refine lv_iload_n hx hb d_Pa_clear_17 rfl (lv_at hl 1 rfl) ?_
  refine lv_aload_n hx hb d_Pa_clear_18 rfl (lv_at hl 0 rfl) ?_
  refine gf C hP 0 3 fkPa rfl (by decide) rfl qf_Pa_9 (gPa_3 _ _ _ _ _) d_Pa_clear_19 ?_
  refine alen C hP 1 rfl (t0 := 0) rfl (v := 4) rfl d_Pa_clear_22 ?_
  refine lv_icmp_ge (tgt := 39) hx hb d_Pa_clear_23 (by decide) (fun c4 => ?_) (fun c4 => ?_)
  · have hz := hz.trans (if_pos c4)
    have hok := hok.1 c4
    exact k_Pa_clear_39 C () hok _ hz _ _ ls hP hD hS (lv_sub hl [0] rfl)
  · have hz := hz.trans (if_neg c4)
    have hok := hok.2 c4
    refine lv_aload_n hx hb d_Pa_clear_26 rfl (lv_at hl 0 rfl) ?_
    refine gf C hP 0 3 fkPa rfl (by decide) rfl qf_Pa_9 (gPa_3 _ _ _ _ _) d_Pa_clear_27 ?_
    refine lv_iload_n hx hb d_Pa_clear_30 rfl (lv_at hl 1 rfl) ?_
    refine lv_iconst (v := 0) hx hb d_Pa_clear_31 (by decide) ?_
    have hs5 := hok.1
    have hok := hok.2
    refine stI C hP hD hS 1 rfl hs5 rfl d_Pa_clear_32 (fun w_6 ew_6 H locs hP hD hS => ?_)
    have hP : va_P g.1 vwCl (wPa g qpa qpae qpar qpau qpab w_3 w_6 w2 w3 w4) H := hP
    have hD : va_D (inW ws0) (wPa g qpa qpae qpar qpau qpab w_3 w_6 w2 w3 w4) := hD
    have hz := lett_z hz ew_6
    have hok := lett_o hok ew_6
    obtain ⟨v7, ev7⟩ : ∃ y : Int32, y = x1p17 + (1 : Int32) := ⟨_, rfl⟩
    have hz := lett_z hz ev7
    have hok := lett_o hok ev7
    refine lv_iinc (v := v7) (lv' := [(1, .int v7), (0, .ref qpa)]) hx hb d_Pa_clear_33 hl (k := 1) rfl (by rw [ev7]; rfl) (by decide) rfl (fun ls hl => ?_)
    refine lv_goto (tgt := 17) hx hb d_Pa_clear_36 (by decide) ?_
    exact ih17 v7 w_6 hok _ hz _ _ ls hP hD hS (lv_sub hl [1, 0] rfl)
theorem k_Pa_clear_17 {p : Program} {l : Launch} {e : Env} {s : State} {m : MethodId} {args : Array Value} {below : List Frame} {meth : Method} {c : Code} {g : GX} {qpa : Nat} {qpae : Nat} {qpar : Nat} {qpau : Nat} {qpab : Nat} {ws0 : va_W} {w_3 : IV} {w2 : IV} {w3 : IV} {w4 : IV}  (C : Cx p s m args meth c (inW ws0) g "DecadeBridge$Parts" b_Pa_clear none 2) (f : Nat)  : HL_Pa_clear_17 p l e s m args below meth c g qpa qpae qpar qpau qpab ws0 w_3 w2 w3 w4 (sp_Pa_clear_17 w_3 w3 w4 w2  f) (ok_Pa_clear_17 w_3 w3 w4 w2   f) := by
  induction f with
  | zero => intro x1p17 w1p17 hok; exact False.elim hok
  | succ f ih => exact kb_Pa_clear_17 C  ih
noncomputable def sp_Pa_clear (w0 : IV) (w1 : IV) (w2 : IV) (w3 : IV) (w4 : IV) : IV × IV × IV × IV × IV := lett (upd w0 0 (2 : Int32)) fun (w_1 : IV) => lett (upd w_1 1 (1 : Int32)) fun (w_2 : IV) => lett (upd w_2 2 (0 : Int32)) fun (w_3 : IV) => sp_Pa_clear_17 w_3 w3 w4 w2 big (0 : Int32) w1
def ok_Pa_clear (w0 : IV) (w1 : IV) (w2 : IV) (w3 : IV) (w4 : IV) : Prop := lett (upd w0 0 (2 : Int32)) fun (w_1 : IV) => lett (upd w_1 1 (1 : Int32)) fun (w_2 : IV) => lett (upd w_2 2 (0 : Int32)) fun (w_3 : IV) => ok_Pa_clear_17 w_3 w3 w4 w2 big (0 : Int32) w1
set_option maxRecDepth 100000 in
set_option maxHeartbeats 4000000 in
theorem c_Pa_clear (l : Launch) (g : GX) (qpa : Nat) (qpae : Nat) (qpar : Nat) (qpau : Nat) (qpab : Nat) (w0 : IV) (w1 : IV) (w2 : IV) (w3 : IV) (w4 : IV)  (hok : ok_Pa_clear w0 w1 w2 w3 w4) : Met l y_Pa_clear (wsY y_Pa_clear b_Pa_clear 2 none) rm_Pa_clear (CP g [.ref qpa] (wPa g qpa qpae qpar qpau qpab w0 w1 w2 w3 w4)) (CV g (wPa g qpa qpae qpar qpau qpab w0 w1 w2 w3 w4) (fun u : IV × IV × IV × IV × IV => wPa g qpa qpae qpar qpau qpab u.1 u.2.1 u.2.2.1 u.2.2.2.1 u.2.2.2.2) (sp_Pa_clear w0 w1 w2 w3 w4)) 0 0 (inW (wPa g qpa qpae qpar qpau qpab w0 w1 w2 w3 w4)) := by
  refine Met.ofW (cc := b_Pa_clear) (maxL := 2) (ret := none) pn_Pa rfl ?_
  intro p e s m args below meth c s₁ B hml hv
  obtain ⟨rfl, C, hP, hD, hS⟩ := enter "DecadeBridge$Parts" rfl B hml hv
  obtain ⟨hx, hb, hr, hml, hown, hlk, hts, hK, hZo, hZ⟩ := id C
  refine entryW (lv := [(0, .ref qpa)]) rfl (Nat.le_of_ble_eq_true rfl) (fun ls hl => ?_)
  obtain ⟨z, hz⟩ : ∃ z, z = sp_Pa_clear w0 w1 w2 w3 w4 := ⟨_, rfl⟩
  rw [← hz]
  unfold sp_Pa_clear at hz
  unfold ok_Pa_clear at hok
  refine lv_aload_n hx hb d_Pa_clear_0 rfl (lv_at hl 0 rfl) ?_
  refine lv_iconst (v := 2) hx hb d_Pa_clear_1 (by decide) ?_
  refine pfI C hP hD hS 0 0 fkPa rfl (by decide) rfl qf_Pa_31 rfl rfl rfl (Nat.le_of_ble_eq_true rfl) (ff := fun o => fPa qpae qpar qpau qpab o) (sPa_0 _ _ _ _ _ _) d_Pa_clear_2 (fun w_1 ew_1 H locs hP hD hS => ?_)
  have hP : va_P g.1 vwCl (wPa g qpa qpae qpar qpau qpab w_1 w1 w2 w3 w4) H := hP
  have hD : va_D (inW (wPa g qpa qpae qpar qpau qpab w0 w1 w2 w3 w4)) (wPa g qpa qpae qpar qpau qpab w_1 w1 w2 w3 w4) := hD
  have hz := lett_z hz ew_1
  have hok := lett_o hok ew_1
  refine lv_aload_n hx hb d_Pa_clear_5 rfl (lv_at hl 0 rfl) ?_
  refine lv_iconst (v := 1) hx hb d_Pa_clear_6 (by decide) ?_
  refine pfI C hP hD hS 0 1 fkPa rfl (by decide) rfl qf_Pa_35 rfl rfl rfl (Nat.le_of_ble_eq_true rfl) (ff := fun o => fPa qpae qpar qpau qpab o) (sPa_1 _ _ _ _ _ _) d_Pa_clear_7 (fun w_2 ew_2 H locs hP hD hS => ?_)
  have hP : va_P g.1 vwCl (wPa g qpa qpae qpar qpau qpab w_2 w1 w2 w3 w4) H := hP
  have hD : va_D (inW (wPa g qpa qpae qpar qpau qpab w0 w1 w2 w3 w4)) (wPa g qpa qpae qpar qpau qpab w_2 w1 w2 w3 w4) := hD
  have hz := lett_z hz ew_2
  have hok := lett_o hok ew_2
  refine lv_aload_n hx hb d_Pa_clear_10 rfl (lv_at hl 0 rfl) ?_
  refine lv_iconst (v := 0) hx hb d_Pa_clear_11 (by decide) ?_
  refine pfI C hP hD hS 0 2 fkPa rfl (by decide) rfl qf_Pa_38 rfl rfl rfl (Nat.le_of_ble_eq_true rfl) (ff := fun o => fPa qpae qpar qpau qpab o) (sPa_2 _ _ _ _ _ _) d_Pa_clear_12 (fun w_3 ew_3 H locs hP hD hS => ?_)
  have hP : va_P g.1 vwCl (wPa g qpa qpae qpar qpau qpab w_3 w1 w2 w3 w4) H := hP
  have hD : va_D (inW (wPa g qpa qpae qpar qpau qpab w0 w1 w2 w3 w4)) (wPa g qpa qpae qpar qpau qpab w_3 w1 w2 w3 w4) := hD
  have hz := lett_z hz ew_3
  have hok := lett_o hok ew_3
  refine lv_iconst (v := 0) hx hb d_Pa_clear_15 (by decide) ?_
  refine lv_istore_n (lv' := [(1, .int (0 : Int32)), (0, .ref qpa)]) hx hb d_Pa_clear_16 rfl hl (by decide) rfl (fun ls hl => ?_)
  exact k_Pa_clear_17 C big (0 : Int32) w1 hok _ hz _ _ ls hP hD hS (lv_sub hl [1, 0] rfl)
abbrev rm_Pa_tenTo : Room := { frames := 0, cells := 0, slots := 0, locals := 0 }
def HL_Pa_tenTo_4 (p : Program) (l : Launch) (e : Env) (s : State) (m : MethodId) (args : Array Value) (below : List Frame) (meth : Method) (c : Code) (g : GX)  (p1 : Int32) (sp : Int32 → Int32 → Int32) (ok : Int32 → Int32 → Prop) : Prop := ∀ (x1p4 : Int32) (x2p4 : Int32), ok x1p4 x2p4 → ∀ z : Int32, z = sp x1p4 x2p4 → ∀ (H : Heap) (locs : List Loc) (ls : Array Slot), va_P g.1 vwCl (wNil g ) H → va_D (inW (wNil g )) (wNil g ) → va_S (inW (wNil g )) s.heap H locs → lv_has ls 3 [(0, .int p1), (1, .int x1p4), (2, .int x2p4)] → W p l e rm_Pa_tenTo s m args below meth c H locs 0 0 (MQ below (CI0 g (wNil g ) z) args s 0 0 (inW (wNil g ))) (F0 m 4 ls [])
noncomputable def bd_Pa_tenTo_4 (p1 : Int32) (r4 : Int32 → Int32 → Int32) (x1p4 : Int32) (x2p4 : Int32) : Int32 := if p1 ≤ x2p4 then (x1p4) else (if (9 : Int32) ≤ x2p4 then (x1p4) else (lett (x1p4 * (10 : Int32)) fun (v3 : Int32) => lett (x2p4 + (1 : Int32)) fun (v4 : Int32) => r4 v3 v4))
def okb_Pa_tenTo_4 (p1 : Int32) (r4 : Int32 → Int32 → Int32) (q4 : Int32 → Int32 → Prop) (x1p4 : Int32) (x2p4 : Int32) : Prop := ((p1 ≤ x2p4 → True) ∧ (¬ (p1 ≤ x2p4) → (((9 : Int32) ≤ x2p4 → True) ∧ (¬ ((9 : Int32) ≤ x2p4) → lett (x1p4 * (10 : Int32)) fun (v3 : Int32) => lett (x2p4 + (1 : Int32)) fun (v4 : Int32) => q4 v3 v4))))
noncomputable def sp_Pa_tenTo_4 (p1 : Int32)  : Nat → Int32 → Int32 → Int32
  | 0 => fun _ _ => default
  | f + 1 => bd_Pa_tenTo_4 p1  (sp_Pa_tenTo_4 p1  f)
def ok_Pa_tenTo_4 (p1 : Int32)   : Nat → Int32 → Int32 → Prop
  | 0 => fun _ _ => False
  | f + 1 => okb_Pa_tenTo_4 p1  (sp_Pa_tenTo_4 p1  f)  (ok_Pa_tenTo_4 p1   f)
set_option maxRecDepth 100000 in
set_option maxHeartbeats 4000000 in
theorem kb_Pa_tenTo_4 {p : Program} {l : Launch} {e : Env} {s : State} {m : MethodId} {args : Array Value} {below : List Frame} {meth : Method} {c : Code} {g : GX}  {p1 : Int32}  (C : Cx p s m args meth c (inW (wNil g )) g "DecadeBridge$Parts" b_Pa_tenTo (some .int) 3) {r4 : Int32 → Int32 → Int32} {q4 : Int32 → Int32 → Prop}  (ih4 : HL_Pa_tenTo_4 p l e s m args below meth c g  p1 r4 q4) : HL_Pa_tenTo_4 p l e s m args below meth c g  p1 (bd_Pa_tenTo_4 p1  r4) (okb_Pa_tenTo_4 p1  r4  q4) := by
  intro x1p4 x2p4 hok z hz H locs ls hP hD hS hl
  obtain ⟨hx, hb, hr, hml, hown, hlk, hts, hK, hZo, hZ⟩ := id C
  unfold bd_Pa_tenTo_4 at hz
  unfold okb_Pa_tenTo_4 at hok
  refine lv_iload_n hx hb d_Pa_tenTo_4 rfl (lv_at hl 2 rfl) ?_
  refine lv_iload_n hx hb d_Pa_tenTo_5 rfl (lv_at hl 0 rfl) ?_
  refine lv_icmp_ge (tgt := 26) hx hb d_Pa_tenTo_6 (by decide) (fun c1 => ?_) (fun c1 => ?_)
  · have hz := hz.trans (if_pos c1)
    refine lv_iload_n hx hb d_Pa_tenTo_26 rfl (lv_at hl 1 rfl) ?_
    exact endI0 C hz hP hS d_Pa_tenTo_27
  · have hz := hz.trans (if_neg c1)
    have hok := hok.2 c1
    refine lv_iload_n hx hb d_Pa_tenTo_9 rfl (lv_at hl 2 rfl) ?_
    refine lv_bipush (v := 9) hx hb d_Pa_tenTo_10 (by decide) ?_
    refine lv_icmp_ge (tgt := 26) hx hb d_Pa_tenTo_12 (by decide) (fun c2 => ?_) (fun c2 => ?_)
    · have hz := hz.trans (if_pos c2)
      refine lv_iload_n hx hb d_Pa_tenTo_26 rfl (lv_at hl 1 rfl) ?_
      exact endI0 C hz hP hS d_Pa_tenTo_27
    · have hz := hz.trans (if_neg c2)
      have hok := hok.2 c2
      refine lv_iload_n hx hb d_Pa_tenTo_15 rfl (lv_at hl 1 rfl) ?_
      refine lv_bipush (v := 10) hx hb d_Pa_tenTo_16 (by decide) ?_
      refine lv_imul hx hb d_Pa_tenTo_18 ?_
      refine lv_topi (fun v3 ev3 => ?_)
      have hz := lett_z hz ev3
      have hok := lett_o hok ev3
      refine lv_istore_n (lv' := [(1, .int v3), (0, .int p1), (2, .int x2p4)]) hx hb d_Pa_tenTo_19 rfl hl (by decide) rfl (fun ls hl => ?_)
      obtain ⟨v4, ev4⟩ : ∃ y : Int32, y = x2p4 + (1 : Int32) := ⟨_, rfl⟩
      have hz := lett_z hz ev4
      have hok := lett_o hok ev4
      refine lv_iinc (v := v4) (lv' := [(2, .int v4), (1, .int v3), (0, .int p1)]) hx hb d_Pa_tenTo_20 hl (k := 2) rfl (by rw [ev4]; rfl) (by decide) rfl (fun ls hl => ?_)
      refine lv_goto (tgt := 4) hx hb d_Pa_tenTo_23 (by decide) ?_
      exact ih4 v3 v4 hok _ hz _ _ ls hP hD hS (lv_sub hl [2, 1, 0] rfl)
theorem k_Pa_tenTo_4 {p : Program} {l : Launch} {e : Env} {s : State} {m : MethodId} {args : Array Value} {below : List Frame} {meth : Method} {c : Code} {g : GX}  {p1 : Int32}  (C : Cx p s m args meth c (inW (wNil g )) g "DecadeBridge$Parts" b_Pa_tenTo (some .int) 3) (f : Nat)  : HL_Pa_tenTo_4 p l e s m args below meth c g  p1 (sp_Pa_tenTo_4 p1  f) (ok_Pa_tenTo_4 p1   f) := by
  induction f with
  | zero => intro x1p4 x2p4 hok; exact False.elim hok
  | succ f ih => exact kb_Pa_tenTo_4 C  ih
noncomputable def sp_Pa_tenTo (p1 : Int32) : Int32 := sp_Pa_tenTo_4 p1 big (1 : Int32) (0 : Int32)
def ok_Pa_tenTo (p1 : Int32) : Prop := ok_Pa_tenTo_4 p1 big (1 : Int32) (0 : Int32)
set_option maxRecDepth 100000 in
set_option maxHeartbeats 4000000 in
theorem c_Pa_tenTo (l : Launch) (g : GX)   (p1 : Int32) (hok : ok_Pa_tenTo p1) : Met l y_Pa_tenTo (wsY y_Pa_tenTo b_Pa_tenTo 3 (some .int)) rm_Pa_tenTo (CP g [.int p1] (wNil g )) (CI0 g (wNil g ) (sp_Pa_tenTo p1)) 0 0 (inW (wNil g )) := by
  refine Met.ofW (cc := b_Pa_tenTo) (maxL := 3) (ret := (some .int)) pn_Pa rfl ?_
  intro p e s m args below meth c s₁ B hml hv
  obtain ⟨rfl, C, hP, hD, hS⟩ := enter "DecadeBridge$Parts" rfl B hml hv
  obtain ⟨hx, hb, hr, hml, hown, hlk, hts, hK, hZo, hZ⟩ := id C
  refine entryW (lv := [(0, .int p1)]) rfl (Nat.le_of_ble_eq_true rfl) (fun ls hl => ?_)
  obtain ⟨z, hz⟩ : ∃ z, z = sp_Pa_tenTo p1 := ⟨_, rfl⟩
  rw [← hz]
  unfold sp_Pa_tenTo at hz
  unfold ok_Pa_tenTo at hok
  refine lv_iconst (v := 1) hx hb d_Pa_tenTo_0 (by decide) ?_
  refine lv_istore_n (lv' := [(1, .int (1 : Int32)), (0, .int p1)]) hx hb d_Pa_tenTo_1 rfl hl (by decide) rfl (fun ls hl => ?_)
  refine lv_iconst (v := 0) hx hb d_Pa_tenTo_2 (by decide) ?_
  refine lv_istore_n (lv' := [(2, .int (0 : Int32)), (1, .int (1 : Int32)), (0, .int p1)]) hx hb d_Pa_tenTo_3 rfl hl (by decide) rfl (fun ls hl => ?_)
  exact k_Pa_tenTo_4 C big (1 : Int32) (0 : Int32) hok _ hz _ _ ls hP hD hS (lv_sub hl [2, 1, 0] rfl)
abbrev rm_Pa_nominalOf : Room := { frames := 0, cells := 0, slots := 0, locals := 0 }
def HL_Pa_nominalOf_20 (p : Program) (l : Launch) (e : Env) (s : State) (m : MethodId) (args : Array Value) (below : List Frame) (meth : Method) (c : Code) (g : GX)   (sp : Int32) (ok : Prop) : Prop := ∀ (_ : Unit), ok → ∀ z : Int32, z = sp → ∀ (H : Heap) (locs : List Loc) (ls : Array Slot), va_P g.1 vwCl (wNil g ) H → va_D (inW (wNil g )) (wNil g ) → va_S (inW (wNil g )) s.heap H locs → lv_has ls 1 [] → W p l e rm_Pa_nominalOf s m args below meth c H locs 0 0 (MQ below (CI0 g (wNil g ) z) args s 0 0 (inW (wNil g ))) (F0 m 20 ls [])
noncomputable def sp_Pa_nominalOf_20    : Int32 := (0 : Int32)
def ok_Pa_nominalOf_20     : Prop := True
set_option maxRecDepth 100000 in
set_option maxHeartbeats 4000000 in
theorem k_Pa_nominalOf_20 {p : Program} {l : Launch} {e : Env} {s : State} {m : MethodId} {args : Array Value} {below : List Frame} {meth : Method} {c : Code} {g : GX}    (C : Cx p s m args meth c (inW (wNil g )) g "DecadeBridge$Parts" b_Pa_nominalOf (some .int) 1)  : HL_Pa_nominalOf_20 p l e s m args below meth c g   (sp_Pa_nominalOf_20  ) (ok_Pa_nominalOf_20   ) := by
  intro _ hok z hz H locs ls hP hD hS hl
  obtain ⟨hx, hb, hr, hml, hown, hlk, hts, hK, hZo, hZ⟩ := id C
  unfold sp_Pa_nominalOf_20 at hz
  refine lv_iconst (v := 0) hx hb d_Pa_nominalOf_20 (by decide) ?_
  exact endI0 C hz hP hS d_Pa_nominalOf_21
noncomputable def sp_Pa_nominalOf (p1 : Int32) : Int32 := if p1 < 0 then (sp_Pa_nominalOf_20) else (if (5 : Int32) ≤ p1 then (sp_Pa_nominalOf_20) else (nomF p1.toNatClampNeg))
set_option maxRecDepth 100000 in
set_option maxHeartbeats 4000000 in
theorem c_Pa_nominalOf (l : Launch) (g : GX)   (p1 : Int32) : Met l y_Pa_nominalOf (wsY y_Pa_nominalOf b_Pa_nominalOf 1 (some .int)) rm_Pa_nominalOf (CP g [.int p1] (wNil g )) (CI0 g (wNil g ) (sp_Pa_nominalOf p1)) 0 0 (inW (wNil g )) := by
  refine Met.ofW (cc := b_Pa_nominalOf) (maxL := 1) (ret := (some .int)) pn_Pa rfl ?_
  intro p e s m args below meth c s₁ B hml hv
  obtain ⟨rfl, C, hP, hD, hS⟩ := enter "DecadeBridge$Parts" rfl B hml hv
  obtain ⟨hx, hb, hr, hml, hown, hlk, hts, hK, hZo, hZ⟩ := id C
  refine entryW (lv := [(0, .int p1)]) rfl (Nat.le_of_ble_eq_true rfl) (fun ls hl => ?_)
  obtain ⟨z, hz⟩ : ∃ z, z = sp_Pa_nominalOf p1 := ⟨_, rfl⟩
  rw [← hz]
  unfold sp_Pa_nominalOf at hz
  refine lv_iload_n hx hb d_Pa_nominalOf_0 rfl (lv_at hl 0 rfl) ?_
  refine lv_if_lt (tgt := 20) hx hb d_Pa_nominalOf_1 (by decide) (fun c1 => ?_) (fun c1 => ?_)
  · have hz := hz.trans (if_pos c1)
    exact k_Pa_nominalOf_20 C () trivial _ hz _ _ ls hP hD hS (lv_sub hl [] rfl)
  · have hz := hz.trans (if_neg c1)
    refine lv_iload_n hx hb d_Pa_nominalOf_4 rfl (lv_at hl 0 rfl) ?_
    refine va_gets hx hb (zNom hZo hZ).1 hS hown (hts _ qf_Pa_88) (fun _ h9 => h9) d_Pa_nominalOf_5 ?_
    refine va_tlen hx hb (zNom hZo hZ).2 hS (v := 5) (by decide) d_Pa_nominalOf_8 ?_
    refine lv_icmp_ge (tgt := 20) hx hb d_Pa_nominalOf_9 (by decide) (fun c2 => ?_) (fun c2 => ?_)
    · have hz := hz.trans (if_pos c2)
      exact k_Pa_nominalOf_20 C () trivial _ hz _ _ ls hP hD hS (lv_sub hl [] rfl)
    · have hz := hz.trans (if_neg c2)
      refine va_gets hx hb (zNom hZo hZ).1 hS hown (hts _ qf_Pa_88) (fun _ h9 => h9) d_Pa_nominalOf_12 ?_
      refine lv_iload_n hx hb d_Pa_nominalOf_15 rfl (lv_at hl 0 rfl) ?_
      refine va_ti hx hb (zNom hZo hZ).2 hS (vi2 (vlo c1) (vhi c2) (by decide)) (v := .int (nomF p1.toNatClampNeg)) rfl d_Pa_nominalOf_16 ?_
      refine lv_goto (tgt := 21) hx hb d_Pa_nominalOf_17 (by decide) ?_
      exact endI0 C hz hP hS d_Pa_nominalOf_21
abbrev rm_Pa_settings : Room := { frames := 1, cells := 0, slots := 0, locals := 22 }
noncomputable def sp_Pa_settings (w0 : IV) : Int32 := lett (sp_Pa_tenTo (w0 0)) fun (y2 : Int32) => y2
def ok_Pa_settings (w0 : IV) : Prop := (ok_Pa_tenTo (w0 0)) ∧ True
set_option maxRecDepth 100000 in
set_option maxHeartbeats 4000000 in
theorem c_Pa_settings (l : Launch) (g : GX) (qpa : Nat) (qpae : Nat) (qpar : Nat) (qpau : Nat) (qpab : Nat) (w0 : IV) (w1 : IV) (w2 : IV) (w3 : IV) (w4 : IV)  (hok : ok_Pa_settings w0) : Met l y_Pa_settings (wsY y_Pa_settings b_Pa_settings 1 (some .int)) rm_Pa_settings (CP g [.ref qpa] (wPa g qpa qpae qpar qpau qpab w0 w1 w2 w3 w4)) (CI0 g (wPa g qpa qpae qpar qpau qpab w0 w1 w2 w3 w4) (sp_Pa_settings w0)) 0 0 (inW (wPa g qpa qpae qpar qpau qpab w0 w1 w2 w3 w4)) := by
  refine Met.ofW (cc := b_Pa_settings) (maxL := 1) (ret := (some .int)) pn_Pa rfl ?_
  intro p e s m args below meth c s₁ B hml hv
  obtain ⟨rfl, C, hP, hD, hS⟩ := enter "DecadeBridge$Parts" rfl B hml hv
  obtain ⟨hx, hb, hr, hml, hown, hlk, hts, hK, hZo, hZ⟩ := id C
  refine entryW (lv := [(0, .ref qpa)]) rfl (Nat.le_of_ble_eq_true rfl) (fun ls hl => ?_)
  obtain ⟨z, hz⟩ : ∃ z, z = sp_Pa_settings w0 := ⟨_, rfl⟩
  rw [← hz]
  unfold sp_Pa_settings at hz
  unfold ok_Pa_settings at hok
  refine lv_aload_n hx hb d_Pa_settings_0 rfl (lv_at hl 0 rfl) ?_
  refine gf C hP 0 0 fkPa rfl (by decide) rfl qf_Pa_31 (gPa_0 _ _ _ _ _) d_Pa_settings_1 ?_
  have hs1 := hok.1
  have hok := hok.2
  have hB : SubW g (inW (wPa g qpa qpae qpar qpau qpab w0 w1 w2 w3 w4)) s (wPa g qpa qpae qpar qpau qpab w0 w1 w2 w3 w4) (wNil g ) [] _ _ := ⟨rfl, rfl, hP, hD, hS⟩
  refine goI0 hB (run_s C mf_Pa_tenTo qm_Pa_91 (c_Pa_tenTo l g (w0 0) hs1) rfl rfl ⟨Nat.le_of_ble_eq_true rfl, Nat.le_of_ble_eq_true rfl⟩ ⟨Nat.le_of_ble_eq_true rfl, Nat.le_of_ble_eq_true rfl⟩ hB hl rfl rfl (Nat.le_of_ble_eq_true rfl) d_Pa_settings_4) (fun y2 ey2 H locs hP hS => ?_)
  have hz := lett_z hz ey2
  exact endI0 C hz hP hS d_Pa_settings_7
abbrev rm_Pa_weightOf : Room := { frames := 1, cells := 0, slots := 0, locals := 22 }
noncomputable def sp_Pa_weightOf (p1 : Int32) (w0 : IV) : Int32 := lett (sp_Pa_tenTo (((w0 0) - (1 : Int32)) - p1)) fun (y2 : Int32) => y2
def ok_Pa_weightOf (p1 : Int32) (w0 : IV) : Prop := (ok_Pa_tenTo (((w0 0) - (1 : Int32)) - p1)) ∧ True
set_option maxRecDepth 100000 in
set_option maxHeartbeats 4000000 in
theorem c_Pa_weightOf (l : Launch) (g : GX) (qpa : Nat) (qpae : Nat) (qpar : Nat) (qpau : Nat) (qpab : Nat) (w0 : IV) (w1 : IV) (w2 : IV) (w3 : IV) (w4 : IV) (p1 : Int32) (hok : ok_Pa_weightOf p1 w0) : Met l y_Pa_weightOf (wsY y_Pa_weightOf b_Pa_weightOf 2 (some .int)) rm_Pa_weightOf (CP g [.ref qpa, .int p1] (wPa g qpa qpae qpar qpau qpab w0 w1 w2 w3 w4)) (CI0 g (wPa g qpa qpae qpar qpau qpab w0 w1 w2 w3 w4) (sp_Pa_weightOf p1 w0)) 0 0 (inW (wPa g qpa qpae qpar qpau qpab w0 w1 w2 w3 w4)) := by
  refine Met.ofW (cc := b_Pa_weightOf) (maxL := 2) (ret := (some .int)) pn_Pa rfl ?_
  intro p e s m args below meth c s₁ B hml hv
  obtain ⟨rfl, C, hP, hD, hS⟩ := enter "DecadeBridge$Parts" rfl B hml hv
  obtain ⟨hx, hb, hr, hml, hown, hlk, hts, hK, hZo, hZ⟩ := id C
  refine entryW (lv := [(0, .ref qpa), (1, .int p1)]) rfl (Nat.le_of_ble_eq_true rfl) (fun ls hl => ?_)
  obtain ⟨z, hz⟩ : ∃ z, z = sp_Pa_weightOf p1 w0 := ⟨_, rfl⟩
  rw [← hz]
  unfold sp_Pa_weightOf at hz
  unfold ok_Pa_weightOf at hok
  refine lv_aload_n hx hb d_Pa_weightOf_0 rfl (lv_at hl 0 rfl) ?_
  refine gf C hP 0 0 fkPa rfl (by decide) rfl qf_Pa_31 (gPa_0 _ _ _ _ _) d_Pa_weightOf_1 ?_
  refine lv_iconst (v := 1) hx hb d_Pa_weightOf_4 (by decide) ?_
  refine lv_isub hx hb d_Pa_weightOf_5 ?_
  refine lv_iload_n hx hb d_Pa_weightOf_6 rfl (lv_at hl 1 rfl) ?_
  refine lv_isub hx hb d_Pa_weightOf_7 ?_
  have hs1 := hok.1
  have hok := hok.2
  have hB : SubW g (inW (wPa g qpa qpae qpar qpau qpab w0 w1 w2 w3 w4)) s (wPa g qpa qpae qpar qpau qpab w0 w1 w2 w3 w4) (wNil g ) [] _ _ := ⟨rfl, rfl, hP, hD, hS⟩
  refine goI0 hB (run_s C mf_Pa_tenTo qm_Pa_91 (c_Pa_tenTo l g (((w0 0) - (1 : Int32)) - p1) hs1) rfl rfl ⟨Nat.le_of_ble_eq_true rfl, Nat.le_of_ble_eq_true rfl⟩ ⟨Nat.le_of_ble_eq_true rfl, Nat.le_of_ble_eq_true rfl⟩ hB hl rfl rfl (Nat.le_of_ble_eq_true rfl) d_Pa_weightOf_8) (fun y2 ey2 H locs hP hS => ?_)
  have hz := lett_z hz ey2
  exact endI0 C hz hP hS d_Pa_weightOf_11
abbrev rm_Pa_stepOf : Room := { frames := 2, cells := 0, slots := 0, locals := 43 }
noncomputable def sp_Pa_stepOf (p1 : Int32) (w0 : IV) : Int32 := lett (sp_Pa_weightOf p1 w0) fun (y2 : Int32) => (w0 1) * y2
def ok_Pa_stepOf (p1 : Int32) (w0 : IV) : Prop := (ok_Pa_weightOf p1 w0) ∧ True
set_option maxRecDepth 100000 in
set_option maxHeartbeats 4000000 in
theorem c_Pa_stepOf (l : Launch) (g : GX) (qpa : Nat) (qpae : Nat) (qpar : Nat) (qpau : Nat) (qpab : Nat) (w0 : IV) (w1 : IV) (w2 : IV) (w3 : IV) (w4 : IV) (p1 : Int32) (hok : ok_Pa_stepOf p1 w0) : Met l y_Pa_stepOf (wsY y_Pa_stepOf b_Pa_stepOf 2 (some .int)) rm_Pa_stepOf (CP g [.ref qpa, .int p1] (wPa g qpa qpae qpar qpau qpab w0 w1 w2 w3 w4)) (CI0 g (wPa g qpa qpae qpar qpau qpab w0 w1 w2 w3 w4) (sp_Pa_stepOf p1 w0)) 0 0 (inW (wPa g qpa qpae qpar qpau qpab w0 w1 w2 w3 w4)) := by
  refine Met.ofW (cc := b_Pa_stepOf) (maxL := 2) (ret := (some .int)) pn_Pa rfl ?_
  intro p e s m args below meth c s₁ B hml hv
  obtain ⟨rfl, C, hP, hD, hS⟩ := enter "DecadeBridge$Parts" rfl B hml hv
  obtain ⟨hx, hb, hr, hml, hown, hlk, hts, hK, hZo, hZ⟩ := id C
  refine entryW (lv := [(0, .ref qpa), (1, .int p1)]) rfl (Nat.le_of_ble_eq_true rfl) (fun ls hl => ?_)
  obtain ⟨z, hz⟩ : ∃ z, z = sp_Pa_stepOf p1 w0 := ⟨_, rfl⟩
  rw [← hz]
  unfold sp_Pa_stepOf at hz
  unfold ok_Pa_stepOf at hok
  refine lv_aload_n hx hb d_Pa_stepOf_0 rfl (lv_at hl 0 rfl) ?_
  refine gf C hP 0 1 fkPa rfl (by decide) rfl qf_Pa_35 (gPa_1 _ _ _ _ _) d_Pa_stepOf_1 ?_
  refine lv_aload_n hx hb d_Pa_stepOf_4 rfl (lv_at hl 0 rfl) ?_
  refine lv_iload_n hx hb d_Pa_stepOf_5 rfl (lv_at hl 1 rfl) ?_
  have hs1 := hok.1
  have hok := hok.2
  have hB : SubW g (inW (wPa g qpa qpae qpar qpau qpab w0 w1 w2 w3 w4)) s (wPa g qpa qpae qpar qpau qpab w0 w1 w2 w3 w4) _ (List.range _) _ _ := (subF hP hD hS)
  refine goI0 hB (run_v C mf_Pa_weightOf qm_Pa_94 (c_Pa_weightOf l g qpa qpae qpar qpau qpab w0 w1 w2 w3 w4 p1 hs1) rfl rfl ⟨Nat.le_of_ble_eq_true rfl, Nat.le_of_ble_eq_true rfl⟩ ⟨Nat.le_of_ble_eq_true rfl, Nat.le_of_ble_eq_true rfl⟩ hB rfl rfl hl rfl rfl (Nat.le_of_ble_eq_true rfl) d_Pa_stepOf_6) (fun y2 ey2 H locs hP hS => ?_)
  have hz := lett_z hz ey2
  refine lv_imul hx hb d_Pa_stepOf_9 ?_
  exact endI0 C hz hP hS d_Pa_stepOf_10
abbrev rm_Pa_digitOf : Room := { frames := 2, cells := 0, slots := 0, locals := 43 }
noncomputable def sp_Pa_digitOf (p1 : Int32) (p2 : Int32) (w0 : IV) : Int32 := lett (sp_Pa_weightOf p2 w0) fun (y2 : Int32) => if (1 : Int32) ≤ y2 then ((p1 / y2) - (p1 / y2) / (10 : Int32) * (10 : Int32)) else ((0 : Int32))
def ok_Pa_digitOf (p1 : Int32) (p2 : Int32) (w0 : IV) : Prop := (ok_Pa_weightOf p2 w0) ∧ lett (sp_Pa_weightOf p2 w0) fun (y2 : Int32) => (((1 : Int32) ≤ y2 → (¬ y2 = 0) ∧ True) ∧ (¬ ((1 : Int32) ≤ y2) → True))
set_option maxRecDepth 100000 in
set_option maxHeartbeats 4000000 in
theorem c_Pa_digitOf (l : Launch) (g : GX) (qpa : Nat) (qpae : Nat) (qpar : Nat) (qpau : Nat) (qpab : Nat) (w0 : IV) (w1 : IV) (w2 : IV) (w3 : IV) (w4 : IV) (p1 : Int32) (p2 : Int32) (hok : ok_Pa_digitOf p1 p2 w0) : Met l y_Pa_digitOf (wsY y_Pa_digitOf b_Pa_digitOf 4 (some .int)) rm_Pa_digitOf (CP g [.ref qpa, .int p1, .int p2] (wPa g qpa qpae qpar qpau qpab w0 w1 w2 w3 w4)) (CI0 g (wPa g qpa qpae qpar qpau qpab w0 w1 w2 w3 w4) (sp_Pa_digitOf p1 p2 w0)) 0 0 (inW (wPa g qpa qpae qpar qpau qpab w0 w1 w2 w3 w4)) := by
  refine Met.ofW (cc := b_Pa_digitOf) (maxL := 4) (ret := (some .int)) pn_Pa rfl ?_
  intro p e s m args below meth c s₁ B hml hv
  obtain ⟨rfl, C, hP, hD, hS⟩ := enter "DecadeBridge$Parts" rfl B hml hv
  obtain ⟨hx, hb, hr, hml, hown, hlk, hts, hK, hZo, hZ⟩ := id C
  refine entryW (lv := [(0, .ref qpa), (1, .int p1), (2, .int p2)]) rfl (Nat.le_of_ble_eq_true rfl) (fun ls hl => ?_)
  obtain ⟨z, hz⟩ : ∃ z, z = sp_Pa_digitOf p1 p2 w0 := ⟨_, rfl⟩
  rw [← hz]
  unfold sp_Pa_digitOf at hz
  unfold ok_Pa_digitOf at hok
  refine lv_aload_n hx hb d_Pa_digitOf_0 rfl (lv_at hl 0 rfl) ?_
  refine lv_iload_n hx hb d_Pa_digitOf_1 rfl (lv_at hl 2 rfl) ?_
  have hs1 := hok.1
  have hok := hok.2
  have hB : SubW g (inW (wPa g qpa qpae qpar qpau qpab w0 w1 w2 w3 w4)) s (wPa g qpa qpae qpar qpau qpab w0 w1 w2 w3 w4) _ (List.range _) _ _ := (subF hP hD hS)
  refine goI0 hB (run_v C mf_Pa_weightOf qm_Pa_94 (c_Pa_weightOf l g qpa qpae qpar qpau qpab w0 w1 w2 w3 w4 p2 hs1) rfl rfl ⟨Nat.le_of_ble_eq_true rfl, Nat.le_of_ble_eq_true rfl⟩ ⟨Nat.le_of_ble_eq_true rfl, Nat.le_of_ble_eq_true rfl⟩ hB rfl rfl hl rfl rfl (Nat.le_of_ble_eq_true rfl) d_Pa_digitOf_2) (fun y2 ey2 H locs hP hS => ?_)
  have hz := lett_z hz ey2
  have hok := lett_o hok ey2
  refine lv_istore_n (lv' := [(3, .int y2), (0, .ref qpa), (1, .int p1), (2, .int p2)]) hx hb d_Pa_digitOf_5 rfl hl (by decide) rfl (fun ls hl => ?_)
  refine lv_iload_n hx hb d_Pa_digitOf_6 rfl (lv_at hl 0 rfl) ?_
  refine lv_iconst (v := 1) hx hb d_Pa_digitOf_7 (by decide) ?_
  refine lv_icmp_ge (tgt := 15) hx hb d_Pa_digitOf_8 (by decide) (fun c3 => ?_) (fun c3 => ?_)
  · have hz := hz.trans (if_pos c3)
    have hok := hok.1 c3
    refine lv_iload_n hx hb d_Pa_digitOf_15 rfl (lv_at hl 2 rfl) ?_
    refine lv_iload_n hx hb d_Pa_digitOf_16 rfl (lv_at hl 0 rfl) ?_
    have hs4 := hok.1
    have hok := hok.2
    refine lv_idiv hx hb d_Pa_digitOf_17 hs4 ?_
    refine lv_bipush (v := 10) hx hb d_Pa_digitOf_18 (by decide) ?_
    refine lv_irem hx hb d_Pa_digitOf_20 (by decide) ?_
    exact endI0 C hz hP hS d_Pa_digitOf_21
  · have hz := hz.trans (if_neg c3)
    refine lv_iconst (v := 0) hx hb d_Pa_digitOf_11 (by decide) ?_
    refine lv_goto (tgt := 21) hx hb d_Pa_digitOf_12 (by decide) ?_
    exact endI0 C hz hP hS d_Pa_digitOf_21
abbrev rm_Pa_errorOfDecade : Room := { frames := 0, cells := 0, slots := 0, locals := 0 }
def HL_Pa_errorOfDecade_22 (p : Program) (l : Launch) (e : Env) (s : State) (m : MethodId) (args : Array Value) (below : List Frame) (meth : Method) (c : Code) (g : GX) (qpa : Nat) (qpae : Nat) (qpar : Nat) (qpau : Nat) (qpab : Nat) (w0 : IV) (w1 : IV) (w2 : IV) (w3 : IV) (w4 : IV) (sp : Int32) (ok : Prop) : Prop := ∀ (_ : Unit), ok → ∀ z : Int32, z = sp → ∀ (H : Heap) (locs : List Loc) (ls : Array Slot), va_P g.1 vwCl (wPa g qpa qpae qpar qpau qpab w0 w1 w2 w3 w4) H → va_D (inW (wPa g qpa qpae qpar qpau qpab w0 w1 w2 w3 w4)) (wPa g qpa qpae qpar qpau qpab w0 w1 w2 w3 w4) → va_S (inW (wPa g qpa qpae qpar qpau qpab w0 w1 w2 w3 w4)) s.heap H locs → lv_has ls 2 [] → W p l e rm_Pa_errorOfDecade s m args below meth c H locs 0 0 (MQ below (CI0 g (wPa g qpa qpae qpar qpau qpab w0 w1 w2 w3 w4) z) args s 0 0 (inW (wPa g qpa qpae qpar qpau qpab w0 w1 w2 w3 w4))) (F0 m 22 ls [])
noncomputable def sp_Pa_errorOfDecade_22    : Int32 := (0 : Int32)
def ok_Pa_errorOfDecade_22     : Prop := True
set_option maxRecDepth 100000 in
set_option maxHeartbeats 4000000 in
theorem k_Pa_errorOfDecade_22 {p : Program} {l : Launch} {e : Env} {s : State} {m : MethodId} {args : Array Value} {below : List Frame} {meth : Method} {c : Code} {g : GX} {qpa : Nat} {qpae : Nat} {qpar : Nat} {qpau : Nat} {qpab : Nat} {w0 : IV} {w1 : IV} {w2 : IV} {w3 : IV} {w4 : IV}  (C : Cx p s m args meth c (inW (wPa g qpa qpae qpar qpau qpab w0 w1 w2 w3 w4)) g "DecadeBridge$Parts" b_Pa_errorOfDecade (some .int) 2)  : HL_Pa_errorOfDecade_22 p l e s m args below meth c g qpa qpae qpar qpau qpab w0 w1 w2 w3 w4 (sp_Pa_errorOfDecade_22  ) (ok_Pa_errorOfDecade_22   ) := by
  intro _ hok z hz H locs ls hP hD hS hl
  obtain ⟨hx, hb, hr, hml, hown, hlk, hts, hK, hZo, hZ⟩ := id C
  unfold sp_Pa_errorOfDecade_22 at hz
  refine lv_iconst (v := 0) hx hb d_Pa_errorOfDecade_22 (by decide) ?_
  exact endI0 C hz hP hS d_Pa_errorOfDecade_23
noncomputable def sp_Pa_errorOfDecade (p1 : Int32) (w1 : IV) : Int32 := if p1 < 0 then (sp_Pa_errorOfDecade_22) else (if (4 : Int32) ≤ p1 then (sp_Pa_errorOfDecade_22) else (w1 p1.toNatClampNeg))
set_option maxRecDepth 100000 in
set_option maxHeartbeats 4000000 in
theorem c_Pa_errorOfDecade (l : Launch) (g : GX) (qpa : Nat) (qpae : Nat) (qpar : Nat) (qpau : Nat) (qpab : Nat) (w0 : IV) (w1 : IV) (w2 : IV) (w3 : IV) (w4 : IV) (p1 : Int32) : Met l y_Pa_errorOfDecade (wsY y_Pa_errorOfDecade b_Pa_errorOfDecade 2 (some .int)) rm_Pa_errorOfDecade (CP g [.ref qpa, .int p1] (wPa g qpa qpae qpar qpau qpab w0 w1 w2 w3 w4)) (CI0 g (wPa g qpa qpae qpar qpau qpab w0 w1 w2 w3 w4) (sp_Pa_errorOfDecade p1 w1)) 0 0 (inW (wPa g qpa qpae qpar qpau qpab w0 w1 w2 w3 w4)) := by
  refine Met.ofW (cc := b_Pa_errorOfDecade) (maxL := 2) (ret := (some .int)) pn_Pa rfl ?_
  intro p e s m args below meth c s₁ B hml hv
  obtain ⟨rfl, C, hP, hD, hS⟩ := enter "DecadeBridge$Parts" rfl B hml hv
  obtain ⟨hx, hb, hr, hml, hown, hlk, hts, hK, hZo, hZ⟩ := id C
  refine entryW (lv := [(0, .ref qpa), (1, .int p1)]) rfl (Nat.le_of_ble_eq_true rfl) (fun ls hl => ?_)
  obtain ⟨z, hz⟩ : ∃ z, z = sp_Pa_errorOfDecade p1 w1 := ⟨_, rfl⟩
  rw [← hz]
  unfold sp_Pa_errorOfDecade at hz
  refine lv_iload_n hx hb d_Pa_errorOfDecade_0 rfl (lv_at hl 1 rfl) ?_
  refine lv_if_lt (tgt := 22) hx hb d_Pa_errorOfDecade_1 (by decide) (fun c1 => ?_) (fun c1 => ?_)
  · have hz := hz.trans (if_pos c1)
    exact k_Pa_errorOfDecade_22 C () trivial _ hz _ _ ls hP hD hS (lv_sub hl [] rfl)
  · have hz := hz.trans (if_neg c1)
    refine lv_iload_n hx hb d_Pa_errorOfDecade_4 rfl (lv_at hl 1 rfl) ?_
    refine lv_aload_n hx hb d_Pa_errorOfDecade_5 rfl (lv_at hl 0 rfl) ?_
    refine gf C hP 0 3 fkPa rfl (by decide) rfl qf_Pa_9 (gPa_3 _ _ _ _ _) d_Pa_errorOfDecade_6 ?_
    refine alen C hP 1 rfl (t0 := 0) rfl (v := 4) rfl d_Pa_errorOfDecade_9 ?_
    refine lv_icmp_ge (tgt := 22) hx hb d_Pa_errorOfDecade_10 (by decide) (fun c2 => ?_) (fun c2 => ?_)
    · have hz := hz.trans (if_pos c2)
      exact k_Pa_errorOfDecade_22 C () trivial _ hz _ _ ls hP hD hS (lv_sub hl [] rfl)
    · have hz := hz.trans (if_neg c2)
      refine lv_aload_n hx hb d_Pa_errorOfDecade_13 rfl (lv_at hl 0 rfl) ?_
      refine gf C hP 0 3 fkPa rfl (by decide) rfl qf_Pa_9 (gPa_3 _ _ _ _ _) d_Pa_errorOfDecade_14 ?_
      refine lv_iload_n hx hb d_Pa_errorOfDecade_17 rfl (lv_at hl 1 rfl) ?_
      refine ldI C hP 1 rfl (vi2 (vlo c1) (vhi c2) (by decide)) rfl d_Pa_errorOfDecade_18 ?_
      refine lv_goto (tgt := 23) hx hb d_Pa_errorOfDecade_19 (by decide) ?_
      exact endI0 C hz hP hS d_Pa_errorOfDecade_23
abbrev rm_Pa_setErrorOfDecade : Room := { frames := 0, cells := 0, slots := 0, locals := 0 }
noncomputable def sp_Pa_setErrorOfDecade (p1 : Int32) (p2 : Int32) (w1 : IV) : IV := if p1 < 0 then (w1) else (if (4 : Int32) ≤ p1 then (w1) else (lett (upd w1 p1.toNatClampNeg p2) fun (w_3 : IV) => w_3))
set_option maxRecDepth 100000 in
set_option maxHeartbeats 4000000 in
theorem c_Pa_setErrorOfDecade (l : Launch) (g : GX) (qpa : Nat) (qpae : Nat) (qpar : Nat) (qpau : Nat) (qpab : Nat) (w0 : IV) (w1 : IV) (w2 : IV) (w3 : IV) (w4 : IV) (p1 : Int32) (p2 : Int32) : Met l y_Pa_setErrorOfDecade (wsY y_Pa_setErrorOfDecade b_Pa_setErrorOfDecade 3 none) rm_Pa_setErrorOfDecade (CP g [.ref qpa, .int p1, .int p2] (wPa g qpa qpae qpar qpau qpab w0 w1 w2 w3 w4)) (CV g (wPa g qpa qpae qpar qpau qpab w0 w1 w2 w3 w4) (fun u : IV => wPa g qpa qpae qpar qpau qpab w0 u w2 w3 w4) (sp_Pa_setErrorOfDecade p1 p2 w1)) 0 0 (inW (wPa g qpa qpae qpar qpau qpab w0 w1 w2 w3 w4)) := by
  refine Met.ofW (cc := b_Pa_setErrorOfDecade) (maxL := 3) (ret := none) pn_Pa rfl ?_
  intro p e s m args below meth c s₁ B hml hv
  obtain ⟨rfl, C, hP, hD, hS⟩ := enter "DecadeBridge$Parts" rfl B hml hv
  obtain ⟨hx, hb, hr, hml, hown, hlk, hts, hK, hZo, hZ⟩ := id C
  refine entryW (lv := [(0, .ref qpa), (1, .int p1), (2, .int p2)]) rfl (Nat.le_of_ble_eq_true rfl) (fun ls hl => ?_)
  obtain ⟨z, hz⟩ : ∃ z, z = sp_Pa_setErrorOfDecade p1 p2 w1 := ⟨_, rfl⟩
  rw [← hz]
  unfold sp_Pa_setErrorOfDecade at hz
  refine lv_iload_n hx hb d_Pa_setErrorOfDecade_0 rfl (lv_at hl 1 rfl) ?_
  refine lv_if_lt (tgt := 20) hx hb d_Pa_setErrorOfDecade_1 (by decide) (fun c1 => ?_) (fun c1 => ?_)
  · have hz := hz.trans (if_pos c1)
    exact endV C hz hP hS d_Pa_setErrorOfDecade_20
  · have hz := hz.trans (if_neg c1)
    refine lv_iload_n hx hb d_Pa_setErrorOfDecade_4 rfl (lv_at hl 1 rfl) ?_
    refine lv_aload_n hx hb d_Pa_setErrorOfDecade_5 rfl (lv_at hl 0 rfl) ?_
    refine gf C hP 0 3 fkPa rfl (by decide) rfl qf_Pa_9 (gPa_3 _ _ _ _ _) d_Pa_setErrorOfDecade_6 ?_
    refine alen C hP 1 rfl (t0 := 0) rfl (v := 4) rfl d_Pa_setErrorOfDecade_9 ?_
    refine lv_icmp_ge (tgt := 20) hx hb d_Pa_setErrorOfDecade_10 (by decide) (fun c2 => ?_) (fun c2 => ?_)
    · have hz := hz.trans (if_pos c2)
      exact endV C hz hP hS d_Pa_setErrorOfDecade_20
    · have hz := hz.trans (if_neg c2)
      refine lv_aload_n hx hb d_Pa_setErrorOfDecade_13 rfl (lv_at hl 0 rfl) ?_
      refine gf C hP 0 3 fkPa rfl (by decide) rfl qf_Pa_9 (gPa_3 _ _ _ _ _) d_Pa_setErrorOfDecade_14 ?_
      refine lv_iload_n hx hb d_Pa_setErrorOfDecade_17 rfl (lv_at hl 1 rfl) ?_
      refine lv_iload_n hx hb d_Pa_setErrorOfDecade_18 rfl (lv_at hl 2 rfl) ?_
      refine stI C hP hD hS 1 rfl (vi2 (vlo c1) (vhi c2) (by decide)) rfl d_Pa_setErrorOfDecade_19 (fun w_3 ew_3 H locs hP hD hS => ?_)
      have hP : va_P g.1 vwCl (wPa g qpa qpae qpar qpau qpab w0 w_3 w2 w3 w4) H := hP
      have hD : va_D (inW (wPa g qpa qpae qpar qpau qpab w0 w1 w2 w3 w4)) (wPa g qpa qpae qpar qpau qpab w0 w_3 w2 w3 w4) := hD
      have hz := lett_z hz ew_3
      exact endV C hz hP hS d_Pa_setErrorOfDecade_20
abbrev rm_Pa_errorOfKind : Room := { frames := 0, cells := 0, slots := 0, locals := 0 }
def HL_Pa_errorOfKind_22 (p : Program) (l : Launch) (e : Env) (s : State) (m : MethodId) (args : Array Value) (below : List Frame) (meth : Method) (c : Code) (g : GX) (qpa : Nat) (qpae : Nat) (qpar : Nat) (qpau : Nat) (qpab : Nat) (w0 : IV) (w1 : IV) (w2 : IV) (w3 : IV) (w4 : IV) (sp : Int32) (ok : Prop) : Prop := ∀ (_ : Unit), ok → ∀ z : Int32, z = sp → ∀ (H : Heap) (locs : List Loc) (ls : Array Slot), va_P g.1 vwCl (wPa g qpa qpae qpar qpau qpab w0 w1 w2 w3 w4) H → va_D (inW (wPa g qpa qpae qpar qpau qpab w0 w1 w2 w3 w4)) (wPa g qpa qpae qpar qpau qpab w0 w1 w2 w3 w4) → va_S (inW (wPa g qpa qpae qpar qpau qpab w0 w1 w2 w3 w4)) s.heap H locs → lv_has ls 2 [] → W p l e rm_Pa_errorOfKind s m args below meth c H locs 0 0 (MQ below (CI0 g (wPa g qpa qpae qpar qpau qpab w0 w1 w2 w3 w4) z) args s 0 0 (inW (wPa g qpa qpae qpar qpau qpab w0 w1 w2 w3 w4))) (F0 m 22 ls [])
noncomputable def sp_Pa_errorOfKind_22    : Int32 := (0 : Int32)
def ok_Pa_errorOfKind_22     : Prop := True
set_option maxRecDepth 100000 in
set_option maxHeartbeats 4000000 in
theorem k_Pa_errorOfKind_22 {p : Program} {l : Launch} {e : Env} {s : State} {m : MethodId} {args : Array Value} {below : List Frame} {meth : Method} {c : Code} {g : GX} {qpa : Nat} {qpae : Nat} {qpar : Nat} {qpau : Nat} {qpab : Nat} {w0 : IV} {w1 : IV} {w2 : IV} {w3 : IV} {w4 : IV}  (C : Cx p s m args meth c (inW (wPa g qpa qpae qpar qpau qpab w0 w1 w2 w3 w4)) g "DecadeBridge$Parts" b_Pa_errorOfKind (some .int) 2)  : HL_Pa_errorOfKind_22 p l e s m args below meth c g qpa qpae qpar qpau qpab w0 w1 w2 w3 w4 (sp_Pa_errorOfKind_22  ) (ok_Pa_errorOfKind_22   ) := by
  intro _ hok z hz H locs ls hP hD hS hl
  obtain ⟨hx, hb, hr, hml, hown, hlk, hts, hK, hZo, hZ⟩ := id C
  unfold sp_Pa_errorOfKind_22 at hz
  refine lv_iconst (v := 0) hx hb d_Pa_errorOfKind_22 (by decide) ?_
  exact endI0 C hz hP hS d_Pa_errorOfKind_23
noncomputable def sp_Pa_errorOfKind (p1 : Int32) (w2 : IV) : Int32 := if p1 < 0 then (sp_Pa_errorOfKind_22) else (if (5 : Int32) ≤ p1 then (sp_Pa_errorOfKind_22) else (w2 p1.toNatClampNeg))
set_option maxRecDepth 100000 in
set_option maxHeartbeats 4000000 in
theorem c_Pa_errorOfKind (l : Launch) (g : GX) (qpa : Nat) (qpae : Nat) (qpar : Nat) (qpau : Nat) (qpab : Nat) (w0 : IV) (w1 : IV) (w2 : IV) (w3 : IV) (w4 : IV) (p1 : Int32) : Met l y_Pa_errorOfKind (wsY y_Pa_errorOfKind b_Pa_errorOfKind 2 (some .int)) rm_Pa_errorOfKind (CP g [.ref qpa, .int p1] (wPa g qpa qpae qpar qpau qpab w0 w1 w2 w3 w4)) (CI0 g (wPa g qpa qpae qpar qpau qpab w0 w1 w2 w3 w4) (sp_Pa_errorOfKind p1 w2)) 0 0 (inW (wPa g qpa qpae qpar qpau qpab w0 w1 w2 w3 w4)) := by
  refine Met.ofW (cc := b_Pa_errorOfKind) (maxL := 2) (ret := (some .int)) pn_Pa rfl ?_
  intro p e s m args below meth c s₁ B hml hv
  obtain ⟨rfl, C, hP, hD, hS⟩ := enter "DecadeBridge$Parts" rfl B hml hv
  obtain ⟨hx, hb, hr, hml, hown, hlk, hts, hK, hZo, hZ⟩ := id C
  refine entryW (lv := [(0, .ref qpa), (1, .int p1)]) rfl (Nat.le_of_ble_eq_true rfl) (fun ls hl => ?_)
  obtain ⟨z, hz⟩ : ∃ z, z = sp_Pa_errorOfKind p1 w2 := ⟨_, rfl⟩
  rw [← hz]
  unfold sp_Pa_errorOfKind at hz
  refine lv_iload_n hx hb d_Pa_errorOfKind_0 rfl (lv_at hl 1 rfl) ?_
  refine lv_if_lt (tgt := 22) hx hb d_Pa_errorOfKind_1 (by decide) (fun c1 => ?_) (fun c1 => ?_)
  · have hz := hz.trans (if_pos c1)
    exact k_Pa_errorOfKind_22 C () trivial _ hz _ _ ls hP hD hS (lv_sub hl [] rfl)
  · have hz := hz.trans (if_neg c1)
    refine lv_iload_n hx hb d_Pa_errorOfKind_4 rfl (lv_at hl 1 rfl) ?_
    refine lv_aload_n hx hb d_Pa_errorOfKind_5 rfl (lv_at hl 0 rfl) ?_
    refine gf C hP 0 4 fkPa rfl (by decide) rfl qf_Pa_15 (gPa_4 _ _ _ _ _) d_Pa_errorOfKind_6 ?_
    refine alen C hP 2 rfl (t0 := 0) rfl (v := 5) rfl d_Pa_errorOfKind_9 ?_
    refine lv_icmp_ge (tgt := 22) hx hb d_Pa_errorOfKind_10 (by decide) (fun c2 => ?_) (fun c2 => ?_)
    · have hz := hz.trans (if_pos c2)
      exact k_Pa_errorOfKind_22 C () trivial _ hz _ _ ls hP hD hS (lv_sub hl [] rfl)
    · have hz := hz.trans (if_neg c2)
      refine lv_aload_n hx hb d_Pa_errorOfKind_13 rfl (lv_at hl 0 rfl) ?_
      refine gf C hP 0 4 fkPa rfl (by decide) rfl qf_Pa_15 (gPa_4 _ _ _ _ _) d_Pa_errorOfKind_14 ?_
      refine lv_iload_n hx hb d_Pa_errorOfKind_17 rfl (lv_at hl 1 rfl) ?_
      refine ldI C hP 2 rfl (vi2 (vlo c1) (vhi c2) (by decide)) rfl d_Pa_errorOfKind_18 ?_
      refine lv_goto (tgt := 23) hx hb d_Pa_errorOfKind_19 (by decide) ?_
      exact endI0 C hz hP hS d_Pa_errorOfKind_23
abbrev rm_Pa_setErrorOfKind : Room := { frames := 0, cells := 0, slots := 0, locals := 0 }
noncomputable def sp_Pa_setErrorOfKind (p1 : Int32) (p2 : Int32) (w2 : IV) : IV := if p1 < 0 then (w2) else (if (5 : Int32) ≤ p1 then (w2) else (lett (upd w2 p1.toNatClampNeg p2) fun (w_3 : IV) => w_3))
set_option maxRecDepth 100000 in
set_option maxHeartbeats 4000000 in
theorem c_Pa_setErrorOfKind (l : Launch) (g : GX) (qpa : Nat) (qpae : Nat) (qpar : Nat) (qpau : Nat) (qpab : Nat) (w0 : IV) (w1 : IV) (w2 : IV) (w3 : IV) (w4 : IV) (p1 : Int32) (p2 : Int32) : Met l y_Pa_setErrorOfKind (wsY y_Pa_setErrorOfKind b_Pa_setErrorOfKind 3 none) rm_Pa_setErrorOfKind (CP g [.ref qpa, .int p1, .int p2] (wPa g qpa qpae qpar qpau qpab w0 w1 w2 w3 w4)) (CV g (wPa g qpa qpae qpar qpau qpab w0 w1 w2 w3 w4) (fun u : IV => wPa g qpa qpae qpar qpau qpab w0 w1 u w3 w4) (sp_Pa_setErrorOfKind p1 p2 w2)) 0 0 (inW (wPa g qpa qpae qpar qpau qpab w0 w1 w2 w3 w4)) := by
  refine Met.ofW (cc := b_Pa_setErrorOfKind) (maxL := 3) (ret := none) pn_Pa rfl ?_
  intro p e s m args below meth c s₁ B hml hv
  obtain ⟨rfl, C, hP, hD, hS⟩ := enter "DecadeBridge$Parts" rfl B hml hv
  obtain ⟨hx, hb, hr, hml, hown, hlk, hts, hK, hZo, hZ⟩ := id C
  refine entryW (lv := [(0, .ref qpa), (1, .int p1), (2, .int p2)]) rfl (Nat.le_of_ble_eq_true rfl) (fun ls hl => ?_)
  obtain ⟨z, hz⟩ : ∃ z, z = sp_Pa_setErrorOfKind p1 p2 w2 := ⟨_, rfl⟩
  rw [← hz]
  unfold sp_Pa_setErrorOfKind at hz
  refine lv_iload_n hx hb d_Pa_setErrorOfKind_0 rfl (lv_at hl 1 rfl) ?_
  refine lv_if_lt (tgt := 20) hx hb d_Pa_setErrorOfKind_1 (by decide) (fun c1 => ?_) (fun c1 => ?_)
  · have hz := hz.trans (if_pos c1)
    exact endV C hz hP hS d_Pa_setErrorOfKind_20
  · have hz := hz.trans (if_neg c1)
    refine lv_iload_n hx hb d_Pa_setErrorOfKind_4 rfl (lv_at hl 1 rfl) ?_
    refine lv_aload_n hx hb d_Pa_setErrorOfKind_5 rfl (lv_at hl 0 rfl) ?_
    refine gf C hP 0 4 fkPa rfl (by decide) rfl qf_Pa_15 (gPa_4 _ _ _ _ _) d_Pa_setErrorOfKind_6 ?_
    refine alen C hP 2 rfl (t0 := 0) rfl (v := 5) rfl d_Pa_setErrorOfKind_9 ?_
    refine lv_icmp_ge (tgt := 20) hx hb d_Pa_setErrorOfKind_10 (by decide) (fun c2 => ?_) (fun c2 => ?_)
    · have hz := hz.trans (if_pos c2)
      exact endV C hz hP hS d_Pa_setErrorOfKind_20
    · have hz := hz.trans (if_neg c2)
      refine lv_aload_n hx hb d_Pa_setErrorOfKind_13 rfl (lv_at hl 0 rfl) ?_
      refine gf C hP 0 4 fkPa rfl (by decide) rfl qf_Pa_15 (gPa_4 _ _ _ _ _) d_Pa_setErrorOfKind_14 ?_
      refine lv_iload_n hx hb d_Pa_setErrorOfKind_17 rfl (lv_at hl 1 rfl) ?_
      refine lv_iload_n hx hb d_Pa_setErrorOfKind_18 rfl (lv_at hl 2 rfl) ?_
      refine stI C hP hD hS 2 rfl (vi2 (vlo c1) (vhi c2) (by decide)) rfl d_Pa_setErrorOfKind_19 (fun w_3 ew_3 H locs hP hD hS => ?_)
      have hP : va_P g.1 vwCl (wPa g qpa qpae qpar qpau qpab w0 w1 w_3 w3 w4) H := hP
      have hD : va_D (inW (wPa g qpa qpae qpar qpau qpab w0 w1 w2 w3 w4)) (wPa g qpa qpae qpar qpau qpab w0 w1 w_3 w3 w4) := hD
      have hz := lett_z hz ew_3
      exact endV C hz hP hS d_Pa_setErrorOfKind_20
abbrev rm_Pa_valueOfKind : Room := { frames := 0, cells := 0, slots := 0, locals := 0 }
noncomputable def sp_Pa_valueOfKind (p1 : Int32) (w2 : IV) : Int32 := if p1 < 0 then ((0 : Int32)) else (if (5 : Int32) ≤ p1 then ((0 : Int32)) else (if p1 < (5 : Int32) then (lett ((nomF p1.toNatClampNeg).toInt64) fun (v4 : Int64) => (v4 + ((v4 * ((w2 p1.toNatClampNeg).toInt64)) / (1000000 : Int64))).toInt32) else ((0 : Int32))))
set_option maxRecDepth 100000 in
set_option maxHeartbeats 4000000 in
theorem c_Pa_valueOfKind (l : Launch) (g : GX) (qpa : Nat) (qpae : Nat) (qpar : Nat) (qpau : Nat) (qpab : Nat) (w0 : IV) (w1 : IV) (w2 : IV) (w3 : IV) (w4 : IV) (p1 : Int32) : Met l y_Pa_valueOfKind (wsY y_Pa_valueOfKind b_Pa_valueOfKind 4 (some .int)) rm_Pa_valueOfKind (CP g [.ref qpa, .int p1] (wPa g qpa qpae qpar qpau qpab w0 w1 w2 w3 w4)) (CI0 g (wPa g qpa qpae qpar qpau qpab w0 w1 w2 w3 w4) (sp_Pa_valueOfKind p1 w2)) 0 0 (inW (wPa g qpa qpae qpar qpau qpab w0 w1 w2 w3 w4)) := by
  refine Met.ofW (cc := b_Pa_valueOfKind) (maxL := 4) (ret := (some .int)) pn_Pa rfl ?_
  intro p e s m args below meth c s₁ B hml hv
  obtain ⟨rfl, C, hP, hD, hS⟩ := enter "DecadeBridge$Parts" rfl B hml hv
  obtain ⟨hx, hb, hr, hml, hown, hlk, hts, hK, hZo, hZ⟩ := id C
  refine entryW (lv := [(0, .ref qpa), (1, .int p1)]) rfl (Nat.le_of_ble_eq_true rfl) (fun ls hl => ?_)
  obtain ⟨z, hz⟩ : ∃ z, z = sp_Pa_valueOfKind p1 w2 := ⟨_, rfl⟩
  rw [← hz]
  unfold sp_Pa_valueOfKind at hz
  refine lv_iload_n hx hb d_Pa_valueOfKind_0 rfl (lv_at hl 1 rfl) ?_
  refine lv_if_lt (tgt := 21) hx hb d_Pa_valueOfKind_1 (by decide) (fun c1 => ?_) (fun c1 => ?_)
  · have hz := hz.trans (if_pos c1)
    refine lv_iconst (v := 0) hx hb d_Pa_valueOfKind_21 (by decide) ?_
    exact endI0 C hz hP hS d_Pa_valueOfKind_22
  · have hz := hz.trans (if_neg c1)
    refine lv_iload_n hx hb d_Pa_valueOfKind_4 rfl (lv_at hl 1 rfl) ?_
    refine va_gets hx hb (zNom hZo hZ).1 hS hown (hts _ qf_Pa_88) (fun _ h9 => h9) d_Pa_valueOfKind_5 ?_
    refine va_tlen hx hb (zNom hZo hZ).2 hS (v := 5) (by decide) d_Pa_valueOfKind_8 ?_
    refine lv_icmp_ge (tgt := 21) hx hb d_Pa_valueOfKind_9 (by decide) (fun c2 => ?_) (fun c2 => ?_)
    · have hz := hz.trans (if_pos c2)
      refine lv_iconst (v := 0) hx hb d_Pa_valueOfKind_21 (by decide) ?_
      exact endI0 C hz hP hS d_Pa_valueOfKind_22
    · have hz := hz.trans (if_neg c2)
      refine lv_iload_n hx hb d_Pa_valueOfKind_12 rfl (lv_at hl 1 rfl) ?_
      refine lv_aload_n hx hb d_Pa_valueOfKind_13 rfl (lv_at hl 0 rfl) ?_
      refine gf C hP 0 4 fkPa rfl (by decide) rfl qf_Pa_15 (gPa_4 _ _ _ _ _) d_Pa_valueOfKind_14 ?_
      refine alen C hP 2 rfl (t0 := 0) rfl (v := 5) rfl d_Pa_valueOfKind_17 ?_
      refine lv_icmp_lt (tgt := 23) hx hb d_Pa_valueOfKind_18 (by decide) (fun c3 => ?_) (fun c3 => ?_)
      · have hz := hz.trans (if_pos c3)
        refine va_gets hx hb (zNom hZo hZ).1 hS hown (hts _ qf_Pa_88) (fun _ h9 => h9) d_Pa_valueOfKind_23 ?_
        refine lv_iload_n hx hb d_Pa_valueOfKind_26 rfl (lv_at hl 1 rfl) ?_
        refine va_ti hx hb (zNom hZo hZ).2 hS (vi2 (vlo c1) c3 (by decide)) (v := .int (nomF p1.toNatClampNeg)) rfl d_Pa_valueOfKind_27 ?_
        refine lv_i2l hx hb d_Pa_valueOfKind_28 rfl ?_
        refine lv_topl (fun v4 ev4 => ?_)
        have hz := lett_z hz ev4
        refine lv_lstore_n (lv' := [(2, .long v4), (0, .ref qpa), (1, .int p1)]) hx hb d_Pa_valueOfKind_29 rfl hl (by decide) rfl (fun ls hl => ?_)
        refine lv_lload_n hx hb d_Pa_valueOfKind_30 rfl (lv_at hl 0 rfl) ?_
        refine lv_lload_n hx hb d_Pa_valueOfKind_31 rfl (lv_at hl 0 rfl) ?_
        refine lv_aload_n hx hb d_Pa_valueOfKind_32 rfl (lv_at hl 1 rfl) ?_
        refine gf C hP 0 4 fkPa rfl (by decide) rfl qf_Pa_15 (gPa_4 _ _ _ _ _) d_Pa_valueOfKind_33 ?_
        refine lv_iload_n hx hb d_Pa_valueOfKind_36 rfl (lv_at hl 2 rfl) ?_
        refine ldI C hP 2 rfl (vi2 (vlo c1) c3 (by decide)) rfl d_Pa_valueOfKind_37 ?_
        refine lv_i2l hx hb d_Pa_valueOfKind_38 rfl ?_
        refine lv_lmul hx hb d_Pa_valueOfKind_39 ?_
        refine lv_ldc2 hx hb hown (hts _ qk_Pa_97) d_Pa_valueOfKind_40 ?_
        refine lv_ldiv hx hb d_Pa_valueOfKind_43 (by decide) ?_
        refine lv_ladd hx hb d_Pa_valueOfKind_44 ?_
        refine lv_l2i hx hb d_Pa_valueOfKind_45 rfl ?_
        exact endI0 C hz hP hS d_Pa_valueOfKind_46
      · have hz := hz.trans (if_neg c3)
        refine lv_iconst (v := 0) hx hb d_Pa_valueOfKind_21 (by decide) ?_
        exact endI0 C hz hP hS d_Pa_valueOfKind_22
abbrev rm_Pa_coldAt : Room := { frames := 0, cells := 0, slots := 0, locals := 0 }
def HL_Pa_coldAt_20 (p : Program) (l : Launch) (e : Env) (s : State) (m : MethodId) (args : Array Value) (below : List Frame) (meth : Method) (c : Code) (g : GX) (qpa : Nat) (qpae : Nat) (qpar : Nat) (qpau : Nat) (qpab : Nat) (w0 : IV) (w1 : IV) (w2 : IV) (w3 : IV) (w4 : IV) (sp : Int64 → Int64 → Int32 → Int32 → Int32) (ok : Int64 → Int64 → Int32 → Int32 → Prop) : Prop := ∀ (x2p20 : Int64) (x4p20 : Int64) (x6p20 : Int32) (x7p20 : Int32), ok x2p20 x4p20 x6p20 x7p20 → ∀ z : Int32, z = sp x2p20 x4p20 x6p20 x7p20 → ∀ (H : Heap) (locs : List Loc) (ls : Array Slot), va_P g.1 vwCl (wPa g qpa qpae qpar qpau qpab w0 w1 w2 w3 w4) H → va_D (inW (wPa g qpa qpae qpar qpau qpab w0 w1 w2 w3 w4)) (wPa g qpa qpae qpar qpau qpab w0 w1 w2 w3 w4) → va_S (inW (wPa g qpa qpae qpar qpau qpab w0 w1 w2 w3 w4)) s.heap H locs → lv_has ls 9 [(0, .ref qpa), (2, .long x2p20), (4, .long x4p20), (6, .int x6p20), (7, .int x7p20)] → W p l e rm_Pa_coldAt s m args below meth c H locs 0 0 (MQ below (CI0 g (wPa g qpa qpae qpar qpau qpab w0 w1 w2 w3 w4) z) args s 0 0 (inW (wPa g qpa qpae qpar qpau qpab w0 w1 w2 w3 w4))) (F0 m 20 ls [])
def HL_Pa_coldAt_46 (p : Program) (l : Launch) (e : Env) (s : State) (m : MethodId) (args : Array Value) (below : List Frame) (meth : Method) (c : Code) (g : GX) (qpa : Nat) (qpae : Nat) (qpar : Nat) (qpau : Nat) (qpab : Nat) (w0 : IV) (w1 : IV) (w2 : IV) (w3 : IV) (w4 : IV) (x2p20 : Int64) (x4p20 : Int64) (x6p20 : Int32) (x7p20 : Int32) (sp : Int32 → Int32) (ok : Int32 → Prop) : Prop := ∀ (t0p46 : Int32), ok t0p46 → ∀ z : Int32, z = sp t0p46 → ∀ (H : Heap) (locs : List Loc) (ls : Array Slot), va_P g.1 vwCl (wPa g qpa qpae qpar qpau qpab w0 w1 w2 w3 w4) H → va_D (inW (wPa g qpa qpae qpar qpau qpab w0 w1 w2 w3 w4)) (wPa g qpa qpae qpar qpau qpab w0 w1 w2 w3 w4) → va_S (inW (wPa g qpa qpae qpar qpau qpab w0 w1 w2 w3 w4)) s.heap H locs → lv_has ls 9 [(0, .ref qpa), (2, .long x2p20), (4, .long x4p20), (6, .int x6p20), (7, .int x7p20)] → W p l e rm_Pa_coldAt s m args below meth c H locs 0 0 (MQ below (CI0 g (wPa g qpa qpae qpar qpau qpab w0 w1 w2 w3 w4) z) args s 0 0 (inW (wPa g qpa qpae qpar qpau qpab w0 w1 w2 w3 w4))) (F0 m 46 ls [.int t0p46])
def HL_Pa_coldAt_88 (p : Program) (l : Launch) (e : Env) (s : State) (m : MethodId) (args : Array Value) (below : List Frame) (meth : Method) (c : Code) (g : GX) (qpa : Nat) (qpae : Nat) (qpar : Nat) (qpau : Nat) (qpab : Nat) (w0 : IV) (w1 : IV) (w2 : IV) (w3 : IV) (w4 : IV) (x2p20 : Int64) (sp : Int32) (ok : Prop) : Prop := ∀ (_ : Unit), ok → ∀ z : Int32, z = sp → ∀ (H : Heap) (locs : List Loc) (ls : Array Slot), va_P g.1 vwCl (wPa g qpa qpae qpar qpau qpab w0 w1 w2 w3 w4) H → va_D (inW (wPa g qpa qpae qpar qpau qpab w0 w1 w2 w3 w4)) (wPa g qpa qpae qpar qpau qpab w0 w1 w2 w3 w4) → va_S (inW (wPa g qpa qpae qpar qpau qpab w0 w1 w2 w3 w4)) s.heap H locs → lv_has ls 9 [(0, .ref qpa), (2, .long x2p20)] → W p l e rm_Pa_coldAt s m args below meth c H locs 0 0 (MQ below (CI0 g (wPa g qpa qpae qpar qpau qpab w0 w1 w2 w3 w4) z) args s 0 0 (inW (wPa g qpa qpae qpar qpau qpab w0 w1 w2 w3 w4))) (F0 m 88 ls [])
noncomputable def sp_Pa_coldAt_88 (x2p20 : Int64) (w0 : IV)   : Int32 := ((x2p20 / (1000000 : Int64)).toInt32) + (w0 2)
def ok_Pa_coldAt_88 (x2p20 : Int64) (w0 : IV)    : Prop := True
set_option maxRecDepth 100000 in
set_option maxHeartbeats 4000000 in
theorem k_Pa_coldAt_88 {p : Program} {l : Launch} {e : Env} {s : State} {m : MethodId} {args : Array Value} {below : List Frame} {meth : Method} {c : Code} {g : GX} {qpa : Nat} {qpae : Nat} {qpar : Nat} {qpau : Nat} {qpab : Nat} {w0 : IV} {w1 : IV} {w2 : IV} {w3 : IV} {w4 : IV} {x2p20 : Int64}  (C : Cx p s m args meth c (inW (wPa g qpa qpae qpar qpau qpab w0 w1 w2 w3 w4)) g "DecadeBridge$Parts" b_Pa_coldAt (some .int) 9)  : HL_Pa_coldAt_88 p l e s m args below meth c g qpa qpae qpar qpau qpab w0 w1 w2 w3 w4 x2p20 (sp_Pa_coldAt_88 x2p20 w0 ) (ok_Pa_coldAt_88 x2p20 w0  ) := by
  intro _ hok z hz H locs ls hP hD hS hl
  obtain ⟨hx, hb, hr, hml, hown, hlk, hts, hK, hZo, hZ⟩ := id C
  unfold sp_Pa_coldAt_88 at hz
  refine lv_lload_n hx hb d_Pa_coldAt_88 rfl (lv_at hl 1 rfl) ?_
  refine lv_ldc2 hx hb hown (hts _ qk_Pa_97) d_Pa_coldAt_89 ?_
  refine lv_ldiv hx hb d_Pa_coldAt_92 (by decide) ?_
  refine lv_l2i hx hb d_Pa_coldAt_93 rfl ?_
  refine lv_aload_n hx hb d_Pa_coldAt_94 rfl (lv_at hl 0 rfl) ?_
  refine gf C hP 0 2 fkPa rfl (by decide) rfl qf_Pa_38 (gPa_2 _ _ _ _ _) d_Pa_coldAt_95 ?_
  refine lv_iadd hx hb d_Pa_coldAt_98 ?_
  exact endI0 C hz hP hS d_Pa_coldAt_99
noncomputable def sp_Pa_coldAt_46 (x2p20 : Int64) (x6p20 : Int32) (x4p20 : Int64) (x7p20 : Int32) (r20 : Int64 → Int64 → Int32 → Int32 → Int32) (t0p46 : Int32) : Int32 := lett (x2p20 + ((((x6p20 - x6p20 / (10 : Int32) * (10 : Int32)).toInt64) * x4p20) * (((1000000 : Int32) + t0p46).toInt64))) fun (v5 : Int64) => lett (x6p20 / (10 : Int32)) fun (v6 : Int32) => lett (x4p20 * (10 : Int64)) fun (v7 : Int64) => lett (x7p20 + (-1 : Int32)) fun (v8 : Int32) => r20 v5 v7 v6 v8
def ok_Pa_coldAt_46 (x2p20 : Int64) (x6p20 : Int32) (x4p20 : Int64) (x7p20 : Int32) (r20 : Int64 → Int64 → Int32 → Int32 → Int32) (q20 : Int64 → Int64 → Int32 → Int32 → Prop) (t0p46 : Int32) : Prop := lett (x2p20 + ((((x6p20 - x6p20 / (10 : Int32) * (10 : Int32)).toInt64) * x4p20) * (((1000000 : Int32) + t0p46).toInt64))) fun (v5 : Int64) => lett (x6p20 / (10 : Int32)) fun (v6 : Int32) => lett (x4p20 * (10 : Int64)) fun (v7 : Int64) => lett (x7p20 + (-1 : Int32)) fun (v8 : Int32) => q20 v5 v7 v6 v8
set_option maxRecDepth 100000 in
set_option maxHeartbeats 4000000 in
theorem k_Pa_coldAt_46 {p : Program} {l : Launch} {e : Env} {s : State} {m : MethodId} {args : Array Value} {below : List Frame} {meth : Method} {c : Code} {g : GX} {qpa : Nat} {qpae : Nat} {qpar : Nat} {qpau : Nat} {qpab : Nat} {w0 : IV} {w1 : IV} {w2 : IV} {w3 : IV} {w4 : IV} {x2p20 : Int64} {x4p20 : Int64} {x6p20 : Int32} {x7p20 : Int32} {r20 : Int64 → Int64 → Int32 → Int32 → Int32} {q20 : Int64 → Int64 → Int32 → Int32 → Prop} (C : Cx p s m args meth c (inW (wPa g qpa qpae qpar qpau qpab w0 w1 w2 w3 w4)) g "DecadeBridge$Parts" b_Pa_coldAt (some .int) 9) (ih20 : HL_Pa_coldAt_20 p l e s m args below meth c g qpa qpae qpar qpau qpab w0 w1 w2 w3 w4 r20 q20) : HL_Pa_coldAt_46 p l e s m args below meth c g qpa qpae qpar qpau qpab w0 w1 w2 w3 w4 x2p20 x4p20 x6p20 x7p20 (sp_Pa_coldAt_46 x2p20 x6p20 x4p20 x7p20 r20) (ok_Pa_coldAt_46 x2p20 x6p20 x4p20 x7p20 r20 q20) := by
  intro t0p46 hok z hz H locs ls hP hD hS hl
  obtain ⟨hx, hb, hr, hml, hown, hlk, hts, hK, hZo, hZ⟩ := id C
  unfold sp_Pa_coldAt_46 at hz
  unfold ok_Pa_coldAt_46 at hok
  refine lv_istore (lv' := [(8, .int t0p46), (0, .ref qpa), (2, .long x2p20), (4, .long x4p20), (6, .int x6p20), (7, .int x7p20)]) hx hb d_Pa_coldAt_46 hl (by decide) rfl (fun ls hl => ?_)
  refine lv_lload_n hx hb d_Pa_coldAt_48 rfl (lv_at hl 2 rfl) ?_
  refine lv_iload hx hb d_Pa_coldAt_49 (lv_at hl 4 rfl) ?_
  refine lv_bipush (v := 10) hx hb d_Pa_coldAt_51 (by decide) ?_
  refine lv_irem hx hb d_Pa_coldAt_53 (by decide) ?_
  refine lv_i2l hx hb d_Pa_coldAt_54 rfl ?_
  refine lv_lload hx hb d_Pa_coldAt_55 (lv_at hl 3 rfl) ?_
  refine lv_lmul hx hb d_Pa_coldAt_57 ?_
  refine lv_ldc hx hb hown (hts _ qk_Pa_57) d_Pa_coldAt_58 ?_
  refine lv_iload hx hb d_Pa_coldAt_60 (lv_at hl 0 rfl) ?_
  refine lv_iadd hx hb d_Pa_coldAt_62 ?_
  refine lv_i2l hx hb d_Pa_coldAt_63 rfl ?_
  refine lv_lmul hx hb d_Pa_coldAt_64 ?_
  refine lv_ladd hx hb d_Pa_coldAt_65 ?_
  refine lv_topl (fun v5 ev5 => ?_)
  have hz := lett_z hz ev5
  have hok := lett_o hok ev5
  refine lv_lstore_n (lv' := [(2, .long v5), (8, .int t0p46), (0, .ref qpa), (4, .long x4p20), (6, .int x6p20), (7, .int x7p20)]) hx hb d_Pa_coldAt_66 rfl hl (by decide) rfl (fun ls hl => ?_)
  refine lv_iload hx hb d_Pa_coldAt_67 (lv_at hl 4 rfl) ?_
  refine lv_bipush (v := 10) hx hb d_Pa_coldAt_69 (by decide) ?_
  refine lv_idiv hx hb d_Pa_coldAt_71 (by decide) ?_
  refine lv_topi (fun v6 ev6 => ?_)
  have hz := lett_z hz ev6
  have hok := lett_o hok ev6
  refine lv_istore (lv' := [(6, .int v6), (2, .long v5), (8, .int t0p46), (0, .ref qpa), (4, .long x4p20), (7, .int x7p20)]) hx hb d_Pa_coldAt_72 hl (by decide) rfl (fun ls hl => ?_)
  refine lv_lload hx hb d_Pa_coldAt_74 (lv_at hl 4 rfl) ?_
  refine lv_ldc2 hx hb hown (hts _ qk_Pa_99) d_Pa_coldAt_76 ?_
  refine lv_lmul hx hb d_Pa_coldAt_79 ?_
  refine lv_topl (fun v7 ev7 => ?_)
  have hz := lett_z hz ev7
  have hok := lett_o hok ev7
  refine lv_lstore (lv' := [(4, .long v7), (6, .int v6), (2, .long v5), (8, .int t0p46), (0, .ref qpa), (7, .int x7p20)]) hx hb d_Pa_coldAt_80 hl (by decide) rfl (fun ls hl => ?_)
  obtain ⟨v8, ev8⟩ : ∃ y : Int32, y = x7p20 + (-1 : Int32) := ⟨_, rfl⟩
  have hz := lett_z hz ev8
  have hok := lett_o hok ev8
  refine lv_iinc (v := v8) (lv' := [(7, .int v8), (4, .long v7), (6, .int v6), (2, .long v5), (8, .int t0p46), (0, .ref qpa)]) hx hb d_Pa_coldAt_82 hl (k := 5) rfl (by rw [ev8]; rfl) (by decide) rfl (fun ls hl => ?_)
  refine lv_goto (tgt := 20) hx hb d_Pa_coldAt_85 (by decide) ?_
  exact ih20 v5 v7 v6 v8 hok _ hz _ _ ls hP hD hS (lv_sub hl [5, 3, 1, 2, 0] rfl)
noncomputable def bd_Pa_coldAt_20 (w0 : IV) (w1 : IV) (r20 : Int64 → Int64 → Int32 → Int32 → Int32) (x2p20 : Int64) (x4p20 : Int64) (x6p20 : Int32) (x7p20 : Int32) : Int32 := if x7p20 < 0 then (sp_Pa_coldAt_88 x2p20 w0) else (if (4 : Int32) ≤ x7p20 then (sp_Pa_coldAt_46 x2p20 x6p20 x4p20 x7p20 r20 (0 : Int32)) else (sp_Pa_coldAt_46 x2p20 x6p20 x4p20 x7p20 r20 (w1 x7p20.toNatClampNeg)))
def okb_Pa_coldAt_20 (w0 : IV) (w1 : IV) (r20 : Int64 → Int64 → Int32 → Int32 → Int32) (q20 : Int64 → Int64 → Int32 → Int32 → Prop) (x2p20 : Int64) (x4p20 : Int64) (x6p20 : Int32) (x7p20 : Int32) : Prop := ((x7p20 < 0 → True) ∧ (¬ (x7p20 < 0) → (((4 : Int32) ≤ x7p20 → ok_Pa_coldAt_46 x2p20 x6p20 x4p20 x7p20 r20 q20 (0 : Int32)) ∧ (¬ ((4 : Int32) ≤ x7p20) → ok_Pa_coldAt_46 x2p20 x6p20 x4p20 x7p20 r20 q20 (w1 x7p20.toNatClampNeg)))))
noncomputable def sp_Pa_coldAt_20 (w0 : IV) (w1 : IV)  : Nat → Int64 → Int64 → Int32 → Int32 → Int32
  | 0 => fun _ _ _ _ => default
  | f + 1 => bd_Pa_coldAt_20 w0 w1  (sp_Pa_coldAt_20 w0 w1  f)
def ok_Pa_coldAt_20 (w0 : IV) (w1 : IV)   : Nat → Int64 → Int64 → Int32 → Int32 → Prop
  | 0 => fun _ _ _ _ => False
  | f + 1 => okb_Pa_coldAt_20 w0 w1  (sp_Pa_coldAt_20 w0 w1  f)  (ok_Pa_coldAt_20 w0 w1   f)
set_option maxRecDepth 100000 in
set_option maxHeartbeats 4000000 in
theorem kb_Pa_coldAt_20 {p : Program} {l : Launch} {e : Env} {s : State} {m : MethodId} {args : Array Value} {below : List Frame} {meth : Method} {c : Code} {g : GX} {qpa : Nat} {qpae : Nat} {qpar : Nat} {qpau : Nat} {qpab : Nat} {w0 : IV} {w1 : IV} {w2 : IV} {w3 : IV} {w4 : IV}  (C : Cx p s m args meth c (inW (wPa g qpa qpae qpar qpau qpab w0 w1 w2 w3 w4)) g "DecadeBridge$Parts" b_Pa_coldAt (some .int) 9) {r20 : Int64 → Int64 → Int32 → Int32 → Int32} {q20 : Int64 → Int64 → Int32 → Int32 → Prop}  (ih20 : HL_Pa_coldAt_20 p l e s m args below meth c g qpa qpae qpar qpau qpab w0 w1 w2 w3 w4 r20 q20) : HL_Pa_coldAt_20 p l e s m args below meth c g qpa qpae qpar qpau qpab w0 w1 w2 w3 w4 (bd_Pa_coldAt_20 w0 w1  r20) (okb_Pa_coldAt_20 w0 w1  r20  q20) := by
  intro x2p20 x4p20 x6p20 x7p20 hok z hz H locs ls hP hD hS hl
  obtain ⟨hx, hb, hr, hml, hown, hlk, hts, hK, hZo, hZ⟩ := id C
  unfold bd_Pa_coldAt_20 at hz
  unfold okb_Pa_coldAt_20 at hok
  refine lv_iload hx hb d_Pa_coldAt_20 (lv_at hl 4 rfl) ?_
  refine lv_if_lt (tgt := 88) hx hb d_Pa_coldAt_22 (by decide) (fun c3 => ?_) (fun c3 => ?_)
  · have hz := hz.trans (if_pos c3)
    exact k_Pa_coldAt_88 C () trivial _ hz _ _ ls hP hD hS (lv_sub hl [0, 1] rfl)
  · have hz := hz.trans (if_neg c3)
    have hok := hok.2 c3
    refine lv_iload hx hb d_Pa_coldAt_25 (lv_at hl 4 rfl) ?_
    refine lv_aload_n hx hb d_Pa_coldAt_27 rfl (lv_at hl 0 rfl) ?_
    refine gf C hP 0 3 fkPa rfl (by decide) rfl qf_Pa_9 (gPa_3 _ _ _ _ _) d_Pa_coldAt_28 ?_
    refine alen C hP 1 rfl (t0 := 0) rfl (v := 4) rfl d_Pa_coldAt_31 ?_
    refine lv_icmp_ge (tgt := 45) hx hb d_Pa_coldAt_32 (by decide) (fun c4 => ?_) (fun c4 => ?_)
    · have hz := hz.trans (if_pos c4)
      have hok := hok.1 c4
      refine lv_iconst (v := 0) hx hb d_Pa_coldAt_45 (by decide) ?_
      exact k_Pa_coldAt_46 C ih20 (0 : Int32) hok _ hz _ _ ls hP hD hS hl
    · have hz := hz.trans (if_neg c4)
      have hok := hok.2 c4
      refine lv_aload_n hx hb d_Pa_coldAt_35 rfl (lv_at hl 0 rfl) ?_
      refine gf C hP 0 3 fkPa rfl (by decide) rfl qf_Pa_9 (gPa_3 _ _ _ _ _) d_Pa_coldAt_36 ?_
      refine lv_iload hx hb d_Pa_coldAt_39 (lv_at hl 4 rfl) ?_
      refine ldI C hP 1 rfl (vi2 (vlo c3) (vhi c4) (by decide)) rfl d_Pa_coldAt_41 ?_
      refine lv_goto (tgt := 46) hx hb d_Pa_coldAt_42 (by decide) ?_
      exact k_Pa_coldAt_46 C ih20 (w1 x7p20.toNatClampNeg) hok _ hz _ _ ls hP hD hS hl
theorem k_Pa_coldAt_20 {p : Program} {l : Launch} {e : Env} {s : State} {m : MethodId} {args : Array Value} {below : List Frame} {meth : Method} {c : Code} {g : GX} {qpa : Nat} {qpae : Nat} {qpar : Nat} {qpau : Nat} {qpab : Nat} {w0 : IV} {w1 : IV} {w2 : IV} {w3 : IV} {w4 : IV}  (C : Cx p s m args meth c (inW (wPa g qpa qpae qpar qpau qpab w0 w1 w2 w3 w4)) g "DecadeBridge$Parts" b_Pa_coldAt (some .int) 9) (f : Nat)  : HL_Pa_coldAt_20 p l e s m args below meth c g qpa qpae qpar qpau qpab w0 w1 w2 w3 w4 (sp_Pa_coldAt_20 w0 w1  f) (ok_Pa_coldAt_20 w0 w1   f) := by
  induction f with
  | zero => intro x2p20 x4p20 x6p20 x7p20 hok; exact False.elim hok
  | succ f ih => exact kb_Pa_coldAt_20 C  ih
noncomputable def sp_Pa_coldAt (p1 : Int32) (w0 : IV) (w1 : IV) : Int32 := lett ((w0 1).toInt64) fun (v1 : Int64) => lett ((w0 0) - (1 : Int32)) fun (v2 : Int32) => sp_Pa_coldAt_20 w0 w1 big (0 : Int64) v1 p1 v2
def ok_Pa_coldAt (p1 : Int32) (w0 : IV) (w1 : IV) : Prop := lett ((w0 1).toInt64) fun (v1 : Int64) => lett ((w0 0) - (1 : Int32)) fun (v2 : Int32) => ok_Pa_coldAt_20 w0 w1 big (0 : Int64) v1 p1 v2
set_option maxRecDepth 100000 in
set_option maxHeartbeats 4000000 in
theorem c_Pa_coldAt (l : Launch) (g : GX) (qpa : Nat) (qpae : Nat) (qpar : Nat) (qpau : Nat) (qpab : Nat) (w0 : IV) (w1 : IV) (w2 : IV) (w3 : IV) (w4 : IV) (p1 : Int32) (hok : ok_Pa_coldAt p1 w0 w1) : Met l y_Pa_coldAt (wsY y_Pa_coldAt b_Pa_coldAt 9 (some .int)) rm_Pa_coldAt (CP g [.ref qpa, .int p1] (wPa g qpa qpae qpar qpau qpab w0 w1 w2 w3 w4)) (CI0 g (wPa g qpa qpae qpar qpau qpab w0 w1 w2 w3 w4) (sp_Pa_coldAt p1 w0 w1)) 0 0 (inW (wPa g qpa qpae qpar qpau qpab w0 w1 w2 w3 w4)) := by
  refine Met.ofW (cc := b_Pa_coldAt) (maxL := 9) (ret := (some .int)) pn_Pa rfl ?_
  intro p e s m args below meth c s₁ B hml hv
  obtain ⟨rfl, C, hP, hD, hS⟩ := enter "DecadeBridge$Parts" rfl B hml hv
  obtain ⟨hx, hb, hr, hml, hown, hlk, hts, hK, hZo, hZ⟩ := id C
  refine entryW (lv := [(0, .ref qpa), (1, .int p1)]) rfl (Nat.le_of_ble_eq_true rfl) (fun ls hl => ?_)
  obtain ⟨z, hz⟩ : ∃ z, z = sp_Pa_coldAt p1 w0 w1 := ⟨_, rfl⟩
  rw [← hz]
  unfold sp_Pa_coldAt at hz
  unfold ok_Pa_coldAt at hok
  refine lv_lconst (v := 0) hx hb d_Pa_coldAt_0 (by decide) ?_
  refine lv_lstore_n (lv' := [(2, .long (0 : Int64)), (0, .ref qpa), (1, .int p1)]) hx hb d_Pa_coldAt_1 rfl hl (by decide) rfl (fun ls hl => ?_)
  refine lv_aload_n hx hb d_Pa_coldAt_2 rfl (lv_at hl 1 rfl) ?_
  refine gf C hP 0 1 fkPa rfl (by decide) rfl qf_Pa_35 (gPa_1 _ _ _ _ _) d_Pa_coldAt_3 ?_
  refine lv_i2l hx hb d_Pa_coldAt_6 rfl ?_
  refine lv_topl (fun v1 ev1 => ?_)
  have hz := lett_z hz ev1
  have hok := lett_o hok ev1
  refine lv_lstore (lv' := [(4, .long v1), (2, .long (0 : Int64)), (0, .ref qpa), (1, .int p1)]) hx hb d_Pa_coldAt_7 hl (by decide) rfl (fun ls hl => ?_)
  refine lv_iload_n hx hb d_Pa_coldAt_9 rfl (lv_at hl 3 rfl) ?_
  refine lv_istore (lv' := [(6, .int p1), (4, .long v1), (2, .long (0 : Int64)), (0, .ref qpa), (1, .int p1)]) hx hb d_Pa_coldAt_10 hl (by decide) rfl (fun ls hl => ?_)
  refine lv_aload_n hx hb d_Pa_coldAt_12 rfl (lv_at hl 3 rfl) ?_
  refine gf C hP 0 0 fkPa rfl (by decide) rfl qf_Pa_31 (gPa_0 _ _ _ _ _) d_Pa_coldAt_13 ?_
  refine lv_iconst (v := 1) hx hb d_Pa_coldAt_16 (by decide) ?_
  refine lv_isub hx hb d_Pa_coldAt_17 ?_
  refine lv_topi (fun v2 ev2 => ?_)
  have hz := lett_z hz ev2
  have hok := lett_o hok ev2
  refine lv_istore (lv' := [(7, .int v2), (6, .int p1), (4, .long v1), (2, .long (0 : Int64)), (0, .ref qpa), (1, .int p1)]) hx hb d_Pa_coldAt_18 hl (by decide) rfl (fun ls hl => ?_)
  exact k_Pa_coldAt_20 C big (0 : Int64) v1 p1 v2 hok _ hz _ _ ls hP hD hS (lv_sub hl [4, 3, 2, 1, 0] rfl)
abbrev rm_Pr_inRow30 : Room := { frames := 0, cells := 0, slots := 0, locals := 0 }
def HL_Pr_inRow30_16 (p : Program) (l : Launch) (e : Env) (s : State) (m : MethodId) (args : Array Value) (below : List Frame) (meth : Method) (c : Code) (g : GX) (qar : Nat) (ff : IV) (sp : Int32) (ok : Prop) : Prop := ∀ (_ : Unit), ok → ∀ z : Int32, z = sp → ∀ (H : Heap) (locs : List Loc) (ls : Array Slot), va_P g.1 vwCl (wA30 g qar ff) H → va_D (inW (wA30 g qar ff)) (wA30 g qar ff) → va_S (inW (wA30 g qar ff)) s.heap H locs → lv_has ls 2 [] → W p l e rm_Pr_inRow30 s m args below meth c H locs 0 0 (MQ below (CI0 g (wA30 g qar ff) z) args s 0 0 (inW (wA30 g qar ff))) (F0 m 16 ls [])
noncomputable def sp_Pr_inRow30_16    : Int32 := (-1 : Int32)
def ok_Pr_inRow30_16     : Prop := True
set_option maxRecDepth 100000 in
set_option maxHeartbeats 4000000 in
theorem k_Pr_inRow30_16 {p : Program} {l : Launch} {e : Env} {s : State} {m : MethodId} {args : Array Value} {below : List Frame} {meth : Method} {c : Code} {g : GX} {qar : Nat} {ff : IV}  (C : Cx p s m args meth c (inW (wA30 g qar ff)) g "DecadeBridge$Protocol" b_Pr_inRow (some .int) 2)  : HL_Pr_inRow30_16 p l e s m args below meth c g qar ff (sp_Pr_inRow30_16  ) (ok_Pr_inRow30_16   ) := by
  intro _ hok z hz H locs ls hP hD hS hl
  obtain ⟨hx, hb, hr, hml, hown, hlk, hts, hK, hZo, hZ⟩ := id C
  unfold sp_Pr_inRow30_16 at hz
  refine lv_iconst (v := -1) hx hb d_Pr_inRow_16 (by decide) ?_
  exact endI0 C hz hP hS d_Pr_inRow_17
noncomputable def sp_Pr_inRow30 (p2 : Int32) (ff : IV) : Int32 := if p2 < 0 then (sp_Pr_inRow30_16) else (if (30 : Int32) ≤ p2 then (sp_Pr_inRow30_16) else (ff p2.toNatClampNeg))
set_option maxRecDepth 100000 in
set_option maxHeartbeats 4000000 in
theorem c_Pr_inRow30 (l : Launch) (g : GX) (qar : Nat) (ff : IV) (p2 : Int32) : Met l y_Pr_inRow (wsY y_Pr_inRow b_Pr_inRow 2 (some .int)) rm_Pr_inRow30 (CP g [.ref qar, .int p2] (wA30 g qar ff)) (CI0 g (wA30 g qar ff) (sp_Pr_inRow30 p2 ff)) 0 0 (inW (wA30 g qar ff)) := by
  refine Met.ofW (cc := b_Pr_inRow) (maxL := 2) (ret := (some .int)) pn_Pr rfl ?_
  intro p e s m args below meth c s₁ B hml hv
  obtain ⟨rfl, C, hP, hD, hS⟩ := enter "DecadeBridge$Protocol" rfl B hml hv
  obtain ⟨hx, hb, hr, hml, hown, hlk, hts, hK, hZo, hZ⟩ := id C
  refine entryW (lv := [(0, .ref qar), (1, .int p2)]) rfl (Nat.le_of_ble_eq_true rfl) (fun ls hl => ?_)
  obtain ⟨z, hz⟩ : ∃ z, z = sp_Pr_inRow30 p2 ff := ⟨_, rfl⟩
  rw [← hz]
  unfold sp_Pr_inRow30 at hz
  refine lv_iload_n hx hb d_Pr_inRow_0 rfl (lv_at hl 1 rfl) ?_
  refine lv_if_lt (tgt := 16) hx hb d_Pr_inRow_1 (by decide) (fun c1 => ?_) (fun c1 => ?_)
  · have hz := hz.trans (if_pos c1)
    exact k_Pr_inRow30_16 C () trivial _ hz _ _ ls hP hD hS (lv_sub hl [] rfl)
  · have hz := hz.trans (if_neg c1)
    refine lv_iload_n hx hb d_Pr_inRow_4 rfl (lv_at hl 1 rfl) ?_
    refine lv_aload_n hx hb d_Pr_inRow_5 rfl (lv_at hl 0 rfl) ?_
    refine alen C hP 0 rfl (t0 := 0) rfl (v := 30) rfl d_Pr_inRow_6 ?_
    refine lv_icmp_ge (tgt := 16) hx hb d_Pr_inRow_7 (by decide) (fun c2 => ?_) (fun c2 => ?_)
    · have hz := hz.trans (if_pos c2)
      exact k_Pr_inRow30_16 C () trivial _ hz _ _ ls hP hD hS (lv_sub hl [] rfl)
    · have hz := hz.trans (if_neg c2)
      refine lv_aload_n hx hb d_Pr_inRow_10 rfl (lv_at hl 0 rfl) ?_
      refine lv_iload_n hx hb d_Pr_inRow_11 rfl (lv_at hl 1 rfl) ?_
      refine ldI C hP 0 rfl (vi2 (vlo c1) (vhi c2) (by decide)) rfl d_Pr_inRow_12 ?_
      refine lv_goto (tgt := 17) hx hb d_Pr_inRow_13 (by decide) ?_
      exact endI0 C hz hP hS d_Pr_inRow_17
abbrev rm_Pr_inRow2 : Room := { frames := 0, cells := 0, slots := 0, locals := 0 }
def HL_Pr_inRow2_16 (p : Program) (l : Launch) (e : Env) (s : State) (m : MethodId) (args : Array Value) (below : List Frame) (meth : Method) (c : Code) (g : GX) (qar : Nat) (ff : IV) (sp : Int32) (ok : Prop) : Prop := ∀ (_ : Unit), ok → ∀ z : Int32, z = sp → ∀ (H : Heap) (locs : List Loc) (ls : Array Slot), va_P g.1 vwCl (wA2 g qar ff) H → va_D (inW (wA2 g qar ff)) (wA2 g qar ff) → va_S (inW (wA2 g qar ff)) s.heap H locs → lv_has ls 2 [] → W p l e rm_Pr_inRow2 s m args below meth c H locs 0 0 (MQ below (CI0 g (wA2 g qar ff) z) args s 0 0 (inW (wA2 g qar ff))) (F0 m 16 ls [])
noncomputable def sp_Pr_inRow2_16    : Int32 := (-1 : Int32)
def ok_Pr_inRow2_16     : Prop := True
set_option maxRecDepth 100000 in
set_option maxHeartbeats 4000000 in
theorem k_Pr_inRow2_16 {p : Program} {l : Launch} {e : Env} {s : State} {m : MethodId} {args : Array Value} {below : List Frame} {meth : Method} {c : Code} {g : GX} {qar : Nat} {ff : IV}  (C : Cx p s m args meth c (inW (wA2 g qar ff)) g "DecadeBridge$Protocol" b_Pr_inRow (some .int) 2)  : HL_Pr_inRow2_16 p l e s m args below meth c g qar ff (sp_Pr_inRow2_16  ) (ok_Pr_inRow2_16   ) := by
  intro _ hok z hz H locs ls hP hD hS hl
  obtain ⟨hx, hb, hr, hml, hown, hlk, hts, hK, hZo, hZ⟩ := id C
  unfold sp_Pr_inRow2_16 at hz
  refine lv_iconst (v := -1) hx hb d_Pr_inRow_16 (by decide) ?_
  exact endI0 C hz hP hS d_Pr_inRow_17
noncomputable def sp_Pr_inRow2 (p2 : Int32) (ff : IV) : Int32 := if p2 < 0 then (sp_Pr_inRow2_16) else (if (2 : Int32) ≤ p2 then (sp_Pr_inRow2_16) else (ff p2.toNatClampNeg))
set_option maxRecDepth 100000 in
set_option maxHeartbeats 4000000 in
theorem c_Pr_inRow2 (l : Launch) (g : GX) (qar : Nat) (ff : IV) (p2 : Int32) : Met l y_Pr_inRow (wsY y_Pr_inRow b_Pr_inRow 2 (some .int)) rm_Pr_inRow2 (CP g [.ref qar, .int p2] (wA2 g qar ff)) (CI0 g (wA2 g qar ff) (sp_Pr_inRow2 p2 ff)) 0 0 (inW (wA2 g qar ff)) := by
  refine Met.ofW (cc := b_Pr_inRow) (maxL := 2) (ret := (some .int)) pn_Pr rfl ?_
  intro p e s m args below meth c s₁ B hml hv
  obtain ⟨rfl, C, hP, hD, hS⟩ := enter "DecadeBridge$Protocol" rfl B hml hv
  obtain ⟨hx, hb, hr, hml, hown, hlk, hts, hK, hZo, hZ⟩ := id C
  refine entryW (lv := [(0, .ref qar), (1, .int p2)]) rfl (Nat.le_of_ble_eq_true rfl) (fun ls hl => ?_)
  obtain ⟨z, hz⟩ : ∃ z, z = sp_Pr_inRow2 p2 ff := ⟨_, rfl⟩
  rw [← hz]
  unfold sp_Pr_inRow2 at hz
  refine lv_iload_n hx hb d_Pr_inRow_0 rfl (lv_at hl 1 rfl) ?_
  refine lv_if_lt (tgt := 16) hx hb d_Pr_inRow_1 (by decide) (fun c1 => ?_) (fun c1 => ?_)
  · have hz := hz.trans (if_pos c1)
    exact k_Pr_inRow2_16 C () trivial _ hz _ _ ls hP hD hS (lv_sub hl [] rfl)
  · have hz := hz.trans (if_neg c1)
    refine lv_iload_n hx hb d_Pr_inRow_4 rfl (lv_at hl 1 rfl) ?_
    refine lv_aload_n hx hb d_Pr_inRow_5 rfl (lv_at hl 0 rfl) ?_
    refine alen C hP 0 rfl (t0 := 0) rfl (v := 2) rfl d_Pr_inRow_6 ?_
    refine lv_icmp_ge (tgt := 16) hx hb d_Pr_inRow_7 (by decide) (fun c2 => ?_) (fun c2 => ?_)
    · have hz := hz.trans (if_pos c2)
      exact k_Pr_inRow2_16 C () trivial _ hz _ _ ls hP hD hS (lv_sub hl [] rfl)
    · have hz := hz.trans (if_neg c2)
      refine lv_aload_n hx hb d_Pr_inRow_10 rfl (lv_at hl 0 rfl) ?_
      refine lv_iload_n hx hb d_Pr_inRow_11 rfl (lv_at hl 1 rfl) ?_
      refine ldI C hP 0 rfl (vi2 (vlo c1) (vhi c2) (by decide)) rfl d_Pr_inRow_12 ?_
      refine lv_goto (tgt := 17) hx hb d_Pr_inRow_13 (by decide) ?_
      exact endI0 C hz hP hS d_Pr_inRow_17
abbrev rm_Pr_wordOf : Room := { frames := 0, cells := 0, slots := 0, locals := 0 }
noncomputable def sp_Pr_wordOf (p1 : Int32) : Nat := if p1 = (0 : Int32) then (8) else (if p1 = (1 : Int32) then (9) else (if p1 = (2 : Int32) then (10) else (if p1 = (3 : Int32) then (11) else (if p1 = (4 : Int32) then (12) else (if p1 = (5 : Int32) then (13) else (if p1 = (6 : Int32) then (14) else (if p1 = (7 : Int32) then (15) else (if p1 = (8 : Int32) then (16) else (17)))))))))
set_option maxRecDepth 100000 in
set_option maxHeartbeats 4000000 in
theorem c_Pr_wordOf (l : Launch) (g : GX)   (p1 : Int32) : Met l y_Pr_wordOf (wsY y_Pr_wordOf b_Pr_wordOf 1 (some (.object "java/lang/String"))) rm_Pr_wordOf (CP g [.int p1] (wNil g )) (CS0 g (wNil g ) (sp_Pr_wordOf p1)) 0 0 (inW (wNil g )) := by
  refine Met.ofW (cc := b_Pr_wordOf) (maxL := 1) (ret := (some (.object "java/lang/String"))) pn_Pr rfl ?_
  intro p e s m args below meth c s₁ B hml hv
  obtain ⟨rfl, C, hP, hD, hS⟩ := enter "DecadeBridge$Protocol" rfl B hml hv
  obtain ⟨hx, hb, hr, hml, hown, hlk, hts, hK, hZo, hZ⟩ := id C
  refine entryW (lv := [(0, .int p1)]) rfl (Nat.le_of_ble_eq_true rfl) (fun ls hl => ?_)
  obtain ⟨z, hz⟩ : ∃ z, z = sp_Pr_wordOf p1 := ⟨_, rfl⟩
  rw [← hz]
  unfold sp_Pr_wordOf at hz
  refine lv_iload_n hx hb d_Pr_wordOf_0 rfl (lv_at hl 0 rfl) ?_
  by_cases c1_0 : p1 = (0 : Int32)
  · have hz := hz.trans (if_pos c1_0)
    refine lv_tableIn (x := p1) (off := 51) (tgt := 52) hx hb d_Pr_wordOf_1 (by rw [c1_0]; decide) (by rw [c1_0]; decide) (by rw [c1_0]; rfl) (by decide) ?_
    refine va_ldcS hx hb hown (zRef hZo hZ ("DecadeBridge$Protocol", 92, 8) (by decide +kernel)) d_Pr_wordOf_52 ?_
    exact endS0 C (Or.inl ⟨_, rfl⟩) hz hP hS d_Pr_wordOf_54
  have hz := hz.trans (if_neg c1_0)
  by_cases c1_1 : p1 = (1 : Int32)
  · have hz := hz.trans (if_pos c1_1)
    refine lv_tableIn (x := p1) (off := 54) (tgt := 55) hx hb d_Pr_wordOf_1 (by rw [c1_1]; decide) (by rw [c1_1]; decide) (by rw [c1_1]; rfl) (by decide) ?_
    refine va_ldcS hx hb hown (zRef hZo hZ ("DecadeBridge$Protocol", 94, 9) (by decide +kernel)) d_Pr_wordOf_55 ?_
    exact endS0 C (Or.inl ⟨_, rfl⟩) hz hP hS d_Pr_wordOf_57
  have hz := hz.trans (if_neg c1_1)
  by_cases c1_2 : p1 = (2 : Int32)
  · have hz := hz.trans (if_pos c1_2)
    refine lv_tableIn (x := p1) (off := 57) (tgt := 58) hx hb d_Pr_wordOf_1 (by rw [c1_2]; decide) (by rw [c1_2]; decide) (by rw [c1_2]; rfl) (by decide) ?_
    refine va_ldcS hx hb hown (zRef hZo hZ ("DecadeBridge$Protocol", 96, 10) (by decide +kernel)) d_Pr_wordOf_58 ?_
    exact endS0 C (Or.inl ⟨_, rfl⟩) hz hP hS d_Pr_wordOf_60
  have hz := hz.trans (if_neg c1_2)
  by_cases c1_3 : p1 = (3 : Int32)
  · have hz := hz.trans (if_pos c1_3)
    refine lv_tableIn (x := p1) (off := 60) (tgt := 61) hx hb d_Pr_wordOf_1 (by rw [c1_3]; decide) (by rw [c1_3]; decide) (by rw [c1_3]; rfl) (by decide) ?_
    refine va_ldcS hx hb hown (zRef hZo hZ ("DecadeBridge$Protocol", 98, 11) (by decide +kernel)) d_Pr_wordOf_61 ?_
    exact endS0 C (Or.inl ⟨_, rfl⟩) hz hP hS d_Pr_wordOf_63
  have hz := hz.trans (if_neg c1_3)
  by_cases c1_4 : p1 = (4 : Int32)
  · have hz := hz.trans (if_pos c1_4)
    refine lv_tableIn (x := p1) (off := 63) (tgt := 64) hx hb d_Pr_wordOf_1 (by rw [c1_4]; decide) (by rw [c1_4]; decide) (by rw [c1_4]; rfl) (by decide) ?_
    refine va_ldcS hx hb hown (zRef hZo hZ ("DecadeBridge$Protocol", 100, 12) (by decide +kernel)) d_Pr_wordOf_64 ?_
    exact endS0 C (Or.inl ⟨_, rfl⟩) hz hP hS d_Pr_wordOf_66
  have hz := hz.trans (if_neg c1_4)
  by_cases c1_5 : p1 = (5 : Int32)
  · have hz := hz.trans (if_pos c1_5)
    refine lv_tableIn (x := p1) (off := 66) (tgt := 67) hx hb d_Pr_wordOf_1 (by rw [c1_5]; decide) (by rw [c1_5]; decide) (by rw [c1_5]; rfl) (by decide) ?_
    refine va_ldcS hx hb hown (zRef hZo hZ ("DecadeBridge$Protocol", 102, 13) (by decide +kernel)) d_Pr_wordOf_67 ?_
    exact endS0 C (Or.inl ⟨_, rfl⟩) hz hP hS d_Pr_wordOf_69
  have hz := hz.trans (if_neg c1_5)
  by_cases c1_6 : p1 = (6 : Int32)
  · have hz := hz.trans (if_pos c1_6)
    refine lv_tableIn (x := p1) (off := 69) (tgt := 70) hx hb d_Pr_wordOf_1 (by rw [c1_6]; decide) (by rw [c1_6]; decide) (by rw [c1_6]; rfl) (by decide) ?_
    refine va_ldcS hx hb hown (zRef hZo hZ ("DecadeBridge$Protocol", 104, 14) (by decide +kernel)) d_Pr_wordOf_70 ?_
    exact endS0 C (Or.inl ⟨_, rfl⟩) hz hP hS d_Pr_wordOf_72
  have hz := hz.trans (if_neg c1_6)
  by_cases c1_7 : p1 = (7 : Int32)
  · have hz := hz.trans (if_pos c1_7)
    refine lv_tableIn (x := p1) (off := 72) (tgt := 73) hx hb d_Pr_wordOf_1 (by rw [c1_7]; decide) (by rw [c1_7]; decide) (by rw [c1_7]; rfl) (by decide) ?_
    refine va_ldcS hx hb hown (zRef hZo hZ ("DecadeBridge$Protocol", 106, 15) (by decide +kernel)) d_Pr_wordOf_73 ?_
    exact endS0 C (Or.inl ⟨_, rfl⟩) hz hP hS d_Pr_wordOf_75
  have hz := hz.trans (if_neg c1_7)
  by_cases c1_8 : p1 = (8 : Int32)
  · have hz := hz.trans (if_pos c1_8)
    refine lv_tableIn (x := p1) (off := 75) (tgt := 76) hx hb d_Pr_wordOf_1 (by rw [c1_8]; decide) (by rw [c1_8]; decide) (by rw [c1_8]; rfl) (by decide) ?_
    refine va_ldcS hx hb hown (zRef hZo hZ ("DecadeBridge$Protocol", 108, 16) (by decide +kernel)) d_Pr_wordOf_76 ?_
    exact endS0 C (Or.inl ⟨_, rfl⟩) hz hP hS d_Pr_wordOf_78
  have hz := hz.trans (if_neg c1_8)
  refine lv_tableOut (x := p1) (tgt := 79) hx hb d_Pr_wordOf_1 (tswL (x := p1) (lo := 0) (hi := 8) 9 [(0 : Int32), (1 : Int32), (2 : Int32), (3 : Int32), (4 : Int32), (5 : Int32), (6 : Int32), (7 : Int32), (8 : Int32)] (by decide) (by decide) (List.forall_mem_cons.mpr ⟨c1_0, List.forall_mem_cons.mpr ⟨c1_1, List.forall_mem_cons.mpr ⟨c1_2, List.forall_mem_cons.mpr ⟨c1_3, List.forall_mem_cons.mpr ⟨c1_4, List.forall_mem_cons.mpr ⟨c1_5, List.forall_mem_cons.mpr ⟨c1_6, List.forall_mem_cons.mpr ⟨c1_7, List.forall_mem_cons.mpr ⟨c1_8, fun _ h => absurd h List.not_mem_nil⟩⟩⟩⟩⟩⟩⟩⟩⟩)) (by decide) ?_
  refine va_ldcS hx hb hown (zRef hZo hZ ("DecadeBridge$Protocol", 110, 17) (by decide +kernel)) d_Pr_wordOf_79 ?_
  exact endS0 C (Or.inl ⟨_, rfl⟩) hz hP hS d_Pr_wordOf_81
abbrev rm_Pr_start : Room := { frames := 0, cells := 0, slots := 0, locals := 0 }
noncomputable def sp_Pr_start (pi : IV) : IV := lett (upd pi 9 (0 : Int32)) fun (pi_1 : IV) => lett (upd pi_1 8 (0 : Int32)) fun (pi_2 : IV) => pi_2
set_option maxRecDepth 100000 in
set_option maxHeartbeats 4000000 in
theorem c_Pr_start (l : Launch) (g : GX) (qpr : Nat) (qpro : Nat) (qprf : Nat) (qprs : Nat) (qprb : Nat) (qprn : Nat) (qprt : Nat) (qte : Nat) (qteb : Nat) (pi : IV) (po : IV) (pf : IV) (ps : IV) (pb : IV) (pn : IV) (pt : IV) (t : IV) (tb : IV)  : Met l y_Pr_start (wsY y_Pr_start b_Pr_start 1 none) rm_Pr_start (CP g [.ref qpr] (wPr g qpr qpro qprf qprs qprb qprn qprt qte qteb pi po pf ps pb pn pt t tb)) (CV g (wPr g qpr qpro qprf qprs qprb qprn qprt qte qteb pi po pf ps pb pn pt t tb) (fun u : IV => wPr g qpr qpro qprf qprs qprb qprn qprt qte qteb u po pf ps pb pn pt t tb) (sp_Pr_start pi)) 0 0 (inW (wPr g qpr qpro qprf qprs qprb qprn qprt qte qteb pi po pf ps pb pn pt t tb)) := by
  refine Met.ofW (cc := b_Pr_start) (maxL := 1) (ret := none) pn_Pr rfl ?_
  intro p e s m args below meth c s₁ B hml hv
  obtain ⟨rfl, C, hP, hD, hS⟩ := enter "DecadeBridge$Protocol" rfl B hml hv
  obtain ⟨hx, hb, hr, hml, hown, hlk, hts, hK, hZo, hZ⟩ := id C
  refine entryW (lv := [(0, .ref qpr)]) rfl (Nat.le_of_ble_eq_true rfl) (fun ls hl => ?_)
  obtain ⟨z, hz⟩ : ∃ z, z = sp_Pr_start pi := ⟨_, rfl⟩
  rw [← hz]
  unfold sp_Pr_start at hz
  refine lv_aload_n hx hb d_Pr_start_0 rfl (lv_at hl 0 rfl) ?_
  refine lv_iconst (v := 0) hx hb d_Pr_start_1 (by decide) ?_
  refine pfI C hP hD hS 0 9 fkPr rfl (by decide) rfl qf_Pr_120 rfl rfl rfl (Nat.le_of_ble_eq_true rfl) (ff := fun o => fPr qte qpro qprf qprs qprb qprn qprt o) (sPr_9 _ _ _ _ _ _ _ _ _) d_Pr_start_2 (fun pi_1 epi_1 H locs hP hD hS => ?_)
  have hP : va_P g.1 vwCl (wPr g qpr qpro qprf qprs qprb qprn qprt qte qteb pi_1 po pf ps pb pn pt t tb) H := hP
  have hD : va_D (inW (wPr g qpr qpro qprf qprs qprb qprn qprt qte qteb pi po pf ps pb pn pt t tb)) (wPr g qpr qpro qprf qprs qprb qprn qprt qte qteb pi_1 po pf ps pb pn pt t tb) := hD
  have hz := lett_z hz epi_1
  refine lv_aload_n hx hb d_Pr_start_5 rfl (lv_at hl 0 rfl) ?_
  refine lv_iconst (v := 0) hx hb d_Pr_start_6 (by decide) ?_
  refine pfI C hP hD hS 0 8 fkPr rfl (by decide) rfl qf_Pr_42 rfl rfl rfl (Nat.le_of_ble_eq_true rfl) (ff := fun o => fPr qte qpro qprf qprs qprb qprn qprt o) (sPr_8 _ _ _ _ _ _ _ _ _) d_Pr_start_7 (fun pi_2 epi_2 H locs hP hD hS => ?_)
  have hP : va_P g.1 vwCl (wPr g qpr qpro qprf qprs qprb qprn qprt qte qteb pi_2 po pf ps pb pn pt t tb) H := hP
  have hD : va_D (inW (wPr g qpr qpro qprf qprs qprb qprn qprt qte qteb pi po pf ps pb pn pt t tb)) (wPr g qpr qpro qprf qprs qprb qprn qprt qte qteb pi_2 po pf ps pb pn pt t tb) := hD
  have hz := lett_z hz epi_2
  exact endV C hz hP hS d_Pr_start_10
abbrev rm_Pr_enter : Room := { frames := 1, cells := 0, slots := 0, locals := 21 }
def HL_Pr_enter_81 (p : Program) (l : Launch) (e : Env) (s : State) (m : MethodId) (args : Array Value) (below : List Frame) (meth : Method) (c : Code) (g : GX) (qpr : Nat) (qpro : Nat) (qprf : Nat) (qprs : Nat) (qprb : Nat) (qprn : Nat) (qprt : Nat) (qte : Nat) (qteb : Nat) (ws0 : va_W) (pi : IV) (po : IV) (pf : IV) (ps : IV) (pb : IV) (pn : IV) (pt : IV) (t : IV) (tb : IV) (sp : (IV × IV × IV)) (ok : Prop) : Prop := ∀ (_ : Unit), ok → ∀ z : (IV × IV × IV), z = sp → ∀ (H : Heap) (locs : List Loc) (ls : Array Slot), va_P g.1 vwCl (wPr g qpr qpro qprf qprs qprb qprn qprt qte qteb pi po pf ps pb pn pt t tb) H → va_D (inW ws0) (wPr g qpr qpro qprf qprs qprb qprn qprt qte qteb pi po pf ps pb pn pt t tb) → va_S (inW ws0) s.heap H locs → lv_has ls 2 [(0, .ref qpr)] → W p l e rm_Pr_enter s m args below meth c H locs 0 0 (MQ below (CV g ws0 (fun u : IV × IV × IV => wPr g qpr qpro qprf qprs qprb qprn qprt qte qteb u.1 po pf ps pb u.2.1 u.2.2 t tb) z) args s 0 0 (inW ws0)) (F0 m 81 ls [])
noncomputable def sp_Pr_enter_81 (pi : IV) (pb : IV) (pn : IV) (pt : IV)   : IV × IV × IV := lett (sp_Pr_inRow30 (pi 9) pb) fun (y9 : Int32) => lett (upd pi 9 y9) fun (pi_10 : IV) => (pi_10, pn, pt)
def ok_Pr_enter_81 (pi : IV) (pb : IV) (pn : IV) (pt : IV)    : Prop := True
set_option maxRecDepth 100000 in
set_option maxHeartbeats 4000000 in
theorem k_Pr_enter_81 {p : Program} {l : Launch} {e : Env} {s : State} {m : MethodId} {args : Array Value} {below : List Frame} {meth : Method} {c : Code} {g : GX} {qpr : Nat} {qpro : Nat} {qprf : Nat} {qprs : Nat} {qprb : Nat} {qprn : Nat} {qprt : Nat} {qte : Nat} {qteb : Nat} {ws0 : va_W} {pi : IV} {po : IV} {pf : IV} {ps : IV} {pb : IV} {pn : IV} {pt : IV} {t : IV} {tb : IV}  (C : Cx p s m args meth c (inW ws0) g "DecadeBridge$Protocol" b_Pr_enter none 2)  : HL_Pr_enter_81 p l e s m args below meth c g qpr qpro qprf qprs qprb qprn qprt qte qteb ws0 pi po pf ps pb pn pt t tb (sp_Pr_enter_81 pi pb pn pt ) (ok_Pr_enter_81 pi pb pn pt  ) := by
  intro _ hok z hz H locs ls hP hD hS hl
  obtain ⟨hx, hb, hr, hml, hown, hlk, hts, hK, hZo, hZ⟩ := id C
  unfold sp_Pr_enter_81 at hz
  refine lv_aload_n hx hb d_Pr_enter_81 rfl (lv_at hl 0 rfl) ?_
  refine lv_aload_n hx hb d_Pr_enter_82 rfl (lv_at hl 0 rfl) ?_
  refine gf C hP 0 4 fkPr rfl (by decide) rfl qf_Pr_21 (gPr_4 _ _ _ _ _ _ _ _) d_Pr_enter_83 ?_
  refine lv_aload_n hx hb d_Pr_enter_86 rfl (lv_at hl 0 rfl) ?_
  refine gf C hP 0 9 fkPr rfl (by decide) rfl qf_Pr_120 (gPr_9 _ _ _ _ _ _ _ _) d_Pr_enter_87 ?_
  have hB : SubW g (inW ws0) s (wPr g qpr qpro qprf qprs qprb qprn qprt qte qteb pi po pf ps pb pn pt t tb) (wA30 g qprb pb) [4] _ _ := ⟨rfl, rfl, hP, hD, hS⟩
  refine goI0 hB (run_s C mf_Pr_inRow qm_Pr_34 (c_Pr_inRow30 l g qprb pb (pi 9)) rfl rfl ⟨Nat.le_of_ble_eq_true rfl, Nat.le_of_ble_eq_true rfl⟩ ⟨Nat.le_of_ble_eq_true rfl, Nat.le_of_ble_eq_true rfl⟩ hB hl rfl rfl (Nat.le_of_ble_eq_true rfl) d_Pr_enter_90) (fun y9 ey9 H locs hP hS => ?_)
  have hz := lett_z hz ey9
  refine pfI C hP hD hS 0 9 fkPr rfl (by decide) rfl qf_Pr_120 rfl rfl rfl (Nat.le_of_ble_eq_true rfl) (ff := fun o => fPr qte qpro qprf qprs qprb qprn qprt o) (sPr_9 _ _ _ _ _ _ _ _ _) d_Pr_enter_93 (fun pi_10 epi_10 H locs hP hD hS => ?_)
  have hP : va_P g.1 vwCl (wPr g qpr qpro qprf qprs qprb qprn qprt qte qteb pi_10 po pf ps pb pn pt t tb) H := hP
  have hD : va_D (inW ws0) (wPr g qpr qpro qprf qprs qprb qprn qprt qte qteb pi_10 po pf ps pb pn pt t tb) := hD
  have hz := lett_z hz epi_10
  exact endV C hz hP hS d_Pr_enter_96
noncomputable def sp_Pr_enter (p1 : Int32) (pi : IV) (pb : IV) (pn : IV) (pt : IV) : IV × IV × IV := if p1 ≤ 0 then (sp_Pr_enter_81 pi pb pn pt) else (if (pi 8) < 0 then (sp_Pr_enter_81 pi pb pn pt) else (if (2 : Int32) ≤ (pi 8) then (sp_Pr_enter_81 pi pb pn pt) else (if (2 : Int32) ≤ (pi 8) then (sp_Pr_enter_81 pi pb pn pt) else (lett (upd pn (pi 8).toNatClampNeg (pi 9)) fun (pn_5 : IV) => lett (upd pt (pi 8).toNatClampNeg p1) fun (pt_6 : IV) => lett (upd pi 8 ((pi 8) + (1 : Int32))) fun (pi_7 : IV) => lett (upd pi_7 9 ((pi_7 9) + (1 : Int32))) fun (pi_8 : IV) => (pi_8, pn_5, pt_6)))))
set_option maxRecDepth 100000 in
set_option maxHeartbeats 4000000 in
theorem c_Pr_enter (l : Launch) (g : GX) (qpr : Nat) (qpro : Nat) (qprf : Nat) (qprs : Nat) (qprb : Nat) (qprn : Nat) (qprt : Nat) (qte : Nat) (qteb : Nat) (pi : IV) (po : IV) (pf : IV) (ps : IV) (pb : IV) (pn : IV) (pt : IV) (t : IV) (tb : IV) (p1 : Int32) : Met l y_Pr_enter (wsY y_Pr_enter b_Pr_enter 2 none) rm_Pr_enter (CP g [.ref qpr, .int p1] (wPr g qpr qpro qprf qprs qprb qprn qprt qte qteb pi po pf ps pb pn pt t tb)) (CV g (wPr g qpr qpro qprf qprs qprb qprn qprt qte qteb pi po pf ps pb pn pt t tb) (fun u : IV × IV × IV => wPr g qpr qpro qprf qprs qprb qprn qprt qte qteb u.1 po pf ps pb u.2.1 u.2.2 t tb) (sp_Pr_enter p1 pi pb pn pt)) 0 0 (inW (wPr g qpr qpro qprf qprs qprb qprn qprt qte qteb pi po pf ps pb pn pt t tb)) := by
  refine Met.ofW (cc := b_Pr_enter) (maxL := 2) (ret := none) pn_Pr rfl ?_
  intro p e s m args below meth c s₁ B hml hv
  obtain ⟨rfl, C, hP, hD, hS⟩ := enter "DecadeBridge$Protocol" rfl B hml hv
  obtain ⟨hx, hb, hr, hml, hown, hlk, hts, hK, hZo, hZ⟩ := id C
  refine entryW (lv := [(0, .ref qpr), (1, .int p1)]) rfl (Nat.le_of_ble_eq_true rfl) (fun ls hl => ?_)
  obtain ⟨z, hz⟩ : ∃ z, z = sp_Pr_enter p1 pi pb pn pt := ⟨_, rfl⟩
  rw [← hz]
  unfold sp_Pr_enter at hz
  refine lv_iload_n hx hb d_Pr_enter_0 rfl (lv_at hl 1 rfl) ?_
  refine lv_if_le (tgt := 81) hx hb d_Pr_enter_1 (by decide) (fun c1 => ?_) (fun c1 => ?_)
  · have hz := hz.trans (if_pos c1)
    exact k_Pr_enter_81 C () trivial _ hz _ _ ls hP hD hS (lv_sub hl [0] rfl)
  · have hz := hz.trans (if_neg c1)
    refine lv_aload_n hx hb d_Pr_enter_4 rfl (lv_at hl 0 rfl) ?_
    refine gf C hP 0 8 fkPr rfl (by decide) rfl qf_Pr_42 (gPr_8 _ _ _ _ _ _ _ _) d_Pr_enter_5 ?_
    refine lv_if_lt (tgt := 81) hx hb d_Pr_enter_8 (by decide) (fun c2 => ?_) (fun c2 => ?_)
    · have hz := hz.trans (if_pos c2)
      exact k_Pr_enter_81 C () trivial _ hz _ _ ls hP hD hS (lv_sub hl [0] rfl)
    · have hz := hz.trans (if_neg c2)
      refine lv_aload_n hx hb d_Pr_enter_11 rfl (lv_at hl 0 rfl) ?_
      refine gf C hP 0 8 fkPr rfl (by decide) rfl qf_Pr_42 (gPr_8 _ _ _ _ _ _ _ _) d_Pr_enter_12 ?_
      refine lv_aload_n hx hb d_Pr_enter_15 rfl (lv_at hl 0 rfl) ?_
      refine gf C hP 0 5 fkPr rfl (by decide) rfl qf_Pr_24 (gPr_5 _ _ _ _ _ _ _ _) d_Pr_enter_16 ?_
      refine alen C hP 5 rfl (t0 := 0) rfl (v := 2) rfl d_Pr_enter_19 ?_
      refine lv_icmp_ge (tgt := 81) hx hb d_Pr_enter_20 (by decide) (fun c3 => ?_) (fun c3 => ?_)
      · have hz := hz.trans (if_pos c3)
        exact k_Pr_enter_81 C () trivial _ hz _ _ ls hP hD hS (lv_sub hl [0] rfl)
      · have hz := hz.trans (if_neg c3)
        refine lv_aload_n hx hb d_Pr_enter_23 rfl (lv_at hl 0 rfl) ?_
        refine gf C hP 0 8 fkPr rfl (by decide) rfl qf_Pr_42 (gPr_8 _ _ _ _ _ _ _ _) d_Pr_enter_24 ?_
        refine lv_aload_n hx hb d_Pr_enter_27 rfl (lv_at hl 0 rfl) ?_
        refine gf C hP 0 6 fkPr rfl (by decide) rfl qf_Pr_27 (gPr_6 _ _ _ _ _ _ _ _) d_Pr_enter_28 ?_
        refine alen C hP 6 rfl (t0 := 0) rfl (v := 2) rfl d_Pr_enter_31 ?_
        refine lv_icmp_ge (tgt := 81) hx hb d_Pr_enter_32 (by decide) (fun c4 => ?_) (fun c4 => ?_)
        · have hz := hz.trans (if_pos c4)
          exact k_Pr_enter_81 C () trivial _ hz _ _ ls hP hD hS (lv_sub hl [0] rfl)
        · have hz := hz.trans (if_neg c4)
          refine lv_aload_n hx hb d_Pr_enter_35 rfl (lv_at hl 0 rfl) ?_
          refine gf C hP 0 5 fkPr rfl (by decide) rfl qf_Pr_24 (gPr_5 _ _ _ _ _ _ _ _) d_Pr_enter_36 ?_
          refine lv_aload_n hx hb d_Pr_enter_39 rfl (lv_at hl 0 rfl) ?_
          refine gf C hP 0 8 fkPr rfl (by decide) rfl qf_Pr_42 (gPr_8 _ _ _ _ _ _ _ _) d_Pr_enter_40 ?_
          refine lv_aload_n hx hb d_Pr_enter_43 rfl (lv_at hl 0 rfl) ?_
          refine gf C hP 0 9 fkPr rfl (by decide) rfl qf_Pr_120 (gPr_9 _ _ _ _ _ _ _ _) d_Pr_enter_44 ?_
          refine stI C hP hD hS 5 rfl (vi2 (vlo c2) (vhi c4) (by decide)) rfl d_Pr_enter_47 (fun pn_5 epn_5 H locs hP hD hS => ?_)
          have hP : va_P g.1 vwCl (wPr g qpr qpro qprf qprs qprb qprn qprt qte qteb pi po pf ps pb pn_5 pt t tb) H := hP
          have hD : va_D (inW (wPr g qpr qpro qprf qprs qprb qprn qprt qte qteb pi po pf ps pb pn pt t tb)) (wPr g qpr qpro qprf qprs qprb qprn qprt qte qteb pi po pf ps pb pn_5 pt t tb) := hD
          have hz := lett_z hz epn_5
          refine lv_aload_n hx hb d_Pr_enter_48 rfl (lv_at hl 0 rfl) ?_
          refine gf C hP 0 6 fkPr rfl (by decide) rfl qf_Pr_27 (gPr_6 _ _ _ _ _ _ _ _) d_Pr_enter_49 ?_
          refine lv_aload_n hx hb d_Pr_enter_52 rfl (lv_at hl 0 rfl) ?_
          refine gf C hP 0 8 fkPr rfl (by decide) rfl qf_Pr_42 (gPr_8 _ _ _ _ _ _ _ _) d_Pr_enter_53 ?_
          refine lv_iload_n hx hb d_Pr_enter_56 rfl (lv_at hl 1 rfl) ?_
          refine stI C hP hD hS 6 rfl (vi2 (vlo c2) (vhi c4) (by decide)) rfl d_Pr_enter_57 (fun pt_6 ept_6 H locs hP hD hS => ?_)
          have hP : va_P g.1 vwCl (wPr g qpr qpro qprf qprs qprb qprn qprt qte qteb pi po pf ps pb pn_5 pt_6 t tb) H := hP
          have hD : va_D (inW (wPr g qpr qpro qprf qprs qprb qprn qprt qte qteb pi po pf ps pb pn pt t tb)) (wPr g qpr qpro qprf qprs qprb qprn qprt qte qteb pi po pf ps pb pn_5 pt_6 t tb) := hD
          have hz := lett_z hz ept_6
          refine lv_aload_n hx hb d_Pr_enter_58 rfl (lv_at hl 0 rfl) ?_
          refine lv_dup hx hb d_Pr_enter_59 rfl ?_
          refine gf C hP 0 8 fkPr rfl (by decide) rfl qf_Pr_42 (gPr_8 _ _ _ _ _ _ _ _) d_Pr_enter_60 ?_
          refine lv_iconst (v := 1) hx hb d_Pr_enter_63 (by decide) ?_
          refine lv_iadd hx hb d_Pr_enter_64 ?_
          refine pfI C hP hD hS 0 8 fkPr rfl (by decide) rfl qf_Pr_42 rfl rfl rfl (Nat.le_of_ble_eq_true rfl) (ff := fun o => fPr qte qpro qprf qprs qprb qprn qprt o) (sPr_8 _ _ _ _ _ _ _ _ _) d_Pr_enter_65 (fun pi_7 epi_7 H locs hP hD hS => ?_)
          have hP : va_P g.1 vwCl (wPr g qpr qpro qprf qprs qprb qprn qprt qte qteb pi_7 po pf ps pb pn_5 pt_6 t tb) H := hP
          have hD : va_D (inW (wPr g qpr qpro qprf qprs qprb qprn qprt qte qteb pi po pf ps pb pn pt t tb)) (wPr g qpr qpro qprf qprs qprb qprn qprt qte qteb pi_7 po pf ps pb pn_5 pt_6 t tb) := hD
          have hz := lett_z hz epi_7
          refine lv_aload_n hx hb d_Pr_enter_68 rfl (lv_at hl 0 rfl) ?_
          refine lv_dup hx hb d_Pr_enter_69 rfl ?_
          refine gf C hP 0 9 fkPr rfl (by decide) rfl qf_Pr_120 (gPr_9 _ _ _ _ _ _ _ _) d_Pr_enter_70 ?_
          refine lv_iconst (v := 1) hx hb d_Pr_enter_73 (by decide) ?_
          refine lv_iadd hx hb d_Pr_enter_74 ?_
          refine pfI C hP hD hS 0 9 fkPr rfl (by decide) rfl qf_Pr_120 rfl rfl rfl (Nat.le_of_ble_eq_true rfl) (ff := fun o => fPr qte qpro qprf qprs qprb qprn qprt o) (sPr_9 _ _ _ _ _ _ _ _ _) d_Pr_enter_75 (fun pi_8 epi_8 H locs hP hD hS => ?_)
          have hP : va_P g.1 vwCl (wPr g qpr qpro qprf qprs qprb qprn qprt qte qteb pi_8 po pf ps pb pn_5 pt_6 t tb) H := hP
          have hD : va_D (inW (wPr g qpr qpro qprf qprs qprb qprn qprt qte qteb pi po pf ps pb pn pt t tb)) (wPr g qpr qpro qprf qprs qprb qprn qprt qte qteb pi_8 po pf ps pb pn_5 pt_6 t tb) := hD
          have hz := lett_z hz epi_8
          refine lv_goto (tgt := 96) hx hb d_Pr_enter_78 (by decide) ?_
          exact endV C hz hP hS d_Pr_enter_96
abbrev rm_Pr_endTurn : Room := { frames := 0, cells := 0, slots := 0, locals := 0 }
def HL_Pr_endTurn_50 (p : Program) (l : Launch) (e : Env) (s : State) (m : MethodId) (args : Array Value) (below : List Frame) (meth : Method) (c : Code) (g : GX) (qpr : Nat) (qpro : Nat) (qprf : Nat) (qprs : Nat) (qprb : Nat) (qprn : Nat) (qprt : Nat) (qte : Nat) (qteb : Nat) (ws0 : va_W) (pi : IV) (po : IV) (pf : IV) (ps : IV) (pb : IV) (pn : IV) (pt : IV) (t : IV) (tb : IV) (v1 : Int32) (sp : (IV × IV)) (ok : Prop) : Prop := ∀ (_ : Unit), ok → ∀ z : (IV × IV), z = sp → ∀ (H : Heap) (locs : List Loc) (ls : Array Slot), va_P g.1 vwCl (wPr g qpr qpro qprf qprs qprb qprn qprt qte qteb pi po pf ps pb pn pt t tb) H → va_D (inW ws0) (wPr g qpr qpro qprf qprs qprb qprn qprt qte qteb pi po pf ps pb pn pt t tb) → va_S (inW ws0) s.heap H locs → lv_has ls 3 [(0, .ref qpr), (2, .int v1)] → W p l e rm_Pr_endTurn s m args below meth c H locs 0 0 (MQ below (CV g ws0 (fun u : IV × IV => wPr g qpr qpro qprf qprs qprb qprn qprt qte qteb u.1 po pf ps pb pn u.2 t tb) z) args s 0 0 (inW ws0)) (F0 m 50 ls [])
noncomputable def sp_Pr_endTurn_50 (pi : IV) (v1 : Int32) (pt : IV)   : IV × IV := lett (upd pi 8 v1) fun (pi_7 : IV) => (pi_7, pt)
def ok_Pr_endTurn_50 (pi : IV) (v1 : Int32) (pt : IV)    : Prop := True
set_option maxRecDepth 100000 in
set_option maxHeartbeats 4000000 in
theorem k_Pr_endTurn_50 {p : Program} {l : Launch} {e : Env} {s : State} {m : MethodId} {args : Array Value} {below : List Frame} {meth : Method} {c : Code} {g : GX} {qpr : Nat} {qpro : Nat} {qprf : Nat} {qprs : Nat} {qprb : Nat} {qprn : Nat} {qprt : Nat} {qte : Nat} {qteb : Nat} {ws0 : va_W} {pi : IV} {po : IV} {pf : IV} {ps : IV} {pb : IV} {pn : IV} {pt : IV} {t : IV} {tb : IV} {v1 : Int32}  (C : Cx p s m args meth c (inW ws0) g "DecadeBridge$Protocol" b_Pr_endTurn none 3)  : HL_Pr_endTurn_50 p l e s m args below meth c g qpr qpro qprf qprs qprb qprn qprt qte qteb ws0 pi po pf ps pb pn pt t tb v1 (sp_Pr_endTurn_50 pi v1 pt ) (ok_Pr_endTurn_50 pi v1 pt  ) := by
  intro _ hok z hz H locs ls hP hD hS hl
  obtain ⟨hx, hb, hr, hml, hown, hlk, hts, hK, hZo, hZ⟩ := id C
  unfold sp_Pr_endTurn_50 at hz
  refine lv_aload_n hx hb d_Pr_endTurn_50 rfl (lv_at hl 0 rfl) ?_
  refine lv_iload_n hx hb d_Pr_endTurn_51 rfl (lv_at hl 1 rfl) ?_
  refine pfI C hP hD hS 0 8 fkPr rfl (by decide) rfl qf_Pr_42 rfl rfl rfl (Nat.le_of_ble_eq_true rfl) (ff := fun o => fPr qte qpro qprf qprs qprb qprn qprt o) (sPr_8 _ _ _ _ _ _ _ _ _) d_Pr_endTurn_52 (fun pi_7 epi_7 H locs hP hD hS => ?_)
  have hP : va_P g.1 vwCl (wPr g qpr qpro qprf qprs qprb qprn qprt qte qteb pi_7 po pf ps pb pn pt t tb) H := hP
  have hD : va_D (inW ws0) (wPr g qpr qpro qprf qprs qprb qprn qprt qte qteb pi_7 po pf ps pb pn pt t tb) := hD
  have hz := lett_z hz epi_7
  exact endV C hz hP hS d_Pr_endTurn_55
noncomputable def sp_Pr_endTurn (p1 : Int32) (pi : IV) (pt : IV) : IV × IV := lett ((pi 8) - (1 : Int32)) fun (v1 : Int32) => if v1 < 0 then (sp_Pr_endTurn_50 pi v1 pt) else (if (2 : Int32) ≤ v1 then (sp_Pr_endTurn_50 pi v1 pt) else (if (pt v1.toNatClampNeg) ≤ (1 : Int32) then (sp_Pr_endTurn_50 pi v1 pt) else (lett (upd pt v1.toNatClampNeg ((pt v1.toNatClampNeg) - (1 : Int32))) fun (pt_5 : IV) => lett (upd pi 9 (p1 + (1 : Int32))) fun (pi_6 : IV) => (pi_6, pt_5))))
set_option maxRecDepth 100000 in
set_option maxHeartbeats 4000000 in
theorem c_Pr_endTurn (l : Launch) (g : GX) (qpr : Nat) (qpro : Nat) (qprf : Nat) (qprs : Nat) (qprb : Nat) (qprn : Nat) (qprt : Nat) (qte : Nat) (qteb : Nat) (pi : IV) (po : IV) (pf : IV) (ps : IV) (pb : IV) (pn : IV) (pt : IV) (t : IV) (tb : IV) (p1 : Int32) : Met l y_Pr_endTurn (wsY y_Pr_endTurn b_Pr_endTurn 3 none) rm_Pr_endTurn (CP g [.ref qpr, .int p1] (wPr g qpr qpro qprf qprs qprb qprn qprt qte qteb pi po pf ps pb pn pt t tb)) (CV g (wPr g qpr qpro qprf qprs qprb qprn qprt qte qteb pi po pf ps pb pn pt t tb) (fun u : IV × IV => wPr g qpr qpro qprf qprs qprb qprn qprt qte qteb u.1 po pf ps pb pn u.2 t tb) (sp_Pr_endTurn p1 pi pt)) 0 0 (inW (wPr g qpr qpro qprf qprs qprb qprn qprt qte qteb pi po pf ps pb pn pt t tb)) := by
  refine Met.ofW (cc := b_Pr_endTurn) (maxL := 3) (ret := none) pn_Pr rfl ?_
  intro p e s m args below meth c s₁ B hml hv
  obtain ⟨rfl, C, hP, hD, hS⟩ := enter "DecadeBridge$Protocol" rfl B hml hv
  obtain ⟨hx, hb, hr, hml, hown, hlk, hts, hK, hZo, hZ⟩ := id C
  refine entryW (lv := [(0, .ref qpr), (1, .int p1)]) rfl (Nat.le_of_ble_eq_true rfl) (fun ls hl => ?_)
  obtain ⟨z, hz⟩ : ∃ z, z = sp_Pr_endTurn p1 pi pt := ⟨_, rfl⟩
  rw [← hz]
  unfold sp_Pr_endTurn at hz
  refine lv_aload_n hx hb d_Pr_endTurn_0 rfl (lv_at hl 0 rfl) ?_
  refine gf C hP 0 8 fkPr rfl (by decide) rfl qf_Pr_42 (gPr_8 _ _ _ _ _ _ _ _) d_Pr_endTurn_1 ?_
  refine lv_iconst (v := 1) hx hb d_Pr_endTurn_4 (by decide) ?_
  refine lv_isub hx hb d_Pr_endTurn_5 ?_
  refine lv_topi (fun v1 ev1 => ?_)
  have hz := lett_z hz ev1
  refine lv_istore_n (lv' := [(2, .int v1), (0, .ref qpr), (1, .int p1)]) hx hb d_Pr_endTurn_6 rfl hl (by decide) rfl (fun ls hl => ?_)
  refine lv_iload_n hx hb d_Pr_endTurn_7 rfl (lv_at hl 0 rfl) ?_
  refine lv_if_lt (tgt := 50) hx hb d_Pr_endTurn_8 (by decide) (fun c2 => ?_) (fun c2 => ?_)
  · have hz := hz.trans (if_pos c2)
    exact k_Pr_endTurn_50 C () trivial _ hz _ _ ls hP hD hS (lv_sub hl [1, 0] rfl)
  · have hz := hz.trans (if_neg c2)
    refine lv_iload_n hx hb d_Pr_endTurn_11 rfl (lv_at hl 0 rfl) ?_
    refine lv_aload_n hx hb d_Pr_endTurn_12 rfl (lv_at hl 1 rfl) ?_
    refine gf C hP 0 6 fkPr rfl (by decide) rfl qf_Pr_27 (gPr_6 _ _ _ _ _ _ _ _) d_Pr_endTurn_13 ?_
    refine alen C hP 6 rfl (t0 := 0) rfl (v := 2) rfl d_Pr_endTurn_16 ?_
    refine lv_icmp_ge (tgt := 50) hx hb d_Pr_endTurn_17 (by decide) (fun c3 => ?_) (fun c3 => ?_)
    · have hz := hz.trans (if_pos c3)
      exact k_Pr_endTurn_50 C () trivial _ hz _ _ ls hP hD hS (lv_sub hl [1, 0] rfl)
    · have hz := hz.trans (if_neg c3)
      refine lv_aload_n hx hb d_Pr_endTurn_20 rfl (lv_at hl 1 rfl) ?_
      refine gf C hP 0 6 fkPr rfl (by decide) rfl qf_Pr_27 (gPr_6 _ _ _ _ _ _ _ _) d_Pr_endTurn_21 ?_
      refine lv_iload_n hx hb d_Pr_endTurn_24 rfl (lv_at hl 0 rfl) ?_
      refine ldI C hP 6 rfl (vi2 (vlo c2) (vhi c3) (by decide)) rfl d_Pr_endTurn_25 ?_
      refine lv_iconst (v := 1) hx hb d_Pr_endTurn_26 (by decide) ?_
      refine lv_icmp_le (tgt := 50) hx hb d_Pr_endTurn_27 (by decide) (fun c4 => ?_) (fun c4 => ?_)
      · have hz := hz.trans (if_pos c4)
        exact k_Pr_endTurn_50 C () trivial _ hz _ _ ls hP hD hS (lv_sub hl [1, 0] rfl)
      · have hz := hz.trans (if_neg c4)
        refine lv_aload_n hx hb d_Pr_endTurn_30 rfl (lv_at hl 1 rfl) ?_
        refine gf C hP 0 6 fkPr rfl (by decide) rfl qf_Pr_27 (gPr_6 _ _ _ _ _ _ _ _) d_Pr_endTurn_31 ?_
        refine lv_iload_n hx hb d_Pr_endTurn_34 rfl (lv_at hl 0 rfl) ?_
        refine lv_dup2_11 hx hb d_Pr_endTurn_35 rfl rfl ?_
        refine ldI C hP 6 rfl (vi2 (vlo c2) (vhi c3) (by decide)) rfl d_Pr_endTurn_36 ?_
        refine lv_iconst (v := 1) hx hb d_Pr_endTurn_37 (by decide) ?_
        refine lv_isub hx hb d_Pr_endTurn_38 ?_
        refine stI C hP hD hS 6 rfl (vi2 (vlo c2) (vhi c3) (by decide)) rfl d_Pr_endTurn_39 (fun pt_5 ept_5 H locs hP hD hS => ?_)
        have hP : va_P g.1 vwCl (wPr g qpr qpro qprf qprs qprb qprn qprt qte qteb pi po pf ps pb pn pt_5 t tb) H := hP
        have hD : va_D (inW (wPr g qpr qpro qprf qprs qprb qprn qprt qte qteb pi po pf ps pb pn pt t tb)) (wPr g qpr qpro qprf qprs qprb qprn qprt qte qteb pi po pf ps pb pn pt_5 t tb) := hD
        have hz := lett_z hz ept_5
        refine lv_aload_n hx hb d_Pr_endTurn_40 rfl (lv_at hl 1 rfl) ?_
        refine lv_iload_n hx hb d_Pr_endTurn_41 rfl (lv_at hl 2 rfl) ?_
        refine lv_iconst (v := 1) hx hb d_Pr_endTurn_42 (by decide) ?_
        refine lv_iadd hx hb d_Pr_endTurn_43 ?_
        refine pfI C hP hD hS 0 9 fkPr rfl (by decide) rfl qf_Pr_120 rfl rfl rfl (Nat.le_of_ble_eq_true rfl) (ff := fun o => fPr qte qpro qprf qprs qprb qprn qprt o) (sPr_9 _ _ _ _ _ _ _ _ _) d_Pr_endTurn_44 (fun pi_6 epi_6 H locs hP hD hS => ?_)
        have hP : va_P g.1 vwCl (wPr g qpr qpro qprf qprs qprb qprn qprt qte qteb pi_6 po pf ps pb pn pt_5 t tb) H := hP
        have hD : va_D (inW (wPr g qpr qpro qprf qprs qprb qprn qprt qte qteb pi po pf ps pb pn pt t tb)) (wPr g qpr qpro qprf qprs qprb qprn qprt qte qteb pi_6 po pf ps pb pn pt_5 t tb) := hD
        have hz := lett_z hz epi_6
        refine lv_goto (tgt := 55) hx hb d_Pr_endTurn_47 (by decide) ?_
        exact endV C hz hP hS d_Pr_endTurn_55
abbrev rm_Re_byteAt : Room := { frames := 0, cells := 0, slots := 0, locals := 0 }
def HL_Re_byteAt_30 (p : Program) (l : Launch) (e : Env) (s : State) (m : MethodId) (args : Array Value) (below : List Frame) (meth : Method) (c : Code) (g : GX) (qre : Nat) (qreb : Nat) (rev : IV) (rb : IV) (sp : Int32) (ok : Prop) : Prop := ∀ (_ : Unit), ok → ∀ z : Int32, z = sp → ∀ (H : Heap) (locs : List Loc) (ls : Array Slot), va_P g.1 vwCl (wRe g qre qreb rev rb) H → va_D (inW (wRe g qre qreb rev rb)) (wRe g qre qreb rev rb) → va_S (inW (wRe g qre qreb rev rb)) s.heap H locs → lv_has ls 2 [] → W p l e rm_Re_byteAt s m args below meth c H locs 0 0 (MQ below (CI0 g (wRe g qre qreb rev rb) z) args s 0 0 (inW (wRe g qre qreb rev rb))) (F0 m 30 ls [])
noncomputable def sp_Re_byteAt_30    : Int32 := (-1 : Int32)
def ok_Re_byteAt_30     : Prop := True
set_option maxRecDepth 100000 in
set_option maxHeartbeats 4000000 in
theorem k_Re_byteAt_30 {p : Program} {l : Launch} {e : Env} {s : State} {m : MethodId} {args : Array Value} {below : List Frame} {meth : Method} {c : Code} {g : GX} {qre : Nat} {qreb : Nat} {rev : IV} {rb : IV}  (C : Cx p s m args meth c (inW (wRe g qre qreb rev rb)) g "DecadeBridge$Report" b_Re_byteAt (some .int) 2)  : HL_Re_byteAt_30 p l e s m args below meth c g qre qreb rev rb (sp_Re_byteAt_30  ) (ok_Re_byteAt_30   ) := by
  intro _ hok z hz H locs ls hP hD hS hl
  obtain ⟨hx, hb, hr, hml, hown, hlk, hts, hK, hZo, hZ⟩ := id C
  unfold sp_Re_byteAt_30 at hz
  refine lv_iconst (v := -1) hx hb d_Re_byteAt_30 (by decide) ?_
  exact endI0 C hz hP hS d_Re_byteAt_31
noncomputable def sp_Re_byteAt (p1 : Int32) (rev : IV) (rb : IV) : Int32 := if p1 < 0 then (sp_Re_byteAt_30) else (if (rev 1) ≤ p1 then (sp_Re_byteAt_30) else (if (1000 : Int32) ≤ p1 then (sp_Re_byteAt_30) else (rb p1.toNatClampNeg)))
set_option maxRecDepth 100000 in
set_option maxHeartbeats 4000000 in
theorem c_Re_byteAt (l : Launch) (g : GX) (qre : Nat) (qreb : Nat) (rev : IV) (rb : IV) (p1 : Int32) : Met l y_Re_byteAt (wsY y_Re_byteAt b_Re_byteAt 2 (some .int)) rm_Re_byteAt (CP g [.ref qre, .int p1] (wRe g qre qreb rev rb)) (CI0 g (wRe g qre qreb rev rb) (sp_Re_byteAt p1 rev rb)) 0 0 (inW (wRe g qre qreb rev rb)) := by
  refine Met.ofW (cc := b_Re_byteAt) (maxL := 2) (ret := (some .int)) pn_Re rfl ?_
  intro p e s m args below meth c s₁ B hml hv
  obtain ⟨rfl, C, hP, hD, hS⟩ := enter "DecadeBridge$Report" rfl B hml hv
  obtain ⟨hx, hb, hr, hml, hown, hlk, hts, hK, hZo, hZ⟩ := id C
  refine entryW (lv := [(0, .ref qre), (1, .int p1)]) rfl (Nat.le_of_ble_eq_true rfl) (fun ls hl => ?_)
  obtain ⟨z, hz⟩ : ∃ z, z = sp_Re_byteAt p1 rev rb := ⟨_, rfl⟩
  rw [← hz]
  unfold sp_Re_byteAt at hz
  refine lv_iload_n hx hb d_Re_byteAt_0 rfl (lv_at hl 1 rfl) ?_
  refine lv_if_lt (tgt := 30) hx hb d_Re_byteAt_1 (by decide) (fun c1 => ?_) (fun c1 => ?_)
  · have hz := hz.trans (if_pos c1)
    exact k_Re_byteAt_30 C () trivial _ hz _ _ ls hP hD hS (lv_sub hl [] rfl)
  · have hz := hz.trans (if_neg c1)
    refine lv_iload_n hx hb d_Re_byteAt_4 rfl (lv_at hl 1 rfl) ?_
    refine lv_aload_n hx hb d_Re_byteAt_5 rfl (lv_at hl 0 rfl) ?_
    refine gf C hP 0 1 fkRe rfl (by decide) rfl qf_Re_15 (gRe_1 _ _) d_Re_byteAt_6 ?_
    refine lv_icmp_ge (tgt := 30) hx hb d_Re_byteAt_9 (by decide) (fun c2 => ?_) (fun c2 => ?_)
    · have hz := hz.trans (if_pos c2)
      exact k_Re_byteAt_30 C () trivial _ hz _ _ ls hP hD hS (lv_sub hl [] rfl)
    · have hz := hz.trans (if_neg c2)
      refine lv_iload_n hx hb d_Re_byteAt_12 rfl (lv_at hl 1 rfl) ?_
      refine lv_aload_n hx hb d_Re_byteAt_13 rfl (lv_at hl 0 rfl) ?_
      refine gf C hP 0 0 fkRe rfl (by decide) rfl qf_Re_11 (gRe_0 _ _) d_Re_byteAt_14 ?_
      refine alen C hP 1 rfl (t0 := 2) rfl (v := 1000) rfl d_Re_byteAt_17 ?_
      refine lv_icmp_ge (tgt := 30) hx hb d_Re_byteAt_18 (by decide) (fun c3 => ?_) (fun c3 => ?_)
      · have hz := hz.trans (if_pos c3)
        exact k_Re_byteAt_30 C () trivial _ hz _ _ ls hP hD hS (lv_sub hl [] rfl)
      · have hz := hz.trans (if_neg c3)
        refine lv_aload_n hx hb d_Re_byteAt_21 rfl (lv_at hl 0 rfl) ?_
        refine gf C hP 0 0 fkRe rfl (by decide) rfl qf_Re_11 (gRe_0 _ _) d_Re_byteAt_22 ?_
        refine lv_iload_n hx hb d_Re_byteAt_25 rfl (lv_at hl 1 rfl) ?_
        refine ldB C hP 1 rfl (vi2 (vlo c1) (vhi c3) (by decide)) rfl d_Re_byteAt_26 ?_
        refine lv_goto (tgt := 31) hx hb d_Re_byteAt_27 (by decide) ?_
        exact endI0 C hz hP hS d_Re_byteAt_31
abbrev rm_Re_addSign : Room := { frames := 0, cells := 0, slots := 0, locals := 0 }
noncomputable def sp_Re_addSign (p1 : Int32) (rev : IV) (rb : IV) : IV × IV := if (1000 : Int32) ≤ (rev 1) then ((rev, rb)) else (lett (upd rb (rev 1).toNatClampNeg (vp_nar .byte p1.toInt8.toInt32)) fun (rb_3 : IV) => lett (upd rev 1 ((rev 1) + (1 : Int32))) fun (rev_4 : IV) => (rev_4, rb_3))
def ok_Re_addSign (p1 : Int32) (rev : IV) : Prop := (((1000 : Int32) ≤ (rev 1) → True) ∧ (¬ ((1000 : Int32) ≤ (rev 1)) → (vp_in (rev 1) 1000) ∧ True))
set_option maxRecDepth 100000 in
set_option maxHeartbeats 4000000 in
theorem c_Re_addSign (l : Launch) (g : GX) (qre : Nat) (qreb : Nat) (rev : IV) (rb : IV) (p1 : Int32) (hok : ok_Re_addSign p1 rev) : Met l y_Re_addSign (wsY y_Re_addSign b_Re_addSign 2 none) rm_Re_addSign (CP g [.ref qre, .int p1] (wRe g qre qreb rev rb)) (CV g (wRe g qre qreb rev rb) (fun u : IV × IV => wRe g qre qreb u.1 u.2) (sp_Re_addSign p1 rev rb)) 0 0 (inW (wRe g qre qreb rev rb)) := by
  refine Met.ofW (cc := b_Re_addSign) (maxL := 2) (ret := none) pn_Re rfl ?_
  intro p e s m args below meth c s₁ B hml hv
  obtain ⟨rfl, C, hP, hD, hS⟩ := enter "DecadeBridge$Report" rfl B hml hv
  obtain ⟨hx, hb, hr, hml, hown, hlk, hts, hK, hZo, hZ⟩ := id C
  refine entryW (lv := [(0, .ref qre), (1, .int p1)]) rfl (Nat.le_of_ble_eq_true rfl) (fun ls hl => ?_)
  obtain ⟨z, hz⟩ : ∃ z, z = sp_Re_addSign p1 rev rb := ⟨_, rfl⟩
  rw [← hz]
  unfold sp_Re_addSign at hz
  unfold ok_Re_addSign at hok
  refine lv_aload_n hx hb d_Re_addSign_0 rfl (lv_at hl 0 rfl) ?_
  refine gf C hP 0 1 fkRe rfl (by decide) rfl qf_Re_15 (gRe_1 _ _) d_Re_addSign_1 ?_
  refine lv_aload_n hx hb d_Re_addSign_4 rfl (lv_at hl 0 rfl) ?_
  refine gf C hP 0 0 fkRe rfl (by decide) rfl qf_Re_11 (gRe_0 _ _) d_Re_addSign_5 ?_
  refine alen C hP 1 rfl (t0 := 2) rfl (v := 1000) rfl d_Re_addSign_8 ?_
  refine lv_icmp_ge (tgt := 33) hx hb d_Re_addSign_9 (by decide) (fun c1 => ?_) (fun c1 => ?_)
  · have hz := hz.trans (if_pos c1)
    exact endV C hz hP hS d_Re_addSign_33
  · have hz := hz.trans (if_neg c1)
    have hok := hok.2 c1
    refine lv_aload_n hx hb d_Re_addSign_12 rfl (lv_at hl 0 rfl) ?_
    refine gf C hP 0 0 fkRe rfl (by decide) rfl qf_Re_11 (gRe_0 _ _) d_Re_addSign_13 ?_
    refine lv_aload_n hx hb d_Re_addSign_16 rfl (lv_at hl 0 rfl) ?_
    refine gf C hP 0 1 fkRe rfl (by decide) rfl qf_Re_15 (gRe_1 _ _) d_Re_addSign_17 ?_
    refine lv_iload_n hx hb d_Re_addSign_20 rfl (lv_at hl 1 rfl) ?_
    refine lv_i2b hx hb d_Re_addSign_21 rfl ?_
    have hs2 := hok.1
    have hok := hok.2
    refine stB C hP hD hS 1 rfl hs2 rfl d_Re_addSign_22 (fun rb_3 erb_3 H locs hP hD hS => ?_)
    have hP : va_P g.1 vwCl (wRe g qre qreb rev rb_3) H := hP
    have hD : va_D (inW (wRe g qre qreb rev rb)) (wRe g qre qreb rev rb_3) := hD
    have hz := lett_z hz erb_3
    refine lv_aload_n hx hb d_Re_addSign_23 rfl (lv_at hl 0 rfl) ?_
    refine lv_dup hx hb d_Re_addSign_24 rfl ?_
    refine gf C hP 0 1 fkRe rfl (by decide) rfl qf_Re_15 (gRe_1 _ _) d_Re_addSign_25 ?_
    refine lv_iconst (v := 1) hx hb d_Re_addSign_28 (by decide) ?_
    refine lv_iadd hx hb d_Re_addSign_29 ?_
    refine pfI C hP hD hS 0 1 fkRe rfl (by decide) rfl qf_Re_15 rfl rfl rfl (Nat.le_of_ble_eq_true rfl) (ff := fun o => fRe qreb o) (sRe_1 _ _ _) d_Re_addSign_30 (fun rev_4 erev_4 H locs hP hD hS => ?_)
    have hP : va_P g.1 vwCl (wRe g qre qreb rev_4 rb_3) H := hP
    have hD : va_D (inW (wRe g qre qreb rev rb)) (wRe g qre qreb rev_4 rb_3) := hD
    have hz := lett_z hz erev_4
    exact endV C hz hP hS d_Re_addSign_33
abbrev rm_Rt_copy : Room := { frames := 0, cells := 0, slots := 0, locals := 0 }
noncomputable def sp_Rt_copy (n : Nat) (n1 : Nat) (rr : NI) (rl : NL) (tr : NI) (tl : NL) : NI × NL := lett (fset rr n (upd (rr n) 0 (tr n1 0))) fun (rr_3 : NI) => lett (fset rr_3 n (upd (rr_3 n) 1 (tr n1 1))) fun (rr_4 : NI) => lett (fset rr_4 n (upd (rr_4 n) 2 (tr n1 2))) fun (rr_5 : NI) => lett (fset rr_5 n (upd (rr_5 n) 3 (tr n1 3))) fun (rr_6 : NI) => lett (fset rr_6 n (upd (rr_6 n) 4 (tr n1 4))) fun (rr_7 : NI) => lett (fset rr_7 n (upd (rr_7 n) 5 (tr n1 5))) fun (rr_8 : NI) => lett (fset rl n (vp_updL (rl n) 6 (tl n1 6))) fun (rl_9 : NL) => lett (fset rl_9 n (vp_updL (rl_9 n) 7 (tl n1 7))) fun (rl_10 : NL) => (rr_8, rl_10)
def ok_Rt_copy (n : Nat) (n1 : Nat) : Prop := (n1 < 20) ∧ (n < 20) ∧ True
set_option maxRecDepth 100000 in
set_option maxHeartbeats 4000000 in
theorem c_Rt_copy (l : Launch) (g : GX) (uR : Nat → Nat) (uT : Nat → Nat) (rr : NI) (rl : NL) (tr : NI) (tl : NL) (n : Nat) (n1 : Nat) (hok : ok_Rt_copy n n1) : Met l y_Rt_copy (wsY y_Rt_copy b_Rt_copy 2 none) rm_Rt_copy (CP g [.ref (uR n), .ref (uT n1)] (wRpT g uR uT rr rl tr tl)) (CV g (wRpT g uR uT rr rl tr tl) (fun u : NI × NL => wRpT g uR uT u.1 u.2 tr tl) (sp_Rt_copy n n1 rr rl tr tl)) 0 0 (inW (wRpT g uR uT rr rl tr tl)) := by
  refine Met.ofW (cc := b_Rt_copy) (maxL := 2) (ret := none) pn_Rt rfl ?_
  intro p e s m args below meth c s₁ B hml hv
  obtain ⟨rfl, C, hP, hD, hS⟩ := enter "DecadeBridge$Result" rfl B hml hv
  obtain ⟨hx, hb, hr, hml, hown, hlk, hts, hK, hZo, hZ⟩ := id C
  refine entryW (lv := [(0, .ref (uR n)), (1, .ref (uT n1))]) rfl (Nat.le_of_ble_eq_true rfl) (fun ls hl => ?_)
  obtain ⟨z, hz⟩ : ∃ z, z = sp_Rt_copy n n1 rr rl tr tl := ⟨_, rfl⟩
  rw [← hz]
  unfold sp_Rt_copy at hz
  unfold ok_Rt_copy at hok
  refine lv_aload_n hx hb d_Rt_copy_0 rfl (lv_at hl 0 rfl) ?_
  refine lv_aload_n hx hb d_Rt_copy_1 rfl (lv_at hl 1 rfl) ?_
  have hs1 := hok.1
  have hok := hok.2
  refine gf C hP (n1 + 20) 0 fkRt (pg_RpT_tp hs1) (by decide) rfl qf_Rt_7 (gRt_0 _ _) d_Rt_copy_2 ?_
  have hs2 := hok.1
  have hok := hok.2
  refine pfI C hP hD hS (n + 0) 0 fkRt (pg_RpT_rp hs2) (by decide) rfl qf_Rt_7 rfl rfl rfl (Nat.le_of_ble_eq_true rfl) (ff := fun o => fRt o (rl n)) (sRt_0 _ _ _) d_Rt_copy_5 (fun o1 eo1 H locs hP hD hS => ?_)
  obtain ⟨rr_3, err_3⟩ : ∃ y : NI, y = fset rr n o1 := ⟨_, rfl⟩
  have hP : va_P g.1 vwCl (wRpT g uR uT rr_3 rl tr tl) H := by rw [err_3]; exact cP (psI_RpT_rp hs2) hP
  have hD : va_D (inW (wRpT g uR uT rr rl tr tl)) (wRpT g uR uT rr_3 rl tr tl) := by rw [err_3]; exact cD (psI_RpT_rp hs2) hD
  rw [eo1] at err_3
  have hz := lett_z hz err_3
  refine lv_aload_n hx hb d_Rt_copy_8 rfl (lv_at hl 0 rfl) ?_
  refine lv_aload_n hx hb d_Rt_copy_9 rfl (lv_at hl 1 rfl) ?_
  refine gf C hP (n1 + 20) 1 fkRt (pg_RpT_tp hs1) (by decide) rfl qf_Rt_13 (gRt_1 _ _) d_Rt_copy_10 ?_
  refine pfI C hP hD hS (n + 0) 1 fkRt (pg_RpT_rp hs2) (by decide) rfl qf_Rt_13 rfl rfl rfl (Nat.le_of_ble_eq_true rfl) (ff := fun o => fRt o (rl n)) (sRt_1 _ _ _) d_Rt_copy_13 (fun o1 eo1 H locs hP hD hS => ?_)
  obtain ⟨rr_4, err_4⟩ : ∃ y : NI, y = fset rr_3 n o1 := ⟨_, rfl⟩
  have hP : va_P g.1 vwCl (wRpT g uR uT rr_4 rl tr tl) H := by rw [err_4]; exact cP (psI_RpT_rp hs2) hP
  have hD : va_D (inW (wRpT g uR uT rr rl tr tl)) (wRpT g uR uT rr_4 rl tr tl) := by rw [err_4]; exact cD (psI_RpT_rp hs2) hD
  rw [eo1] at err_4
  have hz := lett_z hz err_4
  refine lv_aload_n hx hb d_Rt_copy_16 rfl (lv_at hl 0 rfl) ?_
  refine lv_aload_n hx hb d_Rt_copy_17 rfl (lv_at hl 1 rfl) ?_
  refine gf C hP (n1 + 20) 2 fkRt (pg_RpT_tp hs1) (by decide) rfl qf_Rt_16 (gRt_2 _ _) d_Rt_copy_18 ?_
  refine pfI C hP hD hS (n + 0) 2 fkRt (pg_RpT_rp hs2) (by decide) rfl qf_Rt_16 rfl rfl rfl (Nat.le_of_ble_eq_true rfl) (ff := fun o => fRt o (rl n)) (sRt_2 _ _ _) d_Rt_copy_21 (fun o1 eo1 H locs hP hD hS => ?_)
  obtain ⟨rr_5, err_5⟩ : ∃ y : NI, y = fset rr_4 n o1 := ⟨_, rfl⟩
  have hP : va_P g.1 vwCl (wRpT g uR uT rr_5 rl tr tl) H := by rw [err_5]; exact cP (psI_RpT_rp hs2) hP
  have hD : va_D (inW (wRpT g uR uT rr rl tr tl)) (wRpT g uR uT rr_5 rl tr tl) := by rw [err_5]; exact cD (psI_RpT_rp hs2) hD
  rw [eo1] at err_5
  have hz := lett_z hz err_5
  refine lv_aload_n hx hb d_Rt_copy_24 rfl (lv_at hl 0 rfl) ?_
  refine lv_aload_n hx hb d_Rt_copy_25 rfl (lv_at hl 1 rfl) ?_
  refine gf C hP (n1 + 20) 3 fkRt (pg_RpT_tp hs1) (by decide) rfl qf_Rt_19 (gRt_3 _ _) d_Rt_copy_26 ?_
  refine pfI C hP hD hS (n + 0) 3 fkRt (pg_RpT_rp hs2) (by decide) rfl qf_Rt_19 rfl rfl rfl (Nat.le_of_ble_eq_true rfl) (ff := fun o => fRt o (rl n)) (sRt_3 _ _ _) d_Rt_copy_29 (fun o1 eo1 H locs hP hD hS => ?_)
  obtain ⟨rr_6, err_6⟩ : ∃ y : NI, y = fset rr_5 n o1 := ⟨_, rfl⟩
  have hP : va_P g.1 vwCl (wRpT g uR uT rr_6 rl tr tl) H := by rw [err_6]; exact cP (psI_RpT_rp hs2) hP
  have hD : va_D (inW (wRpT g uR uT rr rl tr tl)) (wRpT g uR uT rr_6 rl tr tl) := by rw [err_6]; exact cD (psI_RpT_rp hs2) hD
  rw [eo1] at err_6
  have hz := lett_z hz err_6
  refine lv_aload_n hx hb d_Rt_copy_32 rfl (lv_at hl 0 rfl) ?_
  refine lv_aload_n hx hb d_Rt_copy_33 rfl (lv_at hl 1 rfl) ?_
  refine gf C hP (n1 + 20) 4 fkRt (pg_RpT_tp hs1) (by decide) rfl qf_Rt_22 (gRt_4 _ _) d_Rt_copy_34 ?_
  refine pfI C hP hD hS (n + 0) 4 fkRt (pg_RpT_rp hs2) (by decide) rfl qf_Rt_22 rfl rfl rfl (Nat.le_of_ble_eq_true rfl) (ff := fun o => fRt o (rl n)) (sRt_4 _ _ _) d_Rt_copy_37 (fun o1 eo1 H locs hP hD hS => ?_)
  obtain ⟨rr_7, err_7⟩ : ∃ y : NI, y = fset rr_6 n o1 := ⟨_, rfl⟩
  have hP : va_P g.1 vwCl (wRpT g uR uT rr_7 rl tr tl) H := by rw [err_7]; exact cP (psI_RpT_rp hs2) hP
  have hD : va_D (inW (wRpT g uR uT rr rl tr tl)) (wRpT g uR uT rr_7 rl tr tl) := by rw [err_7]; exact cD (psI_RpT_rp hs2) hD
  rw [eo1] at err_7
  have hz := lett_z hz err_7
  refine lv_aload_n hx hb d_Rt_copy_40 rfl (lv_at hl 0 rfl) ?_
  refine lv_aload_n hx hb d_Rt_copy_41 rfl (lv_at hl 1 rfl) ?_
  refine gf C hP (n1 + 20) 5 fkRt (pg_RpT_tp hs1) (by decide) rfl qf_Rt_25 (gRt_5 _ _) d_Rt_copy_42 ?_
  refine pfI C hP hD hS (n + 0) 5 fkRt (pg_RpT_rp hs2) (by decide) rfl qf_Rt_25 rfl rfl rfl (Nat.le_of_ble_eq_true rfl) (ff := fun o => fRt o (rl n)) (sRt_5 _ _ _) d_Rt_copy_45 (fun o1 eo1 H locs hP hD hS => ?_)
  obtain ⟨rr_8, err_8⟩ : ∃ y : NI, y = fset rr_7 n o1 := ⟨_, rfl⟩
  have hP : va_P g.1 vwCl (wRpT g uR uT rr_8 rl tr tl) H := by rw [err_8]; exact cP (psI_RpT_rp hs2) hP
  have hD : va_D (inW (wRpT g uR uT rr rl tr tl)) (wRpT g uR uT rr_8 rl tr tl) := by rw [err_8]; exact cD (psI_RpT_rp hs2) hD
  rw [eo1] at err_8
  have hz := lett_z hz err_8
  refine lv_aload_n hx hb d_Rt_copy_48 rfl (lv_at hl 0 rfl) ?_
  refine lv_aload_n hx hb d_Rt_copy_49 rfl (lv_at hl 1 rfl) ?_
  refine gf C hP (n1 + 20) 6 fkRt (pg_RpT_tp hs1) (by decide) rfl qf_Rt_28 (gRt_6 _ _) d_Rt_copy_50 ?_
  refine pfL C hP hD hS (n + 0) 6 fkRt (pg_RpT_rp hs2) (by decide) rfl qf_Rt_28 rfl rfl rfl (Nat.le_of_ble_eq_true rfl) (ff := fun o => fRt (rr_8 n) o) (sRt_6 _ _ _) d_Rt_copy_53 (fun o1 eo1 H locs hP hD hS => ?_)
  obtain ⟨rl_9, erl_9⟩ : ∃ y : NL, y = fset rl n o1 := ⟨_, rfl⟩
  have hP : va_P g.1 vwCl (wRpT g uR uT rr_8 rl_9 tr tl) H := by rw [erl_9]; exact cP (psL_RpT_rp hs2) hP
  have hD : va_D (inW (wRpT g uR uT rr rl tr tl)) (wRpT g uR uT rr_8 rl_9 tr tl) := by rw [erl_9]; exact cD (psL_RpT_rp hs2) hD
  rw [eo1] at erl_9
  have hz := lett_z hz erl_9
  refine lv_aload_n hx hb d_Rt_copy_56 rfl (lv_at hl 0 rfl) ?_
  refine lv_aload_n hx hb d_Rt_copy_57 rfl (lv_at hl 1 rfl) ?_
  refine gf C hP (n1 + 20) 7 fkRt (pg_RpT_tp hs1) (by decide) rfl qf_Rt_32 (gRt_7 _ _) d_Rt_copy_58 ?_
  refine pfL C hP hD hS (n + 0) 7 fkRt (pg_RpT_rp hs2) (by decide) rfl qf_Rt_32 rfl rfl rfl (Nat.le_of_ble_eq_true rfl) (ff := fun o => fRt (rr_8 n) o) (sRt_7 _ _ _) d_Rt_copy_61 (fun o1 eo1 H locs hP hD hS => ?_)
  obtain ⟨rl_10, erl_10⟩ : ∃ y : NL, y = fset rl_9 n o1 := ⟨_, rfl⟩
  have hP : va_P g.1 vwCl (wRpT g uR uT rr_8 rl_10 tr tl) H := by rw [erl_10]; exact cP (psL_RpT_rp hs2) hP
  have hD : va_D (inW (wRpT g uR uT rr rl tr tl)) (wRpT g uR uT rr_8 rl_10 tr tl) := by rw [erl_10]; exact cD (psL_RpT_rp hs2) hD
  rw [eo1] at erl_10
  have hz := lett_z hz erl_10
  exact endV C hz hP hS d_Rt_copy_64
abbrev rm_Rt_copy1 : Room := { frames := 0, cells := 0, slots := 0, locals := 0 }
noncomputable def sp_Rt_copy1 (n : Nat) (n1 : Nat) (rr : NI) (rl : NL) : NI × NL := lett (fset rr n (upd (rr n) 0 (rr n1 0))) fun (rr_3 : NI) => lett (fset rr_3 n (upd (rr_3 n) 1 (rr_3 n1 1))) fun (rr_4 : NI) => lett (fset rr_4 n (upd (rr_4 n) 2 (rr_4 n1 2))) fun (rr_5 : NI) => lett (fset rr_5 n (upd (rr_5 n) 3 (rr_5 n1 3))) fun (rr_6 : NI) => lett (fset rr_6 n (upd (rr_6 n) 4 (rr_6 n1 4))) fun (rr_7 : NI) => lett (fset rr_7 n (upd (rr_7 n) 5 (rr_7 n1 5))) fun (rr_8 : NI) => lett (fset rl n (vp_updL (rl n) 6 (rl n1 6))) fun (rl_9 : NL) => lett (fset rl_9 n (vp_updL (rl_9 n) 7 (rl_9 n1 7))) fun (rl_10 : NL) => (rr_8, rl_10)
def ok_Rt_copy1 (n : Nat) (n1 : Nat) : Prop := (n1 < 20) ∧ (n < 20) ∧ True
set_option maxRecDepth 100000 in
set_option maxHeartbeats 4000000 in
theorem c_Rt_copy1 (l : Launch) (g : GX) (uR : Nat → Nat) (rr : NI) (rl : NL) (n : Nat) (n1 : Nat) (hok : ok_Rt_copy1 n n1) : Met l y_Rt_copy (wsY y_Rt_copy b_Rt_copy 2 none) rm_Rt_copy1 (CP g [.ref (uR n), .ref (uR n1)] (wRp g uR rr rl)) (CV g (wRp g uR rr rl) (fun u : NI × NL => wRp g uR u.1 u.2) (sp_Rt_copy1 n n1 rr rl)) 0 0 (inW (wRp g uR rr rl)) := by
  refine Met.ofW (cc := b_Rt_copy) (maxL := 2) (ret := none) pn_Rt rfl ?_
  intro p e s m args below meth c s₁ B hml hv
  obtain ⟨rfl, C, hP, hD, hS⟩ := enter "DecadeBridge$Result" rfl B hml hv
  obtain ⟨hx, hb, hr, hml, hown, hlk, hts, hK, hZo, hZ⟩ := id C
  refine entryW (lv := [(0, .ref (uR n)), (1, .ref (uR n1))]) rfl (Nat.le_of_ble_eq_true rfl) (fun ls hl => ?_)
  obtain ⟨z, hz⟩ : ∃ z, z = sp_Rt_copy1 n n1 rr rl := ⟨_, rfl⟩
  rw [← hz]
  unfold sp_Rt_copy1 at hz
  unfold ok_Rt_copy1 at hok
  refine lv_aload_n hx hb d_Rt_copy_0 rfl (lv_at hl 0 rfl) ?_
  refine lv_aload_n hx hb d_Rt_copy_1 rfl (lv_at hl 1 rfl) ?_
  have hs1 := hok.1
  have hok := hok.2
  refine gf C hP (n1 + 0) 0 fkRt (pg_Rp_rp hs1) (by decide) rfl qf_Rt_7 (gRt_0 _ _) d_Rt_copy_2 ?_
  have hs2 := hok.1
  have hok := hok.2
  refine pfI C hP hD hS (n + 0) 0 fkRt (pg_Rp_rp hs2) (by decide) rfl qf_Rt_7 rfl rfl rfl (Nat.le_of_ble_eq_true rfl) (ff := fun o => fRt o (rl n)) (sRt_0 _ _ _) d_Rt_copy_5 (fun o1 eo1 H locs hP hD hS => ?_)
  obtain ⟨rr_3, err_3⟩ : ∃ y : NI, y = fset rr n o1 := ⟨_, rfl⟩
  have hP : va_P g.1 vwCl (wRp g uR rr_3 rl) H := by rw [err_3]; exact cP (psI_Rp_rp hs2) hP
  have hD : va_D (inW (wRp g uR rr rl)) (wRp g uR rr_3 rl) := by rw [err_3]; exact cD (psI_Rp_rp hs2) hD
  rw [eo1] at err_3
  have hz := lett_z hz err_3
  refine lv_aload_n hx hb d_Rt_copy_8 rfl (lv_at hl 0 rfl) ?_
  refine lv_aload_n hx hb d_Rt_copy_9 rfl (lv_at hl 1 rfl) ?_
  refine gf C hP (n1 + 0) 1 fkRt (pg_Rp_rp hs1) (by decide) rfl qf_Rt_13 (gRt_1 _ _) d_Rt_copy_10 ?_
  refine pfI C hP hD hS (n + 0) 1 fkRt (pg_Rp_rp hs2) (by decide) rfl qf_Rt_13 rfl rfl rfl (Nat.le_of_ble_eq_true rfl) (ff := fun o => fRt o (rl n)) (sRt_1 _ _ _) d_Rt_copy_13 (fun o1 eo1 H locs hP hD hS => ?_)
  obtain ⟨rr_4, err_4⟩ : ∃ y : NI, y = fset rr_3 n o1 := ⟨_, rfl⟩
  have hP : va_P g.1 vwCl (wRp g uR rr_4 rl) H := by rw [err_4]; exact cP (psI_Rp_rp hs2) hP
  have hD : va_D (inW (wRp g uR rr rl)) (wRp g uR rr_4 rl) := by rw [err_4]; exact cD (psI_Rp_rp hs2) hD
  rw [eo1] at err_4
  have hz := lett_z hz err_4
  refine lv_aload_n hx hb d_Rt_copy_16 rfl (lv_at hl 0 rfl) ?_
  refine lv_aload_n hx hb d_Rt_copy_17 rfl (lv_at hl 1 rfl) ?_
  refine gf C hP (n1 + 0) 2 fkRt (pg_Rp_rp hs1) (by decide) rfl qf_Rt_16 (gRt_2 _ _) d_Rt_copy_18 ?_
  refine pfI C hP hD hS (n + 0) 2 fkRt (pg_Rp_rp hs2) (by decide) rfl qf_Rt_16 rfl rfl rfl (Nat.le_of_ble_eq_true rfl) (ff := fun o => fRt o (rl n)) (sRt_2 _ _ _) d_Rt_copy_21 (fun o1 eo1 H locs hP hD hS => ?_)
  obtain ⟨rr_5, err_5⟩ : ∃ y : NI, y = fset rr_4 n o1 := ⟨_, rfl⟩
  have hP : va_P g.1 vwCl (wRp g uR rr_5 rl) H := by rw [err_5]; exact cP (psI_Rp_rp hs2) hP
  have hD : va_D (inW (wRp g uR rr rl)) (wRp g uR rr_5 rl) := by rw [err_5]; exact cD (psI_Rp_rp hs2) hD
  rw [eo1] at err_5
  have hz := lett_z hz err_5
  refine lv_aload_n hx hb d_Rt_copy_24 rfl (lv_at hl 0 rfl) ?_
  refine lv_aload_n hx hb d_Rt_copy_25 rfl (lv_at hl 1 rfl) ?_
  refine gf C hP (n1 + 0) 3 fkRt (pg_Rp_rp hs1) (by decide) rfl qf_Rt_19 (gRt_3 _ _) d_Rt_copy_26 ?_
  refine pfI C hP hD hS (n + 0) 3 fkRt (pg_Rp_rp hs2) (by decide) rfl qf_Rt_19 rfl rfl rfl (Nat.le_of_ble_eq_true rfl) (ff := fun o => fRt o (rl n)) (sRt_3 _ _ _) d_Rt_copy_29 (fun o1 eo1 H locs hP hD hS => ?_)
  obtain ⟨rr_6, err_6⟩ : ∃ y : NI, y = fset rr_5 n o1 := ⟨_, rfl⟩
  have hP : va_P g.1 vwCl (wRp g uR rr_6 rl) H := by rw [err_6]; exact cP (psI_Rp_rp hs2) hP
  have hD : va_D (inW (wRp g uR rr rl)) (wRp g uR rr_6 rl) := by rw [err_6]; exact cD (psI_Rp_rp hs2) hD
  rw [eo1] at err_6
  have hz := lett_z hz err_6
  refine lv_aload_n hx hb d_Rt_copy_32 rfl (lv_at hl 0 rfl) ?_
  refine lv_aload_n hx hb d_Rt_copy_33 rfl (lv_at hl 1 rfl) ?_
  refine gf C hP (n1 + 0) 4 fkRt (pg_Rp_rp hs1) (by decide) rfl qf_Rt_22 (gRt_4 _ _) d_Rt_copy_34 ?_
  refine pfI C hP hD hS (n + 0) 4 fkRt (pg_Rp_rp hs2) (by decide) rfl qf_Rt_22 rfl rfl rfl (Nat.le_of_ble_eq_true rfl) (ff := fun o => fRt o (rl n)) (sRt_4 _ _ _) d_Rt_copy_37 (fun o1 eo1 H locs hP hD hS => ?_)
  obtain ⟨rr_7, err_7⟩ : ∃ y : NI, y = fset rr_6 n o1 := ⟨_, rfl⟩
  have hP : va_P g.1 vwCl (wRp g uR rr_7 rl) H := by rw [err_7]; exact cP (psI_Rp_rp hs2) hP
  have hD : va_D (inW (wRp g uR rr rl)) (wRp g uR rr_7 rl) := by rw [err_7]; exact cD (psI_Rp_rp hs2) hD
  rw [eo1] at err_7
  have hz := lett_z hz err_7
  refine lv_aload_n hx hb d_Rt_copy_40 rfl (lv_at hl 0 rfl) ?_
  refine lv_aload_n hx hb d_Rt_copy_41 rfl (lv_at hl 1 rfl) ?_
  refine gf C hP (n1 + 0) 5 fkRt (pg_Rp_rp hs1) (by decide) rfl qf_Rt_25 (gRt_5 _ _) d_Rt_copy_42 ?_
  refine pfI C hP hD hS (n + 0) 5 fkRt (pg_Rp_rp hs2) (by decide) rfl qf_Rt_25 rfl rfl rfl (Nat.le_of_ble_eq_true rfl) (ff := fun o => fRt o (rl n)) (sRt_5 _ _ _) d_Rt_copy_45 (fun o1 eo1 H locs hP hD hS => ?_)
  obtain ⟨rr_8, err_8⟩ : ∃ y : NI, y = fset rr_7 n o1 := ⟨_, rfl⟩
  have hP : va_P g.1 vwCl (wRp g uR rr_8 rl) H := by rw [err_8]; exact cP (psI_Rp_rp hs2) hP
  have hD : va_D (inW (wRp g uR rr rl)) (wRp g uR rr_8 rl) := by rw [err_8]; exact cD (psI_Rp_rp hs2) hD
  rw [eo1] at err_8
  have hz := lett_z hz err_8
  refine lv_aload_n hx hb d_Rt_copy_48 rfl (lv_at hl 0 rfl) ?_
  refine lv_aload_n hx hb d_Rt_copy_49 rfl (lv_at hl 1 rfl) ?_
  refine gf C hP (n1 + 0) 6 fkRt (pg_Rp_rp hs1) (by decide) rfl qf_Rt_28 (gRt_6 _ _) d_Rt_copy_50 ?_
  refine pfL C hP hD hS (n + 0) 6 fkRt (pg_Rp_rp hs2) (by decide) rfl qf_Rt_28 rfl rfl rfl (Nat.le_of_ble_eq_true rfl) (ff := fun o => fRt (rr_8 n) o) (sRt_6 _ _ _) d_Rt_copy_53 (fun o1 eo1 H locs hP hD hS => ?_)
  obtain ⟨rl_9, erl_9⟩ : ∃ y : NL, y = fset rl n o1 := ⟨_, rfl⟩
  have hP : va_P g.1 vwCl (wRp g uR rr_8 rl_9) H := by rw [erl_9]; exact cP (psL_Rp_rp hs2) hP
  have hD : va_D (inW (wRp g uR rr rl)) (wRp g uR rr_8 rl_9) := by rw [erl_9]; exact cD (psL_Rp_rp hs2) hD
  rw [eo1] at erl_9
  have hz := lett_z hz erl_9
  refine lv_aload_n hx hb d_Rt_copy_56 rfl (lv_at hl 0 rfl) ?_
  refine lv_aload_n hx hb d_Rt_copy_57 rfl (lv_at hl 1 rfl) ?_
  refine gf C hP (n1 + 0) 7 fkRt (pg_Rp_rp hs1) (by decide) rfl qf_Rt_32 (gRt_7 _ _) d_Rt_copy_58 ?_
  refine pfL C hP hD hS (n + 0) 7 fkRt (pg_Rp_rp hs2) (by decide) rfl qf_Rt_32 rfl rfl rfl (Nat.le_of_ble_eq_true rfl) (ff := fun o => fRt (rr_8 n) o) (sRt_7 _ _ _) d_Rt_copy_61 (fun o1 eo1 H locs hP hD hS => ?_)
  obtain ⟨rl_10, erl_10⟩ : ∃ y : NL, y = fset rl_9 n o1 := ⟨_, rfl⟩
  have hP : va_P g.1 vwCl (wRp g uR rr_8 rl_10) H := by rw [erl_10]; exact cP (psL_Rp_rp hs2) hP
  have hD : va_D (inW (wRp g uR rr rl)) (wRp g uR rr_8 rl_10) := by rw [erl_10]; exact cD (psL_Rp_rp hs2) hD
  rw [eo1] at erl_10
  have hz := lett_z hz erl_10
  exact endV C hz hP hS d_Rt_copy_64
abbrev rm_Rt_isAlike : Room := { frames := 0, cells := 0, slots := 0, locals := 0 }
def HL_Rt_isAlike_37 (p : Program) (l : Launch) (e : Env) (s : State) (m : MethodId) (args : Array Value) (below : List Frame) (meth : Method) (c : Code) (g : GX) (uR : Nat → Nat) (rr : NI) (rl : NL) (sp : Int32) (ok : Prop) : Prop := ∀ (_ : Unit), ok → ∀ z : Int32, z = sp → ∀ (H : Heap) (locs : List Loc) (ls : Array Slot), va_P g.1 vwCl (wRp g uR rr rl) H → va_D (inW (wRp g uR rr rl)) (wRp g uR rr rl) → va_S (inW (wRp g uR rr rl)) s.heap H locs → lv_has ls 2 [] → W p l e rm_Rt_isAlike s m args below meth c H locs 0 0 (MQ below (CI0 g (wRp g uR rr rl) z) args s 0 0 (inW (wRp g uR rr rl))) (F0 m 37 ls [])
noncomputable def sp_Rt_isAlike_37    : Int32 := (0 : Int32)
def ok_Rt_isAlike_37     : Prop := True
set_option maxRecDepth 100000 in
set_option maxHeartbeats 4000000 in
theorem k_Rt_isAlike_37 {p : Program} {l : Launch} {e : Env} {s : State} {m : MethodId} {args : Array Value} {below : List Frame} {meth : Method} {c : Code} {g : GX} {uR : Nat → Nat} {rr : NI} {rl : NL}  (C : Cx p s m args meth c (inW (wRp g uR rr rl)) g "DecadeBridge$Result" b_Rt_isAlike (some .boolean) 2)  : HL_Rt_isAlike_37 p l e s m args below meth c g uR rr rl (sp_Rt_isAlike_37  ) (ok_Rt_isAlike_37   ) := by
  intro _ hok z hz H locs ls hP hD hS hl
  obtain ⟨hx, hb, hr, hml, hown, hlk, hts, hK, hZo, hZ⟩ := id C
  unfold sp_Rt_isAlike_37 at hz
  refine lv_iconst (v := 0) hx hb d_Rt_isAlike_37 (by decide) ?_
  exact endZ0 C hz hP hS rfl d_Rt_isAlike_38
noncomputable def sp_Rt_isAlike (n : Nat) (n1 : Nat) (rr : NI) : Int32 := if (rr n 0) = (rr n1 0) then (if (rr n 1) = (rr n1 1) then (if (rr n 2) = (rr n1 2) then ((1 : Int32)) else (sp_Rt_isAlike_37)) else (sp_Rt_isAlike_37)) else (sp_Rt_isAlike_37)
def ok_Rt_isAlike (n : Nat) (n1 : Nat) : Prop := (n < 20) ∧ (n1 < 20) ∧ True
set_option maxRecDepth 100000 in
set_option maxHeartbeats 4000000 in
theorem c_Rt_isAlike (l : Launch) (g : GX) (uR : Nat → Nat) (rr : NI) (rl : NL) (n : Nat) (n1 : Nat) (hok : ok_Rt_isAlike n n1) : Met l y_Rt_isAlike (wsY y_Rt_isAlike b_Rt_isAlike 2 (some .boolean)) rm_Rt_isAlike (CP g [.ref (uR n), .ref (uR n1)] (wRp g uR rr rl)) (CI0 g (wRp g uR rr rl) (sp_Rt_isAlike n n1 rr)) 0 0 (inW (wRp g uR rr rl)) := by
  refine Met.ofW (cc := b_Rt_isAlike) (maxL := 2) (ret := (some .boolean)) pn_Rt rfl ?_
  intro p e s m args below meth c s₁ B hml hv
  obtain ⟨rfl, C, hP, hD, hS⟩ := enter "DecadeBridge$Result" rfl B hml hv
  obtain ⟨hx, hb, hr, hml, hown, hlk, hts, hK, hZo, hZ⟩ := id C
  refine entryW (lv := [(0, .ref (uR n)), (1, .ref (uR n1))]) rfl (Nat.le_of_ble_eq_true rfl) (fun ls hl => ?_)
  obtain ⟨z, hz⟩ : ∃ z, z = sp_Rt_isAlike n n1 rr := ⟨_, rfl⟩
  rw [← hz]
  unfold sp_Rt_isAlike at hz
  unfold ok_Rt_isAlike at hok
  refine lv_aload_n hx hb d_Rt_isAlike_0 rfl (lv_at hl 0 rfl) ?_
  have hs1 := hok.1
  have hok := hok.2
  refine gf C hP (n + 0) 0 fkRt (pg_Rp_rp hs1) (by decide) rfl qf_Rt_7 (gRt_0 _ _) d_Rt_isAlike_1 ?_
  refine lv_aload_n hx hb d_Rt_isAlike_4 rfl (lv_at hl 1 rfl) ?_
  have hs2 := hok.1
  have hok := hok.2
  refine gf C hP (n1 + 0) 0 fkRt (pg_Rp_rp hs2) (by decide) rfl qf_Rt_7 (gRt_0 _ _) d_Rt_isAlike_5 ?_
  refine lv_icmp_ne (tgt := 37) hx hb d_Rt_isAlike_8 (by decide) (fun c3 => ?_) (fun c3 => ?_)
  · have hz := hz.trans (if_neg c3)
    exact k_Rt_isAlike_37 C () trivial _ hz _ _ ls hP hD hS (lv_sub hl [] rfl)
  · have hz := hz.trans (if_pos c3)
    refine lv_aload_n hx hb d_Rt_isAlike_11 rfl (lv_at hl 0 rfl) ?_
    refine gf C hP (n + 0) 1 fkRt (pg_Rp_rp hs1) (by decide) rfl qf_Rt_13 (gRt_1 _ _) d_Rt_isAlike_12 ?_
    refine lv_aload_n hx hb d_Rt_isAlike_15 rfl (lv_at hl 1 rfl) ?_
    refine gf C hP (n1 + 0) 1 fkRt (pg_Rp_rp hs2) (by decide) rfl qf_Rt_13 (gRt_1 _ _) d_Rt_isAlike_16 ?_
    refine lv_icmp_ne (tgt := 37) hx hb d_Rt_isAlike_19 (by decide) (fun c4 => ?_) (fun c4 => ?_)
    · have hz := hz.trans (if_neg c4)
      exact k_Rt_isAlike_37 C () trivial _ hz _ _ ls hP hD hS (lv_sub hl [] rfl)
    · have hz := hz.trans (if_pos c4)
      refine lv_aload_n hx hb d_Rt_isAlike_22 rfl (lv_at hl 0 rfl) ?_
      refine gf C hP (n + 0) 2 fkRt (pg_Rp_rp hs1) (by decide) rfl qf_Rt_16 (gRt_2 _ _) d_Rt_isAlike_23 ?_
      refine lv_aload_n hx hb d_Rt_isAlike_26 rfl (lv_at hl 1 rfl) ?_
      refine gf C hP (n1 + 0) 2 fkRt (pg_Rp_rp hs2) (by decide) rfl qf_Rt_16 (gRt_2 _ _) d_Rt_isAlike_27 ?_
      refine lv_icmp_ne (tgt := 37) hx hb d_Rt_isAlike_30 (by decide) (fun c5 => ?_) (fun c5 => ?_)
      · have hz := hz.trans (if_neg c5)
        exact k_Rt_isAlike_37 C () trivial _ hz _ _ ls hP hD hS (lv_sub hl [] rfl)
      · have hz := hz.trans (if_pos c5)
        refine lv_iconst (v := 1) hx hb d_Rt_isAlike_33 (by decide) ?_
        refine lv_goto (tgt := 38) hx hb d_Rt_isAlike_34 (by decide) ?_
        exact endZ0 C hz hP hS rfl d_Rt_isAlike_38
abbrev rm_Rs_at : Room := { frames := 0, cells := 0, slots := 0, locals := 0 }
def HL_Rs_at_30 (p : Program) (l : Launch) (e : Env) (s : State) (m : MethodId) (args : Array Value) (below : List Frame) (meth : Method) (c : Code) (g : GX) (qrs : Nat) (qrsr : Nat) (uR : Nat → Nat) (ra : IV) (ral : LV) (rr : NI) (rl : NL) (sp : (Option Nat)) (ok : Prop) : Prop := ∀ (_ : Unit), ok → ∀ z : (Option Nat), z = sp → ∀ (H : Heap) (locs : List Loc) (ls : Array Slot), va_P g.1 vwCl (wRs g qrs qrsr uR ra ral rr rl) H → va_D (inW (wRs g qrs qrsr uR ra ral rr rl)) (wRs g qrs qrsr uR ra ral rr rl) → va_S (inW (wRs g qrs qrsr uR ra ral rr rl)) s.heap H locs → lv_has ls 2 [] → W p l e rm_Rs_at s m args below meth c H locs 0 0 (MQ below (CO g (wRs g qrs qrsr uR ra ral rr rl) uR z) args s 0 0 (inW (wRs g qrs qrsr uR ra ral rr rl))) (F0 m 30 ls [])
noncomputable def sp_Rs_at_30    : Option Nat := none
def ok_Rs_at_30     : Prop := True
set_option maxRecDepth 100000 in
set_option maxHeartbeats 4000000 in
theorem k_Rs_at_30 {p : Program} {l : Launch} {e : Env} {s : State} {m : MethodId} {args : Array Value} {below : List Frame} {meth : Method} {c : Code} {g : GX} {qrs : Nat} {qrsr : Nat} {uR : Nat → Nat} {ra : IV} {ral : LV} {rr : NI} {rl : NL}  (C : Cx p s m args meth c (inW (wRs g qrs qrsr uR ra ral rr rl)) g "DecadeBridge$Results" b_Rs_at (some (.object "DecadeBridge$Result")) 2)  : HL_Rs_at_30 p l e s m args below meth c g qrs qrsr uR ra ral rr rl (sp_Rs_at_30  ) (ok_Rs_at_30   ) := by
  intro _ hok z hz H locs ls hP hD hS hl
  obtain ⟨hx, hb, hr, hml, hown, hlk, hts, hK, hZo, hZ⟩ := id C
  unfold sp_Rs_at_30 at hz
  refine lv_null hx hb d_Rs_at_30 ?_
  exact endO0 (o := none) (Rf := uR) C (Or.inl ⟨_, rfl⟩) hz hP hS d_Rs_at_31
noncomputable def sp_Rs_at (p1 : Int32) (ra : IV) : Option Nat := if p1 < 0 then (sp_Rs_at_30) else (if (ra 1) ≤ p1 then (sp_Rs_at_30) else (if (20 : Int32) ≤ p1 then (sp_Rs_at_30) else ((some p1.toNatClampNeg))))
set_option maxRecDepth 100000 in
set_option maxHeartbeats 4000000 in
theorem c_Rs_at (l : Launch) (g : GX) (qrs : Nat) (qrsr : Nat) (uR : Nat → Nat) (ra : IV) (ral : LV) (rr : NI) (rl : NL) (p1 : Int32) : Met l y_Rs_at (wsY y_Rs_at b_Rs_at 2 (some (.object "DecadeBridge$Result"))) rm_Rs_at (CP g [.ref qrs, .int p1] (wRs g qrs qrsr uR ra ral rr rl)) (CO g (wRs g qrs qrsr uR ra ral rr rl) uR (sp_Rs_at p1 ra)) 0 0 (inW (wRs g qrs qrsr uR ra ral rr rl)) := by
  refine Met.ofW (cc := b_Rs_at) (maxL := 2) (ret := (some (.object "DecadeBridge$Result"))) pn_Rs rfl ?_
  intro p e s m args below meth c s₁ B hml hv
  obtain ⟨rfl, C, hP, hD, hS⟩ := enter "DecadeBridge$Results" rfl B hml hv
  obtain ⟨hx, hb, hr, hml, hown, hlk, hts, hK, hZo, hZ⟩ := id C
  refine entryW (lv := [(0, .ref qrs), (1, .int p1)]) rfl (Nat.le_of_ble_eq_true rfl) (fun ls hl => ?_)
  obtain ⟨z, hz⟩ : ∃ z, z = sp_Rs_at p1 ra := ⟨_, rfl⟩
  rw [← hz]
  unfold sp_Rs_at at hz
  refine lv_iload_n hx hb d_Rs_at_0 rfl (lv_at hl 1 rfl) ?_
  refine lv_if_lt (tgt := 30) hx hb d_Rs_at_1 (by decide) (fun c1 => ?_) (fun c1 => ?_)
  · have hz := hz.trans (if_pos c1)
    exact k_Rs_at_30 C () trivial _ hz _ _ ls hP hD hS (lv_sub hl [] rfl)
  · have hz := hz.trans (if_neg c1)
    refine lv_iload_n hx hb d_Rs_at_4 rfl (lv_at hl 1 rfl) ?_
    refine lv_aload_n hx hb d_Rs_at_5 rfl (lv_at hl 0 rfl) ?_
    refine gf C hP 0 1 fkRs rfl (by decide) rfl qf_Rs_18 (gRs_1 _ _ _) d_Rs_at_6 ?_
    refine lv_icmp_ge (tgt := 30) hx hb d_Rs_at_9 (by decide) (fun c2 => ?_) (fun c2 => ?_)
    · have hz := hz.trans (if_pos c2)
      exact k_Rs_at_30 C () trivial _ hz _ _ ls hP hD hS (lv_sub hl [] rfl)
    · have hz := hz.trans (if_neg c2)
      refine lv_iload_n hx hb d_Rs_at_12 rfl (lv_at hl 1 rfl) ?_
      refine lv_aload_n hx hb d_Rs_at_13 rfl (lv_at hl 0 rfl) ?_
      refine gf C hP 0 0 fkRs rfl (by decide) rfl qf_Rs_13 (gRs_0 _ _ _) d_Rs_at_14 ?_
      refine alen C hP 1 rfl (t0 := 5) rfl (v := 20) rfl d_Rs_at_17 ?_
      refine lv_icmp_ge (tgt := 30) hx hb d_Rs_at_18 (by decide) (fun c3 => ?_) (fun c3 => ?_)
      · have hz := hz.trans (if_pos c3)
        exact k_Rs_at_30 C () trivial _ hz _ _ ls hP hD hS (lv_sub hl [] rfl)
      · have hz := hz.trans (if_neg c3)
        refine lv_aload_n hx hb d_Rs_at_21 rfl (lv_at hl 0 rfl) ?_
        refine gf C hP 0 0 fkRs rfl (by decide) rfl qf_Rs_13 (gRs_0 _ _ _) d_Rs_at_22 ?_
        refine lv_iload_n hx hb d_Rs_at_25 rfl (lv_at hl 1 rfl) ?_
        refine va_aldq hx hb hK hP 1 5 rfl rfl (vi2 (vlo c1) (vhi c3) (by decide)) d_Rs_at_26 ?_
        refine lv_goto (tgt := 31) hx hb d_Rs_at_27 (by decide) ?_
        exact endO0 (o := (some p1.toNatClampNeg)) (Rf := uR) C (Or.inl ⟨_, rfl⟩) hz hP hS d_Rs_at_31
abbrev rm_Rs_copyRow : Room := { frames := 1, cells := 0, slots := 0, locals := 21 }
noncomputable def sp_Rs_copyRow (o2 : Option Nat) (p1 : Int32) (ra : IV) (rr : NI) (rl : NL) (tr : NI) (tl : NL) : NI × NL := lett (sp_Rs_at p1 ra) fun (y1 : Option Nat) => optt y1 ((rr, rl)) (fun (k2 : Nat) => optt o2 ((rr, rl)) (fun (k3 : Nat) => lett (sp_Rt_copy k2 k3 rr rl tr tl) fun (y6 : NI × NL) => (y6.1, y6.2)))
def ok_Rs_copyRow (o2 : Option Nat) (p1 : Int32) (ra : IV) : Prop := lett (sp_Rs_at p1 ra) fun (y1 : Option Nat) => ((y1 = none → True) ∧ (∀ k2 : Nat, y1 = some k2 → ((o2 = none → True) ∧ (∀ k3 : Nat, o2 = some k3 → (ok_Rt_copy k2 k3) ∧ (k2 < 20) ∧ True))))
set_option maxRecDepth 100000 in
set_option maxHeartbeats 4000000 in
theorem c_Rs_copyRow (l : Launch) (g : GX) (qrs : Nat) (qrsr : Nat) (uR : Nat → Nat) (uT : Nat → Nat) (ra : IV) (ral : LV) (rr : NI) (rl : NL) (tr : NI) (tl : NL) (o2 : Option Nat) (p1 : Int32) (hok : ok_Rs_copyRow o2 p1 ra) : Met l y_Rs_copyRow (wsY y_Rs_copyRow b_Rs_copyRow 4 none) rm_Rs_copyRow (CP g [.ref qrs, .int p1, va_rf (Option.map uT o2)] (wRsT g qrs qrsr uR uT ra ral rr rl tr tl)) (CV g (wRsT g qrs qrsr uR uT ra ral rr rl tr tl) (fun u : NI × NL => wRsT g qrs qrsr uR uT ra ral u.1 u.2 tr tl) (sp_Rs_copyRow o2 p1 ra rr rl tr tl)) 0 0 (inW (wRsT g qrs qrsr uR uT ra ral rr rl tr tl)) := by
  refine Met.ofW (cc := b_Rs_copyRow) (maxL := 4) (ret := none) pn_Rs rfl ?_
  intro p e s m args below meth c s₁ B hml hv
  obtain ⟨rfl, C, hP, hD, hS⟩ := enter "DecadeBridge$Results" rfl B hml hv
  obtain ⟨hx, hb, hr, hml, hown, hlk, hts, hK, hZo, hZ⟩ := id C
  refine entryW (lv := [(0, .ref qrs), (1, .int p1), (2, va_rf (Option.map uT o2))]) (by rcases o2 with _ | _ <;> rfl) (by rcases o2 with _ | _ <;> exact Nat.le_of_ble_eq_true rfl) (fun ls hl => ?_)
  obtain ⟨z, hz⟩ : ∃ z, z = sp_Rs_copyRow o2 p1 ra rr rl tr tl := ⟨_, rfl⟩
  rw [← hz]
  unfold sp_Rs_copyRow at hz
  unfold ok_Rs_copyRow at hok
  refine lv_aload_n hx hb d_Rs_copyRow_0 rfl (lv_at hl 0 rfl) ?_
  refine lv_iload_n hx hb d_Rs_copyRow_1 rfl (lv_at hl 1 rfl) ?_
  have hB : SubW g (inW (wRsT g qrs qrsr uR uT ra ral rr rl tr tl)) s (wRsT g qrs qrsr uR uT ra ral rr rl tr tl) (wRs g qrs qrsr uR ra ral rr rl) [0, 1, 2, 3, 4, 5, 6, 7, 8, 9, 10, 11, 12, 13, 14, 15, 16, 17, 18, 19, 20, 21] _ _ := ⟨rfl, rfl, hP, hD, hS⟩
  refine goO0 hB (run_v C mf_Rs_at qm_Rs_22 (c_Rs_at l g qrs qrsr uR ra ral rr rl p1) rfl rfl ⟨Nat.le_of_ble_eq_true rfl, Nat.le_of_ble_eq_true rfl⟩ ⟨Nat.le_of_ble_eq_true rfl, Nat.le_of_ble_eq_true rfl⟩ hB rfl rfl hl rfl rfl (Nat.le_of_ble_eq_true rfl) d_Rs_copyRow_2) (fun y1 ey1 H locs hP hS => ?_)
  have hz := lett_z hz ey1
  have hok := lett_o hok ey1
  refine lv_astore_nQ (Rf := uR) (o := y1) (lv' := [(3, va_rf (Option.map uR y1)), (0, .ref qrs), (1, .int p1), (2, va_rf (Option.map uT o2))]) hx hb d_Rs_copyRow_5 rfl hl (by decide) (by rcases o2 with _ | _ <;> rfl) (fun ls hl => ?_)
  refine lv_aload_nQ (Rf := uR) (o := y1) hx hb d_Rs_copyRow_6 rfl (lv_at hl 0 rfl) ?_
  rcases y1 with _ | k2
  · have hz := optt_n hz
    refine lv_ifnullN (tgt := 19) hx hb d_Rs_copyRow_7 (by decide) ?_
    exact endV C hz hP hS d_Rs_copyRow_19
  · have hz := optt_s hz
    have hok := hok.2 _ rfl
    refine lv_ifnull hx hb d_Rs_copyRow_7 ?_
    refine lv_aload_nQ (Rf := uT) (o := o2) hx hb d_Rs_copyRow_10 rfl (lv_at hl 3 rfl) ?_
    rcases o2 with _ | k3
    · have hz := optt_n hz
      refine lv_ifnullN (tgt := 19) hx hb d_Rs_copyRow_11 (by decide) ?_
      exact endV C hz hP hS d_Rs_copyRow_19
    · have hz := optt_s hz
      have hok := hok.2 _ rfl
      refine lv_ifnull hx hb d_Rs_copyRow_11 ?_
      refine lv_aload_n hx hb d_Rs_copyRow_14 rfl (lv_at hl 0 rfl) ?_
      refine lv_aload_n hx hb d_Rs_copyRow_15 rfl (lv_at hl 3 rfl) ?_
      have hs4 := hok.1
      have hok := hok.2
      have hs5 := hok.1
      have hok := hok.2
      have hB : SubW g (inW (wRsT g qrs qrsr uR uT ra ral rr rl tr tl)) s (wRsT g qrs qrsr uR uT ra ral rr rl tr tl) (wRpT g uR uT rr rl tr tl) [2, 3, 4, 5, 6, 7, 8, 9, 10, 11, 12, 13, 14, 15, 16, 17, 18, 19, 20, 21, 22, 23, 24, 25, 26, 27, 28, 29, 30, 31, 32, 33, 34, 35, 36, 37, 38, 39, 40, 41] _ _ := ⟨rfl, rfl, hP, hD, hS⟩
      refine goV1 hB (run_p C mf_Rt_copy qm_Rs_30 (c_Rt_copy l g uR uT rr rl tr tl k2 k3 hs4) rfl rfl ⟨Nat.le_of_ble_eq_true rfl, Nat.le_of_ble_eq_true rfl⟩ ⟨Nat.le_of_ble_eq_true rfl, Nat.le_of_ble_eq_true rfl⟩ hB (pg_RpT_rp hs5) rfl hl rfl rfl (Nat.le_of_ble_eq_true rfl) d_Rs_copyRow_16) (fun _ => rfl) (fun y6 ey6 H locs hP hD hS => ?_)
      have hP : va_P g.1 vwCl (wRsT g qrs qrsr uR uT ra ral y6.1 y6.2 tr tl) H := cP (spq hB.1 hB.2.1 [0, 1] 42 rfl rfl (by decide +kernel) rfl) hP
      have hD : va_D (inW (wRsT g qrs qrsr uR uT ra ral rr rl tr tl)) (wRsT g qrs qrsr uR uT ra ral y6.1 y6.2 tr tl) := cD (spq hB.1 hB.2.1 [0, 1] 42 rfl rfl (by decide +kernel) rfl) hD
      have hz := lett_z hz ey6
      exact endV C hz hP hS d_Rs_copyRow_19
