abbrev rm_Rs_copyRow1 : Room := { frames := 1, cells := 0, slots := 0, locals := 21 }
noncomputable def sp_Rs_copyRow1 (o2 : Option Nat) (p1 : Int32) (ra : IV) (rr : NI) (rl : NL) : NI × NL := lett (sp_Rs_at p1 ra) fun (y1 : Option Nat) => optt y1 ((rr, rl)) (fun (k2 : Nat) => optt o2 ((rr, rl)) (fun (k3 : Nat) => lett (sp_Rt_copy1 k2 k3 rr rl) fun (y6 : NI × NL) => (y6.1, y6.2)))
def ok_Rs_copyRow1 (o2 : Option Nat) (p1 : Int32) (ra : IV) : Prop := lett (sp_Rs_at p1 ra) fun (y1 : Option Nat) => ((y1 = none → True) ∧ (∀ k2 : Nat, y1 = some k2 → ((o2 = none → True) ∧ (∀ k3 : Nat, o2 = some k3 → (ok_Rt_copy1 k2 k3) ∧ (k2 < 20) ∧ True))))
set_option maxRecDepth 100000 in
set_option maxHeartbeats 4000000 in
theorem c_Rs_copyRow1 (l : Launch) (g : GX) (qrs : Nat) (qrsr : Nat) (uR : Nat → Nat) (ra : IV) (ral : LV) (rr : NI) (rl : NL) (o2 : Option Nat) (p1 : Int32) (hok : ok_Rs_copyRow1 o2 p1 ra) : Met l y_Rs_copyRow (wsY y_Rs_copyRow b_Rs_copyRow 4 none) rm_Rs_copyRow1 (CP g [.ref qrs, .int p1, va_rf (Option.map uR o2)] (wRs g qrs qrsr uR ra ral rr rl)) (CV g (wRs g qrs qrsr uR ra ral rr rl) (fun u : NI × NL => wRs g qrs qrsr uR ra ral u.1 u.2) (sp_Rs_copyRow1 o2 p1 ra rr rl)) 0 0 (inW (wRs g qrs qrsr uR ra ral rr rl)) := by
  refine Met.ofW (cc := b_Rs_copyRow) (maxL := 4) (ret := none) pn_Rs rfl ?_
  intro p e s m args below meth c s₁ B hml hv
  obtain ⟨rfl, C, hP, hD, hS⟩ := enter "DecadeBridge$Results" rfl B hml hv
  obtain ⟨hx, hb, hr, hml, hown, hlk, hts, hK, hZo, hZ⟩ := id C
  refine entryW (lv := [(0, .ref qrs), (1, .int p1), (2, va_rf (Option.map uR o2))]) (by rcases o2 with _ | _ <;> rfl) (by rcases o2 with _ | _ <;> exact Nat.le_of_ble_eq_true rfl) (fun ls hl => ?_)
  obtain ⟨z, hz⟩ : ∃ z, z = sp_Rs_copyRow1 o2 p1 ra rr rl := ⟨_, rfl⟩
  rw [← hz]
  unfold sp_Rs_copyRow1 at hz
  unfold ok_Rs_copyRow1 at hok
  refine lv_aload_n hx hb d_Rs_copyRow_0 rfl (lv_at hl 0 rfl) ?_
  refine lv_iload_n hx hb d_Rs_copyRow_1 rfl (lv_at hl 1 rfl) ?_
  have hB : SubW g (inW (wRs g qrs qrsr uR ra ral rr rl)) s (wRs g qrs qrsr uR ra ral rr rl) _ (List.range _) _ _ := (subF hP hD hS)
  refine goO0 hB (run_v C mf_Rs_at qm_Rs_22 (c_Rs_at l g qrs qrsr uR ra ral rr rl p1) rfl rfl ⟨Nat.le_of_ble_eq_true rfl, Nat.le_of_ble_eq_true rfl⟩ ⟨Nat.le_of_ble_eq_true rfl, Nat.le_of_ble_eq_true rfl⟩ hB rfl rfl hl rfl rfl (Nat.le_of_ble_eq_true rfl) d_Rs_copyRow_2) (fun y1 ey1 H locs hP hS => ?_)
  have hz := lett_z hz ey1
  have hok := lett_o hok ey1
  refine lv_astore_nQ (Rf := uR) (o := y1) (lv' := [(3, va_rf (Option.map uR y1)), (0, .ref qrs), (1, .int p1), (2, va_rf (Option.map uR o2))]) hx hb d_Rs_copyRow_5 rfl hl (by decide) (by rcases o2 with _ | _ <;> rfl) (fun ls hl => ?_)
  refine lv_aload_nQ (Rf := uR) (o := y1) hx hb d_Rs_copyRow_6 rfl (lv_at hl 0 rfl) ?_
  rcases y1 with _ | k2
  · have hz := optt_n hz
    refine lv_ifnullN (tgt := 19) hx hb d_Rs_copyRow_7 (by decide) ?_
    exact endV C hz hP hS d_Rs_copyRow_19
  · have hz := optt_s hz
    have hok := hok.2 _ rfl
    refine lv_ifnull hx hb d_Rs_copyRow_7 ?_
    refine lv_aload_nQ (Rf := uR) (o := o2) hx hb d_Rs_copyRow_10 rfl (lv_at hl 3 rfl) ?_
    rcases o2 with _ | k3
    · have hz := optt_n hz
      refine lv_ifnullN (tgt := 19) hx hb d_Rs_copyRow_11 (by decide) ?_
      exact endV C hz hP hS d_Rs_copyRow_19
    · have hz := optt_s hz
      have hok := hok.2 _ rfl
      refine lv_ifnull hx hb d_Rs_copyRow_11 ?_
      refine lv_aload_n hx hb d_Rs_copyRow_14 rfl (lv_at hl 0 rfl) ?_
      refine lv_aload_n hx hb d_Rs_copyRow_15 rfl (lv_at hl 3 rfl) ?_
      have hs4 := hok.1
      have hok := hok.2
      have hs5 := hok.1
      have hok := hok.2
      have hB : SubW g (inW (wRs g qrs qrsr uR ra ral rr rl)) s (wRs g qrs qrsr uR ra ral rr rl) (wRp g uR rr rl) [2, 3, 4, 5, 6, 7, 8, 9, 10, 11, 12, 13, 14, 15, 16, 17, 18, 19, 20, 21] _ _ := ⟨rfl, rfl, hP, hD, hS⟩
      refine goV1 hB (run_p C mf_Rt_copy qm_Rs_30 (c_Rt_copy1 l g uR rr rl k2 k3 hs4) rfl rfl ⟨Nat.le_of_ble_eq_true rfl, Nat.le_of_ble_eq_true rfl⟩ ⟨Nat.le_of_ble_eq_true rfl, Nat.le_of_ble_eq_true rfl⟩ hB (pg_Rp_rp hs5) rfl hl rfl rfl (Nat.le_of_ble_eq_true rfl) d_Rs_copyRow_16) (fun _ => rfl) (fun y6 ey6 H locs hP hD hS => ?_)
      have hP : va_P g.1 vwCl (wRs g qrs qrsr uR ra ral y6.1 y6.2) H := cP (spq hB.1 hB.2.1 [0, 1] 22 rfl rfl (by decide +kernel) rfl) hP
      have hD : va_D (inW (wRs g qrs qrsr uR ra ral rr rl)) (wRs g qrs qrsr uR ra ral y6.1 y6.2) := cD (spq hB.1 hB.2.1 [0, 1] 22 rfl rfl (by decide +kernel) rfl) hD
      have hz := lett_z hz ey6
      exact endV C hz hP hS d_Rs_copyRow_19
abbrev rm_Rs_firstAlike : Room := { frames := 1, cells := 0, slots := 0, locals := 21 }
def HL_Rs_firstAlike_8 (p : Program) (l : Launch) (e : Env) (s : State) (m : MethodId) (args : Array Value) (below : List Frame) (meth : Method) (c : Code) (g : GX) (qrs : Nat) (qrsr : Nat) (uR : Nat → Nat) (ra : IV) (ral : LV) (rr : NI) (rl : NL) (p1 : Int32) (y1 : Option Nat) (sp : Int32 → Int32) (ok : Int32 → Prop) : Prop := ∀ (x3p8 : Int32), ok x3p8 → ∀ z : Int32, z = sp x3p8 → ∀ (H : Heap) (locs : List Loc) (ls : Array Slot), va_P g.1 vwCl (wRs g qrs qrsr uR ra ral rr rl) H → va_D (inW (wRs g qrs qrsr uR ra ral rr rl)) (wRs g qrs qrsr uR ra ral rr rl) → va_S (inW (wRs g qrs qrsr uR ra ral rr rl)) s.heap H locs → lv_has ls 5 [(0, .ref qrs), (1, .int p1), (2, va_rf (Option.map uR y1)), (3, .int x3p8)] → W p l e rm_Rs_firstAlike s m args below meth c H locs 0 0 (MQ below (CI0 g (wRs g qrs qrsr uR ra ral rr rl) z) args s 0 0 (inW (wRs g qrs qrsr uR ra ral rr rl))) (F0 m 8 ls [])
def HL_Rs_firstAlike_40 (p : Program) (l : Launch) (e : Env) (s : State) (m : MethodId) (args : Array Value) (below : List Frame) (meth : Method) (c : Code) (g : GX) (qrs : Nat) (qrsr : Nat) (uR : Nat → Nat) (ra : IV) (ral : LV) (rr : NI) (rl : NL) (p1 : Int32) (y1 : Option Nat) (x3p8 : Int32) (sp : Int32) (ok : Prop) : Prop := ∀ (_ : Unit), ok → ∀ z : Int32, z = sp → ∀ (H : Heap) (locs : List Loc) (ls : Array Slot), va_P g.1 vwCl (wRs g qrs qrsr uR ra ral rr rl) H → va_D (inW (wRs g qrs qrsr uR ra ral rr rl)) (wRs g qrs qrsr uR ra ral rr rl) → va_S (inW (wRs g qrs qrsr uR ra ral rr rl)) s.heap H locs → lv_has ls 5 [(0, .ref qrs), (1, .int p1), (2, va_rf (Option.map uR y1)), (3, .int x3p8)] → W p l e rm_Rs_firstAlike s m args below meth c H locs 0 0 (MQ below (CI0 g (wRs g qrs qrsr uR ra ral rr rl) z) args s 0 0 (inW (wRs g qrs qrsr uR ra ral rr rl))) (F0 m 40 ls [])
noncomputable def sp_Rs_firstAlike_40 (x3p8 : Int32) (r8 : Int32 → Int32)  : Int32 := lett (x3p8 + (1 : Int32)) fun (v10 : Int32) => r8 v10
def ok_Rs_firstAlike_40 (x3p8 : Int32) (r8 : Int32 → Int32) (q8 : Int32 → Prop)  : Prop := lett (x3p8 + (1 : Int32)) fun (v10 : Int32) => q8 v10
set_option maxRecDepth 100000 in
set_option maxHeartbeats 4000000 in
theorem k_Rs_firstAlike_40 {p : Program} {l : Launch} {e : Env} {s : State} {m : MethodId} {args : Array Value} {below : List Frame} {meth : Method} {c : Code} {g : GX} {qrs : Nat} {qrsr : Nat} {uR : Nat → Nat} {ra : IV} {ral : LV} {rr : NI} {rl : NL} {p1 : Int32} {y1 : Option Nat} {x3p8 : Int32} {r8 : Int32 → Int32} {q8 : Int32 → Prop} (C : Cx p s m args meth c (inW (wRs g qrs qrsr uR ra ral rr rl)) g "DecadeBridge$Results" b_Rs_firstAlike (some .int) 5) (ih8 : HL_Rs_firstAlike_8 p l e s m args below meth c g qrs qrsr uR ra ral rr rl p1 y1 r8 q8) : HL_Rs_firstAlike_40 p l e s m args below meth c g qrs qrsr uR ra ral rr rl p1 y1 x3p8 (sp_Rs_firstAlike_40 x3p8 r8) (ok_Rs_firstAlike_40 x3p8 r8 q8) := by
  intro _ hok z hz H locs ls hP hD hS hl
  obtain ⟨hx, hb, hr, hml, hown, hlk, hts, hK, hZo, hZ⟩ := id C
  unfold sp_Rs_firstAlike_40 at hz
  unfold ok_Rs_firstAlike_40 at hok
  obtain ⟨v10, ev10⟩ : ∃ y : Int32, y = x3p8 + (1 : Int32) := ⟨_, rfl⟩
  have hz := lett_z hz ev10
  have hok := lett_o hok ev10
  refine lv_iinc (v := v10) (lv' := [(3, .int v10), (0, .ref qrs), (1, .int p1), (2, va_rf (Option.map uR y1))]) hx hb d_Rs_firstAlike_40 hl (k := 3) rfl (by rw [ev10]; rfl) (by decide) (by rcases y1 with _ | _ <;> rfl) (fun ls hl => ?_)
  refine lv_goto (tgt := 8) hx hb d_Rs_firstAlike_43 (by decide) ?_
  exact ih8 v10 hok _ hz _ _ ls hP hD hS (lv_sub hl [1, 2, 3, 0] rfl)
noncomputable def bd_Rs_firstAlike_8 (p1 : Int32) (ra : IV) (y1 : Option Nat) (rr : NI) (r8 : Int32 → Int32) (x3p8 : Int32) : Int32 := if p1 ≤ x3p8 then (p1) else (lett (sp_Rs_at x3p8 ra) fun (y3 : Option Nat) => optt y1 (sp_Rs_firstAlike_40 x3p8 r8) (fun (k4 : Nat) => optt y3 (sp_Rs_firstAlike_40 x3p8 r8) (fun (k5 : Nat) => lett (sp_Rt_isAlike k4 k5 rr) fun (y8 : Int32) => if y8 = 0 then (sp_Rs_firstAlike_40 x3p8 r8) else (x3p8))))
def okb_Rs_firstAlike_8 (p1 : Int32) (ra : IV) (y1 : Option Nat) (rr : NI) (r8 : Int32 → Int32) (q8 : Int32 → Prop) (x3p8 : Int32) : Prop := ((p1 ≤ x3p8 → True) ∧ (¬ (p1 ≤ x3p8) → lett (sp_Rs_at x3p8 ra) fun (y3 : Option Nat) => ((y1 = none → ok_Rs_firstAlike_40 x3p8 r8 q8) ∧ (∀ k4 : Nat, y1 = some k4 → ((y3 = none → ok_Rs_firstAlike_40 x3p8 r8 q8) ∧ (∀ k5 : Nat, y3 = some k5 → (ok_Rt_isAlike k4 k5) ∧ (k4 < 20) ∧ lett (sp_Rt_isAlike k4 k5 rr) fun (y8 : Int32) => ((y8 = 0 → ok_Rs_firstAlike_40 x3p8 r8 q8) ∧ (¬ (y8 = 0) → True))))))))
noncomputable def sp_Rs_firstAlike_8 (p1 : Int32) (ra : IV) (y1 : Option Nat) (rr : NI)  : Nat → Int32 → Int32
  | 0 => fun _ => default
  | f + 1 => bd_Rs_firstAlike_8 p1 ra y1 rr  (sp_Rs_firstAlike_8 p1 ra y1 rr  f)
def ok_Rs_firstAlike_8 (p1 : Int32) (ra : IV) (y1 : Option Nat) (rr : NI)   : Nat → Int32 → Prop
  | 0 => fun _ => False
  | f + 1 => okb_Rs_firstAlike_8 p1 ra y1 rr  (sp_Rs_firstAlike_8 p1 ra y1 rr  f)  (ok_Rs_firstAlike_8 p1 ra y1 rr   f)
set_option maxRecDepth 100000 in
set_option maxHeartbeats 4000000 in
theorem kb_Rs_firstAlike_8 {p : Program} {l : Launch} {e : Env} {s : State} {m : MethodId} {args : Array Value} {below : List Frame} {meth : Method} {c : Code} {g : GX} {qrs : Nat} {qrsr : Nat} {uR : Nat → Nat} {ra : IV} {ral : LV} {rr : NI} {rl : NL} {p1 : Int32} {y1 : Option Nat}  (C : Cx p s m args meth c (inW (wRs g qrs qrsr uR ra ral rr rl)) g "DecadeBridge$Results" b_Rs_firstAlike (some .int) 5) {r8 : Int32 → Int32} {q8 : Int32 → Prop}  (ih8 : HL_Rs_firstAlike_8 p l e s m args below meth c g qrs qrsr uR ra ral rr rl p1 y1 r8 q8) : HL_Rs_firstAlike_8 p l e s m args below meth c g qrs qrsr uR ra ral rr rl p1 y1 (bd_Rs_firstAlike_8 p1 ra y1 rr  r8) (okb_Rs_firstAlike_8 p1 ra y1 rr  r8  q8) := by
  intro x3p8 hok z hz H locs ls hP hD hS hl
  obtain ⟨hx, hb, hr, hml, hown, hlk, hts, hK, hZo, hZ⟩ := id C
  unfold bd_Rs_firstAlike_8 at hz
  unfold okb_Rs_firstAlike_8 at hok
  refine lv_iload_n hx hb d_Rs_firstAlike_8 rfl (lv_at hl 3 rfl) ?_
  refine lv_iload_n hx hb d_Rs_firstAlike_9 rfl (lv_at hl 1 rfl) ?_
  refine lv_icmp_ge (tgt := 46) hx hb d_Rs_firstAlike_10 (by decide) (fun c2 => ?_) (fun c2 => ?_)
  · have hz := hz.trans (if_pos c2)
    refine lv_iload_n hx hb d_Rs_firstAlike_46 rfl (lv_at hl 1 rfl) ?_
    exact endI0 C hz hP hS d_Rs_firstAlike_47
  · have hz := hz.trans (if_neg c2)
    have hok := hok.2 c2
    refine lv_aload_n hx hb d_Rs_firstAlike_13 rfl (lv_at hl 0 rfl) ?_
    refine lv_iload_n hx hb d_Rs_firstAlike_14 rfl (lv_at hl 3 rfl) ?_
    have hB : SubW g (inW (wRs g qrs qrsr uR ra ral rr rl)) s (wRs g qrs qrsr uR ra ral rr rl) _ (List.range _) _ _ := (subF hP hD hS)
    refine goO0 hB (run_v C mf_Rs_at qm_Rs_22 (c_Rs_at l g qrs qrsr uR ra ral rr rl x3p8) rfl rfl ⟨Nat.le_of_ble_eq_true rfl, Nat.le_of_ble_eq_true rfl⟩ ⟨Nat.le_of_ble_eq_true rfl, Nat.le_of_ble_eq_true rfl⟩ hB rfl rfl hl rfl rfl (Nat.le_of_ble_eq_true rfl) d_Rs_firstAlike_15) (fun y3 ey3 H locs hP hS => ?_)
    have hz := lett_z hz ey3
    have hok := lett_o hok ey3
    refine lv_astoreQ (Rf := uR) (o := y3) (lv' := [(4, va_rf (Option.map uR y3)), (0, .ref qrs), (1, .int p1), (2, va_rf (Option.map uR y1)), (3, .int x3p8)]) hx hb d_Rs_firstAlike_18 hl (by decide) rfl (fun ls hl => ?_)
    refine lv_aload_nQ (Rf := uR) (o := y1) hx hb d_Rs_firstAlike_20 rfl (lv_at hl 3 rfl) ?_
    rcases y1 with _ | k4
    · have hz := optt_n hz
      have hok := hok.1 rfl
      refine lv_ifnullN (tgt := 40) hx hb d_Rs_firstAlike_21 (by decide) ?_
      exact k_Rs_firstAlike_40 C ih8 () hok _ hz _ _ ls hP hD hS (lv_sub hl [1, 2, 3, 4] rfl)
    · have hz := optt_s hz
      have hok := hok.2 _ rfl
      refine lv_ifnull hx hb d_Rs_firstAlike_21 ?_
      refine lv_aloadQ (Rf := uR) (o := y3) hx hb d_Rs_firstAlike_24 (lv_at hl 0 rfl) ?_
      rcases y3 with _ | k5
      · have hz := optt_n hz
        have hok := hok.1 rfl
        refine lv_ifnullN (tgt := 40) hx hb d_Rs_firstAlike_26 (by decide) ?_
        exact k_Rs_firstAlike_40 C ih8 () hok _ hz _ _ ls hP hD hS (lv_sub hl [1, 2, 3, 4] rfl)
      · have hz := optt_s hz
        have hok := hok.2 _ rfl
        refine lv_ifnull hx hb d_Rs_firstAlike_26 ?_
        refine lv_aload_n hx hb d_Rs_firstAlike_29 rfl (lv_at hl 3 rfl) ?_
        refine lv_aload hx hb d_Rs_firstAlike_30 (lv_at hl 0 rfl) ?_
        have hs6 := hok.1
        have hok := hok.2
        have hs7 := hok.1
        have hok := hok.2
        have hB : SubW g (inW (wRs g qrs qrsr uR ra ral rr rl)) s (wRs g qrs qrsr uR ra ral rr rl) (wRp g uR rr rl) [2, 3, 4, 5, 6, 7, 8, 9, 10, 11, 12, 13, 14, 15, 16, 17, 18, 19, 20, 21] _ _ := ⟨rfl, rfl, hP, hD, hS⟩
        refine goI0 hB (run_p C mf_Rt_isAlike qm_Rs_73 (c_Rt_isAlike l g uR rr rl k4 k5 hs6) rfl rfl ⟨Nat.le_of_ble_eq_true rfl, Nat.le_of_ble_eq_true rfl⟩ ⟨Nat.le_of_ble_eq_true rfl, Nat.le_of_ble_eq_true rfl⟩ hB (pg_Rp_rp hs7) rfl hl rfl rfl (Nat.le_of_ble_eq_true rfl) d_Rs_firstAlike_32) (fun y8 ey8 H locs hP hS => ?_)
        have hz := lett_z hz ey8
        have hok := lett_o hok ey8
        refine lv_if_eq (tgt := 40) hx hb d_Rs_firstAlike_35 (by decide) (fun c9 => ?_) (fun c9 => ?_)
        · have hz := hz.trans (if_pos c9)
          have hok := hok.1 c9
          exact k_Rs_firstAlike_40 C ih8 () hok _ hz _ _ ls hP hD hS (lv_sub hl [1, 2, 3, 4] rfl)
        · have hz := hz.trans (if_neg c9)
          refine lv_iload_n hx hb d_Rs_firstAlike_38 rfl (lv_at hl 4 rfl) ?_
          exact endI0 C hz hP hS d_Rs_firstAlike_39
theorem k_Rs_firstAlike_8 {p : Program} {l : Launch} {e : Env} {s : State} {m : MethodId} {args : Array Value} {below : List Frame} {meth : Method} {c : Code} {g : GX} {qrs : Nat} {qrsr : Nat} {uR : Nat → Nat} {ra : IV} {ral : LV} {rr : NI} {rl : NL} {p1 : Int32} {y1 : Option Nat}  (C : Cx p s m args meth c (inW (wRs g qrs qrsr uR ra ral rr rl)) g "DecadeBridge$Results" b_Rs_firstAlike (some .int) 5) (f : Nat)  : HL_Rs_firstAlike_8 p l e s m args below meth c g qrs qrsr uR ra ral rr rl p1 y1 (sp_Rs_firstAlike_8 p1 ra y1 rr  f) (ok_Rs_firstAlike_8 p1 ra y1 rr   f) := by
  induction f with
  | zero => intro x3p8 hok; exact False.elim hok
  | succ f ih => exact kb_Rs_firstAlike_8 C  ih
noncomputable def sp_Rs_firstAlike (p1 : Int32) (ra : IV) (rr : NI) : Int32 := lett (sp_Rs_at p1 ra) fun (y1 : Option Nat) => sp_Rs_firstAlike_8 p1 ra y1 rr big (0 : Int32)
def ok_Rs_firstAlike (p1 : Int32) (ra : IV) (rr : NI) : Prop := lett (sp_Rs_at p1 ra) fun (y1 : Option Nat) => ok_Rs_firstAlike_8 p1 ra y1 rr big (0 : Int32)
set_option maxRecDepth 100000 in
set_option maxHeartbeats 4000000 in
theorem c_Rs_firstAlike (l : Launch) (g : GX) (qrs : Nat) (qrsr : Nat) (uR : Nat → Nat) (ra : IV) (ral : LV) (rr : NI) (rl : NL) (p1 : Int32) (hok : ok_Rs_firstAlike p1 ra rr) : Met l y_Rs_firstAlike (wsY y_Rs_firstAlike b_Rs_firstAlike 5 (some .int)) rm_Rs_firstAlike (CP g [.ref qrs, .int p1] (wRs g qrs qrsr uR ra ral rr rl)) (CI0 g (wRs g qrs qrsr uR ra ral rr rl) (sp_Rs_firstAlike p1 ra rr)) 0 0 (inW (wRs g qrs qrsr uR ra ral rr rl)) := by
  refine Met.ofW (cc := b_Rs_firstAlike) (maxL := 5) (ret := (some .int)) pn_Rs rfl ?_
  intro p e s m args below meth c s₁ B hml hv
  obtain ⟨rfl, C, hP, hD, hS⟩ := enter "DecadeBridge$Results" rfl B hml hv
  obtain ⟨hx, hb, hr, hml, hown, hlk, hts, hK, hZo, hZ⟩ := id C
  refine entryW (lv := [(0, .ref qrs), (1, .int p1)]) rfl (Nat.le_of_ble_eq_true rfl) (fun ls hl => ?_)
  obtain ⟨z, hz⟩ : ∃ z, z = sp_Rs_firstAlike p1 ra rr := ⟨_, rfl⟩
  rw [← hz]
  unfold sp_Rs_firstAlike at hz
  unfold ok_Rs_firstAlike at hok
  refine lv_aload_n hx hb d_Rs_firstAlike_0 rfl (lv_at hl 0 rfl) ?_
  refine lv_iload_n hx hb d_Rs_firstAlike_1 rfl (lv_at hl 1 rfl) ?_
  have hB : SubW g (inW (wRs g qrs qrsr uR ra ral rr rl)) s (wRs g qrs qrsr uR ra ral rr rl) _ (List.range _) _ _ := (subF hP hD hS)
  refine goO0 hB (run_v C mf_Rs_at qm_Rs_22 (c_Rs_at l g qrs qrsr uR ra ral rr rl p1) rfl rfl ⟨Nat.le_of_ble_eq_true rfl, Nat.le_of_ble_eq_true rfl⟩ ⟨Nat.le_of_ble_eq_true rfl, Nat.le_of_ble_eq_true rfl⟩ hB rfl rfl hl rfl rfl (Nat.le_of_ble_eq_true rfl) d_Rs_firstAlike_2) (fun y1 ey1 H locs hP hS => ?_)
  have hz := lett_z hz ey1
  have hok := lett_o hok ey1
  refine lv_astore_nQ (Rf := uR) (o := y1) (lv' := [(2, va_rf (Option.map uR y1)), (0, .ref qrs), (1, .int p1)]) hx hb d_Rs_firstAlike_5 rfl hl (by decide) rfl (fun ls hl => ?_)
  refine lv_iconst (v := 0) hx hb d_Rs_firstAlike_6 (by decide) ?_
  refine lv_istore_n (lv' := [(3, .int (0 : Int32)), (2, va_rf (Option.map uR y1)), (0, .ref qrs), (1, .int p1)]) hx hb d_Rs_firstAlike_7 rfl hl (by decide) (by rcases y1 with _ | _ <;> rfl) (fun ls hl => ?_)
  exact k_Rs_firstAlike_8 C big (0 : Int32) hok _ hz _ _ ls hP hD hS (lv_sub hl [2, 3, 1, 0] rfl)
abbrev rm_Rs_mannersAhead : Room := { frames := 2, cells := 0, slots := 0, locals := 45 }
def HL_Rs_mannersAhead_4 (p : Program) (l : Launch) (e : Env) (s : State) (m : MethodId) (args : Array Value) (below : List Frame) (meth : Method) (c : Code) (g : GX) (qrs : Nat) (qrsr : Nat) (uR : Nat → Nat) (ra : IV) (ral : LV) (rr : NI) (rl : NL) (p1 : Int32) (sp : Int32 → Int32 → Int32) (ok : Int32 → Int32 → Prop) : Prop := ∀ (x2p4 : Int32) (x3p4 : Int32), ok x2p4 x3p4 → ∀ z : Int32, z = sp x2p4 x3p4 → ∀ (H : Heap) (locs : List Loc) (ls : Array Slot), va_P g.1 vwCl (wRs g qrs qrsr uR ra ral rr rl) H → va_D (inW (wRs g qrs qrsr uR ra ral rr rl)) (wRs g qrs qrsr uR ra ral rr rl) → va_S (inW (wRs g qrs qrsr uR ra ral rr rl)) s.heap H locs → lv_has ls 4 [(0, .ref qrs), (1, .int p1), (2, .int x2p4), (3, .int x3p4)] → W p l e rm_Rs_mannersAhead s m args below meth c H locs 0 0 (MQ below (CI0 g (wRs g qrs qrsr uR ra ral rr rl) z) args s 0 0 (inW (wRs g qrs qrsr uR ra ral rr rl))) (F0 m 4 ls [])
def HL_Rs_mannersAhead_21 (p : Program) (l : Launch) (e : Env) (s : State) (m : MethodId) (args : Array Value) (below : List Frame) (meth : Method) (c : Code) (g : GX) (qrs : Nat) (qrsr : Nat) (uR : Nat → Nat) (ra : IV) (ral : LV) (rr : NI) (rl : NL) (p1 : Int32) (x3p4 : Int32) (sp : Int32 → Int32) (ok : Int32 → Prop) : Prop := ∀ (x2p21 : Int32), ok x2p21 → ∀ z : Int32, z = sp x2p21 → ∀ (H : Heap) (locs : List Loc) (ls : Array Slot), va_P g.1 vwCl (wRs g qrs qrsr uR ra ral rr rl) H → va_D (inW (wRs g qrs qrsr uR ra ral rr rl)) (wRs g qrs qrsr uR ra ral rr rl) → va_S (inW (wRs g qrs qrsr uR ra ral rr rl)) s.heap H locs → lv_has ls 4 [(0, .ref qrs), (1, .int p1), (2, .int x2p21), (3, .int x3p4)] → W p l e rm_Rs_mannersAhead s m args below meth c H locs 0 0 (MQ below (CI0 g (wRs g qrs qrsr uR ra ral rr rl) z) args s 0 0 (inW (wRs g qrs qrsr uR ra ral rr rl))) (F0 m 21 ls [])
noncomputable def sp_Rs_mannersAhead_21 (x3p4 : Int32) (r4 : Int32 → Int32 → Int32) (x2p21 : Int32) : Int32 := lett (x3p4 + (1 : Int32)) fun (v6 : Int32) => r4 x2p21 v6
def ok_Rs_mannersAhead_21 (x3p4 : Int32) (r4 : Int32 → Int32 → Int32) (q4 : Int32 → Int32 → Prop) (x2p21 : Int32) : Prop := lett (x3p4 + (1 : Int32)) fun (v6 : Int32) => q4 x2p21 v6
set_option maxRecDepth 100000 in
set_option maxHeartbeats 4000000 in
theorem k_Rs_mannersAhead_21 {p : Program} {l : Launch} {e : Env} {s : State} {m : MethodId} {args : Array Value} {below : List Frame} {meth : Method} {c : Code} {g : GX} {qrs : Nat} {qrsr : Nat} {uR : Nat → Nat} {ra : IV} {ral : LV} {rr : NI} {rl : NL} {p1 : Int32} {x3p4 : Int32} {r4 : Int32 → Int32 → Int32} {q4 : Int32 → Int32 → Prop} (C : Cx p s m args meth c (inW (wRs g qrs qrsr uR ra ral rr rl)) g "DecadeBridge$Results" b_Rs_mannersAhead (some .int) 4) (ih4 : HL_Rs_mannersAhead_4 p l e s m args below meth c g qrs qrsr uR ra ral rr rl p1 r4 q4) : HL_Rs_mannersAhead_21 p l e s m args below meth c g qrs qrsr uR ra ral rr rl p1 x3p4 (sp_Rs_mannersAhead_21 x3p4 r4) (ok_Rs_mannersAhead_21 x3p4 r4 q4) := by
  intro x2p21 hok z hz H locs ls hP hD hS hl
  obtain ⟨hx, hb, hr, hml, hown, hlk, hts, hK, hZo, hZ⟩ := id C
  unfold sp_Rs_mannersAhead_21 at hz
  unfold ok_Rs_mannersAhead_21 at hok
  obtain ⟨v6, ev6⟩ : ∃ y : Int32, y = x3p4 + (1 : Int32) := ⟨_, rfl⟩
  have hz := lett_z hz ev6
  have hok := lett_o hok ev6
  refine lv_iinc (v := v6) (lv' := [(3, .int v6), (0, .ref qrs), (1, .int p1), (2, .int x2p21)]) hx hb d_Rs_mannersAhead_21 hl (k := 3) rfl (by rw [ev6]; rfl) (by decide) rfl (fun ls hl => ?_)
  refine lv_goto (tgt := 4) hx hb d_Rs_mannersAhead_24 (by decide) ?_
  exact ih4 x2p21 v6 hok _ hz _ _ ls hP hD hS (lv_sub hl [1, 2, 3, 0] rfl)
noncomputable def bd_Rs_mannersAhead_4 (p1 : Int32) (ra : IV) (rr : NI) (r4 : Int32 → Int32 → Int32) (x2p4 : Int32) (x3p4 : Int32) : Int32 := if p1 ≤ x3p4 then (x2p4) else (lett (sp_Rs_firstAlike x3p4 ra rr) fun (y3 : Int32) => if y3 = x3p4 then (lett (x2p4 + (1 : Int32)) fun (v5 : Int32) => sp_Rs_mannersAhead_21 x3p4 r4 v5) else (sp_Rs_mannersAhead_21 x3p4 r4 x2p4))
def okb_Rs_mannersAhead_4 (p1 : Int32) (ra : IV) (rr : NI) (r4 : Int32 → Int32 → Int32) (q4 : Int32 → Int32 → Prop) (x2p4 : Int32) (x3p4 : Int32) : Prop := ((p1 ≤ x3p4 → True) ∧ (¬ (p1 ≤ x3p4) → (ok_Rs_firstAlike x3p4 ra rr) ∧ lett (sp_Rs_firstAlike x3p4 ra rr) fun (y3 : Int32) => ((y3 = x3p4 → lett (x2p4 + (1 : Int32)) fun (v5 : Int32) => ok_Rs_mannersAhead_21 x3p4 r4 q4 v5) ∧ (¬ (y3 = x3p4) → ok_Rs_mannersAhead_21 x3p4 r4 q4 x2p4))))
noncomputable def sp_Rs_mannersAhead_4 (p1 : Int32) (ra : IV) (rr : NI)  : Nat → Int32 → Int32 → Int32
  | 0 => fun _ _ => default
  | f + 1 => bd_Rs_mannersAhead_4 p1 ra rr  (sp_Rs_mannersAhead_4 p1 ra rr  f)
def ok_Rs_mannersAhead_4 (p1 : Int32) (ra : IV) (rr : NI)   : Nat → Int32 → Int32 → Prop
  | 0 => fun _ _ => False
  | f + 1 => okb_Rs_mannersAhead_4 p1 ra rr  (sp_Rs_mannersAhead_4 p1 ra rr  f)  (ok_Rs_mannersAhead_4 p1 ra rr   f)
set_option maxRecDepth 100000 in
set_option maxHeartbeats 4000000 in
theorem kb_Rs_mannersAhead_4 {p : Program} {l : Launch} {e : Env} {s : State} {m : MethodId} {args : Array Value} {below : List Frame} {meth : Method} {c : Code} {g : GX} {qrs : Nat} {qrsr : Nat} {uR : Nat → Nat} {ra : IV} {ral : LV} {rr : NI} {rl : NL} {p1 : Int32}  (C : Cx p s m args meth c (inW (wRs g qrs qrsr uR ra ral rr rl)) g "DecadeBridge$Results" b_Rs_mannersAhead (some .int) 4) {r4 : Int32 → Int32 → Int32} {q4 : Int32 → Int32 → Prop}  (ih4 : HL_Rs_mannersAhead_4 p l e s m args below meth c g qrs qrsr uR ra ral rr rl p1 r4 q4) : HL_Rs_mannersAhead_4 p l e s m args below meth c g qrs qrsr uR ra ral rr rl p1 (bd_Rs_mannersAhead_4 p1 ra rr  r4) (okb_Rs_mannersAhead_4 p1 ra rr  r4  q4) := by
  intro x2p4 x3p4 hok z hz H locs ls hP hD hS hl
  obtain ⟨hx, hb, hr, hml, hown, hlk, hts, hK, hZo, hZ⟩ := id C
  unfold bd_Rs_mannersAhead_4 at hz
  unfold okb_Rs_mannersAhead_4 at hok
  refine lv_iload_n hx hb d_Rs_mannersAhead_4 rfl (lv_at hl 3 rfl) ?_
  refine lv_iload_n hx hb d_Rs_mannersAhead_5 rfl (lv_at hl 1 rfl) ?_
  refine lv_icmp_ge (tgt := 27) hx hb d_Rs_mannersAhead_6 (by decide) (fun c1 => ?_) (fun c1 => ?_)
  · have hz := hz.trans (if_pos c1)
    refine lv_iload_n hx hb d_Rs_mannersAhead_27 rfl (lv_at hl 2 rfl) ?_
    exact endI0 C hz hP hS d_Rs_mannersAhead_28
  · have hz := hz.trans (if_neg c1)
    have hok := hok.2 c1
    refine lv_aload_n hx hb d_Rs_mannersAhead_9 rfl (lv_at hl 0 rfl) ?_
    refine lv_iload_n hx hb d_Rs_mannersAhead_10 rfl (lv_at hl 3 rfl) ?_
    have hs2 := hok.1
    have hok := hok.2
    have hB : SubW g (inW (wRs g qrs qrsr uR ra ral rr rl)) s (wRs g qrs qrsr uR ra ral rr rl) _ (List.range _) _ _ := (subF hP hD hS)
    refine goI0 hB (run_v C mf_Rs_firstAlike qm_Rs_77 (c_Rs_firstAlike l g qrs qrsr uR ra ral rr rl x3p4 hs2) rfl rfl ⟨Nat.le_of_ble_eq_true rfl, Nat.le_of_ble_eq_true rfl⟩ ⟨Nat.le_of_ble_eq_true rfl, Nat.le_of_ble_eq_true rfl⟩ hB rfl rfl hl rfl rfl (Nat.le_of_ble_eq_true rfl) d_Rs_mannersAhead_11) (fun y3 ey3 H locs hP hS => ?_)
    have hz := lett_z hz ey3
    have hok := lett_o hok ey3
    refine lv_iload_n hx hb d_Rs_mannersAhead_14 rfl (lv_at hl 3 rfl) ?_
    refine lv_icmp_ne (tgt := 21) hx hb d_Rs_mannersAhead_15 (by decide) (fun c4 => ?_) (fun c4 => ?_)
    · have hz := hz.trans (if_neg c4)
      have hok := hok.2 c4
      exact k_Rs_mannersAhead_21 C ih4 x2p4 hok _ hz _ _ ls hP hD hS hl
    · have hz := hz.trans (if_pos c4)
      have hok := hok.1 c4
      obtain ⟨v5, ev5⟩ : ∃ y : Int32, y = x2p4 + (1 : Int32) := ⟨_, rfl⟩
      have hz := lett_z hz ev5
      have hok := lett_o hok ev5
      refine lv_iinc (v := v5) (lv' := [(2, .int v5), (0, .ref qrs), (1, .int p1), (3, .int x3p4)]) hx hb d_Rs_mannersAhead_18 hl (k := 2) rfl (by rw [ev5]; rfl) (by decide) rfl (fun ls hl => ?_)
      exact k_Rs_mannersAhead_21 C ih4 v5 hok _ hz _ _ ls hP hD hS (lv_sub hl [1, 2, 0, 3] rfl)
theorem k_Rs_mannersAhead_4 {p : Program} {l : Launch} {e : Env} {s : State} {m : MethodId} {args : Array Value} {below : List Frame} {meth : Method} {c : Code} {g : GX} {qrs : Nat} {qrsr : Nat} {uR : Nat → Nat} {ra : IV} {ral : LV} {rr : NI} {rl : NL} {p1 : Int32}  (C : Cx p s m args meth c (inW (wRs g qrs qrsr uR ra ral rr rl)) g "DecadeBridge$Results" b_Rs_mannersAhead (some .int) 4) (f : Nat)  : HL_Rs_mannersAhead_4 p l e s m args below meth c g qrs qrsr uR ra ral rr rl p1 (sp_Rs_mannersAhead_4 p1 ra rr  f) (ok_Rs_mannersAhead_4 p1 ra rr   f) := by
  induction f with
  | zero => intro x2p4 x3p4 hok; exact False.elim hok
  | succ f ih => exact kb_Rs_mannersAhead_4 C  ih
noncomputable def sp_Rs_mannersAhead (p1 : Int32) (ra : IV) (rr : NI) : Int32 := sp_Rs_mannersAhead_4 p1 ra rr big (0 : Int32) (0 : Int32)
def ok_Rs_mannersAhead (p1 : Int32) (ra : IV) (rr : NI) : Prop := ok_Rs_mannersAhead_4 p1 ra rr big (0 : Int32) (0 : Int32)
set_option maxRecDepth 100000 in
set_option maxHeartbeats 4000000 in
theorem c_Rs_mannersAhead (l : Launch) (g : GX) (qrs : Nat) (qrsr : Nat) (uR : Nat → Nat) (ra : IV) (ral : LV) (rr : NI) (rl : NL) (p1 : Int32) (hok : ok_Rs_mannersAhead p1 ra rr) : Met l y_Rs_mannersAhead (wsY y_Rs_mannersAhead b_Rs_mannersAhead 4 (some .int)) rm_Rs_mannersAhead (CP g [.ref qrs, .int p1] (wRs g qrs qrsr uR ra ral rr rl)) (CI0 g (wRs g qrs qrsr uR ra ral rr rl) (sp_Rs_mannersAhead p1 ra rr)) 0 0 (inW (wRs g qrs qrsr uR ra ral rr rl)) := by
  refine Met.ofW (cc := b_Rs_mannersAhead) (maxL := 4) (ret := (some .int)) pn_Rs rfl ?_
  intro p e s m args below meth c s₁ B hml hv
  obtain ⟨rfl, C, hP, hD, hS⟩ := enter "DecadeBridge$Results" rfl B hml hv
  obtain ⟨hx, hb, hr, hml, hown, hlk, hts, hK, hZo, hZ⟩ := id C
  refine entryW (lv := [(0, .ref qrs), (1, .int p1)]) rfl (Nat.le_of_ble_eq_true rfl) (fun ls hl => ?_)
  obtain ⟨z, hz⟩ : ∃ z, z = sp_Rs_mannersAhead p1 ra rr := ⟨_, rfl⟩
  rw [← hz]
  unfold sp_Rs_mannersAhead at hz
  unfold ok_Rs_mannersAhead at hok
  refine lv_iconst (v := 0) hx hb d_Rs_mannersAhead_0 (by decide) ?_
  refine lv_istore_n (lv' := [(2, .int (0 : Int32)), (0, .ref qrs), (1, .int p1)]) hx hb d_Rs_mannersAhead_1 rfl hl (by decide) rfl (fun ls hl => ?_)
  refine lv_iconst (v := 0) hx hb d_Rs_mannersAhead_2 (by decide) ?_
  refine lv_istore_n (lv' := [(3, .int (0 : Int32)), (2, .int (0 : Int32)), (0, .ref qrs), (1, .int p1)]) hx hb d_Rs_mannersAhead_3 rfl hl (by decide) rfl (fun ls hl => ?_)
  exact k_Rs_mannersAhead_4 C big (0 : Int32) (0 : Int32) hok _ hz _ _ ls hP hD hS (lv_sub hl [2, 3, 1, 0] rfl)
abbrev rm_Rs_manners : Room := { frames := 3, cells := 0, slots := 0, locals := 68 }
noncomputable def sp_Rs_manners (ra : IV) (rr : NI) : Int32 := lett (sp_Rs_mannersAhead (ra 1) ra rr) fun (y2 : Int32) => y2
def ok_Rs_manners (ra : IV) (rr : NI) : Prop := (ok_Rs_mannersAhead (ra 1) ra rr) ∧ True
set_option maxRecDepth 100000 in
set_option maxHeartbeats 4000000 in
theorem c_Rs_manners (l : Launch) (g : GX) (qrs : Nat) (qrsr : Nat) (uR : Nat → Nat) (ra : IV) (ral : LV) (rr : NI) (rl : NL)  (hok : ok_Rs_manners ra rr) : Met l y_Rs_manners (wsY y_Rs_manners b_Rs_manners 1 (some .int)) rm_Rs_manners (CP g [.ref qrs] (wRs g qrs qrsr uR ra ral rr rl)) (CI0 g (wRs g qrs qrsr uR ra ral rr rl) (sp_Rs_manners ra rr)) 0 0 (inW (wRs g qrs qrsr uR ra ral rr rl)) := by
  refine Met.ofW (cc := b_Rs_manners) (maxL := 1) (ret := (some .int)) pn_Rs rfl ?_
  intro p e s m args below meth c s₁ B hml hv
  obtain ⟨rfl, C, hP, hD, hS⟩ := enter "DecadeBridge$Results" rfl B hml hv
  obtain ⟨hx, hb, hr, hml, hown, hlk, hts, hK, hZo, hZ⟩ := id C
  refine entryW (lv := [(0, .ref qrs)]) rfl (Nat.le_of_ble_eq_true rfl) (fun ls hl => ?_)
  obtain ⟨z, hz⟩ : ∃ z, z = sp_Rs_manners ra rr := ⟨_, rfl⟩
  rw [← hz]
  unfold sp_Rs_manners at hz
  unfold ok_Rs_manners at hok
  refine lv_aload_n hx hb d_Rs_manners_0 rfl (lv_at hl 0 rfl) ?_
  refine lv_aload_n hx hb d_Rs_manners_1 rfl (lv_at hl 0 rfl) ?_
  refine gf C hP 0 1 fkRs rfl (by decide) rfl qf_Rs_18 (gRs_1 _ _ _) d_Rs_manners_2 ?_
  have hs1 := hok.1
  have hok := hok.2
  have hB : SubW g (inW (wRs g qrs qrsr uR ra ral rr rl)) s (wRs g qrs qrsr uR ra ral rr rl) _ (List.range _) _ _ := (subF hP hD hS)
  refine goI0 hB (run_v C mf_Rs_mannersAhead qm_Rs_81 (c_Rs_mannersAhead l g qrs qrsr uR ra ral rr rl (ra 1) hs1) rfl rfl ⟨Nat.le_of_ble_eq_true rfl, Nat.le_of_ble_eq_true rfl⟩ ⟨Nat.le_of_ble_eq_true rfl, Nat.le_of_ble_eq_true rfl⟩ hB rfl rfl hl rfl rfl (Nat.le_of_ble_eq_true rfl) d_Rs_manners_5) (fun y2 ey2 H locs hP hS => ?_)
  have hz := lett_z hz ey2
  exact endI0 C hz hP hS d_Rs_manners_8
abbrev rm_Rs_mannerOf : Room := { frames := 3, cells := 0, slots := 0, locals := 68 }
noncomputable def sp_Rs_mannerOf (p1 : Int32) (ra : IV) (rr : NI) : Int32 := lett (sp_Rs_firstAlike p1 ra rr) fun (y2 : Int32) => lett (sp_Rs_mannersAhead y2 ra rr) fun (y4 : Int32) => y4
def ok_Rs_mannerOf (p1 : Int32) (ra : IV) (rr : NI) : Prop := (ok_Rs_firstAlike p1 ra rr) ∧ lett (sp_Rs_firstAlike p1 ra rr) fun (y2 : Int32) => (ok_Rs_mannersAhead y2 ra rr) ∧ True
set_option maxRecDepth 100000 in
set_option maxHeartbeats 4000000 in
theorem c_Rs_mannerOf (l : Launch) (g : GX) (qrs : Nat) (qrsr : Nat) (uR : Nat → Nat) (ra : IV) (ral : LV) (rr : NI) (rl : NL) (p1 : Int32) (hok : ok_Rs_mannerOf p1 ra rr) : Met l y_Rs_mannerOf (wsY y_Rs_mannerOf b_Rs_mannerOf 2 (some .int)) rm_Rs_mannerOf (CP g [.ref qrs, .int p1] (wRs g qrs qrsr uR ra ral rr rl)) (CI0 g (wRs g qrs qrsr uR ra ral rr rl) (sp_Rs_mannerOf p1 ra rr)) 0 0 (inW (wRs g qrs qrsr uR ra ral rr rl)) := by
  refine Met.ofW (cc := b_Rs_mannerOf) (maxL := 2) (ret := (some .int)) pn_Rs rfl ?_
  intro p e s m args below meth c s₁ B hml hv
  obtain ⟨rfl, C, hP, hD, hS⟩ := enter "DecadeBridge$Results" rfl B hml hv
  obtain ⟨hx, hb, hr, hml, hown, hlk, hts, hK, hZo, hZ⟩ := id C
  refine entryW (lv := [(0, .ref qrs), (1, .int p1)]) rfl (Nat.le_of_ble_eq_true rfl) (fun ls hl => ?_)
  obtain ⟨z, hz⟩ : ∃ z, z = sp_Rs_mannerOf p1 ra rr := ⟨_, rfl⟩
  rw [← hz]
  unfold sp_Rs_mannerOf at hz
  unfold ok_Rs_mannerOf at hok
  refine lv_aload_n hx hb d_Rs_mannerOf_0 rfl (lv_at hl 0 rfl) ?_
  refine lv_aload_n hx hb d_Rs_mannerOf_1 rfl (lv_at hl 0 rfl) ?_
  refine lv_iload_n hx hb d_Rs_mannerOf_2 rfl (lv_at hl 1 rfl) ?_
  have hs1 := hok.1
  have hok := hok.2
  have hB : SubW g (inW (wRs g qrs qrsr uR ra ral rr rl)) s (wRs g qrs qrsr uR ra ral rr rl) _ (List.range _) _ _ := (subF hP hD hS)
  refine goI0 hB (run_v C mf_Rs_firstAlike qm_Rs_77 (c_Rs_firstAlike l g qrs qrsr uR ra ral rr rl p1 hs1) rfl rfl ⟨Nat.le_of_ble_eq_true rfl, Nat.le_of_ble_eq_true rfl⟩ ⟨Nat.le_of_ble_eq_true rfl, Nat.le_of_ble_eq_true rfl⟩ hB rfl rfl hl rfl rfl (Nat.le_of_ble_eq_true rfl) d_Rs_mannerOf_3) (fun y2 ey2 H locs hP hS => ?_)
  have hz := lett_z hz ey2
  have hok := lett_o hok ey2
  have hs3 := hok.1
  have hok := hok.2
  have hB : SubW g (inW (wRs g qrs qrsr uR ra ral rr rl)) s (wRs g qrs qrsr uR ra ral rr rl) _ (List.range _) _ _ := (subF hP hD hS)
  refine goI0 hB (run_v C mf_Rs_mannersAhead qm_Rs_81 (c_Rs_mannersAhead l g qrs qrsr uR ra ral rr rl y2 hs3) rfl rfl ⟨Nat.le_of_ble_eq_true rfl, Nat.le_of_ble_eq_true rfl⟩ ⟨Nat.le_of_ble_eq_true rfl, Nat.le_of_ble_eq_true rfl⟩ hB rfl rfl hl rfl rfl (Nat.le_of_ble_eq_true rfl) d_Rs_mannerOf_6) (fun y4 ey4 H locs hP hS => ?_)
  have hz := lett_z hz ey4
  exact endI0 C hz hP hS d_Rs_mannerOf_9
abbrev rm_Rs_gatherOne : Room := { frames := 1, cells := 0, slots := 0, locals := 30 }
def HL_Rs_gatherOne_22 (p : Program) (l : Launch) (e : Env) (s : State) (m : MethodId) (args : Array Value) (below : List Frame) (meth : Method) (c : Code) (g : GX) (qrs : Nat) (qrsr : Nat) (uR : Nat → Nat) (ws0 : va_W) (rr : NI) (rl : NL) (p1 : Int32) (p2 : Int64) (sp : IV → LV → (IV × LV)) (ok : IV → LV → Prop) : Prop := ∀ (rap22 : IV) (ralp22 : LV), ok rap22 ralp22 → ∀ z : (IV × LV), z = sp rap22 ralp22 → ∀ (H : Heap) (locs : List Loc) (ls : Array Slot), va_P g.1 vwCl (wRs g qrs qrsr uR rap22 ralp22 rr rl) H → va_D (inW ws0) (wRs g qrs qrsr uR rap22 ralp22 rr rl) → va_S (inW ws0) s.heap H locs → lv_has ls 4 [(0, .ref qrs), (1, .int p1), (2, .long p2)] → W p l e rm_Rs_gatherOne s m args below meth c H locs 0 0 (MQ below (CV g ws0 (fun u : IV × LV => wRs g qrs qrsr uR u.1 u.2 rr rl) z) args s 0 0 (inW ws0)) (F0 m 22 ls [])
noncomputable def sp_Rs_gatherOne_22 (p1 : Int32) (p2 : Int64)  (rap22 : IV) (ralp22 : LV) : IV × LV := lett (upd rap22 3 p1) fun (ra_5 : IV) => lett (upd ra_5 4 ((ra_5 4) + (1 : Int32))) fun (ra_6 : IV) => lett (vp_updL ralp22 5 ((ralp22 5) + p2)) fun (ral_7 : LV) => lett (vp_updL ral_7 6 (if p2 < (ral_7 6) then p2 else (ral_7 6))) fun (ral_8 : LV) => lett (vp_updL ral_8 7 (if p2 < (ral_8 7) then (ral_8 7) else p2)) fun (ral_9 : LV) => (ra_6, ral_9)
def ok_Rs_gatherOne_22 (p1 : Int32) (p2 : Int64)   (rap22 : IV) (ralp22 : LV) : Prop := True
set_option maxRecDepth 100000 in
set_option maxHeartbeats 4000000 in
theorem k_Rs_gatherOne_22 {p : Program} {l : Launch} {e : Env} {s : State} {m : MethodId} {args : Array Value} {below : List Frame} {meth : Method} {c : Code} {g : GX} {qrs : Nat} {qrsr : Nat} {uR : Nat → Nat} {ws0 : va_W} {rr : NI} {rl : NL} {p1 : Int32} {p2 : Int64}  (C : Cx p s m args meth c (inW ws0) g "DecadeBridge$Results" b_Rs_gatherOne none 4)  : HL_Rs_gatherOne_22 p l e s m args below meth c g qrs qrsr uR ws0 rr rl p1 p2 (sp_Rs_gatherOne_22 p1 p2 ) (ok_Rs_gatherOne_22 p1 p2  ) := by
  intro rap22 ralp22 hok z hz H locs ls hP hD hS hl
  obtain ⟨hx, hb, hr, hml, hown, hlk, hts, hK, hZo, hZ⟩ := id C
  unfold sp_Rs_gatherOne_22 at hz
  refine lv_aload_n hx hb d_Rs_gatherOne_22 rfl (lv_at hl 0 rfl) ?_
  refine lv_iload_n hx hb d_Rs_gatherOne_23 rfl (lv_at hl 1 rfl) ?_
  refine pfI C hP hD hS 0 3 fkRs rfl (by decide) rfl qf_Rs_106 rfl rfl rfl (Nat.le_of_ble_eq_true rfl) (ff := fun o => fRs qrsr o ralp22) (sRs_3 _ _ _ _) d_Rs_gatherOne_24 (fun ra_5 era_5 H locs hP hD hS => ?_)
  have hP : va_P g.1 vwCl (wRs g qrs qrsr uR ra_5 ralp22 rr rl) H := hP
  have hD : va_D (inW ws0) (wRs g qrs qrsr uR ra_5 ralp22 rr rl) := hD
  have hz := lett_z hz era_5
  refine lv_aload_n hx hb d_Rs_gatherOne_27 rfl (lv_at hl 0 rfl) ?_
  refine lv_dup hx hb d_Rs_gatherOne_28 rfl ?_
  refine gf C hP 0 4 fkRs rfl (by decide) rfl qf_Rs_84 (gRs_4 _ _ _) d_Rs_gatherOne_29 ?_
  refine lv_iconst (v := 1) hx hb d_Rs_gatherOne_32 (by decide) ?_
  refine lv_iadd hx hb d_Rs_gatherOne_33 ?_
  refine pfI C hP hD hS 0 4 fkRs rfl (by decide) rfl qf_Rs_84 rfl rfl rfl (Nat.le_of_ble_eq_true rfl) (ff := fun o => fRs qrsr o ralp22) (sRs_4 _ _ _ _) d_Rs_gatherOne_34 (fun ra_6 era_6 H locs hP hD hS => ?_)
  have hP : va_P g.1 vwCl (wRs g qrs qrsr uR ra_6 ralp22 rr rl) H := hP
  have hD : va_D (inW ws0) (wRs g qrs qrsr uR ra_6 ralp22 rr rl) := hD
  have hz := lett_z hz era_6
  refine lv_aload_n hx hb d_Rs_gatherOne_37 rfl (lv_at hl 0 rfl) ?_
  refine lv_dup hx hb d_Rs_gatherOne_38 rfl ?_
  refine gf C hP 0 5 fkRs rfl (by decide) rfl qf_Rs_87 (gRs_5 _ _ _) d_Rs_gatherOne_39 ?_
  refine lv_lload_n hx hb d_Rs_gatherOne_42 rfl (lv_at hl 2 rfl) ?_
  refine lv_ladd hx hb d_Rs_gatherOne_43 ?_
  refine pfL C hP hD hS 0 5 fkRs rfl (by decide) rfl qf_Rs_87 rfl rfl rfl (Nat.le_of_ble_eq_true rfl) (ff := fun o => fRs qrsr ra_6 o) (sRs_5 _ _ _ _) d_Rs_gatherOne_44 (fun ral_7 eral_7 H locs hP hD hS => ?_)
  have hP : va_P g.1 vwCl (wRs g qrs qrsr uR ra_6 ral_7 rr rl) H := hP
  have hD : va_D (inW ws0) (wRs g qrs qrsr uR ra_6 ral_7 rr rl) := hD
  have hz := lett_z hz eral_7
  refine lv_aload_n hx hb d_Rs_gatherOne_47 rfl (lv_at hl 0 rfl) ?_
  refine lv_aload_n hx hb d_Rs_gatherOne_48 rfl (lv_at hl 0 rfl) ?_
  refine gf C hP 0 6 fkRs rfl (by decide) rfl qf_Rs_100 (gRs_6 _ _ _) d_Rs_gatherOne_49 ?_
  refine lv_lload_n hx hb d_Rs_gatherOne_52 rfl (lv_at hl 2 rfl) ?_
  refine va_mmin_long hx hb (hml.trans hl.1.symm) hown (hts _ qm_Rs_109) (hts _ (mf_JM_min_JJJ).2) (hts _ (mf_JM_min_JJJ).1.2.1) (hts _ (mf_JM_min_JJJ).1.1) (Nat.le_of_ble_eq_true rfl) (Nat.le_of_ble_eq_true rfl) (Nat.le_of_ble_eq_true rfl) (Nat.le_of_ble_eq_true rfl) d_Rs_gatherOne_53 ?_
  refine pfL C hP hD hS 0 6 fkRs rfl (by decide) rfl qf_Rs_100 rfl rfl rfl (Nat.le_of_ble_eq_true rfl) (ff := fun o => fRs qrsr ra_6 o) (sRs_6 _ _ _ _) d_Rs_gatherOne_56 (fun ral_8 eral_8 H locs hP hD hS => ?_)
  have hP : va_P g.1 vwCl (wRs g qrs qrsr uR ra_6 ral_8 rr rl) H := hP
  have hD : va_D (inW ws0) (wRs g qrs qrsr uR ra_6 ral_8 rr rl) := hD
  have hz := lett_z hz eral_8
  refine lv_aload_n hx hb d_Rs_gatherOne_59 rfl (lv_at hl 0 rfl) ?_
  refine lv_aload_n hx hb d_Rs_gatherOne_60 rfl (lv_at hl 0 rfl) ?_
  refine gf C hP 0 7 fkRs rfl (by decide) rfl qf_Rs_103 (gRs_7 _ _ _) d_Rs_gatherOne_61 ?_
  refine lv_lload_n hx hb d_Rs_gatherOne_64 rfl (lv_at hl 2 rfl) ?_
  refine va_mmax_long hx hb (hml.trans hl.1.symm) hown (hts _ qm_Rs_115) (hts _ (mf_JM_max_JJJ).2) (hts _ (mf_JM_max_JJJ).1.2.1) (hts _ (mf_JM_max_JJJ).1.1) (Nat.le_of_ble_eq_true rfl) (Nat.le_of_ble_eq_true rfl) (Nat.le_of_ble_eq_true rfl) (Nat.le_of_ble_eq_true rfl) d_Rs_gatherOne_65 ?_
  refine pfL C hP hD hS 0 7 fkRs rfl (by decide) rfl qf_Rs_103 rfl rfl rfl (Nat.le_of_ble_eq_true rfl) (ff := fun o => fRs qrsr ra_6 o) (sRs_7 _ _ _ _) d_Rs_gatherOne_68 (fun ral_9 eral_9 H locs hP hD hS => ?_)
  have hP : va_P g.1 vwCl (wRs g qrs qrsr uR ra_6 ral_9 rr rl) H := hP
  have hD : va_D (inW ws0) (wRs g qrs qrsr uR ra_6 ral_9 rr rl) := hD
  have hz := lett_z hz eral_9
  exact endV C hz hP hS d_Rs_gatherOne_71
noncomputable def sp_Rs_gatherOne (p1 : Int32) (p2 : Int64) (ra : IV) (ral : LV) : IV × LV := if (ra 4) = 0 then (lett (upd ra 2 p1) fun (ra_2 : IV) => lett (vp_updL ral 6 p2) fun (ral_3 : LV) => lett (vp_updL ral_3 7 p2) fun (ral_4 : LV) => sp_Rs_gatherOne_22 p1 p2 ra_2 ral_4) else (sp_Rs_gatherOne_22 p1 p2 ra ral)
set_option maxRecDepth 100000 in
set_option maxHeartbeats 4000000 in
theorem c_Rs_gatherOne (l : Launch) (g : GX) (qrs : Nat) (qrsr : Nat) (uR : Nat → Nat) (ra : IV) (ral : LV) (rr : NI) (rl : NL) (p1 : Int32) (p2 : Int64) : Met l y_Rs_gatherOne (wsY y_Rs_gatherOne b_Rs_gatherOne 4 none) rm_Rs_gatherOne (CP g [.ref qrs, .int p1, .long p2] (wRs g qrs qrsr uR ra ral rr rl)) (CV g (wRs g qrs qrsr uR ra ral rr rl) (fun u : IV × LV => wRs g qrs qrsr uR u.1 u.2 rr rl) (sp_Rs_gatherOne p1 p2 ra ral)) 0 0 (inW (wRs g qrs qrsr uR ra ral rr rl)) := by
  refine Met.ofW (cc := b_Rs_gatherOne) (maxL := 4) (ret := none) pn_Rs rfl ?_
  intro p e s m args below meth c s₁ B hml hv
  obtain ⟨rfl, C, hP, hD, hS⟩ := enter "DecadeBridge$Results" rfl B hml hv
  obtain ⟨hx, hb, hr, hml, hown, hlk, hts, hK, hZo, hZ⟩ := id C
  refine entryW (lv := [(0, .ref qrs), (1, .int p1), (2, .long p2)]) rfl (Nat.le_of_ble_eq_true rfl) (fun ls hl => ?_)
  obtain ⟨z, hz⟩ : ∃ z, z = sp_Rs_gatherOne p1 p2 ra ral := ⟨_, rfl⟩
  rw [← hz]
  unfold sp_Rs_gatherOne at hz
  refine lv_aload_n hx hb d_Rs_gatherOne_0 rfl (lv_at hl 0 rfl) ?_
  refine gf C hP 0 4 fkRs rfl (by decide) rfl qf_Rs_84 (gRs_4 _ _ _) d_Rs_gatherOne_1 ?_
  refine lv_if_ne (tgt := 22) hx hb d_Rs_gatherOne_4 (by decide) (fun c1 => ?_) (fun c1 => ?_)
  · have hz := hz.trans (if_neg c1)
    exact k_Rs_gatherOne_22 C ra ral trivial _ hz _ _ ls hP hD hS hl
  · have hz := hz.trans (if_pos c1)
    refine lv_aload_n hx hb d_Rs_gatherOne_7 rfl (lv_at hl 0 rfl) ?_
    refine lv_iload_n hx hb d_Rs_gatherOne_8 rfl (lv_at hl 1 rfl) ?_
    refine pfI C hP hD hS 0 2 fkRs rfl (by decide) rfl qf_Rs_97 rfl rfl rfl (Nat.le_of_ble_eq_true rfl) (ff := fun o => fRs qrsr o ral) (sRs_2 _ _ _ _) d_Rs_gatherOne_9 (fun ra_2 era_2 H locs hP hD hS => ?_)
    have hP : va_P g.1 vwCl (wRs g qrs qrsr uR ra_2 ral rr rl) H := hP
    have hD : va_D (inW (wRs g qrs qrsr uR ra ral rr rl)) (wRs g qrs qrsr uR ra_2 ral rr rl) := hD
    have hz := lett_z hz era_2
    refine lv_aload_n hx hb d_Rs_gatherOne_12 rfl (lv_at hl 0 rfl) ?_
    refine lv_lload_n hx hb d_Rs_gatherOne_13 rfl (lv_at hl 2 rfl) ?_
    refine pfL C hP hD hS 0 6 fkRs rfl (by decide) rfl qf_Rs_100 rfl rfl rfl (Nat.le_of_ble_eq_true rfl) (ff := fun o => fRs qrsr ra_2 o) (sRs_6 _ _ _ _) d_Rs_gatherOne_14 (fun ral_3 eral_3 H locs hP hD hS => ?_)
    have hP : va_P g.1 vwCl (wRs g qrs qrsr uR ra_2 ral_3 rr rl) H := hP
    have hD : va_D (inW (wRs g qrs qrsr uR ra ral rr rl)) (wRs g qrs qrsr uR ra_2 ral_3 rr rl) := hD
    have hz := lett_z hz eral_3
    refine lv_aload_n hx hb d_Rs_gatherOne_17 rfl (lv_at hl 0 rfl) ?_
    refine lv_lload_n hx hb d_Rs_gatherOne_18 rfl (lv_at hl 2 rfl) ?_
    refine pfL C hP hD hS 0 7 fkRs rfl (by decide) rfl qf_Rs_103 rfl rfl rfl (Nat.le_of_ble_eq_true rfl) (ff := fun o => fRs qrsr ra_2 o) (sRs_7 _ _ _ _) d_Rs_gatherOne_19 (fun ral_4 eral_4 H locs hP hD hS => ?_)
    have hP : va_P g.1 vwCl (wRs g qrs qrsr uR ra_2 ral_4 rr rl) H := hP
    have hD : va_D (inW (wRs g qrs qrsr uR ra ral rr rl)) (wRs g qrs qrsr uR ra_2 ral_4 rr rl) := hD
    have hz := lett_z hz eral_4
    exact k_Rs_gatherOne_22 C ra_2 ral_4 trivial _ hz _ _ ls hP hD hS hl
abbrev rm_Se_sideOf : Room := { frames := 0, cells := 0, slots := 0, locals := 0 }
noncomputable def sp_Se_sideOf (p1 : Int64) (p2 : Int64) : Int32 := if p1 < p2 then (if (-p2) < p1 then ((0 : Int32)) else ((-1 : Int32))) else ((1 : Int32))
set_option maxRecDepth 100000 in
set_option maxHeartbeats 4000000 in
theorem c_Se_sideOf (l : Launch) (g : GX)   (p1 : Int64) (p2 : Int64) : Met l y_Se_sideOf (wsY y_Se_sideOf b_Se_sideOf 4 (some .int)) rm_Se_sideOf (CP g [.long p1, .long p2] (wNil g )) (CI0 g (wNil g ) (sp_Se_sideOf p1 p2)) 0 0 (inW (wNil g )) := by
  refine Met.ofW (cc := b_Se_sideOf) (maxL := 4) (ret := (some .int)) pn_Se rfl ?_
  intro p e s m args below meth c s₁ B hml hv
  obtain ⟨rfl, C, hP, hD, hS⟩ := enter "DecadeBridge$Search" rfl B hml hv
  obtain ⟨hx, hb, hr, hml, hown, hlk, hts, hK, hZo, hZ⟩ := id C
  refine entryW (lv := [(0, .long p1), (2, .long p2)]) rfl (Nat.le_of_ble_eq_true rfl) (fun ls hl => ?_)
  obtain ⟨z, hz⟩ : ∃ z, z = sp_Se_sideOf p1 p2 := ⟨_, rfl⟩
  rw [← hz]
  unfold sp_Se_sideOf at hz
  refine lv_lload_n hx hb d_Se_sideOf_0 rfl (lv_at hl 0 rfl) ?_
  refine lv_lload_n hx hb d_Se_sideOf_1 rfl (lv_at hl 1 rfl) ?_
  refine lc_lt (tgt := 8) hx hb d_Se_sideOf_2 d_Se_sideOf_3 (by decide) (fun c1 => ?_) (fun c1 => ?_)
  · have hz := hz.trans (if_pos c1)
    refine lv_lload_n hx hb d_Se_sideOf_8 rfl (lv_at hl 0 rfl) ?_
    refine lv_lload_n hx hb d_Se_sideOf_9 rfl (lv_at hl 1 rfl) ?_
    refine lv_lneg hx hb d_Se_sideOf_10 ?_
    refine lc_gt (tgt := 19) hx hb d_Se_sideOf_11 d_Se_sideOf_12 (by decide) (fun c2 => ?_) (fun c2 => ?_)
    · have hz := hz.trans (if_pos c2)
      refine lv_iconst (v := 0) hx hb d_Se_sideOf_19 (by decide) ?_
      exact endI0 C hz hP hS d_Se_sideOf_20
    · have hz := hz.trans (if_neg c2)
      refine lv_iconst (v := -1) hx hb d_Se_sideOf_15 (by decide) ?_
      refine lv_goto (tgt := 20) hx hb d_Se_sideOf_16 (by decide) ?_
      exact endI0 C hz hP hS d_Se_sideOf_20
  · have hz := hz.trans (if_neg c1)
    refine lv_iconst (v := 1) hx hb d_Se_sideOf_6 (by decide) ?_
    exact endI0 C hz hP hS d_Se_sideOf_7
abbrev rm_Te_bytesOf : Room := { frames := 0, cells := 0, slots := 0, locals := 0 }
def HL_Te_bytesOf_5 (p : Program) (l : Launch) (e : Env) (s : State) (m : MethodId) (args : Array Value) (below : List Frame) (meth : Method) (c : Code) (g : GX)  (p1 : Int32) (sp : Int32 → Int32 → Int32) (ok : Int32 → Int32 → Prop) : Prop := ∀ (x1p5 : Int32) (x2p5 : Int32), ok x1p5 x2p5 → ∀ z : Int32, z = sp x1p5 x2p5 → ∀ (H : Heap) (locs : List Loc) (ls : Array Slot), va_P g.1 vwCl (wNil g ) H → va_D (inW (wNil g )) (wNil g ) → va_S (inW (wNil g )) s.heap H locs → lv_has ls 3 [(0, .int p1), (1, .int x1p5), (2, .int x2p5)] → W p l e rm_Te_bytesOf s m args below meth c H locs 0 0 (MQ below (CI0 g (wNil g ) z) args s 0 0 (inW (wNil g ))) (F0 m 5 ls [])
def HL_Te_bytesOf_22 (p : Program) (l : Launch) (e : Env) (s : State) (m : MethodId) (args : Array Value) (below : List Frame) (meth : Method) (c : Code) (g : GX)  (p1 : Int32) (x2p5 : Int32) (sp : Int32 → Int32) (ok : Int32 → Prop) : Prop := ∀ (x1p22 : Int32), ok x1p22 → ∀ z : Int32, z = sp x1p22 → ∀ (H : Heap) (locs : List Loc) (ls : Array Slot), va_P g.1 vwCl (wNil g ) H → va_D (inW (wNil g )) (wNil g ) → va_S (inW (wNil g )) s.heap H locs → lv_has ls 3 [(0, .int p1), (1, .int x1p22), (2, .int x2p5)] → W p l e rm_Te_bytesOf s m args below meth c H locs 0 0 (MQ below (CI0 g (wNil g ) z) args s 0 0 (inW (wNil g ))) (F0 m 22 ls [])
noncomputable def sp_Te_bytesOf_22 (x2p5 : Int32) (r5 : Int32 → Int32 → Int32) (x1p22 : Int32) : Int32 := lett (x2p5 + (-8 : Int32)) fun (v4 : Int32) => r5 x1p22 v4
def ok_Te_bytesOf_22 (x2p5 : Int32) (r5 : Int32 → Int32 → Int32) (q5 : Int32 → Int32 → Prop) (x1p22 : Int32) : Prop := lett (x2p5 + (-8 : Int32)) fun (v4 : Int32) => q5 x1p22 v4
set_option maxRecDepth 100000 in
set_option maxHeartbeats 4000000 in
theorem k_Te_bytesOf_22 {p : Program} {l : Launch} {e : Env} {s : State} {m : MethodId} {args : Array Value} {below : List Frame} {meth : Method} {c : Code} {g : GX}  {p1 : Int32} {x2p5 : Int32} {r5 : Int32 → Int32 → Int32} {q5 : Int32 → Int32 → Prop} (C : Cx p s m args meth c (inW (wNil g )) g "DecadeBridge$Text" b_Te_bytesOf (some .int) 3) (ih5 : HL_Te_bytesOf_5 p l e s m args below meth c g  p1 r5 q5) : HL_Te_bytesOf_22 p l e s m args below meth c g  p1 x2p5 (sp_Te_bytesOf_22 x2p5 r5) (ok_Te_bytesOf_22 x2p5 r5 q5) := by
  intro x1p22 hok z hz H locs ls hP hD hS hl
  obtain ⟨hx, hb, hr, hml, hown, hlk, hts, hK, hZo, hZ⟩ := id C
  unfold sp_Te_bytesOf_22 at hz
  unfold ok_Te_bytesOf_22 at hok
  obtain ⟨v4, ev4⟩ : ∃ y : Int32, y = x2p5 + (-8 : Int32) := ⟨_, rfl⟩
  have hz := lett_z hz ev4
  have hok := lett_o hok ev4
  refine lv_iinc (v := v4) (lv' := [(2, .int v4), (0, .int p1), (1, .int x1p22)]) hx hb d_Te_bytesOf_22 hl (k := 2) rfl (by rw [ev4]; rfl) (by decide) rfl (fun ls hl => ?_)
  refine lv_goto (tgt := 5) hx hb d_Te_bytesOf_25 (by decide) ?_
  exact ih5 x1p22 v4 hok _ hz _ _ ls hP hD hS (lv_sub hl [1, 2, 0] rfl)
noncomputable def bd_Te_bytesOf_5 (p1 : Int32) (r5 : Int32 → Int32 → Int32) (x1p5 : Int32) (x2p5 : Int32) : Int32 := if x2p5 < 0 then (x1p5) else (if (((p1.toUInt32 >>> (x2p5.toUInt32 &&& Int32.toUInt32 31)).toInt32) &&& (255 : Int32)) = 0 then (sp_Te_bytesOf_22 x2p5 r5 x1p5) else (lett (x1p5 + (1 : Int32)) fun (v3 : Int32) => sp_Te_bytesOf_22 x2p5 r5 v3))
def okb_Te_bytesOf_5 (p1 : Int32) (r5 : Int32 → Int32 → Int32) (q5 : Int32 → Int32 → Prop) (x1p5 : Int32) (x2p5 : Int32) : Prop := ((x2p5 < 0 → True) ∧ (¬ (x2p5 < 0) → (((((p1.toUInt32 >>> (x2p5.toUInt32 &&& Int32.toUInt32 31)).toInt32) &&& (255 : Int32)) = 0 → ok_Te_bytesOf_22 x2p5 r5 q5 x1p5) ∧ (¬ ((((p1.toUInt32 >>> (x2p5.toUInt32 &&& Int32.toUInt32 31)).toInt32) &&& (255 : Int32)) = 0) → lett (x1p5 + (1 : Int32)) fun (v3 : Int32) => ok_Te_bytesOf_22 x2p5 r5 q5 v3))))
noncomputable def sp_Te_bytesOf_5 (p1 : Int32)  : Nat → Int32 → Int32 → Int32
  | 0 => fun _ _ => default
  | f + 1 => bd_Te_bytesOf_5 p1  (sp_Te_bytesOf_5 p1  f)
def ok_Te_bytesOf_5 (p1 : Int32)   : Nat → Int32 → Int32 → Prop
  | 0 => fun _ _ => False
  | f + 1 => okb_Te_bytesOf_5 p1  (sp_Te_bytesOf_5 p1  f)  (ok_Te_bytesOf_5 p1   f)
set_option maxRecDepth 100000 in
set_option maxHeartbeats 4000000 in
theorem kb_Te_bytesOf_5 {p : Program} {l : Launch} {e : Env} {s : State} {m : MethodId} {args : Array Value} {below : List Frame} {meth : Method} {c : Code} {g : GX}  {p1 : Int32}  (C : Cx p s m args meth c (inW (wNil g )) g "DecadeBridge$Text" b_Te_bytesOf (some .int) 3) {r5 : Int32 → Int32 → Int32} {q5 : Int32 → Int32 → Prop}  (ih5 : HL_Te_bytesOf_5 p l e s m args below meth c g  p1 r5 q5) : HL_Te_bytesOf_5 p l e s m args below meth c g  p1 (bd_Te_bytesOf_5 p1  r5) (okb_Te_bytesOf_5 p1  r5  q5) := by
  intro x1p5 x2p5 hok z hz H locs ls hP hD hS hl
  obtain ⟨hx, hb, hr, hml, hown, hlk, hts, hK, hZo, hZ⟩ := id C
  unfold bd_Te_bytesOf_5 at hz
  unfold okb_Te_bytesOf_5 at hok
  refine lv_iload_n hx hb d_Te_bytesOf_5 rfl (lv_at hl 2 rfl) ?_
  refine lv_if_lt (tgt := 28) hx hb d_Te_bytesOf_6 (by decide) (fun c1 => ?_) (fun c1 => ?_)
  · have hz := hz.trans (if_pos c1)
    refine lv_iload_n hx hb d_Te_bytesOf_28 rfl (lv_at hl 1 rfl) ?_
    exact endI0 C hz hP hS d_Te_bytesOf_29
  · have hz := hz.trans (if_neg c1)
    have hok := hok.2 c1
    refine lv_iload_n hx hb d_Te_bytesOf_9 rfl (lv_at hl 0 rfl) ?_
    refine lv_iload_n hx hb d_Te_bytesOf_10 rfl (lv_at hl 2 rfl) ?_
    refine lv_iushr hx hb d_Te_bytesOf_11 rfl ?_
    refine lv_sipush (v := 255) hx hb d_Te_bytesOf_12 (by decide) ?_
    refine lv_iand hx hb d_Te_bytesOf_15 ?_
    refine lv_if_eq (tgt := 22) hx hb d_Te_bytesOf_16 (by decide) (fun c2 => ?_) (fun c2 => ?_)
    · have hz := hz.trans (if_pos c2)
      have hok := hok.1 c2
      exact k_Te_bytesOf_22 C ih5 x1p5 hok _ hz _ _ ls hP hD hS hl
    · have hz := hz.trans (if_neg c2)
      have hok := hok.2 c2
      obtain ⟨v3, ev3⟩ : ∃ y : Int32, y = x1p5 + (1 : Int32) := ⟨_, rfl⟩
      have hz := lett_z hz ev3
      have hok := lett_o hok ev3
      refine lv_iinc (v := v3) (lv' := [(1, .int v3), (0, .int p1), (2, .int x2p5)]) hx hb d_Te_bytesOf_19 hl (k := 1) rfl (by rw [ev3]; rfl) (by decide) rfl (fun ls hl => ?_)
      exact k_Te_bytesOf_22 C ih5 v3 hok _ hz _ _ ls hP hD hS (lv_sub hl [1, 0, 2] rfl)
theorem k_Te_bytesOf_5 {p : Program} {l : Launch} {e : Env} {s : State} {m : MethodId} {args : Array Value} {below : List Frame} {meth : Method} {c : Code} {g : GX}  {p1 : Int32}  (C : Cx p s m args meth c (inW (wNil g )) g "DecadeBridge$Text" b_Te_bytesOf (some .int) 3) (f : Nat)  : HL_Te_bytesOf_5 p l e s m args below meth c g  p1 (sp_Te_bytesOf_5 p1  f) (ok_Te_bytesOf_5 p1   f) := by
  induction f with
  | zero => intro x1p5 x2p5 hok; exact False.elim hok
  | succ f ih => exact kb_Te_bytesOf_5 C  ih
noncomputable def sp_Te_bytesOf (p1 : Int32) : Int32 := sp_Te_bytesOf_5 p1 big (0 : Int32) (24 : Int32)
def ok_Te_bytesOf (p1 : Int32) : Prop := ok_Te_bytesOf_5 p1 big (0 : Int32) (24 : Int32)
set_option maxRecDepth 100000 in
set_option maxHeartbeats 4000000 in
theorem c_Te_bytesOf (l : Launch) (g : GX)   (p1 : Int32) (hok : ok_Te_bytesOf p1) : Met l y_Te_bytesOf (wsY y_Te_bytesOf b_Te_bytesOf 3 (some .int)) rm_Te_bytesOf (CP g [.int p1] (wNil g )) (CI0 g (wNil g ) (sp_Te_bytesOf p1)) 0 0 (inW (wNil g )) := by
  refine Met.ofW (cc := b_Te_bytesOf) (maxL := 3) (ret := (some .int)) pn_Te rfl ?_
  intro p e s m args below meth c s₁ B hml hv
  obtain ⟨rfl, C, hP, hD, hS⟩ := enter "DecadeBridge$Text" rfl B hml hv
  obtain ⟨hx, hb, hr, hml, hown, hlk, hts, hK, hZo, hZ⟩ := id C
  refine entryW (lv := [(0, .int p1)]) rfl (Nat.le_of_ble_eq_true rfl) (fun ls hl => ?_)
  obtain ⟨z, hz⟩ : ∃ z, z = sp_Te_bytesOf p1 := ⟨_, rfl⟩
  rw [← hz]
  unfold sp_Te_bytesOf at hz
  unfold ok_Te_bytesOf at hok
  refine lv_iconst (v := 0) hx hb d_Te_bytesOf_0 (by decide) ?_
  refine lv_istore_n (lv' := [(1, .int (0 : Int32)), (0, .int p1)]) hx hb d_Te_bytesOf_1 rfl hl (by decide) rfl (fun ls hl => ?_)
  refine lv_bipush (v := 24) hx hb d_Te_bytesOf_2 (by decide) ?_
  refine lv_istore_n (lv' := [(2, .int (24 : Int32)), (1, .int (0 : Int32)), (0, .int p1)]) hx hb d_Te_bytesOf_4 rfl hl (by decide) rfl (fun ls hl => ?_)
  exact k_Te_bytesOf_5 C big (0 : Int32) (24 : Int32) hok _ hz _ _ ls hP hD hS (lv_sub hl [2, 1, 0] rfl)
abbrev rm_Te_append : Room := { frames := 0, cells := 0, slots := 0, locals := 0 }
def HL_Te_append_3 (p : Program) (l : Launch) (e : Env) (s : State) (m : MethodId) (args : Array Value) (below : List Frame) (meth : Method) (c : Code) (g : GX) (qte : Nat) (qteb : Nat) (ws0 : va_W) (p1 : Int32) (sp : Int32 → IV → IV → (IV × IV)) (ok : Int32 → IV → IV → Prop) : Prop := ∀ (x2p3 : Int32) (tp3 : IV) (tbp3 : IV), ok x2p3 tp3 tbp3 → ∀ z : (IV × IV), z = sp x2p3 tp3 tbp3 → ∀ (H : Heap) (locs : List Loc) (ls : Array Slot), va_P g.1 vwCl (wTe g qte qteb tp3 tbp3) H → va_D (inW ws0) (wTe g qte qteb tp3 tbp3) → va_S (inW ws0) s.heap H locs → lv_has ls 4 [(0, .ref qte), (1, .int p1), (2, .int x2p3)] → W p l e rm_Te_append s m args below meth c H locs 0 0 (MQ below (CV g ws0 (fun u : IV × IV => wTe g qte qteb u.1 u.2) z) args s 0 0 (inW ws0)) (F0 m 3 ls [])
def HL_Te_append_52 (p : Program) (l : Launch) (e : Env) (s : State) (m : MethodId) (args : Array Value) (below : List Frame) (meth : Method) (c : Code) (g : GX) (qte : Nat) (qteb : Nat) (ws0 : va_W) (p1 : Int32) (x2p3 : Int32) (sp : IV → IV → (IV × IV)) (ok : IV → IV → Prop) : Prop := ∀ (tp52 : IV) (tbp52 : IV), ok tp52 tbp52 → ∀ z : (IV × IV), z = sp tp52 tbp52 → ∀ (H : Heap) (locs : List Loc) (ls : Array Slot), va_P g.1 vwCl (wTe g qte qteb tp52 tbp52) H → va_D (inW ws0) (wTe g qte qteb tp52 tbp52) → va_S (inW ws0) s.heap H locs → lv_has ls 4 [(0, .ref qte), (1, .int p1), (2, .int x2p3)] → W p l e rm_Te_append s m args below meth c H locs 0 0 (MQ below (CV g ws0 (fun u : IV × IV => wTe g qte qteb u.1 u.2) z) args s 0 0 (inW ws0)) (F0 m 52 ls [])
noncomputable def sp_Te_append_52 (x2p3 : Int32) (r3 : Int32 → IV → IV → (IV × IV)) (tp52 : IV) (tbp52 : IV) : IV × IV := lett (x2p3 + (-8 : Int32)) fun (v8 : Int32) => r3 v8 tp52 tbp52
def ok_Te_append_52 (x2p3 : Int32) (r3 : Int32 → IV → IV → (IV × IV)) (q3 : Int32 → IV → IV → Prop) (tp52 : IV) (tbp52 : IV) : Prop := lett (x2p3 + (-8 : Int32)) fun (v8 : Int32) => q3 v8 tp52 tbp52
set_option maxRecDepth 100000 in
set_option maxHeartbeats 4000000 in
theorem k_Te_append_52 {p : Program} {l : Launch} {e : Env} {s : State} {m : MethodId} {args : Array Value} {below : List Frame} {meth : Method} {c : Code} {g : GX} {qte : Nat} {qteb : Nat} {ws0 : va_W} {p1 : Int32} {x2p3 : Int32} {r3 : Int32 → IV → IV → (IV × IV)} {q3 : Int32 → IV → IV → Prop} (C : Cx p s m args meth c (inW ws0) g "DecadeBridge$Text" b_Te_append none 4) (ih3 : HL_Te_append_3 p l e s m args below meth c g qte qteb ws0 p1 r3 q3) : HL_Te_append_52 p l e s m args below meth c g qte qteb ws0 p1 x2p3 (sp_Te_append_52 x2p3 r3) (ok_Te_append_52 x2p3 r3 q3) := by
  intro tp52 tbp52 hok z hz H locs ls hP hD hS hl
  obtain ⟨hx, hb, hr, hml, hown, hlk, hts, hK, hZo, hZ⟩ := id C
  unfold sp_Te_append_52 at hz
  unfold ok_Te_append_52 at hok
  obtain ⟨v8, ev8⟩ : ∃ y : Int32, y = x2p3 + (-8 : Int32) := ⟨_, rfl⟩
  have hz := lett_z hz ev8
  have hok := lett_o hok ev8
  refine lv_iinc (v := v8) (lv' := [(2, .int v8), (0, .ref qte), (1, .int p1)]) hx hb d_Te_append_52 hl (k := 2) rfl (by rw [ev8]; rfl) (by decide) rfl (fun ls hl => ?_)
  refine lv_goto (tgt := 3) hx hb d_Te_append_55 (by decide) ?_
  exact ih3 v8 tp52 tbp52 hok _ hz _ _ ls hP hD hS (lv_sub hl [1, 2, 0] rfl)
noncomputable def bd_Te_append_3 (p1 : Int32) (r3 : Int32 → IV → IV → (IV × IV)) (x2p3 : Int32) (tp3 : IV) (tbp3 : IV) : IV × IV := if x2p3 < 0 then ((tp3, tbp3)) else (lett (((p1.toUInt32 >>> (x2p3.toUInt32 &&& Int32.toUInt32 31)).toInt32) &&& (255 : Int32)) fun (v2 : Int32) => if v2 = 0 then (sp_Te_append_52 x2p3 r3 tp3 tbp3) else (if (600 : Int32) ≤ (tp3 1) then (sp_Te_append_52 x2p3 r3 tp3 tbp3) else (lett (upd tbp3 (tp3 1).toNatClampNeg (vp_nar .byte v2.toInt8.toInt32)) fun (tb_6 : IV) => lett (upd tp3 1 ((tp3 1) + (1 : Int32))) fun (t_7 : IV) => sp_Te_append_52 x2p3 r3 t_7 tb_6)))
def okb_Te_append_3 (p1 : Int32) (r3 : Int32 → IV → IV → (IV × IV)) (q3 : Int32 → IV → IV → Prop) (x2p3 : Int32) (tp3 : IV) (tbp3 : IV) : Prop := ((x2p3 < 0 → True) ∧ (¬ (x2p3 < 0) → lett (((p1.toUInt32 >>> (x2p3.toUInt32 &&& Int32.toUInt32 31)).toInt32) &&& (255 : Int32)) fun (v2 : Int32) => ((v2 = 0 → ok_Te_append_52 x2p3 r3 q3 tp3 tbp3) ∧ (¬ (v2 = 0) → (((600 : Int32) ≤ (tp3 1) → ok_Te_append_52 x2p3 r3 q3 tp3 tbp3) ∧ (¬ ((600 : Int32) ≤ (tp3 1)) → (vp_in (tp3 1) 600) ∧ lett (upd tbp3 (tp3 1).toNatClampNeg (vp_nar .byte v2.toInt8.toInt32)) fun (tb_6 : IV) => lett (upd tp3 1 ((tp3 1) + (1 : Int32))) fun (t_7 : IV) => ok_Te_append_52 x2p3 r3 q3 t_7 tb_6))))))
noncomputable def sp_Te_append_3 (p1 : Int32)  : Nat → Int32 → IV → IV → (IV × IV)
  | 0 => fun _ _ _ => default
  | f + 1 => bd_Te_append_3 p1  (sp_Te_append_3 p1  f)
def ok_Te_append_3 (p1 : Int32)   : Nat → Int32 → IV → IV → Prop
  | 0 => fun _ _ _ => False
  | f + 1 => okb_Te_append_3 p1  (sp_Te_append_3 p1  f)  (ok_Te_append_3 p1   f)
set_option maxRecDepth 100000 in
set_option maxHeartbeats 4000000 in
theorem kb_Te_append_3 {p : Program} {l : Launch} {e : Env} {s : State} {m : MethodId} {args : Array Value} {below : List Frame} {meth : Method} {c : Code} {g : GX} {qte : Nat} {qteb : Nat} {ws0 : va_W} {p1 : Int32}  (C : Cx p s m args meth c (inW ws0) g "DecadeBridge$Text" b_Te_append none 4) {r3 : Int32 → IV → IV → (IV × IV)} {q3 : Int32 → IV → IV → Prop}  (ih3 : HL_Te_append_3 p l e s m args below meth c g qte qteb ws0 p1 r3 q3) : HL_Te_append_3 p l e s m args below meth c g qte qteb ws0 p1 (bd_Te_append_3 p1  r3) (okb_Te_append_3 p1  r3  q3) := by
  intro x2p3 tp3 tbp3 hok z hz H locs ls hP hD hS hl
  obtain ⟨hx, hb, hr, hml, hown, hlk, hts, hK, hZo, hZ⟩ := id C
  unfold bd_Te_append_3 at hz
  unfold okb_Te_append_3 at hok
  refine lv_iload_n hx hb d_Te_append_3 rfl (lv_at hl 2 rfl) ?_
  refine lv_if_lt (tgt := 58) hx hb d_Te_append_4 (by decide) (fun c1 => ?_) (fun c1 => ?_)
  · have hz := hz.trans (if_pos c1)
    exact endV C hz hP hS d_Te_append_58
  · have hz := hz.trans (if_neg c1)
    have hok := hok.2 c1
    refine lv_iload_n hx hb d_Te_append_7 rfl (lv_at hl 1 rfl) ?_
    refine lv_iload_n hx hb d_Te_append_8 rfl (lv_at hl 2 rfl) ?_
    refine lv_iushr hx hb d_Te_append_9 rfl ?_
    refine lv_sipush (v := 255) hx hb d_Te_append_10 (by decide) ?_
    refine lv_iand hx hb d_Te_append_13 ?_
    refine lv_topi (fun v2 ev2 => ?_)
    have hz := lett_z hz ev2
    have hok := lett_o hok ev2
    refine lv_istore_n (lv' := [(3, .int v2), (0, .ref qte), (1, .int p1), (2, .int x2p3)]) hx hb d_Te_append_14 rfl hl (by decide) rfl (fun ls hl => ?_)
    refine lv_iload_n hx hb d_Te_append_15 rfl (lv_at hl 0 rfl) ?_
    refine lv_if_eq (tgt := 52) hx hb d_Te_append_16 (by decide) (fun c3 => ?_) (fun c3 => ?_)
    · have hz := hz.trans (if_pos c3)
      have hok := hok.1 c3
      exact k_Te_append_52 C ih3 tp3 tbp3 hok _ hz _ _ ls hP hD hS (lv_sub hl [1, 2, 3] rfl)
    · have hz := hz.trans (if_neg c3)
      have hok := hok.2 c3
      refine lv_aload_n hx hb d_Te_append_19 rfl (lv_at hl 1 rfl) ?_
      refine gf C hP 0 1 fkTe rfl (by decide) rfl qf_Te_19 (gTe_1 _ _) d_Te_append_20 ?_
      refine lv_aload_n hx hb d_Te_append_23 rfl (lv_at hl 1 rfl) ?_
      refine gf C hP 0 0 fkTe rfl (by decide) rfl qf_Te_11 (gTe_0 _ _) d_Te_append_24 ?_
      refine alen C hP 1 rfl (t0 := 2) rfl (v := 600) rfl d_Te_append_27 ?_
      refine lv_icmp_ge (tgt := 52) hx hb d_Te_append_28 (by decide) (fun c4 => ?_) (fun c4 => ?_)
      · have hz := hz.trans (if_pos c4)
        have hok := hok.1 c4
        exact k_Te_append_52 C ih3 tp3 tbp3 hok _ hz _ _ ls hP hD hS (lv_sub hl [1, 2, 3] rfl)
      · have hz := hz.trans (if_neg c4)
        have hok := hok.2 c4
        refine lv_aload_n hx hb d_Te_append_31 rfl (lv_at hl 1 rfl) ?_
        refine gf C hP 0 0 fkTe rfl (by decide) rfl qf_Te_11 (gTe_0 _ _) d_Te_append_32 ?_
        refine lv_aload_n hx hb d_Te_append_35 rfl (lv_at hl 1 rfl) ?_
        refine gf C hP 0 1 fkTe rfl (by decide) rfl qf_Te_19 (gTe_1 _ _) d_Te_append_36 ?_
        refine lv_iload_n hx hb d_Te_append_39 rfl (lv_at hl 0 rfl) ?_
        refine lv_i2b hx hb d_Te_append_40 rfl ?_
        have hs5 := hok.1
        have hok := hok.2
        refine stB C hP hD hS 1 rfl hs5 rfl d_Te_append_41 (fun tb_6 etb_6 H locs hP hD hS => ?_)
        have hP : va_P g.1 vwCl (wTe g qte qteb tp3 tb_6) H := hP
        have hD : va_D (inW ws0) (wTe g qte qteb tp3 tb_6) := hD
        have hz := lett_z hz etb_6
        have hok := lett_o hok etb_6
        refine lv_aload_n hx hb d_Te_append_42 rfl (lv_at hl 1 rfl) ?_
        refine lv_dup hx hb d_Te_append_43 rfl ?_
        refine gf C hP 0 1 fkTe rfl (by decide) rfl qf_Te_19 (gTe_1 _ _) d_Te_append_44 ?_
        refine lv_iconst (v := 1) hx hb d_Te_append_47 (by decide) ?_
        refine lv_iadd hx hb d_Te_append_48 ?_
        refine pfI C hP hD hS 0 1 fkTe rfl (by decide) rfl qf_Te_19 rfl rfl rfl (Nat.le_of_ble_eq_true rfl) (ff := fun o => fTe qteb o) (sTe_1 _ _ _) d_Te_append_49 (fun t_7 et_7 H locs hP hD hS => ?_)
        have hP : va_P g.1 vwCl (wTe g qte qteb t_7 tb_6) H := hP
        have hD : va_D (inW ws0) (wTe g qte qteb t_7 tb_6) := hD
        have hz := lett_z hz et_7
        have hok := lett_o hok et_7
        exact k_Te_append_52 C ih3 t_7 tb_6 hok _ hz _ _ ls hP hD hS (lv_sub hl [1, 2, 3] rfl)
theorem k_Te_append_3 {p : Program} {l : Launch} {e : Env} {s : State} {m : MethodId} {args : Array Value} {below : List Frame} {meth : Method} {c : Code} {g : GX} {qte : Nat} {qteb : Nat} {ws0 : va_W} {p1 : Int32}  (C : Cx p s m args meth c (inW ws0) g "DecadeBridge$Text" b_Te_append none 4) (f : Nat)  : HL_Te_append_3 p l e s m args below meth c g qte qteb ws0 p1 (sp_Te_append_3 p1  f) (ok_Te_append_3 p1   f) := by
  induction f with
  | zero => intro x2p3 tp3 tbp3 hok; exact False.elim hok
  | succ f ih => exact kb_Te_append_3 C  ih
noncomputable def sp_Te_append (p1 : Int32) (t : IV) (tb : IV) : IV × IV := sp_Te_append_3 p1 big (24 : Int32) t tb
def ok_Te_append (p1 : Int32) (t : IV) (tb : IV) : Prop := ok_Te_append_3 p1 big (24 : Int32) t tb
set_option maxRecDepth 100000 in
set_option maxHeartbeats 4000000 in
theorem c_Te_append (l : Launch) (g : GX) (qte : Nat) (qteb : Nat) (t : IV) (tb : IV) (p1 : Int32) (hok : ok_Te_append p1 t tb) : Met l y_Te_append (wsY y_Te_append b_Te_append 4 none) rm_Te_append (CP g [.ref qte, .int p1] (wTe g qte qteb t tb)) (CV g (wTe g qte qteb t tb) (fun u : IV × IV => wTe g qte qteb u.1 u.2) (sp_Te_append p1 t tb)) 0 0 (inW (wTe g qte qteb t tb)) := by
  refine Met.ofW (cc := b_Te_append) (maxL := 4) (ret := none) pn_Te rfl ?_
  intro p e s m args below meth c s₁ B hml hv
  obtain ⟨rfl, C, hP, hD, hS⟩ := enter "DecadeBridge$Text" rfl B hml hv
  obtain ⟨hx, hb, hr, hml, hown, hlk, hts, hK, hZo, hZ⟩ := id C
  refine entryW (lv := [(0, .ref qte), (1, .int p1)]) rfl (Nat.le_of_ble_eq_true rfl) (fun ls hl => ?_)
  obtain ⟨z, hz⟩ : ∃ z, z = sp_Te_append p1 t tb := ⟨_, rfl⟩
  rw [← hz]
  unfold sp_Te_append at hz
  unfold ok_Te_append at hok
  refine lv_bipush (v := 24) hx hb d_Te_append_0 (by decide) ?_
  refine lv_istore_n (lv' := [(2, .int (24 : Int32)), (0, .ref qte), (1, .int p1)]) hx hb d_Te_append_2 rfl hl (by decide) rfl (fun ls hl => ?_)
  exact k_Te_append_3 C big (24 : Int32) t tb hok _ hz _ _ ls hP hD hS (lv_sub hl [1, 2, 0] rfl)
abbrev rm_Te_empty : Room := { frames := 0, cells := 0, slots := 0, locals := 0 }
noncomputable def sp_Te_empty (t : IV) : IV := lett (upd t 1 (0 : Int32)) fun (t_1 : IV) => t_1
set_option maxRecDepth 100000 in
set_option maxHeartbeats 4000000 in
theorem c_Te_empty (l : Launch) (g : GX) (qte : Nat) (qteb : Nat) (t : IV) (tb : IV)  : Met l y_Te_empty (wsY y_Te_empty b_Te_empty 1 none) rm_Te_empty (CP g [.ref qte] (wTe g qte qteb t tb)) (CV g (wTe g qte qteb t tb) (fun u : IV => wTe g qte qteb u tb) (sp_Te_empty t)) 0 0 (inW (wTe g qte qteb t tb)) := by
  refine Met.ofW (cc := b_Te_empty) (maxL := 1) (ret := none) pn_Te rfl ?_
  intro p e s m args below meth c s₁ B hml hv
  obtain ⟨rfl, C, hP, hD, hS⟩ := enter "DecadeBridge$Text" rfl B hml hv
  obtain ⟨hx, hb, hr, hml, hown, hlk, hts, hK, hZo, hZ⟩ := id C
  refine entryW (lv := [(0, .ref qte)]) rfl (Nat.le_of_ble_eq_true rfl) (fun ls hl => ?_)
  obtain ⟨z, hz⟩ : ∃ z, z = sp_Te_empty t := ⟨_, rfl⟩
  rw [← hz]
  unfold sp_Te_empty at hz
  refine lv_aload_n hx hb d_Te_empty_0 rfl (lv_at hl 0 rfl) ?_
  refine lv_iconst (v := 0) hx hb d_Te_empty_1 (by decide) ?_
  refine pfI C hP hD hS 0 1 fkTe rfl (by decide) rfl qf_Te_19 rfl rfl rfl (Nat.le_of_ble_eq_true rfl) (ff := fun o => fTe qteb o) (sTe_1 _ _ _) d_Te_empty_2 (fun t_1 et_1 H locs hP hD hS => ?_)
  have hP : va_P g.1 vwCl (wTe g qte qteb t_1 tb) H := hP
  have hD : va_D (inW (wTe g qte qteb t tb)) (wTe g qte qteb t_1 tb) := hD
  have hz := lett_z hz et_1
  exact endV C hz hP hS d_Te_empty_5
abbrev rm_Te_failAt : Room := { frames := 0, cells := 0, slots := 0, locals := 0 }
noncomputable def sp_Te_failAt (p1 : Int32) (p2 : Int32) (t : IV) : IV := if (t 5) = 0 then (lett (upd t 5 p1) fun (t_2 : IV) => lett (upd t_2 6 p2) fun (t_3 : IV) => lett (upd t_3 2 (1 : Int32)) fun (t_4 : IV) => t_4) else (t)
set_option maxRecDepth 100000 in
set_option maxHeartbeats 4000000 in
theorem c_Te_failAt (l : Launch) (g : GX) (qte : Nat) (qteb : Nat) (t : IV) (tb : IV) (p1 : Int32) (p2 : Int32) : Met l y_Te_failAt (wsY y_Te_failAt b_Te_failAt 3 none) rm_Te_failAt (CP g [.ref qte, .int p1, .int p2] (wTe g qte qteb t tb)) (CV g (wTe g qte qteb t tb) (fun u : IV => wTe g qte qteb u tb) (sp_Te_failAt p1 p2 t)) 0 0 (inW (wTe g qte qteb t tb)) := by
  refine Met.ofW (cc := b_Te_failAt) (maxL := 3) (ret := none) pn_Te rfl ?_
  intro p e s m args below meth c s₁ B hml hv
  obtain ⟨rfl, C, hP, hD, hS⟩ := enter "DecadeBridge$Text" rfl B hml hv
  obtain ⟨hx, hb, hr, hml, hown, hlk, hts, hK, hZo, hZ⟩ := id C
  refine entryW (lv := [(0, .ref qte), (1, .int p1), (2, .int p2)]) rfl (Nat.le_of_ble_eq_true rfl) (fun ls hl => ?_)
  obtain ⟨z, hz⟩ : ∃ z, z = sp_Te_failAt p1 p2 t := ⟨_, rfl⟩
  rw [← hz]
  unfold sp_Te_failAt at hz
  refine lv_aload_n hx hb d_Te_failAt_0 rfl (lv_at hl 0 rfl) ?_
  refine gf C hP 0 5 fkTe rfl (by decide) rfl qf_Te_22 (gTe_5 _ _) d_Te_failAt_1 ?_
  refine lv_if_ne (tgt := 22) hx hb d_Te_failAt_4 (by decide) (fun c1 => ?_) (fun c1 => ?_)
  · have hz := hz.trans (if_neg c1)
    exact endV C hz hP hS d_Te_failAt_22
  · have hz := hz.trans (if_pos c1)
    refine lv_aload_n hx hb d_Te_failAt_7 rfl (lv_at hl 0 rfl) ?_
    refine lv_iload_n hx hb d_Te_failAt_8 rfl (lv_at hl 1 rfl) ?_
    refine pfI C hP hD hS 0 5 fkTe rfl (by decide) rfl qf_Te_22 rfl rfl rfl (Nat.le_of_ble_eq_true rfl) (ff := fun o => fTe qteb o) (sTe_5 _ _ _) d_Te_failAt_9 (fun t_2 et_2 H locs hP hD hS => ?_)
    have hP : va_P g.1 vwCl (wTe g qte qteb t_2 tb) H := hP
    have hD : va_D (inW (wTe g qte qteb t tb)) (wTe g qte qteb t_2 tb) := hD
    have hz := lett_z hz et_2
    refine lv_aload_n hx hb d_Te_failAt_12 rfl (lv_at hl 0 rfl) ?_
    refine lv_iload_n hx hb d_Te_failAt_13 rfl (lv_at hl 2 rfl) ?_
    refine pfI C hP hD hS 0 6 fkTe rfl (by decide) rfl qf_Te_15 rfl rfl rfl (Nat.le_of_ble_eq_true rfl) (ff := fun o => fTe qteb o) (sTe_6 _ _ _) d_Te_failAt_14 (fun t_3 et_3 H locs hP hD hS => ?_)
    have hP : va_P g.1 vwCl (wTe g qte qteb t_3 tb) H := hP
    have hD : va_D (inW (wTe g qte qteb t tb)) (wTe g qte qteb t_3 tb) := hD
    have hz := lett_z hz et_3
    refine lv_aload_n hx hb d_Te_failAt_17 rfl (lv_at hl 0 rfl) ?_
    refine lv_iconst (v := 1) hx hb d_Te_failAt_18 (by decide) ?_
    refine pfI C hP hD hS 0 2 fkTe rfl (by decide) rfl qf_Te_38 rfl rfl rfl (Nat.le_of_ble_eq_true rfl) (ff := fun o => fTe qteb o) (sTe_2 _ _ _) d_Te_failAt_19 (fun t_4 et_4 H locs hP hD hS => ?_)
    have hP : va_P g.1 vwCl (wTe g qte qteb t_4 tb) H := hP
    have hD : va_D (inW (wTe g qte qteb t tb)) (wTe g qte qteb t_4 tb) := hD
    have hz := lett_z hz et_4
    exact endV C hz hP hS d_Te_failAt_22
abbrev rm_Te_atSigned : Room := { frames := 0, cells := 0, slots := 0, locals := 0 }
def HL_Te_atSigned_18 (p : Program) (l : Launch) (e : Env) (s : State) (m : MethodId) (args : Array Value) (below : List Frame) (meth : Method) (c : Code) (g : GX) (qte : Nat) (qteb : Nat) (t : IV) (tb : IV) (sp : Int32) (ok : Prop) : Prop := ∀ (_ : Unit), ok → ∀ z : Int32, z = sp → ∀ (H : Heap) (locs : List Loc) (ls : Array Slot), va_P g.1 vwCl (wTe g qte qteb t tb) H → va_D (inW (wTe g qte qteb t tb)) (wTe g qte qteb t tb) → va_S (inW (wTe g qte qteb t tb)) s.heap H locs → lv_has ls 1 [] → W p l e rm_Te_atSigned s m args below meth c H locs 0 0 (MQ below (CI0 g (wTe g qte qteb t tb) z) args s 0 0 (inW (wTe g qte qteb t tb))) (F0 m 18 ls [])
noncomputable def sp_Te_atSigned_18    : Int32 := (1 : Int32)
def ok_Te_atSigned_18     : Prop := True
set_option maxRecDepth 100000 in
set_option maxHeartbeats 4000000 in
theorem k_Te_atSigned_18 {p : Program} {l : Launch} {e : Env} {s : State} {m : MethodId} {args : Array Value} {below : List Frame} {meth : Method} {c : Code} {g : GX} {qte : Nat} {qteb : Nat} {t : IV} {tb : IV}  (C : Cx p s m args meth c (inW (wTe g qte qteb t tb)) g "DecadeBridge$Text" b_Te_atSigned (some .boolean) 1)  : HL_Te_atSigned_18 p l e s m args below meth c g qte qteb t tb (sp_Te_atSigned_18  ) (ok_Te_atSigned_18   ) := by
  intro _ hok z hz H locs ls hP hD hS hl
  obtain ⟨hx, hb, hr, hml, hown, hlk, hts, hK, hZo, hZ⟩ := id C
  unfold sp_Te_atSigned_18 at hz
  refine lv_iconst (v := 1) hx hb d_Te_atSigned_18 (by decide) ?_
  refine lv_goto (tgt := 23) hx hb d_Te_atSigned_19 (by decide) ?_
  exact endZ0 C hz hP hS rfl d_Te_atSigned_23
noncomputable def sp_Te_atSigned (t : IV) : Int32 := if (t 2) = (48 : Int32) then (sp_Te_atSigned_18) else (if (t 2) = (45 : Int32) then (sp_Te_atSigned_18) else ((0 : Int32)))
set_option maxRecDepth 100000 in
set_option maxHeartbeats 4000000 in
theorem c_Te_atSigned (l : Launch) (g : GX) (qte : Nat) (qteb : Nat) (t : IV) (tb : IV)  : Met l y_Te_atSigned (wsY y_Te_atSigned b_Te_atSigned 1 (some .boolean)) rm_Te_atSigned (CP g [.ref qte] (wTe g qte qteb t tb)) (CI0 g (wTe g qte qteb t tb) (sp_Te_atSigned t)) 0 0 (inW (wTe g qte qteb t tb)) := by
  refine Met.ofW (cc := b_Te_atSigned) (maxL := 1) (ret := (some .boolean)) pn_Te rfl ?_
  intro p e s m args below meth c s₁ B hml hv
  obtain ⟨rfl, C, hP, hD, hS⟩ := enter "DecadeBridge$Text" rfl B hml hv
  obtain ⟨hx, hb, hr, hml, hown, hlk, hts, hK, hZo, hZ⟩ := id C
  refine entryW (lv := [(0, .ref qte)]) rfl (Nat.le_of_ble_eq_true rfl) (fun ls hl => ?_)
  obtain ⟨z, hz⟩ : ∃ z, z = sp_Te_atSigned t := ⟨_, rfl⟩
  rw [← hz]
  unfold sp_Te_atSigned at hz
  refine lv_aload_n hx hb d_Te_atSigned_0 rfl (lv_at hl 0 rfl) ?_
  refine gf C hP 0 2 fkTe rfl (by decide) rfl qf_Te_38 (gTe_2 _ _) d_Te_atSigned_1 ?_
  refine lv_bipush (v := 48) hx hb d_Te_atSigned_4 (by decide) ?_
  refine lv_icmp_eq (tgt := 18) hx hb d_Te_atSigned_6 (by decide) (fun c1 => ?_) (fun c1 => ?_)
  · have hz := hz.trans (if_pos c1)
    exact k_Te_atSigned_18 C () trivial _ hz _ _ ls hP hD hS (lv_sub hl [] rfl)
  · have hz := hz.trans (if_neg c1)
    refine lv_aload_n hx hb d_Te_atSigned_9 rfl (lv_at hl 0 rfl) ?_
    refine gf C hP 0 2 fkTe rfl (by decide) rfl qf_Te_38 (gTe_2 _ _) d_Te_atSigned_10 ?_
    refine lv_bipush (v := 45) hx hb d_Te_atSigned_13 (by decide) ?_
    refine lv_icmp_ne (tgt := 22) hx hb d_Te_atSigned_15 (by decide) (fun c2 => ?_) (fun c2 => ?_)
    · have hz := hz.trans (if_neg c2)
      refine lv_iconst (v := 0) hx hb d_Te_atSigned_22 (by decide) ?_
      exact endZ0 C hz hP hS rfl d_Te_atSigned_23
    · have hz := hz.trans (if_pos c2)
      exact k_Te_atSigned_18 C () trivial _ hz _ _ ls hP hD hS (lv_sub hl [] rfl)
abbrev rm_Te_byteAt : Room := { frames := 0, cells := 0, slots := 0, locals := 0 }
def HL_Te_byteAt_22 (p : Program) (l : Launch) (e : Env) (s : State) (m : MethodId) (args : Array Value) (below : List Frame) (meth : Method) (c : Code) (g : GX) (qte : Nat) (qteb : Nat) (t : IV) (tb : IV) (sp : Int32) (ok : Prop) : Prop := ∀ (_ : Unit), ok → ∀ z : Int32, z = sp → ∀ (H : Heap) (locs : List Loc) (ls : Array Slot), va_P g.1 vwCl (wTe g qte qteb t tb) H → va_D (inW (wTe g qte qteb t tb)) (wTe g qte qteb t tb) → va_S (inW (wTe g qte qteb t tb)) s.heap H locs → lv_has ls 2 [] → W p l e rm_Te_byteAt s m args below meth c H locs 0 0 (MQ below (CI0 g (wTe g qte qteb t tb) z) args s 0 0 (inW (wTe g qte qteb t tb))) (F0 m 22 ls [])
noncomputable def sp_Te_byteAt_22    : Int32 := (0 : Int32)
def ok_Te_byteAt_22     : Prop := True
set_option maxRecDepth 100000 in
set_option maxHeartbeats 4000000 in
theorem k_Te_byteAt_22 {p : Program} {l : Launch} {e : Env} {s : State} {m : MethodId} {args : Array Value} {below : List Frame} {meth : Method} {c : Code} {g : GX} {qte : Nat} {qteb : Nat} {t : IV} {tb : IV}  (C : Cx p s m args meth c (inW (wTe g qte qteb t tb)) g "DecadeBridge$Text" b_Te_byteAt (some .int) 2)  : HL_Te_byteAt_22 p l e s m args below meth c g qte qteb t tb (sp_Te_byteAt_22  ) (ok_Te_byteAt_22   ) := by
  intro _ hok z hz H locs ls hP hD hS hl
  obtain ⟨hx, hb, hr, hml, hown, hlk, hts, hK, hZo, hZ⟩ := id C
  unfold sp_Te_byteAt_22 at hz
  refine lv_iconst (v := 0) hx hb d_Te_byteAt_22 (by decide) ?_
  exact endI0 C hz hP hS d_Te_byteAt_23
noncomputable def sp_Te_byteAt (p1 : Int32) (tb : IV) : Int32 := if p1 < 0 then (sp_Te_byteAt_22) else (if (600 : Int32) ≤ p1 then (sp_Te_byteAt_22) else (tb p1.toNatClampNeg))
set_option maxRecDepth 100000 in
set_option maxHeartbeats 4000000 in
theorem c_Te_byteAt (l : Launch) (g : GX) (qte : Nat) (qteb : Nat) (t : IV) (tb : IV) (p1 : Int32) : Met l y_Te_byteAt (wsY y_Te_byteAt b_Te_byteAt 2 (some .int)) rm_Te_byteAt (CP g [.ref qte, .int p1] (wTe g qte qteb t tb)) (CI0 g (wTe g qte qteb t tb) (sp_Te_byteAt p1 tb)) 0 0 (inW (wTe g qte qteb t tb)) := by
  refine Met.ofW (cc := b_Te_byteAt) (maxL := 2) (ret := (some .int)) pn_Te rfl ?_
  intro p e s m args below meth c s₁ B hml hv
  obtain ⟨rfl, C, hP, hD, hS⟩ := enter "DecadeBridge$Text" rfl B hml hv
  obtain ⟨hx, hb, hr, hml, hown, hlk, hts, hK, hZo, hZ⟩ := id C
  refine entryW (lv := [(0, .ref qte), (1, .int p1)]) rfl (Nat.le_of_ble_eq_true rfl) (fun ls hl => ?_)
  obtain ⟨z, hz⟩ : ∃ z, z = sp_Te_byteAt p1 tb := ⟨_, rfl⟩
  rw [← hz]
  unfold sp_Te_byteAt at hz
  refine lv_iload_n hx hb d_Te_byteAt_0 rfl (lv_at hl 1 rfl) ?_
  refine lv_if_lt (tgt := 22) hx hb d_Te_byteAt_1 (by decide) (fun c1 => ?_) (fun c1 => ?_)
  · have hz := hz.trans (if_pos c1)
    exact k_Te_byteAt_22 C () trivial _ hz _ _ ls hP hD hS (lv_sub hl [] rfl)
  · have hz := hz.trans (if_neg c1)
    refine lv_iload_n hx hb d_Te_byteAt_4 rfl (lv_at hl 1 rfl) ?_
    refine lv_aload_n hx hb d_Te_byteAt_5 rfl (lv_at hl 0 rfl) ?_
    refine gf C hP 0 0 fkTe rfl (by decide) rfl qf_Te_11 (gTe_0 _ _) d_Te_byteAt_6 ?_
    refine alen C hP 1 rfl (t0 := 2) rfl (v := 600) rfl d_Te_byteAt_9 ?_
    refine lv_icmp_ge (tgt := 22) hx hb d_Te_byteAt_10 (by decide) (fun c2 => ?_) (fun c2 => ?_)
    · have hz := hz.trans (if_pos c2)
      exact k_Te_byteAt_22 C () trivial _ hz _ _ ls hP hD hS (lv_sub hl [] rfl)
    · have hz := hz.trans (if_neg c2)
      refine lv_aload_n hx hb d_Te_byteAt_13 rfl (lv_at hl 0 rfl) ?_
      refine gf C hP 0 0 fkTe rfl (by decide) rfl qf_Te_11 (gTe_0 _ _) d_Te_byteAt_14 ?_
      refine lv_iload_n hx hb d_Te_byteAt_17 rfl (lv_at hl 1 rfl) ?_
      refine ldB C hP 1 rfl (vi2 (vlo c1) (vhi c2) (by decide)) rfl d_Te_byteAt_18 ?_
      refine lv_goto (tgt := 23) hx hb d_Te_byteAt_19 (by decide) ?_
      exact endI0 C hz hP hS d_Te_byteAt_23
abbrev rm_Te_kindAt : Room := { frames := 0, cells := 0, slots := 0, locals := 0 }
def HL_Te_kindAt_22 (p : Program) (l : Launch) (e : Env) (s : State) (m : MethodId) (args : Array Value) (below : List Frame) (meth : Method) (c : Code) (g : GX) (qte : Nat) (qteb : Nat) (t : IV) (tb : IV) (sp : Int32) (ok : Prop) : Prop := ∀ (_ : Unit), ok → ∀ z : Int32, z = sp → ∀ (H : Heap) (locs : List Loc) (ls : Array Slot), va_P g.1 vwCl (wTe g qte qteb t tb) H → va_D (inW (wTe g qte qteb t tb)) (wTe g qte qteb t tb) → va_S (inW (wTe g qte qteb t tb)) s.heap H locs → lv_has ls 3 [] → W p l e rm_Te_kindAt s m args below meth c H locs 0 0 (MQ below (CI0 g (wTe g qte qteb t tb) z) args s 0 0 (inW (wTe g qte qteb t tb))) (F0 m 22 ls [])
def HL_Te_kindAt_23 (p : Program) (l : Launch) (e : Env) (s : State) (m : MethodId) (args : Array Value) (below : List Frame) (meth : Method) (c : Code) (g : GX) (qte : Nat) (qteb : Nat) (t : IV) (tb : IV) (sp : Int32 → Int32) (ok : Int32 → Prop) : Prop := ∀ (t0p23 : Int32), ok t0p23 → ∀ z : Int32, z = sp t0p23 → ∀ (H : Heap) (locs : List Loc) (ls : Array Slot), va_P g.1 vwCl (wTe g qte qteb t tb) H → va_D (inW (wTe g qte qteb t tb)) (wTe g qte qteb t tb) → va_S (inW (wTe g qte qteb t tb)) s.heap H locs → lv_has ls 3 [] → W p l e rm_Te_kindAt s m args below meth c H locs 0 0 (MQ below (CI0 g (wTe g qte qteb t tb) z) args s 0 0 (inW (wTe g qte qteb t tb))) (F0 m 23 ls [.int t0p23])
def HL_Te_kindAt_39 (p : Program) (l : Launch) (e : Env) (s : State) (m : MethodId) (args : Array Value) (below : List Frame) (meth : Method) (c : Code) (g : GX) (qte : Nat) (qteb : Nat) (t : IV) (tb : IV) (t0p23 : Int32) (sp : Int32) (ok : Prop) : Prop := ∀ (_ : Unit), ok → ∀ z : Int32, z = sp → ∀ (H : Heap) (locs : List Loc) (ls : Array Slot), va_P g.1 vwCl (wTe g qte qteb t tb) H → va_D (inW (wTe g qte qteb t tb)) (wTe g qte qteb t tb) → va_S (inW (wTe g qte qteb t tb)) s.heap H locs → lv_has ls 3 [(2, .int t0p23)] → W p l e rm_Te_kindAt s m args below meth c H locs 0 0 (MQ below (CI0 g (wTe g qte qteb t tb) z) args s 0 0 (inW (wTe g qte qteb t tb))) (F0 m 39 ls [])
def HL_Te_kindAt_54 (p : Program) (l : Launch) (e : Env) (s : State) (m : MethodId) (args : Array Value) (below : List Frame) (meth : Method) (c : Code) (g : GX) (qte : Nat) (qteb : Nat) (t : IV) (tb : IV) (t0p23 : Int32) (sp : Int32) (ok : Prop) : Prop := ∀ (_ : Unit), ok → ∀ z : Int32, z = sp → ∀ (H : Heap) (locs : List Loc) (ls : Array Slot), va_P g.1 vwCl (wTe g qte qteb t tb) H → va_D (inW (wTe g qte qteb t tb)) (wTe g qte qteb t tb) → va_S (inW (wTe g qte qteb t tb)) s.heap H locs → lv_has ls 3 [(2, .int t0p23)] → W p l e rm_Te_kindAt s m args below meth c H locs 0 0 (MQ below (CI0 g (wTe g qte qteb t tb) z) args s 0 0 (inW (wTe g qte qteb t tb))) (F0 m 54 ls [])
def HL_Te_kindAt_93 (p : Program) (l : Launch) (e : Env) (s : State) (m : MethodId) (args : Array Value) (below : List Frame) (meth : Method) (c : Code) (g : GX) (qte : Nat) (qteb : Nat) (t : IV) (tb : IV) (t0p23 : Int32) (sp : Int32) (ok : Prop) : Prop := ∀ (_ : Unit), ok → ∀ z : Int32, z = sp → ∀ (H : Heap) (locs : List Loc) (ls : Array Slot), va_P g.1 vwCl (wTe g qte qteb t tb) H → va_D (inW (wTe g qte qteb t tb)) (wTe g qte qteb t tb) → va_S (inW (wTe g qte qteb t tb)) s.heap H locs → lv_has ls 3 [(2, .int t0p23)] → W p l e rm_Te_kindAt s m args below meth c H locs 0 0 (MQ below (CI0 g (wTe g qte qteb t tb) z) args s 0 0 (inW (wTe g qte qteb t tb))) (F0 m 93 ls [])
def HL_Te_kindAt_66 (p : Program) (l : Launch) (e : Env) (s : State) (m : MethodId) (args : Array Value) (below : List Frame) (meth : Method) (c : Code) (g : GX) (qte : Nat) (qteb : Nat) (t : IV) (tb : IV) (sp : Int32) (ok : Prop) : Prop := ∀ (_ : Unit), ok → ∀ z : Int32, z = sp → ∀ (H : Heap) (locs : List Loc) (ls : Array Slot), va_P g.1 vwCl (wTe g qte qteb t tb) H → va_D (inW (wTe g qte qteb t tb)) (wTe g qte qteb t tb) → va_S (inW (wTe g qte qteb t tb)) s.heap H locs → lv_has ls 3 [] → W p l e rm_Te_kindAt s m args below meth c H locs 0 0 (MQ below (CI0 g (wTe g qte qteb t tb) z) args s 0 0 (inW (wTe g qte qteb t tb))) (F0 m 66 ls [])
noncomputable def sp_Te_kindAt_66    : Int32 := (32 : Int32)
def ok_Te_kindAt_66     : Prop := True
set_option maxRecDepth 100000 in
set_option maxHeartbeats 4000000 in
theorem k_Te_kindAt_66 {p : Program} {l : Launch} {e : Env} {s : State} {m : MethodId} {args : Array Value} {below : List Frame} {meth : Method} {c : Code} {g : GX} {qte : Nat} {qteb : Nat} {t : IV} {tb : IV}  (C : Cx p s m args meth c (inW (wTe g qte qteb t tb)) g "DecadeBridge$Text" b_Te_kindAt (some .int) 3)  : HL_Te_kindAt_66 p l e s m args below meth c g qte qteb t tb (sp_Te_kindAt_66  ) (ok_Te_kindAt_66   ) := by
  intro _ hok z hz H locs ls hP hD hS hl
  obtain ⟨hx, hb, hr, hml, hown, hlk, hts, hK, hZo, hZ⟩ := id C
  unfold sp_Te_kindAt_66 at hz
  refine lv_bipush (v := 32) hx hb d_Te_kindAt_66 (by decide) ?_
  exact endI0 C hz hP hS d_Te_kindAt_68
noncomputable def sp_Te_kindAt_93 (t0p23 : Int32)   : Int32 := t0p23
def ok_Te_kindAt_93 (t0p23 : Int32)    : Prop := True
set_option maxRecDepth 100000 in
set_option maxHeartbeats 4000000 in
theorem k_Te_kindAt_93 {p : Program} {l : Launch} {e : Env} {s : State} {m : MethodId} {args : Array Value} {below : List Frame} {meth : Method} {c : Code} {g : GX} {qte : Nat} {qteb : Nat} {t : IV} {tb : IV} {t0p23 : Int32}  (C : Cx p s m args meth c (inW (wTe g qte qteb t tb)) g "DecadeBridge$Text" b_Te_kindAt (some .int) 3)  : HL_Te_kindAt_93 p l e s m args below meth c g qte qteb t tb t0p23 (sp_Te_kindAt_93 t0p23 ) (ok_Te_kindAt_93 t0p23  ) := by
  intro _ hok z hz H locs ls hP hD hS hl
  obtain ⟨hx, hb, hr, hml, hown, hlk, hts, hK, hZo, hZ⟩ := id C
  unfold sp_Te_kindAt_93 at hz
  refine lv_iload_n hx hb d_Te_kindAt_93 rfl (lv_at hl 0 rfl) ?_
  refine lv_goto (tgt := 98) hx hb d_Te_kindAt_94 (by decide) ?_
  exact endI0 C hz hP hS d_Te_kindAt_98
noncomputable def sp_Te_kindAt_54 (t0p23 : Int32)   : Int32 := if t0p23 = (32 : Int32) then (sp_Te_kindAt_66) else (if t0p23 = (10 : Int32) then (sp_Te_kindAt_66) else (if t0p23 = (59 : Int32) then (sp_Te_kindAt_93 t0p23) else (if t0p23 = (40 : Int32) then (sp_Te_kindAt_93 t0p23) else (if t0p23 = (41 : Int32) then (sp_Te_kindAt_93 t0p23) else (if t0p23 = (45 : Int32) then (sp_Te_kindAt_93 t0p23) else ((1 : Int32)))))))
def ok_Te_kindAt_54 (t0p23 : Int32)    : Prop := True
set_option maxRecDepth 100000 in
set_option maxHeartbeats 4000000 in
theorem k_Te_kindAt_54 {p : Program} {l : Launch} {e : Env} {s : State} {m : MethodId} {args : Array Value} {below : List Frame} {meth : Method} {c : Code} {g : GX} {qte : Nat} {qteb : Nat} {t : IV} {tb : IV} {t0p23 : Int32}  (C : Cx p s m args meth c (inW (wTe g qte qteb t tb)) g "DecadeBridge$Text" b_Te_kindAt (some .int) 3)  : HL_Te_kindAt_54 p l e s m args below meth c g qte qteb t tb t0p23 (sp_Te_kindAt_54 t0p23 ) (ok_Te_kindAt_54 t0p23  ) := by
  intro _ hok z hz H locs ls hP hD hS hl
  obtain ⟨hx, hb, hr, hml, hown, hlk, hts, hK, hZo, hZ⟩ := id C
  unfold sp_Te_kindAt_54 at hz
  refine lv_iload_n hx hb d_Te_kindAt_54 rfl (lv_at hl 0 rfl) ?_
  refine lv_bipush (v := 32) hx hb d_Te_kindAt_55 (by decide) ?_
  refine lv_icmp_eq (tgt := 66) hx hb d_Te_kindAt_57 (by decide) (fun c7 => ?_) (fun c7 => ?_)
  · have hz := hz.trans (if_pos c7)
    exact k_Te_kindAt_66 C () trivial _ hz _ _ ls hP hD hS (lv_sub hl [] rfl)
  · have hz := hz.trans (if_neg c7)
    refine lv_iload_n hx hb d_Te_kindAt_60 rfl (lv_at hl 0 rfl) ?_
    refine lv_bipush (v := 10) hx hb d_Te_kindAt_61 (by decide) ?_
    refine lv_icmp_ne (tgt := 69) hx hb d_Te_kindAt_63 (by decide) (fun c8 => ?_) (fun c8 => ?_)
    · have hz := hz.trans (if_neg c8)
      refine lv_iload_n hx hb d_Te_kindAt_69 rfl (lv_at hl 0 rfl) ?_
      refine lv_bipush (v := 59) hx hb d_Te_kindAt_70 (by decide) ?_
      refine lv_icmp_eq (tgt := 93) hx hb d_Te_kindAt_72 (by decide) (fun c9 => ?_) (fun c9 => ?_)
      · have hz := hz.trans (if_pos c9)
        exact k_Te_kindAt_93 C () trivial _ hz _ _ ls hP hD hS hl
      · have hz := hz.trans (if_neg c9)
        refine lv_iload_n hx hb d_Te_kindAt_75 rfl (lv_at hl 0 rfl) ?_
        refine lv_bipush (v := 40) hx hb d_Te_kindAt_76 (by decide) ?_
        refine lv_icmp_eq (tgt := 93) hx hb d_Te_kindAt_78 (by decide) (fun c10 => ?_) (fun c10 => ?_)
        · have hz := hz.trans (if_pos c10)
          exact k_Te_kindAt_93 C () trivial _ hz _ _ ls hP hD hS hl
        · have hz := hz.trans (if_neg c10)
          refine lv_iload_n hx hb d_Te_kindAt_81 rfl (lv_at hl 0 rfl) ?_
          refine lv_bipush (v := 41) hx hb d_Te_kindAt_82 (by decide) ?_
          refine lv_icmp_eq (tgt := 93) hx hb d_Te_kindAt_84 (by decide) (fun c11 => ?_) (fun c11 => ?_)
          · have hz := hz.trans (if_pos c11)
            exact k_Te_kindAt_93 C () trivial _ hz _ _ ls hP hD hS hl
          · have hz := hz.trans (if_neg c11)
            refine lv_iload_n hx hb d_Te_kindAt_87 rfl (lv_at hl 0 rfl) ?_
            refine lv_bipush (v := 45) hx hb d_Te_kindAt_88 (by decide) ?_
            refine lv_icmp_ne (tgt := 97) hx hb d_Te_kindAt_90 (by decide) (fun c12 => ?_) (fun c12 => ?_)
            · have hz := hz.trans (if_neg c12)
              refine lv_iconst (v := 1) hx hb d_Te_kindAt_97 (by decide) ?_
              exact endI0 C hz hP hS d_Te_kindAt_98
            · have hz := hz.trans (if_pos c12)
              exact k_Te_kindAt_93 C () trivial _ hz _ _ ls hP hD hS hl
    · have hz := hz.trans (if_pos c8)
      exact k_Te_kindAt_66 C () trivial _ hz _ _ ls hP hD hS (lv_sub hl [] rfl)
noncomputable def sp_Te_kindAt_39 (t0p23 : Int32)   : Int32 := if t0p23 < (48 : Int32) then (sp_Te_kindAt_54 t0p23) else (if (57 : Int32) < t0p23 then (sp_Te_kindAt_54 t0p23) else ((48 : Int32)))
def ok_Te_kindAt_39 (t0p23 : Int32)    : Prop := True
set_option maxRecDepth 100000 in
set_option maxHeartbeats 4000000 in
theorem k_Te_kindAt_39 {p : Program} {l : Launch} {e : Env} {s : State} {m : MethodId} {args : Array Value} {below : List Frame} {meth : Method} {c : Code} {g : GX} {qte : Nat} {qteb : Nat} {t : IV} {tb : IV} {t0p23 : Int32}  (C : Cx p s m args meth c (inW (wTe g qte qteb t tb)) g "DecadeBridge$Text" b_Te_kindAt (some .int) 3)  : HL_Te_kindAt_39 p l e s m args below meth c g qte qteb t tb t0p23 (sp_Te_kindAt_39 t0p23 ) (ok_Te_kindAt_39 t0p23  ) := by
  intro _ hok z hz H locs ls hP hD hS hl
  obtain ⟨hx, hb, hr, hml, hown, hlk, hts, hK, hZo, hZ⟩ := id C
  unfold sp_Te_kindAt_39 at hz
  refine lv_iload_n hx hb d_Te_kindAt_39 rfl (lv_at hl 0 rfl) ?_
  refine lv_bipush (v := 48) hx hb d_Te_kindAt_40 (by decide) ?_
  refine lv_icmp_lt (tgt := 54) hx hb d_Te_kindAt_42 (by decide) (fun c5 => ?_) (fun c5 => ?_)
  · have hz := hz.trans (if_pos c5)
    exact k_Te_kindAt_54 C () trivial _ hz _ _ ls hP hD hS hl
  · have hz := hz.trans (if_neg c5)
    refine lv_iload_n hx hb d_Te_kindAt_45 rfl (lv_at hl 0 rfl) ?_
    refine lv_bipush (v := 57) hx hb d_Te_kindAt_46 (by decide) ?_
    refine lv_icmp_gt (tgt := 54) hx hb d_Te_kindAt_48 (by decide) (fun c6 => ?_) (fun c6 => ?_)
    · have hz := hz.trans (if_pos c6)
      exact k_Te_kindAt_54 C () trivial _ hz _ _ ls hP hD hS hl
    · have hz := hz.trans (if_neg c6)
      refine lv_bipush (v := 48) hx hb d_Te_kindAt_51 (by decide) ?_
      exact endI0 C hz hP hS d_Te_kindAt_53
noncomputable def sp_Te_kindAt_23   (t0p23 : Int32) : Int32 := if t0p23 < (97 : Int32) then (sp_Te_kindAt_39 t0p23) else (if (122 : Int32) < t0p23 then (sp_Te_kindAt_39 t0p23) else ((97 : Int32)))
def ok_Te_kindAt_23    (t0p23 : Int32) : Prop := True
set_option maxRecDepth 100000 in
set_option maxHeartbeats 4000000 in
theorem k_Te_kindAt_23 {p : Program} {l : Launch} {e : Env} {s : State} {m : MethodId} {args : Array Value} {below : List Frame} {meth : Method} {c : Code} {g : GX} {qte : Nat} {qteb : Nat} {t : IV} {tb : IV}  (C : Cx p s m args meth c (inW (wTe g qte qteb t tb)) g "DecadeBridge$Text" b_Te_kindAt (some .int) 3)  : HL_Te_kindAt_23 p l e s m args below meth c g qte qteb t tb (sp_Te_kindAt_23  ) (ok_Te_kindAt_23   ) := by
  intro t0p23 hok z hz H locs ls hP hD hS hl
  obtain ⟨hx, hb, hr, hml, hown, hlk, hts, hK, hZo, hZ⟩ := id C
  unfold sp_Te_kindAt_23 at hz
  refine lv_istore_n (lv' := [(2, .int t0p23)]) hx hb d_Te_kindAt_23 rfl hl (by decide) rfl (fun ls hl => ?_)
  refine lv_iload_n hx hb d_Te_kindAt_24 rfl (lv_at hl 0 rfl) ?_
  refine lv_bipush (v := 97) hx hb d_Te_kindAt_25 (by decide) ?_
  refine lv_icmp_lt (tgt := 39) hx hb d_Te_kindAt_27 (by decide) (fun c3 => ?_) (fun c3 => ?_)
  · have hz := hz.trans (if_pos c3)
    exact k_Te_kindAt_39 C () trivial _ hz _ _ ls hP hD hS hl
  · have hz := hz.trans (if_neg c3)
    refine lv_iload_n hx hb d_Te_kindAt_30 rfl (lv_at hl 0 rfl) ?_
    refine lv_bipush (v := 122) hx hb d_Te_kindAt_31 (by decide) ?_
    refine lv_icmp_gt (tgt := 39) hx hb d_Te_kindAt_33 (by decide) (fun c4 => ?_) (fun c4 => ?_)
    · have hz := hz.trans (if_pos c4)
      exact k_Te_kindAt_39 C () trivial _ hz _ _ ls hP hD hS hl
    · have hz := hz.trans (if_neg c4)
      refine lv_bipush (v := 97) hx hb d_Te_kindAt_36 (by decide) ?_
      exact endI0 C hz hP hS d_Te_kindAt_38
noncomputable def sp_Te_kindAt_22    : Int32 := sp_Te_kindAt_23 (0 : Int32)
def ok_Te_kindAt_22     : Prop := True
set_option maxRecDepth 100000 in
set_option maxHeartbeats 4000000 in
theorem k_Te_kindAt_22 {p : Program} {l : Launch} {e : Env} {s : State} {m : MethodId} {args : Array Value} {below : List Frame} {meth : Method} {c : Code} {g : GX} {qte : Nat} {qteb : Nat} {t : IV} {tb : IV}  (C : Cx p s m args meth c (inW (wTe g qte qteb t tb)) g "DecadeBridge$Text" b_Te_kindAt (some .int) 3)  : HL_Te_kindAt_22 p l e s m args below meth c g qte qteb t tb (sp_Te_kindAt_22  ) (ok_Te_kindAt_22   ) := by
  intro _ hok z hz H locs ls hP hD hS hl
  obtain ⟨hx, hb, hr, hml, hown, hlk, hts, hK, hZo, hZ⟩ := id C
  unfold sp_Te_kindAt_22 at hz
  refine lv_iconst (v := 0) hx hb d_Te_kindAt_22 (by decide) ?_
  exact k_Te_kindAt_23 C (0 : Int32) trivial _ hz _ _ ls hP hD hS hl
noncomputable def sp_Te_kindAt (p1 : Int32) (tb : IV) : Int32 := if p1 < 0 then (sp_Te_kindAt_22) else (if (600 : Int32) ≤ p1 then (sp_Te_kindAt_22) else (sp_Te_kindAt_23 (tb p1.toNatClampNeg)))
set_option maxRecDepth 100000 in
set_option maxHeartbeats 4000000 in
theorem c_Te_kindAt (l : Launch) (g : GX) (qte : Nat) (qteb : Nat) (t : IV) (tb : IV) (p1 : Int32) : Met l y_Te_kindAt (wsY y_Te_kindAt b_Te_kindAt 3 (some .int)) rm_Te_kindAt (CP g [.ref qte, .int p1] (wTe g qte qteb t tb)) (CI0 g (wTe g qte qteb t tb) (sp_Te_kindAt p1 tb)) 0 0 (inW (wTe g qte qteb t tb)) := by
  refine Met.ofW (cc := b_Te_kindAt) (maxL := 3) (ret := (some .int)) pn_Te rfl ?_
  intro p e s m args below meth c s₁ B hml hv
  obtain ⟨rfl, C, hP, hD, hS⟩ := enter "DecadeBridge$Text" rfl B hml hv
  obtain ⟨hx, hb, hr, hml, hown, hlk, hts, hK, hZo, hZ⟩ := id C
  refine entryW (lv := [(0, .ref qte), (1, .int p1)]) rfl (Nat.le_of_ble_eq_true rfl) (fun ls hl => ?_)
  obtain ⟨z, hz⟩ : ∃ z, z = sp_Te_kindAt p1 tb := ⟨_, rfl⟩
  rw [← hz]
  unfold sp_Te_kindAt at hz
  refine lv_iload_n hx hb d_Te_kindAt_0 rfl (lv_at hl 1 rfl) ?_
  refine lv_if_lt (tgt := 22) hx hb d_Te_kindAt_1 (by decide) (fun c1 => ?_) (fun c1 => ?_)
  · have hz := hz.trans (if_pos c1)
    exact k_Te_kindAt_22 C () trivial _ hz _ _ ls hP hD hS (lv_sub hl [] rfl)
  · have hz := hz.trans (if_neg c1)
    refine lv_iload_n hx hb d_Te_kindAt_4 rfl (lv_at hl 1 rfl) ?_
    refine lv_aload_n hx hb d_Te_kindAt_5 rfl (lv_at hl 0 rfl) ?_
    refine gf C hP 0 0 fkTe rfl (by decide) rfl qf_Te_11 (gTe_0 _ _) d_Te_kindAt_6 ?_
    refine alen C hP 1 rfl (t0 := 2) rfl (v := 600) rfl d_Te_kindAt_9 ?_
    refine lv_icmp_ge (tgt := 22) hx hb d_Te_kindAt_10 (by decide) (fun c2 => ?_) (fun c2 => ?_)
    · have hz := hz.trans (if_pos c2)
      exact k_Te_kindAt_22 C () trivial _ hz _ _ ls hP hD hS (lv_sub hl [] rfl)
    · have hz := hz.trans (if_neg c2)
      refine lv_aload_n hx hb d_Te_kindAt_13 rfl (lv_at hl 0 rfl) ?_
      refine gf C hP 0 0 fkTe rfl (by decide) rfl qf_Te_11 (gTe_0 _ _) d_Te_kindAt_14 ?_
      refine lv_iload_n hx hb d_Te_kindAt_17 rfl (lv_at hl 1 rfl) ?_
      refine ldB C hP 1 rfl (vi2 (vlo c1) (vhi c2) (by decide)) rfl d_Te_kindAt_18 ?_
      refine lv_goto (tgt := 23) hx hb d_Te_kindAt_19 (by decide) ?_
      exact k_Te_kindAt_23 C (tb p1.toNatClampNeg) trivial _ hz _ _ ls hP hD hS (lv_sub hl [] rfl)
abbrev rm_Be_latestIsNull : Room := { frames := 1, cells := 0, slots := 0, locals := 21 }
def HL_Be_latestIsNull_23 (p : Program) (l : Launch) (e : Env) (s : State) (m : MethodId) (args : Array Value) (below : List Frame) (meth : Method) (c : Code) (g : GX) (qbe : Nat) (qci : Nat) (qrd : Nat) (qrs : Nat) (qrsr : Nat) (ua : Nat → Nat) (qpa : Nat) (qpae : Nat) (qpar : Nat) (qpau : Nat) (qpab : Nat) (ba : IV) (ca : IV) (cal : LV) (da : IV) (ea : IV) (eal : LV) (rar : NI) (ral : NL) (w0 : IV) (w1 : IV) (w2 : IV) (w3 : IV) (w4 : IV) (sp : Int32) (ok : Prop) : Prop := ∀ (_ : Unit), ok → ∀ z : Int32, z = sp → ∀ (H : Heap) (locs : List Loc) (ls : Array Slot), va_P g.1 vwCl (wBe g qbe qci qrd qrs qrsr ua qpa qpae qpar qpau qpab ba ca cal da ea eal rar ral w0 w1 w2 w3 w4) H → va_D (inW (wBe g qbe qci qrd qrs qrsr ua qpa qpae qpar qpau qpab ba ca cal da ea eal rar ral w0 w1 w2 w3 w4)) (wBe g qbe qci qrd qrs qrsr ua qpa qpae qpar qpau qpab ba ca cal da ea eal rar ral w0 w1 w2 w3 w4) → va_S (inW (wBe g qbe qci qrd qrs qrsr ua qpa qpae qpar qpau qpab ba ca cal da ea eal rar ral w0 w1 w2 w3 w4)) s.heap H locs → lv_has ls 1 [] → W p l e rm_Be_latestIsNull s m args below meth c H locs 0 0 (MQ below (CI0 g (wBe g qbe qci qrd qrs qrsr ua qpa qpae qpar qpau qpab ba ca cal da ea eal rar ral w0 w1 w2 w3 w4) z) args s 0 0 (inW (wBe g qbe qci qrd qrs qrsr ua qpa qpae qpar qpau qpab ba ca cal da ea eal rar ral w0 w1 w2 w3 w4))) (F0 m 23 ls [])
noncomputable def sp_Be_latestIsNull_23    : Int32 := (0 : Int32)
def ok_Be_latestIsNull_23     : Prop := True
set_option maxRecDepth 100000 in
set_option maxHeartbeats 4000000 in
theorem k_Be_latestIsNull_23 {p : Program} {l : Launch} {e : Env} {s : State} {m : MethodId} {args : Array Value} {below : List Frame} {meth : Method} {c : Code} {g : GX} {qbe : Nat} {qci : Nat} {qrd : Nat} {qrs : Nat} {qrsr : Nat} {ua : Nat → Nat} {qpa : Nat} {qpae : Nat} {qpar : Nat} {qpau : Nat} {qpab : Nat} {ba : IV} {ca : IV} {cal : LV} {da : IV} {ea : IV} {eal : LV} {rar : NI} {ral : NL} {w0 : IV} {w1 : IV} {w2 : IV} {w3 : IV} {w4 : IV}  (C : Cx p s m args meth c (inW (wBe g qbe qci qrd qrs qrsr ua qpa qpae qpar qpau qpab ba ca cal da ea eal rar ral w0 w1 w2 w3 w4)) g "DecadeBridge$Bench" b_Be_latestIsNull (some .boolean) 1)  : HL_Be_latestIsNull_23 p l e s m args below meth c g qbe qci qrd qrs qrsr ua qpa qpae qpar qpau qpab ba ca cal da ea eal rar ral w0 w1 w2 w3 w4 (sp_Be_latestIsNull_23  ) (ok_Be_latestIsNull_23   ) := by
  intro _ hok z hz H locs ls hP hD hS hl
  obtain ⟨hx, hb, hr, hml, hown, hlk, hts, hK, hZo, hZ⟩ := id C
  unfold sp_Be_latestIsNull_23 at hz
  refine lv_iconst (v := 0) hx hb d_Be_latestIsNull_23 (by decide) ?_
  exact endZ0 C hz hP hS rfl d_Be_latestIsNull_24
noncomputable def sp_Be_latestIsNull (ba : IV) (da : IV) (w0 : IV) : Int32 := if (ba 3) ≤ 0 then (sp_Be_latestIsNull_23) else (lett (sp_Be_readingAt (0 : Int32) ba da) fun (y2 : Int32) => lett (sp_Be_isNull y2 w0) fun (y3 : Int32) => if y3 = 0 then (sp_Be_latestIsNull_23) else ((1 : Int32)))
set_option maxRecDepth 100000 in
set_option maxHeartbeats 4000000 in
theorem c_Be_latestIsNull (l : Launch) (g : GX) (qbe : Nat) (qci : Nat) (qrd : Nat) (qrs : Nat) (qrsr : Nat) (ua : Nat → Nat) (qpa : Nat) (qpae : Nat) (qpar : Nat) (qpau : Nat) (qpab : Nat) (ba : IV) (ca : IV) (cal : LV) (da : IV) (ea : IV) (eal : LV) (rar : NI) (ral : NL) (w0 : IV) (w1 : IV) (w2 : IV) (w3 : IV) (w4 : IV)  : Met l y_Be_latestIsNull (wsY y_Be_latestIsNull b_Be_latestIsNull 1 (some .boolean)) rm_Be_latestIsNull (CP g [.ref qbe] (wBe g qbe qci qrd qrs qrsr ua qpa qpae qpar qpau qpab ba ca cal da ea eal rar ral w0 w1 w2 w3 w4)) (CI0 g (wBe g qbe qci qrd qrs qrsr ua qpa qpae qpar qpau qpab ba ca cal da ea eal rar ral w0 w1 w2 w3 w4) (sp_Be_latestIsNull ba da w0)) 0 0 (inW (wBe g qbe qci qrd qrs qrsr ua qpa qpae qpar qpau qpab ba ca cal da ea eal rar ral w0 w1 w2 w3 w4)) := by
  refine Met.ofW (cc := b_Be_latestIsNull) (maxL := 1) (ret := (some .boolean)) pn_Be rfl ?_
  intro p e s m args below meth c s₁ B hml hv
  obtain ⟨rfl, C, hP, hD, hS⟩ := enter "DecadeBridge$Bench" rfl B hml hv
  obtain ⟨hx, hb, hr, hml, hown, hlk, hts, hK, hZo, hZ⟩ := id C
  refine entryW (lv := [(0, .ref qbe)]) rfl (Nat.le_of_ble_eq_true rfl) (fun ls hl => ?_)
  obtain ⟨z, hz⟩ : ∃ z, z = sp_Be_latestIsNull ba da w0 := ⟨_, rfl⟩
  rw [← hz]
  unfold sp_Be_latestIsNull at hz
  refine lv_aload_n hx hb d_Be_latestIsNull_0 rfl (lv_at hl 0 rfl) ?_
  refine gf C hP 0 3 fkBe rfl (by decide) rfl qf_Be_38 (gBe_3 _ _ _ _ _) d_Be_latestIsNull_1 ?_
  refine lv_if_le (tgt := 23) hx hb d_Be_latestIsNull_4 (by decide) (fun c1 => ?_) (fun c1 => ?_)
  · have hz := hz.trans (if_pos c1)
    exact k_Be_latestIsNull_23 C () trivial _ hz _ _ ls hP hD hS (lv_sub hl [] rfl)
  · have hz := hz.trans (if_neg c1)
    refine lv_aload_n hx hb d_Be_latestIsNull_7 rfl (lv_at hl 0 rfl) ?_
    refine lv_aload_n hx hb d_Be_latestIsNull_8 rfl (lv_at hl 0 rfl) ?_
    refine lv_iconst (v := 0) hx hb d_Be_latestIsNull_9 (by decide) ?_
    have hB : SubW g (inW (wBe g qbe qci qrd qrs qrsr ua qpa qpae qpar qpau qpab ba ca cal da ea eal rar ral w0 w1 w2 w3 w4)) s (wBe g qbe qci qrd qrs qrsr ua qpa qpae qpar qpau qpab ba ca cal da ea eal rar ral w0 w1 w2 w3 w4) _ (List.range _) _ _ := (subF hP hD hS)
    refine goI0 hB (run_v C mf_Be_readingAt qm_Be_59 (c_Be_readingAt l g qbe qci qrd qrs qrsr ua qpa qpae qpar qpau qpab ba ca cal da ea eal rar ral w0 w1 w2 w3 w4 (0 : Int32)) rfl rfl ⟨Nat.le_of_ble_eq_true rfl, Nat.le_of_ble_eq_true rfl⟩ ⟨Nat.le_of_ble_eq_true rfl, Nat.le_of_ble_eq_true rfl⟩ hB rfl rfl hl rfl rfl (Nat.le_of_ble_eq_true rfl) d_Be_latestIsNull_10) (fun y2 ey2 H locs hP hS => ?_)
    have hz := lett_z hz ey2
    have hB : SubW g (inW (wBe g qbe qci qrd qrs qrsr ua qpa qpae qpar qpau qpab ba ca cal da ea eal rar ral w0 w1 w2 w3 w4)) s (wBe g qbe qci qrd qrs qrsr ua qpa qpae qpar qpau qpab ba ca cal da ea eal rar ral w0 w1 w2 w3 w4) _ (List.range _) _ _ := (subF hP hD hS)
    refine goI0 hB (run_v C mf_Be_isNull qm_Be_72 (c_Be_isNull l g qbe qci qrd qrs qrsr ua qpa qpae qpar qpau qpab ba ca cal da ea eal rar ral w0 w1 w2 w3 w4 y2) rfl rfl ⟨Nat.le_of_ble_eq_true rfl, Nat.le_of_ble_eq_true rfl⟩ ⟨Nat.le_of_ble_eq_true rfl, Nat.le_of_ble_eq_true rfl⟩ hB rfl rfl hl rfl rfl (Nat.le_of_ble_eq_true rfl) d_Be_latestIsNull_13) (fun y3 ey3 H locs hP hS => ?_)
    have hz := lett_z hz ey3
    refine lv_if_eq (tgt := 23) hx hb d_Be_latestIsNull_16 (by decide) (fun c4 => ?_) (fun c4 => ?_)
    · have hz := hz.trans (if_pos c4)
      exact k_Be_latestIsNull_23 C () trivial _ hz _ _ ls hP hD hS (lv_sub hl [] rfl)
    · have hz := hz.trans (if_neg c4)
      refine lv_iconst (v := 1) hx hb d_Be_latestIsNull_19 (by decide) ?_
      refine lv_goto (tgt := 24) hx hb d_Be_latestIsNull_20 (by decide) ?_
      exact endZ0 C hz hP hS rfl d_Be_latestIsNull_24
abbrev rm_Ci_copy : Room := { frames := 1, cells := 0, slots := 0, locals := 25 }
noncomputable def sp_Ci_copy (ca : IV) (cal : LV) (ka : IV) (kal : LV) (w0 : IV) (w3 : IV) (w4 : IV) : IV × LV := lett (upd ca 1 (ka 1)) fun (ca_1 : IV) => lett (upd ca_1 2 (ka 2)) fun (ca_2 : IV) => lett (upd ca_2 3 (ka 3)) fun (ca_3 : IV) => lett (upd ca_3 4 (ka 4)) fun (ca_4 : IV) => lett (upd ca_4 5 (ka 5)) fun (ca_5 : IV) => lett (upd ca_5 6 (ka 6)) fun (ca_7 : IV) => lett (upd ca_7 7 (ka 7)) fun (ca_8 : IV) => lett (upd ca_8 8 (ka 8)) fun (ca_9 : IV) => lett (upd ca_9 9 (ka 9)) fun (ca_10 : IV) => lett (upd ca_10 10 (ka 10)) fun (ca_11 : IV) => lett (upd ca_11 11 (ka 11)) fun (ca_12 : IV) => lett (vp_updL cal 12 (kal 12)) fun (cal_13 : LV) => lett (upd ca_12 13 (ka 13)) fun (ca_14 : IV) => lett (upd ca_14 14 (ka 14)) fun (ca_15 : IV) => lett (sp_Ci_survey ca_15 w0 w3 w4) fun (y16 : IV) => (y16, cal_13)
def ok_Ci_copy (ca : IV) (ka : IV) : Prop := lett (upd ca 1 (ka 1)) fun (ca_1 : IV) => lett (upd ca_1 2 (ka 2)) fun (ca_2 : IV) => lett (upd ca_2 3 (ka 3)) fun (ca_3 : IV) => lett (upd ca_3 4 (ka 4)) fun (ca_4 : IV) => lett (upd ca_4 5 (ka 5)) fun (ca_5 : IV) => (isB (ka 6)) ∧ True
set_option maxRecDepth 100000 in
set_option maxHeartbeats 4000000 in
theorem c_Ci_copy (l : Launch) (g : GX) (qci : Nat) (qcj : Nat) (qpa : Nat) (qpae : Nat) (qpar : Nat) (qpau : Nat) (qpab : Nat) (ca : IV) (cal : LV) (ka : IV) (kal : LV) (w0 : IV) (w1 : IV) (w2 : IV) (w3 : IV) (w4 : IV)  (hok : ok_Ci_copy ca ka) : Met l y_Ci_copy (wsY y_Ci_copy b_Ci_copy 2 none) rm_Ci_copy (CP g [.ref qci, .ref qcj] (wCC g qci qcj qpa qpae qpar qpau qpab ca cal ka kal w0 w1 w2 w3 w4)) (CV g (wCC g qci qcj qpa qpae qpar qpau qpab ca cal ka kal w0 w1 w2 w3 w4) (fun u : IV × LV => wCC g qci qcj qpa qpae qpar qpau qpab u.1 u.2 ka kal w0 w1 w2 w3 w4) (sp_Ci_copy ca cal ka kal w0 w3 w4)) 0 0 (inW (wCC g qci qcj qpa qpae qpar qpau qpab ca cal ka kal w0 w1 w2 w3 w4)) := by
  refine Met.ofW (cc := b_Ci_copy) (maxL := 2) (ret := none) pn_Ci rfl ?_
  intro p e s m args below meth c s₁ B hml hv
  obtain ⟨rfl, C, hP, hD, hS⟩ := enter "DecadeBridge$Circuit" rfl B hml hv
  obtain ⟨hx, hb, hr, hml, hown, hlk, hts, hK, hZo, hZ⟩ := id C
  refine entryW (lv := [(0, .ref qci), (1, .ref qcj)]) rfl (Nat.le_of_ble_eq_true rfl) (fun ls hl => ?_)
  obtain ⟨z, hz⟩ : ∃ z, z = sp_Ci_copy ca cal ka kal w0 w3 w4 := ⟨_, rfl⟩
  rw [← hz]
  unfold sp_Ci_copy at hz
  unfold ok_Ci_copy at hok
  refine lv_aload_n hx hb d_Ci_copy_0 rfl (lv_at hl 0 rfl) ?_
  refine lv_aload_n hx hb d_Ci_copy_1 rfl (lv_at hl 1 rfl) ?_
  refine gf C hP 1 1 fkCi rfl (by decide) rfl qf_Ci_61 (gCi_1 _ _ _) d_Ci_copy_2 ?_
  refine pfI C hP hD hS 0 1 fkCi rfl (by decide) rfl qf_Ci_61 rfl rfl rfl (Nat.le_of_ble_eq_true rfl) (ff := fun o => fCi qpa o cal) (sCi_1 _ _ _ _) d_Ci_copy_5 (fun ca_1 eca_1 H locs hP hD hS => ?_)
  have hP : va_P g.1 vwCl (wCC g qci qcj qpa qpae qpar qpau qpab ca_1 cal ka kal w0 w1 w2 w3 w4) H := hP
  have hD : va_D (inW (wCC g qci qcj qpa qpae qpar qpau qpab ca cal ka kal w0 w1 w2 w3 w4)) (wCC g qci qcj qpa qpae qpar qpau qpab ca_1 cal ka kal w0 w1 w2 w3 w4) := hD
  have hz := lett_z hz eca_1
  have hok := lett_o hok eca_1
  refine lv_aload_n hx hb d_Ci_copy_8 rfl (lv_at hl 0 rfl) ?_
  refine lv_aload_n hx hb d_Ci_copy_9 rfl (lv_at hl 1 rfl) ?_
  refine gf C hP 1 2 fkCi rfl (by decide) rfl qf_Ci_64 (gCi_2 _ _ _) d_Ci_copy_10 ?_
  refine pfI C hP hD hS 0 2 fkCi rfl (by decide) rfl qf_Ci_64 rfl rfl rfl (Nat.le_of_ble_eq_true rfl) (ff := fun o => fCi qpa o cal) (sCi_2 _ _ _ _) d_Ci_copy_13 (fun ca_2 eca_2 H locs hP hD hS => ?_)
  have hP : va_P g.1 vwCl (wCC g qci qcj qpa qpae qpar qpau qpab ca_2 cal ka kal w0 w1 w2 w3 w4) H := hP
  have hD : va_D (inW (wCC g qci qcj qpa qpae qpar qpau qpab ca cal ka kal w0 w1 w2 w3 w4)) (wCC g qci qcj qpa qpae qpar qpau qpab ca_2 cal ka kal w0 w1 w2 w3 w4) := hD
  have hz := lett_z hz eca_2
  have hok := lett_o hok eca_2
  refine lv_aload_n hx hb d_Ci_copy_16 rfl (lv_at hl 0 rfl) ?_
  refine lv_aload_n hx hb d_Ci_copy_17 rfl (lv_at hl 1 rfl) ?_
  refine gf C hP 1 3 fkCi rfl (by decide) rfl qf_Ci_22 (gCi_3 _ _ _) d_Ci_copy_18 ?_
  refine pfI C hP hD hS 0 3 fkCi rfl (by decide) rfl qf_Ci_22 rfl rfl rfl (Nat.le_of_ble_eq_true rfl) (ff := fun o => fCi qpa o cal) (sCi_3 _ _ _ _) d_Ci_copy_21 (fun ca_3 eca_3 H locs hP hD hS => ?_)
  have hP : va_P g.1 vwCl (wCC g qci qcj qpa qpae qpar qpau qpab ca_3 cal ka kal w0 w1 w2 w3 w4) H := hP
  have hD : va_D (inW (wCC g qci qcj qpa qpae qpar qpau qpab ca cal ka kal w0 w1 w2 w3 w4)) (wCC g qci qcj qpa qpae qpar qpau qpab ca_3 cal ka kal w0 w1 w2 w3 w4) := hD
  have hz := lett_z hz eca_3
  have hok := lett_o hok eca_3
  refine lv_aload_n hx hb d_Ci_copy_24 rfl (lv_at hl 0 rfl) ?_
  refine lv_aload_n hx hb d_Ci_copy_25 rfl (lv_at hl 1 rfl) ?_
  refine gf C hP 1 4 fkCi rfl (by decide) rfl qf_Ci_50 (gCi_4 _ _ _) d_Ci_copy_26 ?_
  refine pfI C hP hD hS 0 4 fkCi rfl (by decide) rfl qf_Ci_50 rfl rfl rfl (Nat.le_of_ble_eq_true rfl) (ff := fun o => fCi qpa o cal) (sCi_4 _ _ _ _) d_Ci_copy_29 (fun ca_4 eca_4 H locs hP hD hS => ?_)
  have hP : va_P g.1 vwCl (wCC g qci qcj qpa qpae qpar qpau qpab ca_4 cal ka kal w0 w1 w2 w3 w4) H := hP
  have hD : va_D (inW (wCC g qci qcj qpa qpae qpar qpau qpab ca cal ka kal w0 w1 w2 w3 w4)) (wCC g qci qcj qpa qpae qpar qpau qpab ca_4 cal ka kal w0 w1 w2 w3 w4) := hD
  have hz := lett_z hz eca_4
  have hok := lett_o hok eca_4
  refine lv_aload_n hx hb d_Ci_copy_32 rfl (lv_at hl 0 rfl) ?_
  refine lv_aload_n hx hb d_Ci_copy_33 rfl (lv_at hl 1 rfl) ?_
  refine gf C hP 1 5 fkCi rfl (by decide) rfl qf_Ci_67 (gCi_5 _ _ _) d_Ci_copy_34 ?_
  refine pfI C hP hD hS 0 5 fkCi rfl (by decide) rfl qf_Ci_67 rfl rfl rfl (Nat.le_of_ble_eq_true rfl) (ff := fun o => fCi qpa o cal) (sCi_5 _ _ _ _) d_Ci_copy_37 (fun ca_5 eca_5 H locs hP hD hS => ?_)
  have hP : va_P g.1 vwCl (wCC g qci qcj qpa qpae qpar qpau qpab ca_5 cal ka kal w0 w1 w2 w3 w4) H := hP
  have hD : va_D (inW (wCC g qci qcj qpa qpae qpar qpau qpab ca cal ka kal w0 w1 w2 w3 w4)) (wCC g qci qcj qpa qpae qpar qpau qpab ca_5 cal ka kal w0 w1 w2 w3 w4) := hD
  have hz := lett_z hz eca_5
  have hok := lett_o hok eca_5
  refine lv_aload_n hx hb d_Ci_copy_40 rfl (lv_at hl 0 rfl) ?_
  refine lv_aload_n hx hb d_Ci_copy_41 rfl (lv_at hl 1 rfl) ?_
  refine gf C hP 1 6 fkCi rfl (by decide) rfl qf_Ci_23 (gCi_6 _ _ _) d_Ci_copy_42 ?_
  have hs6 := hok.1
  have hok := hok.2
  refine pfI C hP hD hS 0 6 fkCi rfl (by decide) rfl qf_Ci_23 rfl (isB_nar hs6) (isB_fit hs6) (Nat.le_of_ble_eq_true rfl) (ff := fun o => fCi qpa o cal) (sCi_6 _ _ _ _) d_Ci_copy_45 (fun ca_7 eca_7 H locs hP hD hS => ?_)
  have hP : va_P g.1 vwCl (wCC g qci qcj qpa qpae qpar qpau qpab ca_7 cal ka kal w0 w1 w2 w3 w4) H := hP
  have hD : va_D (inW (wCC g qci qcj qpa qpae qpar qpau qpab ca cal ka kal w0 w1 w2 w3 w4)) (wCC g qci qcj qpa qpae qpar qpau qpab ca_7 cal ka kal w0 w1 w2 w3 w4) := hD
  have hz := lett_z hz eca_7
  refine lv_aload_n hx hb d_Ci_copy_48 rfl (lv_at hl 0 rfl) ?_
  refine lv_aload_n hx hb d_Ci_copy_49 rfl (lv_at hl 1 rfl) ?_
  refine gf C hP 1 7 fkCi rfl (by decide) rfl qf_Ci_27 (gCi_7 _ _ _) d_Ci_copy_50 ?_
  refine pfI C hP hD hS 0 7 fkCi rfl (by decide) rfl qf_Ci_27 rfl rfl rfl (Nat.le_of_ble_eq_true rfl) (ff := fun o => fCi qpa o cal) (sCi_7 _ _ _ _) d_Ci_copy_53 (fun ca_8 eca_8 H locs hP hD hS => ?_)
  have hP : va_P g.1 vwCl (wCC g qci qcj qpa qpae qpar qpau qpab ca_8 cal ka kal w0 w1 w2 w3 w4) H := hP
  have hD : va_D (inW (wCC g qci qcj qpa qpae qpar qpau qpab ca cal ka kal w0 w1 w2 w3 w4)) (wCC g qci qcj qpa qpae qpar qpau qpab ca_8 cal ka kal w0 w1 w2 w3 w4) := hD
  have hz := lett_z hz eca_8
  refine lv_aload_n hx hb d_Ci_copy_56 rfl (lv_at hl 0 rfl) ?_
  refine lv_aload_n hx hb d_Ci_copy_57 rfl (lv_at hl 1 rfl) ?_
  refine gf C hP 1 8 fkCi rfl (by decide) rfl qf_Ci_30 (gCi_8 _ _ _) d_Ci_copy_58 ?_
  refine pfI C hP hD hS 0 8 fkCi rfl (by decide) rfl qf_Ci_30 rfl rfl rfl (Nat.le_of_ble_eq_true rfl) (ff := fun o => fCi qpa o cal) (sCi_8 _ _ _ _) d_Ci_copy_61 (fun ca_9 eca_9 H locs hP hD hS => ?_)
  have hP : va_P g.1 vwCl (wCC g qci qcj qpa qpae qpar qpau qpab ca_9 cal ka kal w0 w1 w2 w3 w4) H := hP
  have hD : va_D (inW (wCC g qci qcj qpa qpae qpar qpau qpab ca cal ka kal w0 w1 w2 w3 w4)) (wCC g qci qcj qpa qpae qpar qpau qpab ca_9 cal ka kal w0 w1 w2 w3 w4) := hD
  have hz := lett_z hz eca_9
  refine lv_aload_n hx hb d_Ci_copy_64 rfl (lv_at hl 0 rfl) ?_
  refine lv_aload_n hx hb d_Ci_copy_65 rfl (lv_at hl 1 rfl) ?_
  refine gf C hP 1 9 fkCi rfl (by decide) rfl qf_Ci_36 (gCi_9 _ _ _) d_Ci_copy_66 ?_
  refine pfI C hP hD hS 0 9 fkCi rfl (by decide) rfl qf_Ci_36 rfl rfl rfl (Nat.le_of_ble_eq_true rfl) (ff := fun o => fCi qpa o cal) (sCi_9 _ _ _ _) d_Ci_copy_69 (fun ca_10 eca_10 H locs hP hD hS => ?_)
  have hP : va_P g.1 vwCl (wCC g qci qcj qpa qpae qpar qpau qpab ca_10 cal ka kal w0 w1 w2 w3 w4) H := hP
  have hD : va_D (inW (wCC g qci qcj qpa qpae qpar qpau qpab ca cal ka kal w0 w1 w2 w3 w4)) (wCC g qci qcj qpa qpae qpar qpau qpab ca_10 cal ka kal w0 w1 w2 w3 w4) := hD
  have hz := lett_z hz eca_10
  refine lv_aload_n hx hb d_Ci_copy_72 rfl (lv_at hl 0 rfl) ?_
  refine lv_aload_n hx hb d_Ci_copy_73 rfl (lv_at hl 1 rfl) ?_
  refine gf C hP 1 10 fkCi rfl (by decide) rfl qf_Ci_37 (gCi_10 _ _ _) d_Ci_copy_74 ?_
  refine pfI C hP hD hS 0 10 fkCi rfl (by decide) rfl qf_Ci_37 rfl rfl rfl (Nat.le_of_ble_eq_true rfl) (ff := fun o => fCi qpa o cal) (sCi_10 _ _ _ _) d_Ci_copy_77 (fun ca_11 eca_11 H locs hP hD hS => ?_)
  have hP : va_P g.1 vwCl (wCC g qci qcj qpa qpae qpar qpau qpab ca_11 cal ka kal w0 w1 w2 w3 w4) H := hP
  have hD : va_D (inW (wCC g qci qcj qpa qpae qpar qpau qpab ca cal ka kal w0 w1 w2 w3 w4)) (wCC g qci qcj qpa qpae qpar qpau qpab ca_11 cal ka kal w0 w1 w2 w3 w4) := hD
  have hz := lett_z hz eca_11
  refine lv_aload_n hx hb d_Ci_copy_80 rfl (lv_at hl 0 rfl) ?_
  refine lv_aload_n hx hb d_Ci_copy_81 rfl (lv_at hl 1 rfl) ?_
  refine gf C hP 1 11 fkCi rfl (by decide) rfl qf_Ci_43 (gCi_11 _ _ _) d_Ci_copy_82 ?_
  refine pfI C hP hD hS 0 11 fkCi rfl (by decide) rfl qf_Ci_43 rfl rfl rfl (Nat.le_of_ble_eq_true rfl) (ff := fun o => fCi qpa o cal) (sCi_11 _ _ _ _) d_Ci_copy_85 (fun ca_12 eca_12 H locs hP hD hS => ?_)
  have hP : va_P g.1 vwCl (wCC g qci qcj qpa qpae qpar qpau qpab ca_12 cal ka kal w0 w1 w2 w3 w4) H := hP
  have hD : va_D (inW (wCC g qci qcj qpa qpae qpar qpau qpab ca cal ka kal w0 w1 w2 w3 w4)) (wCC g qci qcj qpa qpae qpar qpau qpab ca_12 cal ka kal w0 w1 w2 w3 w4) := hD
  have hz := lett_z hz eca_12
  refine lv_aload_n hx hb d_Ci_copy_88 rfl (lv_at hl 0 rfl) ?_
  refine lv_aload_n hx hb d_Ci_copy_89 rfl (lv_at hl 1 rfl) ?_
  refine gf C hP 1 12 fkCi rfl (by decide) rfl qf_Ci_46 (gCi_12 _ _ _) d_Ci_copy_90 ?_
  refine pfL C hP hD hS 0 12 fkCi rfl (by decide) rfl qf_Ci_46 rfl rfl rfl (Nat.le_of_ble_eq_true rfl) (ff := fun o => fCi qpa ca_12 o) (sCi_12 _ _ _ _) d_Ci_copy_93 (fun cal_13 ecal_13 H locs hP hD hS => ?_)
  have hP : va_P g.1 vwCl (wCC g qci qcj qpa qpae qpar qpau qpab ca_12 cal_13 ka kal w0 w1 w2 w3 w4) H := hP
  have hD : va_D (inW (wCC g qci qcj qpa qpae qpar qpau qpab ca cal ka kal w0 w1 w2 w3 w4)) (wCC g qci qcj qpa qpae qpar qpau qpab ca_12 cal_13 ka kal w0 w1 w2 w3 w4) := hD
  have hz := lett_z hz ecal_13
  refine lv_aload_n hx hb d_Ci_copy_96 rfl (lv_at hl 0 rfl) ?_
  refine lv_aload_n hx hb d_Ci_copy_97 rfl (lv_at hl 1 rfl) ?_
  refine gf C hP 1 13 fkCi rfl (by decide) rfl qf_Ci_70 (gCi_13 _ _ _) d_Ci_copy_98 ?_
  refine pfI C hP hD hS 0 13 fkCi rfl (by decide) rfl qf_Ci_70 rfl rfl rfl (Nat.le_of_ble_eq_true rfl) (ff := fun o => fCi qpa o cal_13) (sCi_13 _ _ _ _) d_Ci_copy_101 (fun ca_14 eca_14 H locs hP hD hS => ?_)
  have hP : va_P g.1 vwCl (wCC g qci qcj qpa qpae qpar qpau qpab ca_14 cal_13 ka kal w0 w1 w2 w3 w4) H := hP
  have hD : va_D (inW (wCC g qci qcj qpa qpae qpar qpau qpab ca cal ka kal w0 w1 w2 w3 w4)) (wCC g qci qcj qpa qpae qpar qpau qpab ca_14 cal_13 ka kal w0 w1 w2 w3 w4) := hD
  have hz := lett_z hz eca_14
  refine lv_aload_n hx hb d_Ci_copy_104 rfl (lv_at hl 0 rfl) ?_
  refine lv_aload_n hx hb d_Ci_copy_105 rfl (lv_at hl 1 rfl) ?_
  refine gf C hP 1 14 fkCi rfl (by decide) rfl qf_Ci_73 (gCi_14 _ _ _) d_Ci_copy_106 ?_
  refine pfI C hP hD hS 0 14 fkCi rfl (by decide) rfl qf_Ci_73 rfl rfl rfl (Nat.le_of_ble_eq_true rfl) (ff := fun o => fCi qpa o cal_13) (sCi_14 _ _ _ _) d_Ci_copy_109 (fun ca_15 eca_15 H locs hP hD hS => ?_)
  have hP : va_P g.1 vwCl (wCC g qci qcj qpa qpae qpar qpau qpab ca_15 cal_13 ka kal w0 w1 w2 w3 w4) H := hP
  have hD : va_D (inW (wCC g qci qcj qpa qpae qpar qpau qpab ca cal ka kal w0 w1 w2 w3 w4)) (wCC g qci qcj qpa qpae qpar qpau qpab ca_15 cal_13 ka kal w0 w1 w2 w3 w4) := hD
  have hz := lett_z hz eca_15
  refine lv_aload_n hx hb d_Ci_copy_112 rfl (lv_at hl 0 rfl) ?_
  have hB : SubW g (inW (wCC g qci qcj qpa qpae qpar qpau qpab ca cal ka kal w0 w1 w2 w3 w4)) s (wCC g qci qcj qpa qpae qpar qpau qpab ca_15 cal_13 ka kal w0 w1 w2 w3 w4) (wCi g qci qpa qpae qpar qpau qpab ca_15 cal_13 w0 w1 w2 w3 w4) [0, 2, 3, 4, 5, 6] _ _ := ⟨rfl, rfl, hP, hD, hS⟩
  refine goV1 hB (run_v C mf_Ci_survey qm_Ci_76 (c_Ci_survey l g qci qpa qpae qpar qpau qpab ca_15 cal_13 w0 w1 w2 w3 w4) rfl rfl ⟨Nat.le_of_ble_eq_true rfl, Nat.le_of_ble_eq_true rfl⟩ ⟨Nat.le_of_ble_eq_true rfl, Nat.le_of_ble_eq_true rfl⟩ hB rfl rfl hl rfl rfl (Nat.le_of_ble_eq_true rfl) d_Ci_copy_113) (fun _ => rfl) (fun y16 ey16 H locs hP hD hS => ?_)
  have hP : va_P g.1 vwCl (wCC g qci qcj qpa qpae qpar qpau qpab y16 cal_13 ka kal w0 w1 w2 w3 w4) H := cP (spq hB.1 hB.2.1 [1] 7 rfl rfl (by decide +kernel) rfl) hP
  have hD : va_D (inW (wCC g qci qcj qpa qpae qpar qpau qpab ca cal ka kal w0 w1 w2 w3 w4)) (wCC g qci qcj qpa qpae qpar qpau qpab y16 cal_13 ka kal w0 w1 w2 w3 w4) := cD (spq hB.1 hB.2.1 [1] 7 rfl rfl (by decide +kernel) rfl) hD
  have hz := lett_z hz ey16
  exact endV C hz hP hS d_Ci_copy_116
abbrev rm_Ci_choose : Room := { frames := 1, cells := 0, slots := 0, locals := 23 }
def HL_Ci_choose_60 (p : Program) (l : Launch) (e : Env) (s : State) (m : MethodId) (args : Array Value) (below : List Frame) (meth : Method) (c : Code) (g : GX) (qci : Nat) (qpa : Nat) (qpae : Nat) (qpar : Nat) (qpau : Nat) (qpab : Nat) (ws0 : va_W) (ca_2 : IV) (cal : LV) (w0 : IV) (w1 : IV) (w2 : IV) (w3 : IV) (w4 : IV) (sp : Int32 → IV) (ok : Int32 → Prop) : Prop := ∀ (t1p60 : Int32), ok t1p60 → ∀ z : IV, z = sp t1p60 → ∀ (H : Heap) (locs : List Loc) (ls : Array Slot), va_P g.1 vwCl (wCi g qci qpa qpae qpar qpau qpab ca_2 cal w0 w1 w2 w3 w4) H → va_D (inW ws0) (wCi g qci qpa qpae qpar qpau qpab ca_2 cal w0 w1 w2 w3 w4) → va_S (inW ws0) s.heap H locs → lv_has ls 7 [] → W p l e rm_Ci_choose s m args below meth c H locs 0 0 (MQ below (CV g ws0 (fun u : IV => wCi g qci qpa qpae qpar qpau qpab u cal w0 w1 w2 w3 w4) z) args s 0 0 (inW ws0)) (F0 m 60 ls [.int t1p60, .ref qci])
noncomputable def sp_Ci_choose_60 (ca_2 : IV)  (t1p60 : Int32) : IV := lett (upd ca_2 13 t1p60) fun (ca_7 : IV) => ca_7
def ok_Ci_choose_60 (ca_2 : IV)   (t1p60 : Int32) : Prop := True
set_option maxRecDepth 100000 in
set_option maxHeartbeats 4000000 in
theorem k_Ci_choose_60 {p : Program} {l : Launch} {e : Env} {s : State} {m : MethodId} {args : Array Value} {below : List Frame} {meth : Method} {c : Code} {g : GX} {qci : Nat} {qpa : Nat} {qpae : Nat} {qpar : Nat} {qpau : Nat} {qpab : Nat} {ws0 : va_W} {ca_2 : IV} {cal : LV} {w0 : IV} {w1 : IV} {w2 : IV} {w3 : IV} {w4 : IV}  (C : Cx p s m args meth c (inW ws0) g "DecadeBridge$Circuit" b_Ci_choose none 7)  : HL_Ci_choose_60 p l e s m args below meth c g qci qpa qpae qpar qpau qpab ws0 ca_2 cal w0 w1 w2 w3 w4 (sp_Ci_choose_60 ca_2 ) (ok_Ci_choose_60 ca_2  ) := by
  intro t1p60 hok z hz H locs ls hP hD hS hl
  obtain ⟨hx, hb, hr, hml, hown, hlk, hts, hK, hZo, hZ⟩ := id C
  unfold sp_Ci_choose_60 at hz
  refine pfI C hP hD hS 0 13 fkCi rfl (by decide) rfl qf_Ci_70 rfl rfl rfl (Nat.le_of_ble_eq_true rfl) (ff := fun o => fCi qpa o cal) (sCi_13 _ _ _ _) d_Ci_choose_60 (fun ca_7 eca_7 H locs hP hD hS => ?_)
  have hP : va_P g.1 vwCl (wCi g qci qpa qpae qpar qpau qpab ca_7 cal w0 w1 w2 w3 w4) H := hP
  have hD : va_D (inW ws0) (wCi g qci qpa qpae qpar qpau qpab ca_7 cal w0 w1 w2 w3 w4) := hD
  have hz := lett_z hz eca_7
  exact endV C hz hP hS d_Ci_choose_63
noncomputable def sp_Ci_choose (p1 : Int32) (p2 : Int32) (ca : IV) (w2 : IV) : IV := lett (upd ca 1 p1) fun (ca_1 : IV) => lett (upd ca_1 2 p2) fun (ca_2 : IV) => lett (sp_Pa_valueOfKind (ca_2 2) w2) fun (y3 : Int32) => lett (sp_Pa_valueOfKind (ca_2 1) w2) fun (y4 : Int32) => lett (y4.toInt64 + y3.toInt64) fun (v5 : Int64) => if v5 = (0 : Int64) then (sp_Ci_choose_60 ca_2 (0 : Int32)) else (sp_Ci_choose_60 ca_2 ((((1000000000 : Int64) * y3.toInt64) / v5).toInt32))
set_option maxRecDepth 100000 in
set_option maxHeartbeats 4000000 in
theorem c_Ci_choose (l : Launch) (g : GX) (qci : Nat) (qpa : Nat) (qpae : Nat) (qpar : Nat) (qpau : Nat) (qpab : Nat) (ca : IV) (cal : LV) (w0 : IV) (w1 : IV) (w2 : IV) (w3 : IV) (w4 : IV) (p1 : Int32) (p2 : Int32) : Met l y_Ci_choose (wsY y_Ci_choose b_Ci_choose 7 none) rm_Ci_choose (CP g [.ref qci, .int p1, .int p2] (wCi g qci qpa qpae qpar qpau qpab ca cal w0 w1 w2 w3 w4)) (CV g (wCi g qci qpa qpae qpar qpau qpab ca cal w0 w1 w2 w3 w4) (fun u : IV => wCi g qci qpa qpae qpar qpau qpab u cal w0 w1 w2 w3 w4) (sp_Ci_choose p1 p2 ca w2)) 0 0 (inW (wCi g qci qpa qpae qpar qpau qpab ca cal w0 w1 w2 w3 w4)) := by
  refine Met.ofW (cc := b_Ci_choose) (maxL := 7) (ret := none) pn_Ci rfl ?_
  intro p e s m args below meth c s₁ B hml hv
  obtain ⟨rfl, C, hP, hD, hS⟩ := enter "DecadeBridge$Circuit" rfl B hml hv
  obtain ⟨hx, hb, hr, hml, hown, hlk, hts, hK, hZo, hZ⟩ := id C
  refine entryW (lv := [(0, .ref qci), (1, .int p1), (2, .int p2)]) rfl (Nat.le_of_ble_eq_true rfl) (fun ls hl => ?_)
  obtain ⟨z, hz⟩ : ∃ z, z = sp_Ci_choose p1 p2 ca w2 := ⟨_, rfl⟩
  rw [← hz]
  unfold sp_Ci_choose at hz
  refine lv_aload_n hx hb d_Ci_choose_0 rfl (lv_at hl 0 rfl) ?_
  refine lv_iload_n hx hb d_Ci_choose_1 rfl (lv_at hl 1 rfl) ?_
  refine pfI C hP hD hS 0 1 fkCi rfl (by decide) rfl qf_Ci_61 rfl rfl rfl (Nat.le_of_ble_eq_true rfl) (ff := fun o => fCi qpa o cal) (sCi_1 _ _ _ _) d_Ci_choose_2 (fun ca_1 eca_1 H locs hP hD hS => ?_)
  have hP : va_P g.1 vwCl (wCi g qci qpa qpae qpar qpau qpab ca_1 cal w0 w1 w2 w3 w4) H := hP
  have hD : va_D (inW (wCi g qci qpa qpae qpar qpau qpab ca cal w0 w1 w2 w3 w4)) (wCi g qci qpa qpae qpar qpau qpab ca_1 cal w0 w1 w2 w3 w4) := hD
  have hz := lett_z hz eca_1
  refine lv_aload_n hx hb d_Ci_choose_5 rfl (lv_at hl 0 rfl) ?_
  refine lv_iload_n hx hb d_Ci_choose_6 rfl (lv_at hl 2 rfl) ?_
  refine pfI C hP hD hS 0 2 fkCi rfl (by decide) rfl qf_Ci_64 rfl rfl rfl (Nat.le_of_ble_eq_true rfl) (ff := fun o => fCi qpa o cal) (sCi_2 _ _ _ _) d_Ci_choose_7 (fun ca_2 eca_2 H locs hP hD hS => ?_)
  have hP : va_P g.1 vwCl (wCi g qci qpa qpae qpar qpau qpab ca_2 cal w0 w1 w2 w3 w4) H := hP
  have hD : va_D (inW (wCi g qci qpa qpae qpar qpau qpab ca cal w0 w1 w2 w3 w4)) (wCi g qci qpa qpae qpar qpau qpab ca_2 cal w0 w1 w2 w3 w4) := hD
  have hz := lett_z hz eca_2
  refine lv_aload_n hx hb d_Ci_choose_10 rfl (lv_at hl 0 rfl) ?_
  refine gf C hP 0 0 fkCi rfl (by decide) rfl qf_Ci_7 (gCi_0 _ _ _) d_Ci_choose_11 ?_
  refine lv_aload_n hx hb d_Ci_choose_14 rfl (lv_at hl 0 rfl) ?_
  refine gf C hP 0 2 fkCi rfl (by decide) rfl qf_Ci_64 (gCi_2 _ _ _) d_Ci_choose_15 ?_
  have hB : SubW g (inW (wCi g qci qpa qpae qpar qpau qpab ca cal w0 w1 w2 w3 w4)) s (wCi g qci qpa qpae qpar qpau qpab ca_2 cal w0 w1 w2 w3 w4) (wPa g qpa qpae qpar qpau qpab w0 w1 w2 w3 w4) [1, 2, 3, 4, 5] _ _ := ⟨rfl, rfl, hP, hD, hS⟩
  refine goI0 hB (run_v C mf_Pa_valueOfKind qm_Ci_79 (c_Pa_valueOfKind l g qpa qpae qpar qpau qpab w0 w1 w2 w3 w4 (ca_2 2)) rfl rfl ⟨Nat.le_of_ble_eq_true rfl, Nat.le_of_ble_eq_true rfl⟩ ⟨Nat.le_of_ble_eq_true rfl, Nat.le_of_ble_eq_true rfl⟩ hB rfl rfl hl rfl rfl (Nat.le_of_ble_eq_true rfl) d_Ci_choose_18) (fun y3 ey3 H locs hP hS => ?_)
  have hz := lett_z hz ey3
  refine lv_i2l hx hb d_Ci_choose_21 rfl ?_
  refine lv_lstore_n (lv' := [(3, .long y3.toInt64), (0, .ref qci), (1, .int p1), (2, .int p2)]) hx hb d_Ci_choose_22 rfl hl (by decide) rfl (fun ls hl => ?_)
  refine lv_aload_n hx hb d_Ci_choose_23 rfl (lv_at hl 1 rfl) ?_
  refine gf C hP 0 0 fkCi rfl (by decide) rfl qf_Ci_7 (gCi_0 _ _ _) d_Ci_choose_24 ?_
  refine lv_aload_n hx hb d_Ci_choose_27 rfl (lv_at hl 1 rfl) ?_
  refine gf C hP 0 1 fkCi rfl (by decide) rfl qf_Ci_61 (gCi_1 _ _ _) d_Ci_choose_28 ?_
  have hB : SubW g (inW (wCi g qci qpa qpae qpar qpau qpab ca cal w0 w1 w2 w3 w4)) s (wCi g qci qpa qpae qpar qpau qpab ca_2 cal w0 w1 w2 w3 w4) (wPa g qpa qpae qpar qpau qpab w0 w1 w2 w3 w4) [1, 2, 3, 4, 5] _ _ := ⟨rfl, rfl, hP, hD, hS⟩
  refine goI0 hB (run_v C mf_Pa_valueOfKind qm_Ci_79 (c_Pa_valueOfKind l g qpa qpae qpar qpau qpab w0 w1 w2 w3 w4 (ca_2 1)) rfl rfl ⟨Nat.le_of_ble_eq_true rfl, Nat.le_of_ble_eq_true rfl⟩ ⟨Nat.le_of_ble_eq_true rfl, Nat.le_of_ble_eq_true rfl⟩ hB rfl rfl hl rfl rfl (Nat.le_of_ble_eq_true rfl) d_Ci_choose_31) (fun y4 ey4 H locs hP hS => ?_)
  have hz := lett_z hz ey4
  refine lv_i2l hx hb d_Ci_choose_34 rfl ?_
  refine lv_lload_n hx hb d_Ci_choose_35 rfl (lv_at hl 0 rfl) ?_
  refine lv_ladd hx hb d_Ci_choose_36 ?_
  refine lv_topl (fun v5 ev5 => ?_)
  have hz := lett_z hz ev5
  refine lv_lstore (lv' := [(5, .long v5), (3, .long y3.toInt64), (0, .ref qci), (1, .int p1), (2, .int p2)]) hx hb d_Ci_choose_37 hl (by decide) rfl (fun ls hl => ?_)
  refine lv_aload_n hx hb d_Ci_choose_39 rfl (lv_at hl 2 rfl) ?_
  refine lv_lload hx hb d_Ci_choose_40 (lv_at hl 0 rfl) ?_
  refine lv_lconst (v := 0) hx hb d_Ci_choose_42 (by decide) ?_
  refine lc_ne (tgt := 51) hx hb d_Ci_choose_43 d_Ci_choose_44 (by decide) (fun c6 => ?_) (fun c6 => ?_)
  · have hz := hz.trans (if_neg c6)
    refine lv_ldc2 hx hb hown (hts _ qk_Ci_83) d_Ci_choose_51 ?_
    refine lv_lload_n hx hb d_Ci_choose_54 rfl (lv_at hl 1 rfl) ?_
    refine lv_lmul hx hb d_Ci_choose_55 ?_
    refine lv_lload hx hb d_Ci_choose_56 (lv_at hl 0 rfl) ?_
    refine lv_ldiv hx hb d_Ci_choose_58 c6 ?_
    refine lv_l2i hx hb d_Ci_choose_59 rfl ?_
    exact k_Ci_choose_60 C ((((1000000000 : Int64) * y3.toInt64) / v5).toInt32) trivial _ hz _ _ ls hP hD hS (lv_sub hl [] rfl)
  · have hz := hz.trans (if_pos c6)
    refine lv_iconst (v := 0) hx hb d_Ci_choose_47 (by decide) ?_
    refine lv_goto (tgt := 60) hx hb d_Ci_choose_48 (by decide) ?_
    exact k_Ci_choose_60 C (0 : Int32) trivial _ hz _ _ ls hP hD hS (lv_sub hl [] rfl)
abbrev rm_Ci_dial : Room := { frames := 1, cells := 0, slots := 0, locals := 28 }
noncomputable def sp_Ci_dial (p1 : Int32) (ca : IV) (w0 : IV) (w1 : IV) (w3 : IV) (w4 : IV) : IV := lett (upd ca 5 p1) fun (ca_1 : IV) => lett (sp_Pa_coldAt p1 w0 w1) fun (y3 : Int32) => lett (upd ca_1 14 y3) fun (ca_4 : IV) => lett (sp_Ci_survey ca_4 w0 w3 w4) fun (y5 : IV) => y5
def ok_Ci_dial (p1 : Int32) (ca : IV) (w0 : IV) (w1 : IV) : Prop := lett (upd ca 5 p1) fun (ca_1 : IV) => (ok_Pa_coldAt p1 w0 w1) ∧ True
set_option maxRecDepth 100000 in
set_option maxHeartbeats 4000000 in
theorem c_Ci_dial (l : Launch) (g : GX) (qci : Nat) (qpa : Nat) (qpae : Nat) (qpar : Nat) (qpau : Nat) (qpab : Nat) (ca : IV) (cal : LV) (w0 : IV) (w1 : IV) (w2 : IV) (w3 : IV) (w4 : IV) (p1 : Int32) (hok : ok_Ci_dial p1 ca w0 w1) : Met l y_Ci_dial (wsY y_Ci_dial b_Ci_dial 2 none) rm_Ci_dial (CP g [.ref qci, .int p1] (wCi g qci qpa qpae qpar qpau qpab ca cal w0 w1 w2 w3 w4)) (CV g (wCi g qci qpa qpae qpar qpau qpab ca cal w0 w1 w2 w3 w4) (fun u : IV => wCi g qci qpa qpae qpar qpau qpab u cal w0 w1 w2 w3 w4) (sp_Ci_dial p1 ca w0 w1 w3 w4)) 0 0 (inW (wCi g qci qpa qpae qpar qpau qpab ca cal w0 w1 w2 w3 w4)) := by
  refine Met.ofW (cc := b_Ci_dial) (maxL := 2) (ret := none) pn_Ci rfl ?_
  intro p e s m args below meth c s₁ B hml hv
  obtain ⟨rfl, C, hP, hD, hS⟩ := enter "DecadeBridge$Circuit" rfl B hml hv
  obtain ⟨hx, hb, hr, hml, hown, hlk, hts, hK, hZo, hZ⟩ := id C
  refine entryW (lv := [(0, .ref qci), (1, .int p1)]) rfl (Nat.le_of_ble_eq_true rfl) (fun ls hl => ?_)
  obtain ⟨z, hz⟩ : ∃ z, z = sp_Ci_dial p1 ca w0 w1 w3 w4 := ⟨_, rfl⟩
  rw [← hz]
  unfold sp_Ci_dial at hz
  unfold ok_Ci_dial at hok
  refine lv_aload_n hx hb d_Ci_dial_0 rfl (lv_at hl 0 rfl) ?_
  refine lv_iload_n hx hb d_Ci_dial_1 rfl (lv_at hl 1 rfl) ?_
  refine pfI C hP hD hS 0 5 fkCi rfl (by decide) rfl qf_Ci_67 rfl rfl rfl (Nat.le_of_ble_eq_true rfl) (ff := fun o => fCi qpa o cal) (sCi_5 _ _ _ _) d_Ci_dial_2 (fun ca_1 eca_1 H locs hP hD hS => ?_)
  have hP : va_P g.1 vwCl (wCi g qci qpa qpae qpar qpau qpab ca_1 cal w0 w1 w2 w3 w4) H := hP
  have hD : va_D (inW (wCi g qci qpa qpae qpar qpau qpab ca cal w0 w1 w2 w3 w4)) (wCi g qci qpa qpae qpar qpau qpab ca_1 cal w0 w1 w2 w3 w4) := hD
  have hz := lett_z hz eca_1
  have hok := lett_o hok eca_1
  refine lv_aload_n hx hb d_Ci_dial_5 rfl (lv_at hl 0 rfl) ?_
  refine lv_aload_n hx hb d_Ci_dial_6 rfl (lv_at hl 0 rfl) ?_
  refine gf C hP 0 0 fkCi rfl (by decide) rfl qf_Ci_7 (gCi_0 _ _ _) d_Ci_dial_7 ?_
  refine lv_iload_n hx hb d_Ci_dial_10 rfl (lv_at hl 1 rfl) ?_
  have hs2 := hok.1
  have hok := hok.2
  have hB : SubW g (inW (wCi g qci qpa qpae qpar qpau qpab ca cal w0 w1 w2 w3 w4)) s (wCi g qci qpa qpae qpar qpau qpab ca_1 cal w0 w1 w2 w3 w4) (wPa g qpa qpae qpar qpau qpab w0 w1 w2 w3 w4) [1, 2, 3, 4, 5] _ _ := ⟨rfl, rfl, hP, hD, hS⟩
  refine goI0 hB (run_v C mf_Pa_coldAt qm_Ci_85 (c_Pa_coldAt l g qpa qpae qpar qpau qpab w0 w1 w2 w3 w4 p1 hs2) rfl rfl ⟨Nat.le_of_ble_eq_true rfl, Nat.le_of_ble_eq_true rfl⟩ ⟨Nat.le_of_ble_eq_true rfl, Nat.le_of_ble_eq_true rfl⟩ hB rfl rfl hl rfl rfl (Nat.le_of_ble_eq_true rfl) d_Ci_dial_11) (fun y3 ey3 H locs hP hS => ?_)
  have hz := lett_z hz ey3
  refine pfI C hP hD hS 0 14 fkCi rfl (by decide) rfl qf_Ci_73 rfl rfl rfl (Nat.le_of_ble_eq_true rfl) (ff := fun o => fCi qpa o cal) (sCi_14 _ _ _ _) d_Ci_dial_14 (fun ca_4 eca_4 H locs hP hD hS => ?_)
  have hP : va_P g.1 vwCl (wCi g qci qpa qpae qpar qpau qpab ca_4 cal w0 w1 w2 w3 w4) H := hP
  have hD : va_D (inW (wCi g qci qpa qpae qpar qpau qpab ca cal w0 w1 w2 w3 w4)) (wCi g qci qpa qpae qpar qpau qpab ca_4 cal w0 w1 w2 w3 w4) := hD
  have hz := lett_z hz eca_4
  refine lv_aload_n hx hb d_Ci_dial_17 rfl (lv_at hl 0 rfl) ?_
  have hB : SubW g (inW (wCi g qci qpa qpae qpar qpau qpab ca cal w0 w1 w2 w3 w4)) s (wCi g qci qpa qpae qpar qpau qpab ca_4 cal w0 w1 w2 w3 w4) _ (List.range _) _ _ := (subF hP hD hS)
  refine goVF hB (run_v C mf_Ci_survey qm_Ci_76 (c_Ci_survey l g qci qpa qpae qpar qpau qpab ca_4 cal w0 w1 w2 w3 w4) rfl rfl ⟨Nat.le_of_ble_eq_true rfl, Nat.le_of_ble_eq_true rfl⟩ ⟨Nat.le_of_ble_eq_true rfl, Nat.le_of_ble_eq_true rfl⟩ hB rfl rfl hl rfl rfl (Nat.le_of_ble_eq_true rfl) d_Ci_dial_18) (fun _ => rfl) (fun y5 ey5 H locs hP hD hS => ?_)
  have hP : va_P g.1 vwCl (wCi g qci qpa qpae qpar qpau qpab y5 cal w0 w1 w2 w3 w4) H := hP
  have hD : va_D (inW (wCi g qci qpa qpae qpar qpau qpab ca cal w0 w1 w2 w3 w4)) (wCi g qci qpa qpae qpar qpau qpab y5 cal w0 w1 w2 w3 w4) := hD
  have hz := lett_z hz ey5
  exact endV C hz hP hS d_Ci_dial_21
abbrev rm_Ci_wire : Room := { frames := 1, cells := 0, slots := 0, locals := 25 }
noncomputable def sp_Ci_wire (p1 : Int32) (ca : IV) (w0 : IV) (w3 : IV) (w4 : IV) : IV := lett (upd ca 4 p1) fun (ca_1 : IV) => lett (sp_Ci_survey ca_1 w0 w3 w4) fun (y2 : IV) => y2
set_option maxRecDepth 100000 in
set_option maxHeartbeats 4000000 in
theorem c_Ci_wire (l : Launch) (g : GX) (qci : Nat) (qpa : Nat) (qpae : Nat) (qpar : Nat) (qpau : Nat) (qpab : Nat) (ca : IV) (cal : LV) (w0 : IV) (w1 : IV) (w2 : IV) (w3 : IV) (w4 : IV) (p1 : Int32) : Met l y_Ci_wire (wsY y_Ci_wire b_Ci_wire 2 none) rm_Ci_wire (CP g [.ref qci, .int p1] (wCi g qci qpa qpae qpar qpau qpab ca cal w0 w1 w2 w3 w4)) (CV g (wCi g qci qpa qpae qpar qpau qpab ca cal w0 w1 w2 w3 w4) (fun u : IV => wCi g qci qpa qpae qpar qpau qpab u cal w0 w1 w2 w3 w4) (sp_Ci_wire p1 ca w0 w3 w4)) 0 0 (inW (wCi g qci qpa qpae qpar qpau qpab ca cal w0 w1 w2 w3 w4)) := by
  refine Met.ofW (cc := b_Ci_wire) (maxL := 2) (ret := none) pn_Ci rfl ?_
  intro p e s m args below meth c s₁ B hml hv
  obtain ⟨rfl, C, hP, hD, hS⟩ := enter "DecadeBridge$Circuit" rfl B hml hv
  obtain ⟨hx, hb, hr, hml, hown, hlk, hts, hK, hZo, hZ⟩ := id C
  refine entryW (lv := [(0, .ref qci), (1, .int p1)]) rfl (Nat.le_of_ble_eq_true rfl) (fun ls hl => ?_)
  obtain ⟨z, hz⟩ : ∃ z, z = sp_Ci_wire p1 ca w0 w3 w4 := ⟨_, rfl⟩
  rw [← hz]
  unfold sp_Ci_wire at hz
  refine lv_aload_n hx hb d_Ci_wire_0 rfl (lv_at hl 0 rfl) ?_
  refine lv_iload_n hx hb d_Ci_wire_1 rfl (lv_at hl 1 rfl) ?_
  refine pfI C hP hD hS 0 4 fkCi rfl (by decide) rfl qf_Ci_50 rfl rfl rfl (Nat.le_of_ble_eq_true rfl) (ff := fun o => fCi qpa o cal) (sCi_4 _ _ _ _) d_Ci_wire_2 (fun ca_1 eca_1 H locs hP hD hS => ?_)
  have hP : va_P g.1 vwCl (wCi g qci qpa qpae qpar qpau qpab ca_1 cal w0 w1 w2 w3 w4) H := hP
  have hD : va_D (inW (wCi g qci qpa qpae qpar qpau qpab ca cal w0 w1 w2 w3 w4)) (wCi g qci qpa qpae qpar qpau qpab ca_1 cal w0 w1 w2 w3 w4) := hD
  have hz := lett_z hz eca_1
  refine lv_aload_n hx hb d_Ci_wire_5 rfl (lv_at hl 0 rfl) ?_
  have hB : SubW g (inW (wCi g qci qpa qpae qpar qpau qpab ca cal w0 w1 w2 w3 w4)) s (wCi g qci qpa qpae qpar qpau qpab ca_1 cal w0 w1 w2 w3 w4) _ (List.range _) _ _ := (subF hP hD hS)
  refine goVF hB (run_v C mf_Ci_survey qm_Ci_76 (c_Ci_survey l g qci qpa qpae qpar qpau qpab ca_1 cal w0 w1 w2 w3 w4) rfl rfl ⟨Nat.le_of_ble_eq_true rfl, Nat.le_of_ble_eq_true rfl⟩ ⟨Nat.le_of_ble_eq_true rfl, Nat.le_of_ble_eq_true rfl⟩ hB rfl rfl hl rfl rfl (Nat.le_of_ble_eq_true rfl) d_Ci_wire_6) (fun _ => rfl) (fun y2 ey2 H locs hP hD hS => ?_)
  have hP : va_P g.1 vwCl (wCi g qci qpa qpae qpar qpau qpab y2 cal w0 w1 w2 w3 w4) H := hP
  have hD : va_D (inW (wCi g qci qpa qpae qpar qpau qpab ca cal w0 w1 w2 w3 w4)) (wCi g qci qpa qpae qpar qpau qpab y2 cal w0 w1 w2 w3 w4) := hD
  have hz := lett_z hz ey2
  exact endV C hz hP hS d_Ci_wire_9
abbrev rm_Ci_tick : Room := { frames := 1, cells := 0, slots := 0, locals := 25 }
def HL_Ci_tick_12 (p : Program) (l : Launch) (e : Env) (s : State) (m : MethodId) (args : Array Value) (below : List Frame) (meth : Method) (c : Code) (g : GX) (qci : Nat) (qpa : Nat) (qpae : Nat) (qpar : Nat) (qpau : Nat) (qpab : Nat) (ws0 : va_W) (ca : IV) (cal : LV) (w0 : IV) (w1 : IV) (w2 : IV) (w3 : IV) (w4 : IV) (sp : Int64 → (IV × LV)) (ok : Int64 → Prop) : Prop := ∀ (t0p12 : Int64), ok t0p12 → ∀ z : (IV × LV), z = sp t0p12 → ∀ (H : Heap) (locs : List Loc) (ls : Array Slot), va_P g.1 vwCl (wCi g qci qpa qpae qpar qpau qpab ca cal w0 w1 w2 w3 w4) H → va_D (inW ws0) (wCi g qci qpa qpae qpar qpau qpab ca cal w0 w1 w2 w3 w4) → va_S (inW ws0) s.heap H locs → lv_has ls 9 [(0, .ref qci)] → W p l e rm_Ci_tick s m args below meth c H locs 0 0 (MQ below (CV g ws0 (fun u : IV × LV => wCi g qci qpa qpae qpar qpau qpab u.1 u.2 w0 w1 w2 w3 w4) z) args s 0 0 (inW ws0)) (F0 m 12 ls [.long t0p12])
def HL_Ci_tick_125 (p : Program) (l : Launch) (e : Env) (s : State) (m : MethodId) (args : Array Value) (below : List Frame) (meth : Method) (c : Code) (g : GX) (qci : Nat) (qpa : Nat) (qpae : Nat) (qpar : Nat) (qpau : Nat) (qpab : Nat) (ws0 : va_W) (y11 : Int32 × IV) (cal_9 : LV) (w0 : IV) (w1 : IV) (w2 : IV) (w3 : IV) (w4 : IV) (sp : Int32 → (IV × LV)) (ok : Int32 → Prop) : Prop := ∀ (x8p125 : Int32), ok x8p125 → ∀ z : (IV × LV), z = sp x8p125 → ∀ (H : Heap) (locs : List Loc) (ls : Array Slot), va_P g.1 vwCl (wCi g qci qpa qpae qpar qpau qpab y11.2 cal_9 w0 w1 w2 w3 w4) H → va_D (inW ws0) (wCi g qci qpa qpae qpar qpau qpab y11.2 cal_9 w0 w1 w2 w3 w4) → va_S (inW ws0) s.heap H locs → lv_has ls 9 [(0, .ref qci), (8, .int x8p125)] → W p l e rm_Ci_tick s m args below meth c H locs 0 0 (MQ below (CV g ws0 (fun u : IV × LV => wCi g qci qpa qpae qpar qpau qpab u.1 u.2 w0 w1 w2 w3 w4) z) args s 0 0 (inW ws0)) (F0 m 125 ls [])
def HL_Ci_tick_140 (p : Program) (l : Launch) (e : Env) (s : State) (m : MethodId) (args : Array Value) (below : List Frame) (meth : Method) (c : Code) (g : GX) (qci : Nat) (qpa : Nat) (qpae : Nat) (qpar : Nat) (qpau : Nat) (qpab : Nat) (ws0 : va_W) (y11 : Int32 × IV) (cal_9 : LV) (w0 : IV) (w1 : IV) (w2 : IV) (w3 : IV) (w4 : IV) (sp : Int32 → (IV × LV)) (ok : Int32 → Prop) : Prop := ∀ (t1p140 : Int32), ok t1p140 → ∀ z : (IV × LV), z = sp t1p140 → ∀ (H : Heap) (locs : List Loc) (ls : Array Slot), va_P g.1 vwCl (wCi g qci qpa qpae qpar qpau qpab y11.2 cal_9 w0 w1 w2 w3 w4) H → va_D (inW ws0) (wCi g qci qpa qpae qpar qpau qpab y11.2 cal_9 w0 w1 w2 w3 w4) → va_S (inW ws0) s.heap H locs → lv_has ls 9 [(0, .ref qci)] → W p l e rm_Ci_tick s m args below meth c H locs 0 0 (MQ below (CV g ws0 (fun u : IV × LV => wCi g qci qpa qpae qpar qpau qpab u.1 u.2 w0 w1 w2 w3 w4) z) args s 0 0 (inW ws0)) (F0 m 140 ls [.int t1p140, .ref qci])
noncomputable def sp_Ci_tick_140 (y11 : Int32 × IV) (w0 : IV) (w3 : IV) (w4 : IV) (cal_9 : LV)  (t1p140 : Int32) : IV × LV := lett (upd y11.2 9 t1p140) fun (ca_15 : IV) => lett (upd ca_15 10 ((ca_15 10) + (1 : Int32))) fun (ca_16 : IV) => lett (sp_Ci_survey ca_16 w0 w3 w4) fun (y17 : IV) => (y17, cal_9)
def ok_Ci_tick_140 (y11 : Int32 × IV) (w0 : IV) (w3 : IV) (w4 : IV) (cal_9 : LV)   (t1p140 : Int32) : Prop := True
set_option maxRecDepth 100000 in
set_option maxHeartbeats 4000000 in
theorem k_Ci_tick_140 {p : Program} {l : Launch} {e : Env} {s : State} {m : MethodId} {args : Array Value} {below : List Frame} {meth : Method} {c : Code} {g : GX} {qci : Nat} {qpa : Nat} {qpae : Nat} {qpar : Nat} {qpau : Nat} {qpab : Nat} {ws0 : va_W} {y11 : Int32 × IV} {cal_9 : LV} {w0 : IV} {w1 : IV} {w2 : IV} {w3 : IV} {w4 : IV}  (C : Cx p s m args meth c (inW ws0) g "DecadeBridge$Circuit" b_Ci_tick none 9)  : HL_Ci_tick_140 p l e s m args below meth c g qci qpa qpae qpar qpau qpab ws0 y11 cal_9 w0 w1 w2 w3 w4 (sp_Ci_tick_140 y11 w0 w3 w4 cal_9 ) (ok_Ci_tick_140 y11 w0 w3 w4 cal_9  ) := by
  intro t1p140 hok z hz H locs ls hP hD hS hl
  obtain ⟨hx, hb, hr, hml, hown, hlk, hts, hK, hZo, hZ⟩ := id C
  unfold sp_Ci_tick_140 at hz
  refine pfI C hP hD hS 0 9 fkCi rfl (by decide) rfl qf_Ci_36 rfl rfl rfl (Nat.le_of_ble_eq_true rfl) (ff := fun o => fCi qpa o cal_9) (sCi_9 _ _ _ _) d_Ci_tick_140 (fun ca_15 eca_15 H locs hP hD hS => ?_)
  have hP : va_P g.1 vwCl (wCi g qci qpa qpae qpar qpau qpab ca_15 cal_9 w0 w1 w2 w3 w4) H := hP
  have hD : va_D (inW ws0) (wCi g qci qpa qpae qpar qpau qpab ca_15 cal_9 w0 w1 w2 w3 w4) := hD
  have hz := lett_z hz eca_15
  refine lv_aload_n hx hb d_Ci_tick_143 rfl (lv_at hl 0 rfl) ?_
  refine lv_dup hx hb d_Ci_tick_144 rfl ?_
  refine gf C hP 0 10 fkCi rfl (by decide) rfl qf_Ci_37 (gCi_10 _ _ _) d_Ci_tick_145 ?_
  refine lv_iconst (v := 1) hx hb d_Ci_tick_148 (by decide) ?_
  refine lv_iadd hx hb d_Ci_tick_149 ?_
  refine pfI C hP hD hS 0 10 fkCi rfl (by decide) rfl qf_Ci_37 rfl rfl rfl (Nat.le_of_ble_eq_true rfl) (ff := fun o => fCi qpa o cal_9) (sCi_10 _ _ _ _) d_Ci_tick_150 (fun ca_16 eca_16 H locs hP hD hS => ?_)
  have hP : va_P g.1 vwCl (wCi g qci qpa qpae qpar qpau qpab ca_16 cal_9 w0 w1 w2 w3 w4) H := hP
  have hD : va_D (inW ws0) (wCi g qci qpa qpae qpar qpau qpab ca_16 cal_9 w0 w1 w2 w3 w4) := hD
  have hz := lett_z hz eca_16
  refine lv_aload_n hx hb d_Ci_tick_153 rfl (lv_at hl 0 rfl) ?_
  have hB : SubW g (inW ws0) s (wCi g qci qpa qpae qpar qpau qpab ca_16 cal_9 w0 w1 w2 w3 w4) _ (List.range _) _ _ := (subF hP hD hS)
  refine goVF hB (run_v C mf_Ci_survey qm_Ci_76 (c_Ci_survey l g qci qpa qpae qpar qpau qpab ca_16 cal_9 w0 w1 w2 w3 w4) rfl rfl ⟨Nat.le_of_ble_eq_true rfl, Nat.le_of_ble_eq_true rfl⟩ ⟨Nat.le_of_ble_eq_true rfl, Nat.le_of_ble_eq_true rfl⟩ hB rfl rfl hl rfl rfl (Nat.le_of_ble_eq_true rfl) d_Ci_tick_154) (fun _ => rfl) (fun y17 ey17 H locs hP hD hS => ?_)
  have hP : va_P g.1 vwCl (wCi g qci qpa qpae qpar qpau qpab y17 cal_9 w0 w1 w2 w3 w4) H := hP
  have hD : va_D (inW ws0) (wCi g qci qpa qpae qpar qpau qpab y17 cal_9 w0 w1 w2 w3 w4) := hD
  have hz := lett_z hz ey17
  exact endV C hz hP hS d_Ci_tick_157
noncomputable def sp_Ci_tick_125 (y11 : Int32 × IV) (w0 : IV) (w3 : IV) (w4 : IV) (cal_9 : LV)  (x8p125 : Int32) : IV × LV := if (-99999 : Int32) ≤ x8p125 then (sp_Ci_tick_140 y11 w0 w3 w4 cal_9 x8p125) else (sp_Ci_tick_140 y11 w0 w3 w4 cal_9 (-99999 : Int32))
def ok_Ci_tick_125 (y11 : Int32 × IV) (w0 : IV) (w3 : IV) (w4 : IV) (cal_9 : LV)   (x8p125 : Int32) : Prop := True
set_option maxRecDepth 100000 in
set_option maxHeartbeats 4000000 in
theorem k_Ci_tick_125 {p : Program} {l : Launch} {e : Env} {s : State} {m : MethodId} {args : Array Value} {below : List Frame} {meth : Method} {c : Code} {g : GX} {qci : Nat} {qpa : Nat} {qpae : Nat} {qpar : Nat} {qpau : Nat} {qpab : Nat} {ws0 : va_W} {y11 : Int32 × IV} {cal_9 : LV} {w0 : IV} {w1 : IV} {w2 : IV} {w3 : IV} {w4 : IV}  (C : Cx p s m args meth c (inW ws0) g "DecadeBridge$Circuit" b_Ci_tick none 9)  : HL_Ci_tick_125 p l e s m args below meth c g qci qpa qpae qpar qpau qpab ws0 y11 cal_9 w0 w1 w2 w3 w4 (sp_Ci_tick_125 y11 w0 w3 w4 cal_9 ) (ok_Ci_tick_125 y11 w0 w3 w4 cal_9  ) := by
  intro x8p125 hok z hz H locs ls hP hD hS hl
  obtain ⟨hx, hb, hr, hml, hown, hlk, hts, hK, hZo, hZ⟩ := id C
  unfold sp_Ci_tick_125 at hz
  refine lv_aload_n hx hb d_Ci_tick_125 rfl (lv_at hl 0 rfl) ?_
  refine lv_iload hx hb d_Ci_tick_126 (lv_at hl 1 rfl) ?_
  refine lv_ldc hx hb hown (hts _ qk_Ci_152) d_Ci_tick_128 ?_
  refine lv_icmp_ge (tgt := 138) hx hb d_Ci_tick_130 (by decide) (fun c14 => ?_) (fun c14 => ?_)
  · have hz := hz.trans (if_pos c14)
    refine lv_iload hx hb d_Ci_tick_138 (lv_at hl 1 rfl) ?_
    exact k_Ci_tick_140 C x8p125 trivial _ hz _ _ ls hP hD hS (lv_sub hl [0] rfl)
  · have hz := hz.trans (if_neg c14)
    refine lv_ldc hx hb hown (hts _ qk_Ci_152) d_Ci_tick_133 ?_
    refine lv_goto (tgt := 140) hx hb d_Ci_tick_135 (by decide) ?_
    exact k_Ci_tick_140 C (-99999 : Int32) trivial _ hz _ _ ls hP hD hS (lv_sub hl [0] rfl)
noncomputable def sp_Ci_tick_12 (ca : IV) (w3 : IV) (w4 : IV) (cal : LV) (w0 : IV)  (t0p12 : Int64) : IV × LV := lett (sp_Ci_powerBy t0p12 (ca 15)) fun (y3 : Int64) => lett (sp_Ci_powerBy t0p12 (ca 16)) fun (y4 : Int64) => lett (sp_He_behindTick (ca 7) y3 w3) fun (y5 : Int32) => lett (upd ca 7 y5) fun (ca_6 : IV) => lett (sp_He_behindTick (ca_6 8) y4 w4) fun (y7 : Int32) => lett (upd ca_6 8 y7) fun (ca_8 : IV) => lett (vp_updL cal 12 ((cal 12) + y3)) fun (cal_9 : LV) => lett (sp_Ci_draw (((2 : Int32) * (w0 15)) + (1 : Int32)) ca_8) fun (y11 : Int32 × IV) => lett (((ca_8 9) + y11.1) - (w0 15)) fun (v12 : Int32) => if v12 ≤ (99999 : Int32) then (sp_Ci_tick_125 y11 w0 w3 w4 cal_9 v12) else (sp_Ci_tick_125 y11 w0 w3 w4 cal_9 (99999 : Int32))
def ok_Ci_tick_12 (ca : IV) (w3 : IV) (w4 : IV) (cal : LV) (w0 : IV)   (t0p12 : Int64) : Prop := lett (sp_Ci_powerBy t0p12 (ca 15)) fun (y3 : Int64) => lett (sp_Ci_powerBy t0p12 (ca 16)) fun (y4 : Int64) => lett (sp_He_behindTick (ca 7) y3 w3) fun (y5 : Int32) => lett (upd ca 7 y5) fun (ca_6 : IV) => lett (sp_He_behindTick (ca_6 8) y4 w4) fun (y7 : Int32) => lett (upd ca_6 8 y7) fun (ca_8 : IV) => lett (vp_updL cal 12 ((cal 12) + y3)) fun (cal_9 : LV) => (ok_Ci_draw (((2 : Int32) * (w0 15)) + (1 : Int32)) ca_8) ∧ True
set_option maxRecDepth 100000 in
set_option maxHeartbeats 4000000 in
theorem k_Ci_tick_12 {p : Program} {l : Launch} {e : Env} {s : State} {m : MethodId} {args : Array Value} {below : List Frame} {meth : Method} {c : Code} {g : GX} {qci : Nat} {qpa : Nat} {qpae : Nat} {qpar : Nat} {qpau : Nat} {qpab : Nat} {ws0 : va_W} {ca : IV} {cal : LV} {w0 : IV} {w1 : IV} {w2 : IV} {w3 : IV} {w4 : IV}  (C : Cx p s m args meth c (inW ws0) g "DecadeBridge$Circuit" b_Ci_tick none 9)  : HL_Ci_tick_12 p l e s m args below meth c g qci qpa qpae qpar qpau qpab ws0 ca cal w0 w1 w2 w3 w4 (sp_Ci_tick_12 ca w3 w4 cal w0 ) (ok_Ci_tick_12 ca w3 w4 cal w0  ) := by
  intro t0p12 hok z hz H locs ls hP hD hS hl
  obtain ⟨hx, hb, hr, hml, hown, hlk, hts, hK, hZo, hZ⟩ := id C
  unfold sp_Ci_tick_12 at hz
  unfold ok_Ci_tick_12 at hok
  refine lv_lstore_n (lv' := [(2, .long t0p12), (0, .ref qci)]) hx hb d_Ci_tick_12 rfl hl (by decide) rfl (fun ls hl => ?_)
  refine lv_lload_n hx hb d_Ci_tick_13 rfl (lv_at hl 0 rfl) ?_
  refine lv_aload_n hx hb d_Ci_tick_14 rfl (lv_at hl 1 rfl) ?_
  refine gf C hP 0 15 fkCi rfl (by decide) rfl qf_Ci_103 (gCi_15 _ _ _) d_Ci_tick_15 ?_
  have hB : SubW g (inW ws0) s (wCi g qci qpa qpae qpar qpau qpab ca cal w0 w1 w2 w3 w4) (wNil g ) [] _ _ := ⟨rfl, rfl, hP, hD, hS⟩
  refine goL0 hB (run_s C mf_Ci_powerBy qm_Ci_137 (c_Ci_powerBy l g t0p12 (ca 15)) rfl rfl ⟨Nat.le_of_ble_eq_true rfl, Nat.le_of_ble_eq_true rfl⟩ ⟨Nat.le_of_ble_eq_true rfl, Nat.le_of_ble_eq_true rfl⟩ hB hl rfl rfl (Nat.le_of_ble_eq_true rfl) d_Ci_tick_18) (fun y3 ey3 H locs hP hS => ?_)
  have hz := lett_z hz ey3
  have hok := lett_o hok ey3
  refine lv_lstore (lv' := [(4, .long y3), (2, .long t0p12), (0, .ref qci)]) hx hb d_Ci_tick_21 hl (by decide) rfl (fun ls hl => ?_)
  refine lv_lload_n hx hb d_Ci_tick_23 rfl (lv_at hl 1 rfl) ?_
  refine lv_aload_n hx hb d_Ci_tick_24 rfl (lv_at hl 2 rfl) ?_
  refine gf C hP 0 16 fkCi rfl (by decide) rfl qf_Ci_106 (gCi_16 _ _ _) d_Ci_tick_25 ?_
  have hB : SubW g (inW ws0) s (wCi g qci qpa qpae qpar qpau qpab ca cal w0 w1 w2 w3 w4) (wNil g ) [] _ _ := ⟨rfl, rfl, hP, hD, hS⟩
  refine goL0 hB (run_s C mf_Ci_powerBy qm_Ci_137 (c_Ci_powerBy l g t0p12 (ca 16)) rfl rfl ⟨Nat.le_of_ble_eq_true rfl, Nat.le_of_ble_eq_true rfl⟩ ⟨Nat.le_of_ble_eq_true rfl, Nat.le_of_ble_eq_true rfl⟩ hB hl rfl rfl (Nat.le_of_ble_eq_true rfl) d_Ci_tick_28) (fun y4 ey4 H locs hP hS => ?_)
  have hz := lett_z hz ey4
  have hok := lett_o hok ey4
  refine lv_lstore (lv' := [(6, .long y4), (4, .long y3), (2, .long t0p12), (0, .ref qci)]) hx hb d_Ci_tick_31 hl (by decide) rfl (fun ls hl => ?_)
  refine lv_aload_n hx hb d_Ci_tick_33 rfl (lv_at hl 3 rfl) ?_
  refine lv_aload_n hx hb d_Ci_tick_34 rfl (lv_at hl 3 rfl) ?_
  refine gf C hP 0 0 fkCi rfl (by decide) rfl qf_Ci_7 (gCi_0 _ _ _) d_Ci_tick_35 ?_
  refine gf C hP 1 6 fkPa rfl (by decide) rfl qf_Ci_88 (gPa_6 _ _ _ _ _) d_Ci_tick_38 ?_
  refine lv_aload_n hx hb d_Ci_tick_41 rfl (lv_at hl 3 rfl) ?_
  refine gf C hP 0 7 fkCi rfl (by decide) rfl qf_Ci_27 (gCi_7 _ _ _) d_Ci_tick_42 ?_
  refine lv_lload hx hb d_Ci_tick_45 (lv_at hl 1 rfl) ?_
  have hB : SubW g (inW ws0) s (wCi g qci qpa qpae qpar qpau qpab ca cal w0 w1 w2 w3 w4) (wHe g qpau w3) [4] _ _ := ⟨rfl, rfl, hP, hD, hS⟩
  refine goI0 hB (run_v C mf_He_behindTick qm_Ci_141 (c_He_behindTick l g qpau w3 (ca 7) y3) rfl rfl ⟨Nat.le_of_ble_eq_true rfl, Nat.le_of_ble_eq_true rfl⟩ ⟨Nat.le_of_ble_eq_true rfl, Nat.le_of_ble_eq_true rfl⟩ hB rfl rfl hl rfl rfl (Nat.le_of_ble_eq_true rfl) d_Ci_tick_47) (fun y5 ey5 H locs hP hS => ?_)
  have hz := lett_z hz ey5
  have hok := lett_o hok ey5
  refine pfI C hP hD hS 0 7 fkCi rfl (by decide) rfl qf_Ci_27 rfl rfl rfl (Nat.le_of_ble_eq_true rfl) (ff := fun o => fCi qpa o cal) (sCi_7 _ _ _ _) d_Ci_tick_50 (fun ca_6 eca_6 H locs hP hD hS => ?_)
  have hP : va_P g.1 vwCl (wCi g qci qpa qpae qpar qpau qpab ca_6 cal w0 w1 w2 w3 w4) H := hP
  have hD : va_D (inW ws0) (wCi g qci qpa qpae qpar qpau qpab ca_6 cal w0 w1 w2 w3 w4) := hD
  have hz := lett_z hz eca_6
  have hok := lett_o hok eca_6
  refine lv_aload_n hx hb d_Ci_tick_53 rfl (lv_at hl 3 rfl) ?_
  refine lv_aload_n hx hb d_Ci_tick_54 rfl (lv_at hl 3 rfl) ?_
  refine gf C hP 0 0 fkCi rfl (by decide) rfl qf_Ci_7 (gCi_0 _ _ _) d_Ci_tick_55 ?_
  refine gf C hP 1 7 fkPa rfl (by decide) rfl qf_Ci_97 (gPa_7 _ _ _ _ _) d_Ci_tick_58 ?_
  refine lv_aload_n hx hb d_Ci_tick_61 rfl (lv_at hl 3 rfl) ?_
  refine gf C hP 0 8 fkCi rfl (by decide) rfl qf_Ci_30 (gCi_8 _ _ _) d_Ci_tick_62 ?_
  refine lv_lload hx hb d_Ci_tick_65 (lv_at hl 0 rfl) ?_
  have hB : SubW g (inW ws0) s (wCi g qci qpa qpae qpar qpau qpab ca_6 cal w0 w1 w2 w3 w4) (wHe g qpab w4) [5] _ _ := ⟨rfl, rfl, hP, hD, hS⟩
  refine goI0 hB (run_v C mf_He_behindTick qm_Ci_141 (c_He_behindTick l g qpab w4 (ca_6 8) y4) rfl rfl ⟨Nat.le_of_ble_eq_true rfl, Nat.le_of_ble_eq_true rfl⟩ ⟨Nat.le_of_ble_eq_true rfl, Nat.le_of_ble_eq_true rfl⟩ hB rfl rfl hl rfl rfl (Nat.le_of_ble_eq_true rfl) d_Ci_tick_67) (fun y7 ey7 H locs hP hS => ?_)
  have hz := lett_z hz ey7
  have hok := lett_o hok ey7
  refine pfI C hP hD hS 0 8 fkCi rfl (by decide) rfl qf_Ci_30 rfl rfl rfl (Nat.le_of_ble_eq_true rfl) (ff := fun o => fCi qpa o cal) (sCi_8 _ _ _ _) d_Ci_tick_70 (fun ca_8 eca_8 H locs hP hD hS => ?_)
  have hP : va_P g.1 vwCl (wCi g qci qpa qpae qpar qpau qpab ca_8 cal w0 w1 w2 w3 w4) H := hP
  have hD : va_D (inW ws0) (wCi g qci qpa qpae qpar qpau qpab ca_8 cal w0 w1 w2 w3 w4) := hD
  have hz := lett_z hz eca_8
  have hok := lett_o hok eca_8
  refine lv_aload_n hx hb d_Ci_tick_73 rfl (lv_at hl 3 rfl) ?_
  refine lv_dup hx hb d_Ci_tick_74 rfl ?_
  refine gf C hP 0 12 fkCi rfl (by decide) rfl qf_Ci_46 (gCi_12 _ _ _) d_Ci_tick_75 ?_
  refine lv_lload hx hb d_Ci_tick_78 (lv_at hl 1 rfl) ?_
  refine lv_ladd hx hb d_Ci_tick_80 ?_
  refine pfL C hP hD hS 0 12 fkCi rfl (by decide) rfl qf_Ci_46 rfl rfl rfl (Nat.le_of_ble_eq_true rfl) (ff := fun o => fCi qpa ca_8 o) (sCi_12 _ _ _ _) d_Ci_tick_81 (fun cal_9 ecal_9 H locs hP hD hS => ?_)
  have hP : va_P g.1 vwCl (wCi g qci qpa qpae qpar qpau qpab ca_8 cal_9 w0 w1 w2 w3 w4) H := hP
  have hD : va_D (inW ws0) (wCi g qci qpa qpae qpar qpau qpab ca_8 cal_9 w0 w1 w2 w3 w4) := hD
  have hz := lett_z hz ecal_9
  have hok := lett_o hok ecal_9
  refine lv_aload_n hx hb d_Ci_tick_84 rfl (lv_at hl 3 rfl) ?_
  refine gf C hP 0 9 fkCi rfl (by decide) rfl qf_Ci_36 (gCi_9 _ _ _) d_Ci_tick_85 ?_
  refine lv_aload_n hx hb d_Ci_tick_88 rfl (lv_at hl 3 rfl) ?_
  refine lv_iconst (v := 2) hx hb d_Ci_tick_89 (by decide) ?_
  refine lv_aload_n hx hb d_Ci_tick_90 rfl (lv_at hl 3 rfl) ?_
  refine gf C hP 0 0 fkCi rfl (by decide) rfl qf_Ci_7 (gCi_0 _ _ _) d_Ci_tick_91 ?_
  refine gf C hP 1 15 fkPa rfl (by decide) rfl qf_Ci_145 (gPa_15 _ _ _ _ _) d_Ci_tick_94 ?_
  refine lv_imul hx hb d_Ci_tick_97 ?_
  refine lv_iconst (v := 1) hx hb d_Ci_tick_98 (by decide) ?_
  refine lv_iadd hx hb d_Ci_tick_99 ?_
  have hs10 := hok.1
  have hok := hok.2
  have hB : SubW g (inW ws0) s (wCi g qci qpa qpae qpar qpau qpab ca_8 cal_9 w0 w1 w2 w3 w4) _ (List.range _) _ _ := (subF hP hD hS)
  refine goIF hB (run_v C mf_Ci_draw qm_Ci_148 (c_Ci_draw l g qci qpa qpae qpar qpau qpab ca_8 cal_9 w0 w1 w2 w3 w4 (((2 : Int32) * (w0 15)) + (1 : Int32)) hs10) rfl rfl ⟨Nat.le_of_ble_eq_true rfl, Nat.le_of_ble_eq_true rfl⟩ ⟨Nat.le_of_ble_eq_true rfl, Nat.le_of_ble_eq_true rfl⟩ hB rfl rfl hl rfl rfl (Nat.le_of_ble_eq_true rfl) d_Ci_tick_100) (fun _ => rfl) (fun y11 ey11 H locs hP hD hS => ?_)
  have hP : va_P g.1 vwCl (wCi g qci qpa qpae qpar qpau qpab y11.2 cal_9 w0 w1 w2 w3 w4) H := hP
  have hD : va_D (inW ws0) (wCi g qci qpa qpae qpar qpau qpab y11.2 cal_9 w0 w1 w2 w3 w4) := hD
  have hz := lett_z hz ey11
  refine lv_iadd hx hb d_Ci_tick_103 ?_
  refine lv_aload_n hx hb d_Ci_tick_104 rfl (lv_at hl 3 rfl) ?_
  refine gf C hP 0 0 fkCi rfl (by decide) rfl qf_Ci_7 (gCi_0 _ _ _) d_Ci_tick_105 ?_
  refine gf C hP 1 15 fkPa rfl (by decide) rfl qf_Ci_145 (gPa_15 _ _ _ _ _) d_Ci_tick_108 ?_
  refine lv_isub hx hb d_Ci_tick_111 ?_
  refine lv_topi (fun v12 ev12 => ?_)
  have hz := lett_z hz ev12
  refine lv_istore (lv' := [(8, .int v12), (6, .long y4), (4, .long y3), (2, .long t0p12), (0, .ref qci)]) hx hb d_Ci_tick_112 hl (by decide) rfl (fun ls hl => ?_)
  refine lv_iload hx hb d_Ci_tick_114 (lv_at hl 0 rfl) ?_
  refine lv_ldc hx hb hown (hts _ qk_Ci_151) d_Ci_tick_116 ?_
  refine lv_icmp_le (tgt := 125) hx hb d_Ci_tick_118 (by decide) (fun c13 => ?_) (fun c13 => ?_)
  · have hz := hz.trans (if_pos c13)
    exact k_Ci_tick_125 C v12 trivial _ hz _ _ ls hP hD hS (lv_sub hl [4, 0] rfl)
  · have hz := hz.trans (if_neg c13)
    refine lv_ldc hx hb hown (hts _ qk_Ci_151) d_Ci_tick_121 ?_
    refine lv_istore (lv' := [(8, .int (99999 : Int32)), (6, .long y4), (4, .long y3), (2, .long t0p12), (0, .ref qci)]) hx hb d_Ci_tick_123 hl (by decide) rfl (fun ls hl => ?_)
    exact k_Ci_tick_125 C (99999 : Int32) trivial _ hz _ _ ls hP hD hS (lv_sub hl [4, 0] rfl)
noncomputable def sp_Ci_tick (p1 : Int32) (ca : IV) (cal : LV) (w0 : IV) (w3 : IV) (w4 : IV) : IV × LV := if p1 = 0 then (sp_Ci_tick_12 ca w3 w4 cal w0 (0 : Int64)) else (lett (sp_Ci_amperes ca) fun (y2 : Int64) => sp_Ci_tick_12 ca w3 w4 cal w0 y2)
def ok_Ci_tick (p1 : Int32) (ca : IV) (cal : LV) (w0 : IV) (w3 : IV) (w4 : IV) : Prop := ((p1 = 0 → ok_Ci_tick_12 ca w3 w4 cal w0 (0 : Int64)) ∧ (¬ (p1 = 0) → lett (sp_Ci_amperes ca) fun (y2 : Int64) => ok_Ci_tick_12 ca w3 w4 cal w0 y2))
set_option maxRecDepth 100000 in
set_option maxHeartbeats 4000000 in
theorem c_Ci_tick (l : Launch) (g : GX) (qci : Nat) (qpa : Nat) (qpae : Nat) (qpar : Nat) (qpau : Nat) (qpab : Nat) (ca : IV) (cal : LV) (w0 : IV) (w1 : IV) (w2 : IV) (w3 : IV) (w4 : IV) (p1 : Int32) (hok : ok_Ci_tick p1 ca cal w0 w3 w4) : Met l y_Ci_tick (wsY y_Ci_tick b_Ci_tick 9 none) rm_Ci_tick (CP g [.ref qci, .int p1] (wCi g qci qpa qpae qpar qpau qpab ca cal w0 w1 w2 w3 w4)) (CV g (wCi g qci qpa qpae qpar qpau qpab ca cal w0 w1 w2 w3 w4) (fun u : IV × LV => wCi g qci qpa qpae qpar qpau qpab u.1 u.2 w0 w1 w2 w3 w4) (sp_Ci_tick p1 ca cal w0 w3 w4)) 0 0 (inW (wCi g qci qpa qpae qpar qpau qpab ca cal w0 w1 w2 w3 w4)) := by
  refine Met.ofW (cc := b_Ci_tick) (maxL := 9) (ret := none) pn_Ci rfl ?_
  intro p e s m args below meth c s₁ B hml hv
  obtain ⟨rfl, C, hP, hD, hS⟩ := enter "DecadeBridge$Circuit" rfl B hml hv
  obtain ⟨hx, hb, hr, hml, hown, hlk, hts, hK, hZo, hZ⟩ := id C
  refine entryW (lv := [(0, .ref qci), (1, .int p1)]) rfl (Nat.le_of_ble_eq_true rfl) (fun ls hl => ?_)
  obtain ⟨z, hz⟩ : ∃ z, z = sp_Ci_tick p1 ca cal w0 w3 w4 := ⟨_, rfl⟩
  rw [← hz]
  unfold sp_Ci_tick at hz
  unfold ok_Ci_tick at hok
  refine lv_iload_n hx hb d_Ci_tick_0 rfl (lv_at hl 1 rfl) ?_
  refine lv_if_eq (tgt := 11) hx hb d_Ci_tick_1 (by decide) (fun c1 => ?_) (fun c1 => ?_)
  · have hz := hz.trans (if_pos c1)
    have hok := hok.1 c1
    refine lv_lconst (v := 0) hx hb d_Ci_tick_11 (by decide) ?_
    exact k_Ci_tick_12 C (0 : Int64) hok _ hz _ _ ls hP hD hS (lv_sub hl [0] rfl)
  · have hz := hz.trans (if_neg c1)
    have hok := hok.2 c1
    refine lv_aload_n hx hb d_Ci_tick_4 rfl (lv_at hl 0 rfl) ?_
    have hB : SubW g (inW (wCi g qci qpa qpae qpar qpau qpab ca cal w0 w1 w2 w3 w4)) s (wCi g qci qpa qpae qpar qpau qpab ca cal w0 w1 w2 w3 w4) _ (List.range _) _ _ := (subF hP hD hS)
    refine goL0 hB (run_v C mf_Ci_amperes qm_Ci_129 (c_Ci_amperes l g qci qpa qpae qpar qpau qpab ca cal w0 w1 w2 w3 w4) rfl rfl ⟨Nat.le_of_ble_eq_true rfl, Nat.le_of_ble_eq_true rfl⟩ ⟨Nat.le_of_ble_eq_true rfl, Nat.le_of_ble_eq_true rfl⟩ hB rfl rfl hl rfl rfl (Nat.le_of_ble_eq_true rfl) d_Ci_tick_5) (fun y2 ey2 H locs hP hS => ?_)
    have hz := lett_z hz ey2
    have hok := lett_o hok ey2
    refine lv_goto (tgt := 12) hx hb d_Ci_tick_8 (by decide) ?_
    exact k_Ci_tick_12 C y2 hok _ hz _ _ ls hP hD hS (lv_sub hl [0] rfl)
abbrev rm_Ci_toldValue : Room := { frames := 1, cells := 0, slots := 0, locals := 20 }
noncomputable def sp_Ci_toldValue (ca : IV) (w0 : IV) : Int64 := lett (sp_Pa_nominalOf (ca 1)) fun (y1 : Int32) => if y1.toInt64 = (0 : Int64) then ((0 : Int64)) else (lett (sp_Pa_nominalOf (ca 2)) fun (y3 : Int32) => ((((ca 5).toInt64) * ((w0 1).toInt64)) * y3.toInt64) / y1.toInt64)
set_option maxRecDepth 100000 in
set_option maxHeartbeats 4000000 in
theorem c_Ci_toldValue (l : Launch) (g : GX) (qci : Nat) (qpa : Nat) (qpae : Nat) (qpar : Nat) (qpau : Nat) (qpab : Nat) (ca : IV) (cal : LV) (w0 : IV) (w1 : IV) (w2 : IV) (w3 : IV) (w4 : IV)  : Met l y_Ci_toldValue (wsY y_Ci_toldValue b_Ci_toldValue 3 (some .long)) rm_Ci_toldValue (CP g [.ref qci] (wCi g qci qpa qpae qpar qpau qpab ca cal w0 w1 w2 w3 w4)) (CL0 g (wCi g qci qpa qpae qpar qpau qpab ca cal w0 w1 w2 w3 w4) (sp_Ci_toldValue ca w0)) 0 0 (inW (wCi g qci qpa qpae qpar qpau qpab ca cal w0 w1 w2 w3 w4)) := by
  refine Met.ofW (cc := b_Ci_toldValue) (maxL := 3) (ret := (some .long)) pn_Ci rfl ?_
  intro p e s m args below meth c s₁ B hml hv
  obtain ⟨rfl, C, hP, hD, hS⟩ := enter "DecadeBridge$Circuit" rfl B hml hv
  obtain ⟨hx, hb, hr, hml, hown, hlk, hts, hK, hZo, hZ⟩ := id C
  refine entryW (lv := [(0, .ref qci)]) rfl (Nat.le_of_ble_eq_true rfl) (fun ls hl => ?_)
  obtain ⟨z, hz⟩ : ∃ z, z = sp_Ci_toldValue ca w0 := ⟨_, rfl⟩
  rw [← hz]
  unfold sp_Ci_toldValue at hz
  refine lv_aload_n hx hb d_Ci_toldValue_0 rfl (lv_at hl 0 rfl) ?_
  refine gf C hP 0 1 fkCi rfl (by decide) rfl qf_Ci_61 (gCi_1 _ _ _) d_Ci_toldValue_1 ?_
  have hB : SubW g (inW (wCi g qci qpa qpae qpar qpau qpab ca cal w0 w1 w2 w3 w4)) s (wCi g qci qpa qpae qpar qpau qpab ca cal w0 w1 w2 w3 w4) (wNil g ) [] _ _ := ⟨rfl, rfl, hP, hD, hS⟩
  refine goI0 hB (run_s C mf_Pa_nominalOf qm_Ci_153 (c_Pa_nominalOf l g (ca 1)) rfl rfl ⟨Nat.le_of_ble_eq_true rfl, Nat.le_of_ble_eq_true rfl⟩ ⟨Nat.le_of_ble_eq_true rfl, Nat.le_of_ble_eq_true rfl⟩ hB hl rfl rfl (Nat.le_of_ble_eq_true rfl) d_Ci_toldValue_4) (fun y1 ey1 H locs hP hS => ?_)
  have hz := lett_z hz ey1
  refine lv_i2l hx hb d_Ci_toldValue_7 rfl ?_
  refine lv_lstore_n (lv' := [(1, .long y1.toInt64), (0, .ref qci)]) hx hb d_Ci_toldValue_8 rfl hl (by decide) rfl (fun ls hl => ?_)
  refine lv_lload_n hx hb d_Ci_toldValue_9 rfl (lv_at hl 0 rfl) ?_
  refine lv_lconst (v := 0) hx hb d_Ci_toldValue_10 (by decide) ?_
  refine lc_ne (tgt := 19) hx hb d_Ci_toldValue_11 d_Ci_toldValue_12 (by decide) (fun c2 => ?_) (fun c2 => ?_)
  · have hz := hz.trans (if_neg c2)
    refine lv_aload_n hx hb d_Ci_toldValue_19 rfl (lv_at hl 1 rfl) ?_
    refine gf C hP 0 5 fkCi rfl (by decide) rfl qf_Ci_67 (gCi_5 _ _ _) d_Ci_toldValue_20 ?_
    refine lv_i2l hx hb d_Ci_toldValue_23 rfl ?_
    refine lv_aload_n hx hb d_Ci_toldValue_24 rfl (lv_at hl 1 rfl) ?_
    refine gf C hP 0 0 fkCi rfl (by decide) rfl qf_Ci_7 (gCi_0 _ _ _) d_Ci_toldValue_25 ?_
    refine gf C hP 1 1 fkPa rfl (by decide) rfl qf_Ci_156 (gPa_1 _ _ _ _ _) d_Ci_toldValue_28 ?_
    refine lv_i2l hx hb d_Ci_toldValue_31 rfl ?_
    refine lv_lmul hx hb d_Ci_toldValue_32 ?_
    refine lv_aload_n hx hb d_Ci_toldValue_33 rfl (lv_at hl 1 rfl) ?_
    refine gf C hP 0 2 fkCi rfl (by decide) rfl qf_Ci_64 (gCi_2 _ _ _) d_Ci_toldValue_34 ?_
    have hB : SubW g (inW (wCi g qci qpa qpae qpar qpau qpab ca cal w0 w1 w2 w3 w4)) s (wCi g qci qpa qpae qpar qpau qpab ca cal w0 w1 w2 w3 w4) (wNil g ) [] _ _ := ⟨rfl, rfl, hP, hD, hS⟩
    refine goI0 hB (run_s C mf_Pa_nominalOf qm_Ci_153 (c_Pa_nominalOf l g (ca 2)) rfl rfl ⟨Nat.le_of_ble_eq_true rfl, Nat.le_of_ble_eq_true rfl⟩ ⟨Nat.le_of_ble_eq_true rfl, Nat.le_of_ble_eq_true rfl⟩ hB hl rfl rfl (Nat.le_of_ble_eq_true rfl) d_Ci_toldValue_37) (fun y3 ey3 H locs hP hS => ?_)
    have hz := lett_z hz ey3
    refine lv_i2l hx hb d_Ci_toldValue_40 rfl ?_
    refine lv_lmul hx hb d_Ci_toldValue_41 ?_
    refine lv_lload_n hx hb d_Ci_toldValue_42 rfl (lv_at hl 0 rfl) ?_
    refine lv_ldiv hx hb d_Ci_toldValue_43 c2 ?_
    exact endL0 C hz hP hS d_Ci_toldValue_44
  · have hz := hz.trans (if_pos c2)
    refine lv_lconst (v := 0) hx hb d_Ci_toldValue_15 (by decide) ?_
    refine lv_goto (tgt := 44) hx hb d_Ci_toldValue_16 (by decide) ?_
    exact endL0 C hz hP hS d_Ci_toldValue_44
abbrev rm_Ci_scaled : Room := { frames := 1, cells := 0, slots := 0, locals := 23 }
noncomputable def sp_Ci_scaled (p1 : Int64) (ca : IV) (w2 : IV) : Int64 := lett (sp_Pa_valueOfKind (ca 1) w2) fun (y1 : Int32) => if y1.toInt64 = (0 : Int64) then ((0 : Int64)) else (lett (sp_Pa_valueOfKind (ca 2) w2) fun (y3 : Int32) => (p1 * y3.toInt64) / y1.toInt64)
set_option maxRecDepth 100000 in
set_option maxHeartbeats 4000000 in
theorem c_Ci_scaled (l : Launch) (g : GX) (qci : Nat) (qpa : Nat) (qpae : Nat) (qpar : Nat) (qpau : Nat) (qpab : Nat) (ca : IV) (cal : LV) (w0 : IV) (w1 : IV) (w2 : IV) (w3 : IV) (w4 : IV) (p1 : Int64) : Met l y_Ci_scaled (wsY y_Ci_scaled b_Ci_scaled 5 (some .long)) rm_Ci_scaled (CP g [.ref qci, .long p1] (wCi g qci qpa qpae qpar qpau qpab ca cal w0 w1 w2 w3 w4)) (CL0 g (wCi g qci qpa qpae qpar qpau qpab ca cal w0 w1 w2 w3 w4) (sp_Ci_scaled p1 ca w2)) 0 0 (inW (wCi g qci qpa qpae qpar qpau qpab ca cal w0 w1 w2 w3 w4)) := by
  refine Met.ofW (cc := b_Ci_scaled) (maxL := 5) (ret := (some .long)) pn_Ci rfl ?_
  intro p e s m args below meth c s₁ B hml hv
  obtain ⟨rfl, C, hP, hD, hS⟩ := enter "DecadeBridge$Circuit" rfl B hml hv
  obtain ⟨hx, hb, hr, hml, hown, hlk, hts, hK, hZo, hZ⟩ := id C
  refine entryW (lv := [(0, .ref qci), (1, .long p1)]) rfl (Nat.le_of_ble_eq_true rfl) (fun ls hl => ?_)
  obtain ⟨z, hz⟩ : ∃ z, z = sp_Ci_scaled p1 ca w2 := ⟨_, rfl⟩
  rw [← hz]
  unfold sp_Ci_scaled at hz
  refine lv_aload_n hx hb d_Ci_scaled_0 rfl (lv_at hl 0 rfl) ?_
  refine gf C hP 0 0 fkCi rfl (by decide) rfl qf_Ci_7 (gCi_0 _ _ _) d_Ci_scaled_1 ?_
  refine lv_aload_n hx hb d_Ci_scaled_4 rfl (lv_at hl 0 rfl) ?_
  refine gf C hP 0 1 fkCi rfl (by decide) rfl qf_Ci_61 (gCi_1 _ _ _) d_Ci_scaled_5 ?_
  have hB : SubW g (inW (wCi g qci qpa qpae qpar qpau qpab ca cal w0 w1 w2 w3 w4)) s (wCi g qci qpa qpae qpar qpau qpab ca cal w0 w1 w2 w3 w4) (wPa g qpa qpae qpar qpau qpab w0 w1 w2 w3 w4) [1, 2, 3, 4, 5] _ _ := ⟨rfl, rfl, hP, hD, hS⟩
  refine goI0 hB (run_v C mf_Pa_valueOfKind qm_Ci_79 (c_Pa_valueOfKind l g qpa qpae qpar qpau qpab w0 w1 w2 w3 w4 (ca 1)) rfl rfl ⟨Nat.le_of_ble_eq_true rfl, Nat.le_of_ble_eq_true rfl⟩ ⟨Nat.le_of_ble_eq_true rfl, Nat.le_of_ble_eq_true rfl⟩ hB rfl rfl hl rfl rfl (Nat.le_of_ble_eq_true rfl) d_Ci_scaled_8) (fun y1 ey1 H locs hP hS => ?_)
  have hz := lett_z hz ey1
  refine lv_i2l hx hb d_Ci_scaled_11 rfl ?_
  refine lv_lstore_n (lv' := [(3, .long y1.toInt64), (0, .ref qci), (1, .long p1)]) hx hb d_Ci_scaled_12 rfl hl (by decide) rfl (fun ls hl => ?_)
  refine lv_lload_n hx hb d_Ci_scaled_13 rfl (lv_at hl 0 rfl) ?_
  refine lv_lconst (v := 0) hx hb d_Ci_scaled_14 (by decide) ?_
  refine lc_ne (tgt := 23) hx hb d_Ci_scaled_15 d_Ci_scaled_16 (by decide) (fun c2 => ?_) (fun c2 => ?_)
  · have hz := hz.trans (if_neg c2)
    refine lv_lload_n hx hb d_Ci_scaled_23 rfl (lv_at hl 2 rfl) ?_
    refine lv_aload_n hx hb d_Ci_scaled_24 rfl (lv_at hl 1 rfl) ?_
    refine gf C hP 0 0 fkCi rfl (by decide) rfl qf_Ci_7 (gCi_0 _ _ _) d_Ci_scaled_25 ?_
    refine lv_aload_n hx hb d_Ci_scaled_28 rfl (lv_at hl 1 rfl) ?_
    refine gf C hP 0 2 fkCi rfl (by decide) rfl qf_Ci_64 (gCi_2 _ _ _) d_Ci_scaled_29 ?_
    have hB : SubW g (inW (wCi g qci qpa qpae qpar qpau qpab ca cal w0 w1 w2 w3 w4)) s (wCi g qci qpa qpae qpar qpau qpab ca cal w0 w1 w2 w3 w4) (wPa g qpa qpae qpar qpau qpab w0 w1 w2 w3 w4) [1, 2, 3, 4, 5] _ _ := ⟨rfl, rfl, hP, hD, hS⟩
    refine goI0 hB (run_v C mf_Pa_valueOfKind qm_Ci_79 (c_Pa_valueOfKind l g qpa qpae qpar qpau qpab w0 w1 w2 w3 w4 (ca 2)) rfl rfl ⟨Nat.le_of_ble_eq_true rfl, Nat.le_of_ble_eq_true rfl⟩ ⟨Nat.le_of_ble_eq_true rfl, Nat.le_of_ble_eq_true rfl⟩ hB rfl rfl hl rfl rfl (Nat.le_of_ble_eq_true rfl) d_Ci_scaled_32) (fun y3 ey3 H locs hP hS => ?_)
    have hz := lett_z hz ey3
    refine lv_i2l hx hb d_Ci_scaled_35 rfl ?_
    refine lv_lmul hx hb d_Ci_scaled_36 ?_
    refine lv_lload_n hx hb d_Ci_scaled_37 rfl (lv_at hl 0 rfl) ?_
    refine lv_ldiv hx hb d_Ci_scaled_38 c2 ?_
    exact endL0 C hz hP hS d_Ci_scaled_39
  · have hz := hz.trans (if_pos c2)
    refine lv_lconst (v := 0) hx hb d_Ci_scaled_19 (by decide) ?_
    refine lv_goto (tgt := 39) hx hb d_Ci_scaled_20 (by decide) ?_
    exact endL0 C hz hP hS d_Ci_scaled_39
abbrev rm_Ci_correctedValue : Room := { frames := 2, cells := 0, slots := 0, locals := 47 }
noncomputable def sp_Ci_correctedValue (ca : IV) (w0 : IV) (w2 : IV) : Int64 := if (ca 4) = (3 : Int32) then (lett (sp_Ci_scaled (((ca 14).toInt64) + ((w0 9).toInt64)) ca w2) fun (y3 : Int64) => y3 - ((w0 8).toInt64)) else (lett (sp_Ci_scaled ((ca 14).toInt64) ca w2) fun (y2 : Int64) => (y2 - ((w0 8).toInt64)) - ((w0 9).toInt64))
set_option maxRecDepth 100000 in
set_option maxHeartbeats 4000000 in
theorem c_Ci_correctedValue (l : Launch) (g : GX) (qci : Nat) (qpa : Nat) (qpae : Nat) (qpar : Nat) (qpau : Nat) (qpab : Nat) (ca : IV) (cal : LV) (w0 : IV) (w1 : IV) (w2 : IV) (w3 : IV) (w4 : IV)  : Met l y_Ci_correctedValue (wsY y_Ci_correctedValue b_Ci_correctedValue 1 (some .long)) rm_Ci_correctedValue (CP g [.ref qci] (wCi g qci qpa qpae qpar qpau qpab ca cal w0 w1 w2 w3 w4)) (CL0 g (wCi g qci qpa qpae qpar qpau qpab ca cal w0 w1 w2 w3 w4) (sp_Ci_correctedValue ca w0 w2)) 0 0 (inW (wCi g qci qpa qpae qpar qpau qpab ca cal w0 w1 w2 w3 w4)) := by
  refine Met.ofW (cc := b_Ci_correctedValue) (maxL := 1) (ret := (some .long)) pn_Ci rfl ?_
  intro p e s m args below meth c s₁ B hml hv
  obtain ⟨rfl, C, hP, hD, hS⟩ := enter "DecadeBridge$Circuit" rfl B hml hv
  obtain ⟨hx, hb, hr, hml, hown, hlk, hts, hK, hZo, hZ⟩ := id C
  refine entryW (lv := [(0, .ref qci)]) rfl (Nat.le_of_ble_eq_true rfl) (fun ls hl => ?_)
  obtain ⟨z, hz⟩ : ∃ z, z = sp_Ci_correctedValue ca w0 w2 := ⟨_, rfl⟩
  rw [← hz]
  unfold sp_Ci_correctedValue at hz
  refine lv_aload_n hx hb d_Ci_correctedValue_0 rfl (lv_at hl 0 rfl) ?_
  refine gf C hP 0 4 fkCi rfl (by decide) rfl qf_Ci_50 (gCi_4 _ _ _) d_Ci_correctedValue_1 ?_
  refine lv_iconst (v := 3) hx hb d_Ci_correctedValue_4 (by decide) ?_
  refine lv_icmp_ne (tgt := 36) hx hb d_Ci_correctedValue_5 (by decide) (fun c1 => ?_) (fun c1 => ?_)
  · have hz := hz.trans (if_neg c1)
    refine lv_aload_n hx hb d_Ci_correctedValue_36 rfl (lv_at hl 0 rfl) ?_
    refine lv_aload_n hx hb d_Ci_correctedValue_37 rfl (lv_at hl 0 rfl) ?_
    refine gf C hP 0 14 fkCi rfl (by decide) rfl qf_Ci_73 (gCi_14 _ _ _) d_Ci_correctedValue_38 ?_
    refine lv_i2l hx hb d_Ci_correctedValue_41 rfl ?_
    have hB : SubW g (inW (wCi g qci qpa qpae qpar qpau qpab ca cal w0 w1 w2 w3 w4)) s (wCi g qci qpa qpae qpar qpau qpab ca cal w0 w1 w2 w3 w4) _ (List.range _) _ _ := (subF hP hD hS)
    refine goL0 hB (run_v C mf_Ci_scaled qm_Ci_159 (c_Ci_scaled l g qci qpa qpae qpar qpau qpab ca cal w0 w1 w2 w3 w4 ((ca 14).toInt64)) rfl rfl ⟨Nat.le_of_ble_eq_true rfl, Nat.le_of_ble_eq_true rfl⟩ ⟨Nat.le_of_ble_eq_true rfl, Nat.le_of_ble_eq_true rfl⟩ hB rfl rfl hl rfl rfl (Nat.le_of_ble_eq_true rfl) d_Ci_correctedValue_42) (fun y2 ey2 H locs hP hS => ?_)
    have hz := lett_z hz ey2
    refine lv_aload_n hx hb d_Ci_correctedValue_45 rfl (lv_at hl 0 rfl) ?_
    refine gf C hP 0 0 fkCi rfl (by decide) rfl qf_Ci_7 (gCi_0 _ _ _) d_Ci_correctedValue_46 ?_
    refine gf C hP 1 8 fkPa rfl (by decide) rfl qf_Ci_109 (gPa_8 _ _ _ _ _) d_Ci_correctedValue_49 ?_
    refine lv_i2l hx hb d_Ci_correctedValue_52 rfl ?_
    refine lv_lsub hx hb d_Ci_correctedValue_53 ?_
    refine lv_aload_n hx hb d_Ci_correctedValue_54 rfl (lv_at hl 0 rfl) ?_
    refine gf C hP 0 0 fkCi rfl (by decide) rfl qf_Ci_7 (gCi_0 _ _ _) d_Ci_correctedValue_55 ?_
    refine gf C hP 1 9 fkPa rfl (by decide) rfl qf_Ci_112 (gPa_9 _ _ _ _ _) d_Ci_correctedValue_58 ?_
    refine lv_i2l hx hb d_Ci_correctedValue_61 rfl ?_
    refine lv_lsub hx hb d_Ci_correctedValue_62 ?_
    exact endL0 C hz hP hS d_Ci_correctedValue_63
  · have hz := hz.trans (if_pos c1)
    refine lv_aload_n hx hb d_Ci_correctedValue_8 rfl (lv_at hl 0 rfl) ?_
    refine lv_aload_n hx hb d_Ci_correctedValue_9 rfl (lv_at hl 0 rfl) ?_
    refine gf C hP 0 14 fkCi rfl (by decide) rfl qf_Ci_73 (gCi_14 _ _ _) d_Ci_correctedValue_10 ?_
    refine lv_i2l hx hb d_Ci_correctedValue_13 rfl ?_
    refine lv_aload_n hx hb d_Ci_correctedValue_14 rfl (lv_at hl 0 rfl) ?_
    refine gf C hP 0 0 fkCi rfl (by decide) rfl qf_Ci_7 (gCi_0 _ _ _) d_Ci_correctedValue_15 ?_
    refine gf C hP 1 9 fkPa rfl (by decide) rfl qf_Ci_112 (gPa_9 _ _ _ _ _) d_Ci_correctedValue_18 ?_
    refine lv_i2l hx hb d_Ci_correctedValue_21 rfl ?_
    refine lv_ladd hx hb d_Ci_correctedValue_22 ?_
    have hB : SubW g (inW (wCi g qci qpa qpae qpar qpau qpab ca cal w0 w1 w2 w3 w4)) s (wCi g qci qpa qpae qpar qpau qpab ca cal w0 w1 w2 w3 w4) _ (List.range _) _ _ := (subF hP hD hS)
    refine goL0 hB (run_v C mf_Ci_scaled qm_Ci_159 (c_Ci_scaled l g qci qpa qpae qpar qpau qpab ca cal w0 w1 w2 w3 w4 (((ca 14).toInt64) + ((w0 9).toInt64))) rfl rfl ⟨Nat.le_of_ble_eq_true rfl, Nat.le_of_ble_eq_true rfl⟩ ⟨Nat.le_of_ble_eq_true rfl, Nat.le_of_ble_eq_true rfl⟩ hB rfl rfl hl rfl rfl (Nat.le_of_ble_eq_true rfl) d_Ci_correctedValue_23) (fun y3 ey3 H locs hP hS => ?_)
    have hz := lett_z hz ey3
    refine lv_aload_n hx hb d_Ci_correctedValue_26 rfl (lv_at hl 0 rfl) ?_
    refine gf C hP 0 0 fkCi rfl (by decide) rfl qf_Ci_7 (gCi_0 _ _ _) d_Ci_correctedValue_27 ?_
    refine gf C hP 1 8 fkPa rfl (by decide) rfl qf_Ci_109 (gPa_8 _ _ _ _ _) d_Ci_correctedValue_30 ?_
    refine lv_i2l hx hb d_Ci_correctedValue_33 rfl ?_
    refine lv_lsub hx hb d_Ci_correctedValue_34 ?_
    exact endL0 C hz hP hS d_Ci_correctedValue_35
abbrev rm_Pa_copy : Room := { frames := 1, cells := 0, slots := 0, locals := 21 }
def HL_Pa_copy_26 (p : Program) (l : Launch) (e : Env) (s : State) (m : MethodId) (args : Array Value) (below : List Frame) (meth : Method) (c : Code) (g : GX) (qpa : Nat) (qpae : Nat) (qpar : Nat) (qpau : Nat) (qpab : Nat) (qdp : Nat) (qdpe : Nat) (qdpr : Nat) (qdpu : Nat) (qdpb : Nat) (ws0 : va_W) (w_3 : IV) (w2 : IV) (w3 : IV) (w4 : IV) (d0 : IV) (d1 : IV) (d2 : IV) (d3 : IV) (d4 : IV) (sp : Int32 → IV → (IV × IV × IV × IV × IV)) (ok : Int32 → IV → Prop) : Prop := ∀ (x2p26 : Int32) (w1p26 : IV), ok x2p26 w1p26 → ∀ z : (IV × IV × IV × IV × IV), z = sp x2p26 w1p26 → ∀ (H : Heap) (locs : List Loc) (ls : Array Slot), va_P g.1 vwCl (wPP g qpa qpae qpar qpau qpab qdp qdpe qdpr qdpu qdpb w_3 w1p26 w2 w3 w4 d0 d1 d2 d3 d4) H → va_D (inW ws0) (wPP g qpa qpae qpar qpau qpab qdp qdpe qdpr qdpu qdpb w_3 w1p26 w2 w3 w4 d0 d1 d2 d3 d4) → va_S (inW ws0) s.heap H locs → lv_has ls 3 [(0, .ref qpa), (1, .ref qdp), (2, .int x2p26)] → W p l e rm_Pa_copy s m args below meth c H locs 0 0 (MQ below (CV g ws0 (fun u : IV × IV × IV × IV × IV => wPP g qpa qpae qpar qpau qpab qdp qdpe qdpr qdpu qdpb u.1 u.2.1 u.2.2.1 u.2.2.2.1 u.2.2.2.2 d0 d1 d2 d3 d4) z) args s 0 0 (inW ws0)) (F0 m 26 ls [])
def HL_Pa_copy_52 (p : Program) (l : Launch) (e : Env) (s : State) (m : MethodId) (args : Array Value) (below : List Frame) (meth : Method) (c : Code) (g : GX) (qpa : Nat) (qpae : Nat) (qpar : Nat) (qpau : Nat) (qpab : Nat) (qdp : Nat) (qdpe : Nat) (qdpr : Nat) (qdpu : Nat) (qdpb : Nat) (ws0 : va_W) (w_3 : IV) (w1p26 : IV) (w2 : IV) (w3 : IV) (w4 : IV) (d0 : IV) (d1 : IV) (d2 : IV) (d3 : IV) (d4 : IV) (sp : (IV × IV × IV × IV × IV)) (ok : Prop) : Prop := ∀ (_ : Unit), ok → ∀ z : (IV × IV × IV × IV × IV), z = sp → ∀ (H : Heap) (locs : List Loc) (ls : Array Slot), va_P g.1 vwCl (wPP g qpa qpae qpar qpau qpab qdp qdpe qdpr qdpu qdpb w_3 w1p26 w2 w3 w4 d0 d1 d2 d3 d4) H → va_D (inW ws0) (wPP g qpa qpae qpar qpau qpab qdp qdpe qdpr qdpu qdpb w_3 w1p26 w2 w3 w4 d0 d1 d2 d3 d4) → va_S (inW ws0) s.heap H locs → lv_has ls 3 [(0, .ref qpa), (1, .ref qdp)] → W p l e rm_Pa_copy s m args below meth c H locs 0 0 (MQ below (CV g ws0 (fun u : IV × IV × IV × IV × IV => wPP g qpa qpae qpar qpau qpab qdp qdpe qdpr qdpu qdpb u.1 u.2.1 u.2.2.1 u.2.2.2.1 u.2.2.2.2 d0 d1 d2 d3 d4) z) args s 0 0 (inW ws0)) (F0 m 52 ls [])
def HL_Pa_copy_54 (p : Program) (l : Launch) (e : Env) (s : State) (m : MethodId) (args : Array Value) (below : List Frame) (meth : Method) (c : Code) (g : GX) (qpa : Nat) (qpae : Nat) (qpar : Nat) (qpau : Nat) (qpab : Nat) (qdp : Nat) (qdpe : Nat) (qdpr : Nat) (qdpu : Nat) (qdpb : Nat) (ws0 : va_W) (w_3 : IV) (w1p26 : IV) (w3 : IV) (w4 : IV) (d0 : IV) (d1 : IV) (d2 : IV) (d3 : IV) (d4 : IV) (sp : Int32 → IV → (IV × IV × IV × IV × IV)) (ok : Int32 → IV → Prop) : Prop := ∀ (x2p54 : Int32) (w2p54 : IV), ok x2p54 w2p54 → ∀ z : (IV × IV × IV × IV × IV), z = sp x2p54 w2p54 → ∀ (H : Heap) (locs : List Loc) (ls : Array Slot), va_P g.1 vwCl (wPP g qpa qpae qpar qpau qpab qdp qdpe qdpr qdpu qdpb w_3 w1p26 w2p54 w3 w4 d0 d1 d2 d3 d4) H → va_D (inW ws0) (wPP g qpa qpae qpar qpau qpab qdp qdpe qdpr qdpu qdpb w_3 w1p26 w2p54 w3 w4 d0 d1 d2 d3 d4) → va_S (inW ws0) s.heap H locs → lv_has ls 3 [(0, .ref qpa), (1, .ref qdp), (2, .int x2p54)] → W p l e rm_Pa_copy s m args below meth c H locs 0 0 (MQ below (CV g ws0 (fun u : IV × IV × IV × IV × IV => wPP g qpa qpae qpar qpau qpab qdp qdpe qdpr qdpu qdpb u.1 u.2.1 u.2.2.1 u.2.2.2.1 u.2.2.2.2 d0 d1 d2 d3 d4) z) args s 0 0 (inW ws0)) (F0 m 54 ls [])
def HL_Pa_copy_80 (p : Program) (l : Launch) (e : Env) (s : State) (m : MethodId) (args : Array Value) (below : List Frame) (meth : Method) (c : Code) (g : GX) (qpa : Nat) (qpae : Nat) (qpar : Nat) (qpau : Nat) (qpab : Nat) (qdp : Nat) (qdpe : Nat) (qdpr : Nat) (qdpu : Nat) (qdpb : Nat) (ws0 : va_W) (w_3 : IV) (w1p26 : IV) (w2p54 : IV) (w3 : IV) (w4 : IV) (d0 : IV) (d1 : IV) (d2 : IV) (d3 : IV) (d4 : IV) (sp : (IV × IV × IV × IV × IV)) (ok : Prop) : Prop := ∀ (_ : Unit), ok → ∀ z : (IV × IV × IV × IV × IV), z = sp → ∀ (H : Heap) (locs : List Loc) (ls : Array Slot), va_P g.1 vwCl (wPP g qpa qpae qpar qpau qpab qdp qdpe qdpr qdpu qdpb w_3 w1p26 w2p54 w3 w4 d0 d1 d2 d3 d4) H → va_D (inW ws0) (wPP g qpa qpae qpar qpau qpab qdp qdpe qdpr qdpu qdpb w_3 w1p26 w2p54 w3 w4 d0 d1 d2 d3 d4) → va_S (inW ws0) s.heap H locs → lv_has ls 3 [(0, .ref qpa), (1, .ref qdp)] → W p l e rm_Pa_copy s m args below meth c H locs 0 0 (MQ below (CV g ws0 (fun u : IV × IV × IV × IV × IV => wPP g qpa qpae qpar qpau qpab qdp qdpe qdpr qdpu qdpb u.1 u.2.1 u.2.2.1 u.2.2.2.1 u.2.2.2.2 d0 d1 d2 d3 d4) z) args s 0 0 (inW ws0)) (F0 m 80 ls [])
noncomputable def sp_Pa_copy_80 (w_3 : IV) (d0 : IV) (w3 : IV) (d3 : IV) (w4 : IV) (d4 : IV) (w1p26 : IV) (w2p54 : IV)   : IV × IV × IV × IV × IV := lett (upd w_3 5 (d0 5)) fun (w_14 : IV) => lett (sp_He_copy w3 d3) fun (y15 : IV) => lett (sp_He_copy w4 d4) fun (y16 : IV) => lett (upd w_14 8 (d0 8)) fun (w_17 : IV) => lett (upd w_17 9 (d0 9)) fun (w_18 : IV) => lett (upd w_18 10 (d0 10)) fun (w_19 : IV) => lett (upd w_19 11 (d0 11)) fun (w_20 : IV) => lett (upd w_20 12 (d0 12)) fun (w_21 : IV) => lett (upd w_21 13 (d0 13)) fun (w_22 : IV) => lett (upd w_22 14 (d0 14)) fun (w_23 : IV) => lett (upd w_23 15 (d0 15)) fun (w_24 : IV) => lett (upd w_24 16 (d0 16)) fun (w_25 : IV) => lett (upd w_25 17 (d0 17)) fun (w_26 : IV) => (w_26, w1p26, w2p54, y15, y16)
def ok_Pa_copy_80 (w_3 : IV) (d0 : IV) (w3 : IV) (d3 : IV) (w4 : IV) (d4 : IV) (w1p26 : IV) (w2p54 : IV)    : Prop := True
set_option maxRecDepth 100000 in
set_option maxHeartbeats 4000000 in
theorem k_Pa_copy_80 {p : Program} {l : Launch} {e : Env} {s : State} {m : MethodId} {args : Array Value} {below : List Frame} {meth : Method} {c : Code} {g : GX} {qpa : Nat} {qpae : Nat} {qpar : Nat} {qpau : Nat} {qpab : Nat} {qdp : Nat} {qdpe : Nat} {qdpr : Nat} {qdpu : Nat} {qdpb : Nat} {ws0 : va_W} {w_3 : IV} {w1p26 : IV} {w2p54 : IV} {w3 : IV} {w4 : IV} {d0 : IV} {d1 : IV} {d2 : IV} {d3 : IV} {d4 : IV}  (C : Cx p s m args meth c (inW ws0) g "DecadeBridge$Parts" b_Pa_copy none 3)  : HL_Pa_copy_80 p l e s m args below meth c g qpa qpae qpar qpau qpab qdp qdpe qdpr qdpu qdpb ws0 w_3 w1p26 w2p54 w3 w4 d0 d1 d2 d3 d4 (sp_Pa_copy_80 w_3 d0 w3 d3 w4 d4 w1p26 w2p54 ) (ok_Pa_copy_80 w_3 d0 w3 d3 w4 d4 w1p26 w2p54  ) := by
  intro _ hok z hz H locs ls hP hD hS hl
  obtain ⟨hx, hb, hr, hml, hown, hlk, hts, hK, hZo, hZ⟩ := id C
  unfold sp_Pa_copy_80 at hz
  refine lv_aload_n hx hb d_Pa_copy_80 rfl (lv_at hl 0 rfl) ?_
  refine lv_aload_n hx hb d_Pa_copy_81 rfl (lv_at hl 1 rfl) ?_
  refine gf C hP 5 5 fkPa rfl (by decide) rfl qf_Pa_41 (gPa_5 _ _ _ _ _) d_Pa_copy_82 ?_
  refine pfI C hP hD hS 0 5 fkPa rfl (by decide) rfl qf_Pa_41 rfl rfl rfl (Nat.le_of_ble_eq_true rfl) (ff := fun o => fPa qpae qpar qpau qpab o) (sPa_5 _ _ _ _ _ _) d_Pa_copy_85 (fun w_14 ew_14 H locs hP hD hS => ?_)
  have hP : va_P g.1 vwCl (wPP g qpa qpae qpar qpau qpab qdp qdpe qdpr qdpu qdpb w_14 w1p26 w2p54 w3 w4 d0 d1 d2 d3 d4) H := hP
  have hD : va_D (inW ws0) (wPP g qpa qpae qpar qpau qpab qdp qdpe qdpr qdpu qdpb w_14 w1p26 w2p54 w3 w4 d0 d1 d2 d3 d4) := hD
  have hz := lett_z hz ew_14
  refine lv_aload_n hx hb d_Pa_copy_88 rfl (lv_at hl 0 rfl) ?_
  refine gf C hP 0 6 fkPa rfl (by decide) rfl qf_Pa_21 (gPa_6 _ _ _ _ _) d_Pa_copy_89 ?_
  refine lv_aload_n hx hb d_Pa_copy_92 rfl (lv_at hl 1 rfl) ?_
  refine gf C hP 5 6 fkPa rfl (by decide) rfl qf_Pa_21 (gPa_6 _ _ _ _ _) d_Pa_copy_93 ?_
  have hB : SubW g (inW ws0) s (wPP g qpa qpae qpar qpau qpab qdp qdpe qdpr qdpu qdpb w_14 w1p26 w2p54 w3 w4 d0 d1 d2 d3 d4) (wHH g qpau qdpu w3 d3) [3, 8] _ _ := ⟨rfl, rfl, hP, hD, hS⟩
  refine goV1 hB (run_v C mf_He_copy qm_Pa_84 (c_He_copy l g qpau qdpu w3 d3) rfl rfl ⟨Nat.le_of_ble_eq_true rfl, Nat.le_of_ble_eq_true rfl⟩ ⟨Nat.le_of_ble_eq_true rfl, Nat.le_of_ble_eq_true rfl⟩ hB rfl rfl hl rfl rfl (Nat.le_of_ble_eq_true rfl) d_Pa_copy_96) (fun _ => rfl) (fun y15 ey15 H locs hP hD hS => ?_)
  have hP : va_P g.1 vwCl (wPP g qpa qpae qpar qpau qpab qdp qdpe qdpr qdpu qdpb w_14 w1p26 w2p54 y15 w4 d0 d1 d2 d3 d4) H := cP (spq hB.1 hB.2.1 [0, 1, 2, 4, 5, 6, 7, 9] 10 rfl rfl (by decide +kernel) rfl) hP
  have hD : va_D (inW ws0) (wPP g qpa qpae qpar qpau qpab qdp qdpe qdpr qdpu qdpb w_14 w1p26 w2p54 y15 w4 d0 d1 d2 d3 d4) := cD (spq hB.1 hB.2.1 [0, 1, 2, 4, 5, 6, 7, 9] 10 rfl rfl (by decide +kernel) rfl) hD
  have hz := lett_z hz ey15
  refine lv_aload_n hx hb d_Pa_copy_99 rfl (lv_at hl 0 rfl) ?_
  refine gf C hP 0 7 fkPa rfl (by decide) rfl qf_Pa_25 (gPa_7 _ _ _ _ _) d_Pa_copy_100 ?_
  refine lv_aload_n hx hb d_Pa_copy_103 rfl (lv_at hl 1 rfl) ?_
  refine gf C hP 5 7 fkPa rfl (by decide) rfl qf_Pa_25 (gPa_7 _ _ _ _ _) d_Pa_copy_104 ?_
  have hB : SubW g (inW ws0) s (wPP g qpa qpae qpar qpau qpab qdp qdpe qdpr qdpu qdpb w_14 w1p26 w2p54 y15 w4 d0 d1 d2 d3 d4) (wHH g qpab qdpb w4 d4) [4, 9] _ _ := ⟨rfl, rfl, hP, hD, hS⟩
  refine goV1 hB (run_v C mf_He_copy qm_Pa_84 (c_He_copy l g qpab qdpb w4 d4) rfl rfl ⟨Nat.le_of_ble_eq_true rfl, Nat.le_of_ble_eq_true rfl⟩ ⟨Nat.le_of_ble_eq_true rfl, Nat.le_of_ble_eq_true rfl⟩ hB rfl rfl hl rfl rfl (Nat.le_of_ble_eq_true rfl) d_Pa_copy_107) (fun _ => rfl) (fun y16 ey16 H locs hP hD hS => ?_)
  have hP : va_P g.1 vwCl (wPP g qpa qpae qpar qpau qpab qdp qdpe qdpr qdpu qdpb w_14 w1p26 w2p54 y15 y16 d0 d1 d2 d3 d4) H := cP (spq hB.1 hB.2.1 [0, 1, 2, 3, 5, 6, 7, 8] 10 rfl rfl (by decide +kernel) rfl) hP
  have hD : va_D (inW ws0) (wPP g qpa qpae qpar qpau qpab qdp qdpe qdpr qdpu qdpb w_14 w1p26 w2p54 y15 y16 d0 d1 d2 d3 d4) := cD (spq hB.1 hB.2.1 [0, 1, 2, 3, 5, 6, 7, 8] 10 rfl rfl (by decide +kernel) rfl) hD
  have hz := lett_z hz ey16
  refine lv_aload_n hx hb d_Pa_copy_110 rfl (lv_at hl 0 rfl) ?_
  refine lv_aload_n hx hb d_Pa_copy_111 rfl (lv_at hl 1 rfl) ?_
  refine gf C hP 5 8 fkPa rfl (by decide) rfl qf_Pa_45 (gPa_8 _ _ _ _ _) d_Pa_copy_112 ?_
  refine pfI C hP hD hS 0 8 fkPa rfl (by decide) rfl qf_Pa_45 rfl rfl rfl (Nat.le_of_ble_eq_true rfl) (ff := fun o => fPa qpae qpar qpau qpab o) (sPa_8 _ _ _ _ _ _) d_Pa_copy_115 (fun w_17 ew_17 H locs hP hD hS => ?_)
  have hP : va_P g.1 vwCl (wPP g qpa qpae qpar qpau qpab qdp qdpe qdpr qdpu qdpb w_17 w1p26 w2p54 y15 y16 d0 d1 d2 d3 d4) H := hP
  have hD : va_D (inW ws0) (wPP g qpa qpae qpar qpau qpab qdp qdpe qdpr qdpu qdpb w_17 w1p26 w2p54 y15 y16 d0 d1 d2 d3 d4) := hD
  have hz := lett_z hz ew_17
  refine lv_aload_n hx hb d_Pa_copy_118 rfl (lv_at hl 0 rfl) ?_
  refine lv_aload_n hx hb d_Pa_copy_119 rfl (lv_at hl 1 rfl) ?_
  refine gf C hP 5 9 fkPa rfl (by decide) rfl qf_Pa_48 (gPa_9 _ _ _ _ _) d_Pa_copy_120 ?_
  refine pfI C hP hD hS 0 9 fkPa rfl (by decide) rfl qf_Pa_48 rfl rfl rfl (Nat.le_of_ble_eq_true rfl) (ff := fun o => fPa qpae qpar qpau qpab o) (sPa_9 _ _ _ _ _ _) d_Pa_copy_123 (fun w_18 ew_18 H locs hP hD hS => ?_)
  have hP : va_P g.1 vwCl (wPP g qpa qpae qpar qpau qpab qdp qdpe qdpr qdpu qdpb w_18 w1p26 w2p54 y15 y16 d0 d1 d2 d3 d4) H := hP
  have hD : va_D (inW ws0) (wPP g qpa qpae qpar qpau qpab qdp qdpe qdpr qdpu qdpb w_18 w1p26 w2p54 y15 y16 d0 d1 d2 d3 d4) := hD
  have hz := lett_z hz ew_18
  refine lv_aload_n hx hb d_Pa_copy_126 rfl (lv_at hl 0 rfl) ?_
  refine lv_aload_n hx hb d_Pa_copy_127 rfl (lv_at hl 1 rfl) ?_
  refine gf C hP 5 10 fkPa rfl (by decide) rfl qf_Pa_51 (gPa_10 _ _ _ _ _) d_Pa_copy_128 ?_
  refine pfI C hP hD hS 0 10 fkPa rfl (by decide) rfl qf_Pa_51 rfl rfl rfl (Nat.le_of_ble_eq_true rfl) (ff := fun o => fPa qpae qpar qpau qpab o) (sPa_10 _ _ _ _ _ _) d_Pa_copy_131 (fun w_19 ew_19 H locs hP hD hS => ?_)
  have hP : va_P g.1 vwCl (wPP g qpa qpae qpar qpau qpab qdp qdpe qdpr qdpu qdpb w_19 w1p26 w2p54 y15 y16 d0 d1 d2 d3 d4) H := hP
  have hD : va_D (inW ws0) (wPP g qpa qpae qpar qpau qpab qdp qdpe qdpr qdpu qdpb w_19 w1p26 w2p54 y15 y16 d0 d1 d2 d3 d4) := hD
  have hz := lett_z hz ew_19
  refine lv_aload_n hx hb d_Pa_copy_134 rfl (lv_at hl 0 rfl) ?_
  refine lv_aload_n hx hb d_Pa_copy_135 rfl (lv_at hl 1 rfl) ?_
  refine gf C hP 5 11 fkPa rfl (by decide) rfl qf_Pa_54 (gPa_11 _ _ _ _ _) d_Pa_copy_136 ?_
  refine pfI C hP hD hS 0 11 fkPa rfl (by decide) rfl qf_Pa_54 rfl rfl rfl (Nat.le_of_ble_eq_true rfl) (ff := fun o => fPa qpae qpar qpau qpab o) (sPa_11 _ _ _ _ _ _) d_Pa_copy_139 (fun w_20 ew_20 H locs hP hD hS => ?_)
  have hP : va_P g.1 vwCl (wPP g qpa qpae qpar qpau qpab qdp qdpe qdpr qdpu qdpb w_20 w1p26 w2p54 y15 y16 d0 d1 d2 d3 d4) H := hP
  have hD : va_D (inW ws0) (wPP g qpa qpae qpar qpau qpab qdp qdpe qdpr qdpu qdpb w_20 w1p26 w2p54 y15 y16 d0 d1 d2 d3 d4) := hD
  have hz := lett_z hz ew_20
  refine lv_aload_n hx hb d_Pa_copy_142 rfl (lv_at hl 0 rfl) ?_
  refine lv_aload_n hx hb d_Pa_copy_143 rfl (lv_at hl 1 rfl) ?_
  refine gf C hP 5 12 fkPa rfl (by decide) rfl qf_Pa_58 (gPa_12 _ _ _ _ _) d_Pa_copy_144 ?_
  refine pfI C hP hD hS 0 12 fkPa rfl (by decide) rfl qf_Pa_58 rfl rfl rfl (Nat.le_of_ble_eq_true rfl) (ff := fun o => fPa qpae qpar qpau qpab o) (sPa_12 _ _ _ _ _ _) d_Pa_copy_147 (fun w_21 ew_21 H locs hP hD hS => ?_)
  have hP : va_P g.1 vwCl (wPP g qpa qpae qpar qpau qpab qdp qdpe qdpr qdpu qdpb w_21 w1p26 w2p54 y15 y16 d0 d1 d2 d3 d4) H := hP
  have hD : va_D (inW ws0) (wPP g qpa qpae qpar qpau qpab qdp qdpe qdpr qdpu qdpb w_21 w1p26 w2p54 y15 y16 d0 d1 d2 d3 d4) := hD
  have hz := lett_z hz ew_21
  refine lv_aload_n hx hb d_Pa_copy_150 rfl (lv_at hl 0 rfl) ?_
  refine lv_aload_n hx hb d_Pa_copy_151 rfl (lv_at hl 1 rfl) ?_
  refine gf C hP 5 13 fkPa rfl (by decide) rfl qf_Pa_62 (gPa_13 _ _ _ _ _) d_Pa_copy_152 ?_
  refine pfI C hP hD hS 0 13 fkPa rfl (by decide) rfl qf_Pa_62 rfl rfl rfl (Nat.le_of_ble_eq_true rfl) (ff := fun o => fPa qpae qpar qpau qpab o) (sPa_13 _ _ _ _ _ _) d_Pa_copy_155 (fun w_22 ew_22 H locs hP hD hS => ?_)
  have hP : va_P g.1 vwCl (wPP g qpa qpae qpar qpau qpab qdp qdpe qdpr qdpu qdpb w_22 w1p26 w2p54 y15 y16 d0 d1 d2 d3 d4) H := hP
  have hD : va_D (inW ws0) (wPP g qpa qpae qpar qpau qpab qdp qdpe qdpr qdpu qdpb w_22 w1p26 w2p54 y15 y16 d0 d1 d2 d3 d4) := hD
  have hz := lett_z hz ew_22
  refine lv_aload_n hx hb d_Pa_copy_158 rfl (lv_at hl 0 rfl) ?_
  refine lv_aload_n hx hb d_Pa_copy_159 rfl (lv_at hl 1 rfl) ?_
  refine gf C hP 5 14 fkPa rfl (by decide) rfl qf_Pa_65 (gPa_14 _ _ _ _ _) d_Pa_copy_160 ?_
  refine pfI C hP hD hS 0 14 fkPa rfl (by decide) rfl qf_Pa_65 rfl rfl rfl (Nat.le_of_ble_eq_true rfl) (ff := fun o => fPa qpae qpar qpau qpab o) (sPa_14 _ _ _ _ _ _) d_Pa_copy_163 (fun w_23 ew_23 H locs hP hD hS => ?_)
  have hP : va_P g.1 vwCl (wPP g qpa qpae qpar qpau qpab qdp qdpe qdpr qdpu qdpb w_23 w1p26 w2p54 y15 y16 d0 d1 d2 d3 d4) H := hP
  have hD : va_D (inW ws0) (wPP g qpa qpae qpar qpau qpab qdp qdpe qdpr qdpu qdpb w_23 w1p26 w2p54 y15 y16 d0 d1 d2 d3 d4) := hD
  have hz := lett_z hz ew_23
  refine lv_aload_n hx hb d_Pa_copy_166 rfl (lv_at hl 0 rfl) ?_
  refine lv_aload_n hx hb d_Pa_copy_167 rfl (lv_at hl 1 rfl) ?_
  refine gf C hP 5 15 fkPa rfl (by decide) rfl qf_Pa_68 (gPa_15 _ _ _ _ _) d_Pa_copy_168 ?_
  refine pfI C hP hD hS 0 15 fkPa rfl (by decide) rfl qf_Pa_68 rfl rfl rfl (Nat.le_of_ble_eq_true rfl) (ff := fun o => fPa qpae qpar qpau qpab o) (sPa_15 _ _ _ _ _ _) d_Pa_copy_171 (fun w_24 ew_24 H locs hP hD hS => ?_)
  have hP : va_P g.1 vwCl (wPP g qpa qpae qpar qpau qpab qdp qdpe qdpr qdpu qdpb w_24 w1p26 w2p54 y15 y16 d0 d1 d2 d3 d4) H := hP
  have hD : va_D (inW ws0) (wPP g qpa qpae qpar qpau qpab qdp qdpe qdpr qdpu qdpb w_24 w1p26 w2p54 y15 y16 d0 d1 d2 d3 d4) := hD
  have hz := lett_z hz ew_24
  refine lv_aload_n hx hb d_Pa_copy_174 rfl (lv_at hl 0 rfl) ?_
  refine lv_aload_n hx hb d_Pa_copy_175 rfl (lv_at hl 1 rfl) ?_
  refine gf C hP 5 16 fkPa rfl (by decide) rfl qf_Pa_71 (gPa_16 _ _ _ _ _) d_Pa_copy_176 ?_
  refine pfI C hP hD hS 0 16 fkPa rfl (by decide) rfl qf_Pa_71 rfl rfl rfl (Nat.le_of_ble_eq_true rfl) (ff := fun o => fPa qpae qpar qpau qpab o) (sPa_16 _ _ _ _ _ _) d_Pa_copy_179 (fun w_25 ew_25 H locs hP hD hS => ?_)
  have hP : va_P g.1 vwCl (wPP g qpa qpae qpar qpau qpab qdp qdpe qdpr qdpu qdpb w_25 w1p26 w2p54 y15 y16 d0 d1 d2 d3 d4) H := hP
  have hD : va_D (inW ws0) (wPP g qpa qpae qpar qpau qpab qdp qdpe qdpr qdpu qdpb w_25 w1p26 w2p54 y15 y16 d0 d1 d2 d3 d4) := hD
  have hz := lett_z hz ew_25
  refine lv_aload_n hx hb d_Pa_copy_182 rfl (lv_at hl 0 rfl) ?_
  refine lv_aload_n hx hb d_Pa_copy_183 rfl (lv_at hl 1 rfl) ?_
  refine gf C hP 5 17 fkPa rfl (by decide) rfl qf_Pa_74 (gPa_17 _ _ _ _ _) d_Pa_copy_184 ?_
  refine pfI C hP hD hS 0 17 fkPa rfl (by decide) rfl qf_Pa_74 rfl rfl rfl (Nat.le_of_ble_eq_true rfl) (ff := fun o => fPa qpae qpar qpau qpab o) (sPa_17 _ _ _ _ _ _) d_Pa_copy_187 (fun w_26 ew_26 H locs hP hD hS => ?_)
  have hP : va_P g.1 vwCl (wPP g qpa qpae qpar qpau qpab qdp qdpe qdpr qdpu qdpb w_26 w1p26 w2p54 y15 y16 d0 d1 d2 d3 d4) H := hP
  have hD : va_D (inW ws0) (wPP g qpa qpae qpar qpau qpab qdp qdpe qdpr qdpu qdpb w_26 w1p26 w2p54 y15 y16 d0 d1 d2 d3 d4) := hD
  have hz := lett_z hz ew_26
  exact endV C hz hP hS d_Pa_copy_190
noncomputable def bd_Pa_copy_54 (w_3 : IV) (d0 : IV) (w3 : IV) (d3 : IV) (w4 : IV) (d4 : IV) (w1p26 : IV) (d2 : IV) (r54 : Int32 → IV → (IV × IV × IV × IV × IV)) (x2p54 : Int32) (w2p54 : IV) : IV × IV × IV × IV × IV := if (5 : Int32) ≤ x2p54 then (sp_Pa_copy_80 w_3 d0 w3 d3 w4 d4 w1p26 w2p54) else (lett (sp_Pa_errorOfKind x2p54 d2) fun (y10 : Int32) => lett (upd w2p54 x2p54.toNatClampNeg y10) fun (w_12 : IV) => lett (x2p54 + (1 : Int32)) fun (v13 : Int32) => r54 v13 w_12)
def okb_Pa_copy_54 (w_3 : IV) (d0 : IV) (w3 : IV) (d3 : IV) (w4 : IV) (d4 : IV) (w1p26 : IV) (d2 : IV) (r54 : Int32 → IV → (IV × IV × IV × IV × IV)) (q54 : Int32 → IV → Prop) (x2p54 : Int32) (w2p54 : IV) : Prop := (((5 : Int32) ≤ x2p54 → True) ∧ (¬ ((5 : Int32) ≤ x2p54) → lett (sp_Pa_errorOfKind x2p54 d2) fun (y10 : Int32) => (vp_in x2p54 5) ∧ lett (upd w2p54 x2p54.toNatClampNeg y10) fun (w_12 : IV) => lett (x2p54 + (1 : Int32)) fun (v13 : Int32) => q54 v13 w_12))
noncomputable def sp_Pa_copy_54 (w_3 : IV) (d0 : IV) (w3 : IV) (d3 : IV) (w4 : IV) (d4 : IV) (w1p26 : IV) (d2 : IV)  : Nat → Int32 → IV → (IV × IV × IV × IV × IV)
  | 0 => fun _ _ => default
  | f + 1 => bd_Pa_copy_54 w_3 d0 w3 d3 w4 d4 w1p26 d2  (sp_Pa_copy_54 w_3 d0 w3 d3 w4 d4 w1p26 d2  f)
def ok_Pa_copy_54 (w_3 : IV) (d0 : IV) (w3 : IV) (d3 : IV) (w4 : IV) (d4 : IV) (w1p26 : IV) (d2 : IV)   : Nat → Int32 → IV → Prop
  | 0 => fun _ _ => False
  | f + 1 => okb_Pa_copy_54 w_3 d0 w3 d3 w4 d4 w1p26 d2  (sp_Pa_copy_54 w_3 d0 w3 d3 w4 d4 w1p26 d2  f)  (ok_Pa_copy_54 w_3 d0 w3 d3 w4 d4 w1p26 d2   f)
set_option maxRecDepth 100000 in
set_option maxHeartbeats 4000000 in
theorem kb_Pa_copy_54 {p : Program} {l : Launch} {e : Env} {s : State} {m : MethodId} {args : Array Value} {below : List Frame} {meth : Method} {c : Code} {g : GX} {qpa : Nat} {qpae : Nat} {qpar : Nat} {qpau : Nat} {qpab : Nat} {qdp : Nat} {qdpe : Nat} {qdpr : Nat} {qdpu : Nat} {qdpb : Nat} {ws0 : va_W} {w_3 : IV} {w1p26 : IV} {w3 : IV} {w4 : IV} {d0 : IV} {d1 : IV} {d2 : IV} {d3 : IV} {d4 : IV}  (C : Cx p s m args meth c (inW ws0) g "DecadeBridge$Parts" b_Pa_copy none 3) {r54 : Int32 → IV → (IV × IV × IV × IV × IV)} {q54 : Int32 → IV → Prop}  (ih54 : HL_Pa_copy_54 p l e s m args below meth c g qpa qpae qpar qpau qpab qdp qdpe qdpr qdpu qdpb ws0 w_3 w1p26 w3 w4 d0 d1 d2 d3 d4 r54 q54) : HL_Pa_copy_54 p l e s m args below meth c g qpa qpae qpar qpau qpab qdp qdpe qdpr qdpu qdpb ws0 w_3 w1p26 w3 w4 d0 d1 d2 d3 d4 (bd_Pa_copy_54 w_3 d0 w3 d3 w4 d4 w1p26 d2  r54) (okb_Pa_copy_54 w_3 d0 w3 d3 w4 d4 w1p26 d2  r54  q54) := by
  intro x2p54 w2p54 hok z hz H locs ls hP hD hS hl
  obtain ⟨hx, hb, hr, hml, hown, hlk, hts, hK, hZo, hZ⟩ := id C
  unfold bd_Pa_copy_54 at hz
  unfold okb_Pa_copy_54 at hok
  refine lv_iload_n hx hb d_Pa_copy_54 rfl (lv_at hl 2 rfl) ?_
  refine lv_aload_n hx hb d_Pa_copy_55 rfl (lv_at hl 0 rfl) ?_
  refine gf C hP 0 4 fkPa rfl (by decide) rfl qf_Pa_15 (gPa_4 _ _ _ _ _) d_Pa_copy_56 ?_
  refine alen C hP 2 rfl (t0 := 0) rfl (v := 5) rfl d_Pa_copy_59 ?_
  refine lv_icmp_ge (tgt := 80) hx hb d_Pa_copy_60 (by decide) (fun c9 => ?_) (fun c9 => ?_)
  · have hz := hz.trans (if_pos c9)
    exact k_Pa_copy_80 C () trivial _ hz _ _ ls hP hD hS (lv_sub hl [0, 1] rfl)
  · have hz := hz.trans (if_neg c9)
    have hok := hok.2 c9
    refine lv_aload_n hx hb d_Pa_copy_63 rfl (lv_at hl 0 rfl) ?_
    refine gf C hP 0 4 fkPa rfl (by decide) rfl qf_Pa_15 (gPa_4 _ _ _ _ _) d_Pa_copy_64 ?_
    refine lv_iload_n hx hb d_Pa_copy_67 rfl (lv_at hl 2 rfl) ?_
    refine lv_aload_n hx hb d_Pa_copy_68 rfl (lv_at hl 1 rfl) ?_
    refine lv_iload_n hx hb d_Pa_copy_69 rfl (lv_at hl 2 rfl) ?_
    have hB : SubW g (inW ws0) s (wPP g qpa qpae qpar qpau qpab qdp qdpe qdpr qdpu qdpb w_3 w1p26 w2p54 w3 w4 d0 d1 d2 d3 d4) (wPa g qdp qdpe qdpr qdpu qdpb d0 d1 d2 d3 d4) [5, 6, 7, 8, 9] _ _ := ⟨rfl, rfl, hP, hD, hS⟩
    refine goI0 hB (run_v C mf_Pa_errorOfKind qm_Pa_81 (c_Pa_errorOfKind l g qdp qdpe qdpr qdpu qdpb d0 d1 d2 d3 d4 x2p54) rfl rfl ⟨Nat.le_of_ble_eq_true rfl, Nat.le_of_ble_eq_true rfl⟩ ⟨Nat.le_of_ble_eq_true rfl, Nat.le_of_ble_eq_true rfl⟩ hB rfl rfl hl rfl rfl (Nat.le_of_ble_eq_true rfl) d_Pa_copy_70) (fun y10 ey10 H locs hP hS => ?_)
    have hz := lett_z hz ey10
    have hok := lett_o hok ey10
    have hs11 := hok.1
    have hok := hok.2
    refine stI C hP hD hS 2 rfl hs11 rfl d_Pa_copy_73 (fun w_12 ew_12 H locs hP hD hS => ?_)
    have hP : va_P g.1 vwCl (wPP g qpa qpae qpar qpau qpab qdp qdpe qdpr qdpu qdpb w_3 w1p26 w_12 w3 w4 d0 d1 d2 d3 d4) H := hP
    have hD : va_D (inW ws0) (wPP g qpa qpae qpar qpau qpab qdp qdpe qdpr qdpu qdpb w_3 w1p26 w_12 w3 w4 d0 d1 d2 d3 d4) := hD
    have hz := lett_z hz ew_12
    have hok := lett_o hok ew_12
    obtain ⟨v13, ev13⟩ : ∃ y : Int32, y = x2p54 + (1 : Int32) := ⟨_, rfl⟩
    have hz := lett_z hz ev13
    have hok := lett_o hok ev13
    refine lv_iinc (v := v13) (lv' := [(2, .int v13), (0, .ref qpa), (1, .ref qdp)]) hx hb d_Pa_copy_74 hl (k := 2) rfl (by rw [ev13]; rfl) (by decide) rfl (fun ls hl => ?_)
    refine lv_goto (tgt := 54) hx hb d_Pa_copy_77 (by decide) ?_
    exact ih54 v13 w_12 hok _ hz _ _ ls hP hD hS (lv_sub hl [1, 2, 0] rfl)
theorem k_Pa_copy_54 {p : Program} {l : Launch} {e : Env} {s : State} {m : MethodId} {args : Array Value} {below : List Frame} {meth : Method} {c : Code} {g : GX} {qpa : Nat} {qpae : Nat} {qpar : Nat} {qpau : Nat} {qpab : Nat} {qdp : Nat} {qdpe : Nat} {qdpr : Nat} {qdpu : Nat} {qdpb : Nat} {ws0 : va_W} {w_3 : IV} {w1p26 : IV} {w3 : IV} {w4 : IV} {d0 : IV} {d1 : IV} {d2 : IV} {d3 : IV} {d4 : IV}  (C : Cx p s m args meth c (inW ws0) g "DecadeBridge$Parts" b_Pa_copy none 3) (f : Nat)  : HL_Pa_copy_54 p l e s m args below meth c g qpa qpae qpar qpau qpab qdp qdpe qdpr qdpu qdpb ws0 w_3 w1p26 w3 w4 d0 d1 d2 d3 d4 (sp_Pa_copy_54 w_3 d0 w3 d3 w4 d4 w1p26 d2  f) (ok_Pa_copy_54 w_3 d0 w3 d3 w4 d4 w1p26 d2   f) := by
  induction f with
  | zero => intro x2p54 w2p54 hok; exact False.elim hok
  | succ f ih => exact kb_Pa_copy_54 C  ih
noncomputable def sp_Pa_copy_52 (w_3 : IV) (d0 : IV) (w3 : IV) (d3 : IV) (w4 : IV) (d4 : IV) (w1p26 : IV) (d2 : IV) (w2 : IV)   : IV × IV × IV × IV × IV := sp_Pa_copy_54 w_3 d0 w3 d3 w4 d4 w1p26 d2 big (0 : Int32) w2
def ok_Pa_copy_52 (w_3 : IV) (d0 : IV) (w3 : IV) (d3 : IV) (w4 : IV) (d4 : IV) (w1p26 : IV) (d2 : IV) (w2 : IV)    : Prop := ok_Pa_copy_54 w_3 d0 w3 d3 w4 d4 w1p26 d2 big (0 : Int32) w2
set_option maxRecDepth 100000 in
set_option maxHeartbeats 4000000 in
theorem k_Pa_copy_52 {p : Program} {l : Launch} {e : Env} {s : State} {m : MethodId} {args : Array Value} {below : List Frame} {meth : Method} {c : Code} {g : GX} {qpa : Nat} {qpae : Nat} {qpar : Nat} {qpau : Nat} {qpab : Nat} {qdp : Nat} {qdpe : Nat} {qdpr : Nat} {qdpu : Nat} {qdpb : Nat} {ws0 : va_W} {w_3 : IV} {w1p26 : IV} {w2 : IV} {w3 : IV} {w4 : IV} {d0 : IV} {d1 : IV} {d2 : IV} {d3 : IV} {d4 : IV}  (C : Cx p s m args meth c (inW ws0) g "DecadeBridge$Parts" b_Pa_copy none 3)  : HL_Pa_copy_52 p l e s m args below meth c g qpa qpae qpar qpau qpab qdp qdpe qdpr qdpu qdpb ws0 w_3 w1p26 w2 w3 w4 d0 d1 d2 d3 d4 (sp_Pa_copy_52 w_3 d0 w3 d3 w4 d4 w1p26 d2 w2 ) (ok_Pa_copy_52 w_3 d0 w3 d3 w4 d4 w1p26 d2 w2  ) := by
  intro _ hok z hz H locs ls hP hD hS hl
  obtain ⟨hx, hb, hr, hml, hown, hlk, hts, hK, hZo, hZ⟩ := id C
  unfold sp_Pa_copy_52 at hz
  unfold ok_Pa_copy_52 at hok
  refine lv_iconst (v := 0) hx hb d_Pa_copy_52 (by decide) ?_
  refine lv_istore_n (lv' := [(2, .int (0 : Int32)), (0, .ref qpa), (1, .ref qdp)]) hx hb d_Pa_copy_53 rfl hl (by decide) rfl (fun ls hl => ?_)
  exact k_Pa_copy_54 C big (0 : Int32) w2 hok _ hz _ _ ls hP hD hS (lv_sub hl [1, 2, 0] rfl)
noncomputable def bd_Pa_copy_26 (w_3 : IV) (d0 : IV) (w3 : IV) (d3 : IV) (w4 : IV) (d4 : IV) (d2 : IV) (w2 : IV) (d1 : IV) (r26 : Int32 → IV → (IV × IV × IV × IV × IV)) (x2p26 : Int32) (w1p26 : IV) : IV × IV × IV × IV × IV := if (4 : Int32) ≤ x2p26 then (sp_Pa_copy_52 w_3 d0 w3 d3 w4 d4 w1p26 d2 w2) else (lett (sp_Pa_errorOfDecade x2p26 d1) fun (y5 : Int32) => lett (upd w1p26 x2p26.toNatClampNeg y5) fun (w_7 : IV) => lett (x2p26 + (1 : Int32)) fun (v8 : Int32) => r26 v8 w_7)
def okb_Pa_copy_26 (w_3 : IV) (d0 : IV) (w3 : IV) (d3 : IV) (w4 : IV) (d4 : IV) (d2 : IV) (w2 : IV) (d1 : IV) (r26 : Int32 → IV → (IV × IV × IV × IV × IV)) (q26 : Int32 → IV → Prop) (x2p26 : Int32) (w1p26 : IV) : Prop := (((4 : Int32) ≤ x2p26 → ok_Pa_copy_52 w_3 d0 w3 d3 w4 d4 w1p26 d2 w2) ∧ (¬ ((4 : Int32) ≤ x2p26) → lett (sp_Pa_errorOfDecade x2p26 d1) fun (y5 : Int32) => (vp_in x2p26 4) ∧ lett (upd w1p26 x2p26.toNatClampNeg y5) fun (w_7 : IV) => lett (x2p26 + (1 : Int32)) fun (v8 : Int32) => q26 v8 w_7))
noncomputable def sp_Pa_copy_26 (w_3 : IV) (d0 : IV) (w3 : IV) (d3 : IV) (w4 : IV) (d4 : IV) (d2 : IV) (w2 : IV) (d1 : IV)  : Nat → Int32 → IV → (IV × IV × IV × IV × IV)
  | 0 => fun _ _ => default
  | f + 1 => bd_Pa_copy_26 w_3 d0 w3 d3 w4 d4 d2 w2 d1  (sp_Pa_copy_26 w_3 d0 w3 d3 w4 d4 d2 w2 d1  f)
def ok_Pa_copy_26 (w_3 : IV) (d0 : IV) (w3 : IV) (d3 : IV) (w4 : IV) (d4 : IV) (d2 : IV) (w2 : IV) (d1 : IV)   : Nat → Int32 → IV → Prop
  | 0 => fun _ _ => False
  | f + 1 => okb_Pa_copy_26 w_3 d0 w3 d3 w4 d4 d2 w2 d1  (sp_Pa_copy_26 w_3 d0 w3 d3 w4 d4 d2 w2 d1  f)  (ok_Pa_copy_26 w_3 d0 w3 d3 w4 d4 d2 w2 d1   f)
set_option maxRecDepth 100000 in
set_option maxHeartbeats 4000000 in
theorem kb_Pa_copy_26 {p : Program} {l : Launch} {e : Env} {s : State} {m : MethodId} {args : Array Value} {below : List Frame} {meth : Method} {c : Code} {g : GX} {qpa : Nat} {qpae : Nat} {qpar : Nat} {qpau : Nat} {qpab : Nat} {qdp : Nat} {qdpe : Nat} {qdpr : Nat} {qdpu : Nat} {qdpb : Nat} {ws0 : va_W} {w_3 : IV} {w2 : IV} {w3 : IV} {w4 : IV} {d0 : IV} {d1 : IV} {d2 : IV} {d3 : IV} {d4 : IV}  (C : Cx p s m args meth c (inW ws0) g "DecadeBridge$Parts" b_Pa_copy none 3) {r26 : Int32 → IV → (IV × IV × IV × IV × IV)} {q26 : Int32 → IV → Prop}  (ih26 : HL_Pa_copy_26 p l e s m args below meth c g qpa qpae qpar qpau qpab qdp qdpe qdpr qdpu qdpb ws0 w_3 w2 w3 w4 d0 d1 d2 d3 d4 r26 q26) : HL_Pa_copy_26 p l e s m args below meth c g qpa qpae qpar qpau qpab qdp qdpe qdpr qdpu qdpb ws0 w_3 w2 w3 w4 d0 d1 d2 d3 d4 (bd_Pa_copy_26 w_3 d0 w3 d3 w4 d4 d2 w2 d1  r26) (okb_Pa_copy_26 w_3 d0 w3 d3 w4 d4 d2 w2 d1  r26  q26) := by
  intro x2p26 w1p26 hok z hz H locs ls hP hD hS hl
  obtain ⟨hx, hb, hr, hml, hown, hlk, hts, hK, hZo, hZ⟩ := id C
  unfold bd_Pa_copy_26 at hz
  unfold okb_Pa_copy_26 at hok
  refine lv_iload_n hx hb d_Pa_copy_26 rfl (lv_at hl 2 rfl) ?_
  refine lv_aload_n hx hb d_Pa_copy_27 rfl (lv_at hl 0 rfl) ?_
  refine gf C hP 0 3 fkPa rfl (by decide) rfl qf_Pa_9 (gPa_3 _ _ _ _ _) d_Pa_copy_28 ?_
  refine alen C hP 1 rfl (t0 := 0) rfl (v := 4) rfl d_Pa_copy_31 ?_
  refine lv_icmp_ge (tgt := 52) hx hb d_Pa_copy_32 (by decide) (fun c4 => ?_) (fun c4 => ?_)
  · have hz := hz.trans (if_pos c4)
    have hok := hok.1 c4
    exact k_Pa_copy_52 C () hok _ hz _ _ ls hP hD hS (lv_sub hl [0, 1] rfl)
  · have hz := hz.trans (if_neg c4)
    have hok := hok.2 c4
    refine lv_aload_n hx hb d_Pa_copy_35 rfl (lv_at hl 0 rfl) ?_
    refine gf C hP 0 3 fkPa rfl (by decide) rfl qf_Pa_9 (gPa_3 _ _ _ _ _) d_Pa_copy_36 ?_
    refine lv_iload_n hx hb d_Pa_copy_39 rfl (lv_at hl 2 rfl) ?_
    refine lv_aload_n hx hb d_Pa_copy_40 rfl (lv_at hl 1 rfl) ?_
    refine lv_iload_n hx hb d_Pa_copy_41 rfl (lv_at hl 2 rfl) ?_
    have hB : SubW g (inW ws0) s (wPP g qpa qpae qpar qpau qpab qdp qdpe qdpr qdpu qdpb w_3 w1p26 w2 w3 w4 d0 d1 d2 d3 d4) (wPa g qdp qdpe qdpr qdpu qdpb d0 d1 d2 d3 d4) [5, 6, 7, 8, 9] _ _ := ⟨rfl, rfl, hP, hD, hS⟩
    refine goI0 hB (run_v C mf_Pa_errorOfDecade qm_Pa_77 (c_Pa_errorOfDecade l g qdp qdpe qdpr qdpu qdpb d0 d1 d2 d3 d4 x2p26) rfl rfl ⟨Nat.le_of_ble_eq_true rfl, Nat.le_of_ble_eq_true rfl⟩ ⟨Nat.le_of_ble_eq_true rfl, Nat.le_of_ble_eq_true rfl⟩ hB rfl rfl hl rfl rfl (Nat.le_of_ble_eq_true rfl) d_Pa_copy_42) (fun y5 ey5 H locs hP hS => ?_)
    have hz := lett_z hz ey5
    have hok := lett_o hok ey5
    have hs6 := hok.1
    have hok := hok.2
    refine stI C hP hD hS 1 rfl hs6 rfl d_Pa_copy_45 (fun w_7 ew_7 H locs hP hD hS => ?_)
    have hP : va_P g.1 vwCl (wPP g qpa qpae qpar qpau qpab qdp qdpe qdpr qdpu qdpb w_3 w_7 w2 w3 w4 d0 d1 d2 d3 d4) H := hP
    have hD : va_D (inW ws0) (wPP g qpa qpae qpar qpau qpab qdp qdpe qdpr qdpu qdpb w_3 w_7 w2 w3 w4 d0 d1 d2 d3 d4) := hD
    have hz := lett_z hz ew_7
    have hok := lett_o hok ew_7
    obtain ⟨v8, ev8⟩ : ∃ y : Int32, y = x2p26 + (1 : Int32) := ⟨_, rfl⟩
    have hz := lett_z hz ev8
    have hok := lett_o hok ev8
    refine lv_iinc (v := v8) (lv' := [(2, .int v8), (0, .ref qpa), (1, .ref qdp)]) hx hb d_Pa_copy_46 hl (k := 2) rfl (by rw [ev8]; rfl) (by decide) rfl (fun ls hl => ?_)
    refine lv_goto (tgt := 26) hx hb d_Pa_copy_49 (by decide) ?_
    exact ih26 v8 w_7 hok _ hz _ _ ls hP hD hS (lv_sub hl [1, 2, 0] rfl)
theorem k_Pa_copy_26 {p : Program} {l : Launch} {e : Env} {s : State} {m : MethodId} {args : Array Value} {below : List Frame} {meth : Method} {c : Code} {g : GX} {qpa : Nat} {qpae : Nat} {qpar : Nat} {qpau : Nat} {qpab : Nat} {qdp : Nat} {qdpe : Nat} {qdpr : Nat} {qdpu : Nat} {qdpb : Nat} {ws0 : va_W} {w_3 : IV} {w2 : IV} {w3 : IV} {w4 : IV} {d0 : IV} {d1 : IV} {d2 : IV} {d3 : IV} {d4 : IV}  (C : Cx p s m args meth c (inW ws0) g "DecadeBridge$Parts" b_Pa_copy none 3) (f : Nat)  : HL_Pa_copy_26 p l e s m args below meth c g qpa qpae qpar qpau qpab qdp qdpe qdpr qdpu qdpb ws0 w_3 w2 w3 w4 d0 d1 d2 d3 d4 (sp_Pa_copy_26 w_3 d0 w3 d3 w4 d4 d2 w2 d1  f) (ok_Pa_copy_26 w_3 d0 w3 d3 w4 d4 d2 w2 d1   f) := by
  induction f with
  | zero => intro x2p26 w1p26 hok; exact False.elim hok
  | succ f ih => exact kb_Pa_copy_26 C  ih
noncomputable def sp_Pa_copy (w0 : IV) (w1 : IV) (w2 : IV) (w3 : IV) (w4 : IV) (d0 : IV) (d1 : IV) (d2 : IV) (d3 : IV) (d4 : IV) : IV × IV × IV × IV × IV := lett (upd w0 0 (d0 0)) fun (w_1 : IV) => lett (upd w_1 1 (d0 1)) fun (w_2 : IV) => lett (upd w_2 2 (d0 2)) fun (w_3 : IV) => sp_Pa_copy_26 w_3 d0 w3 d3 w4 d4 d2 w2 d1 big (0 : Int32) w1
def ok_Pa_copy (w0 : IV) (w1 : IV) (w2 : IV) (w3 : IV) (w4 : IV) (d0 : IV) (d1 : IV) (d2 : IV) (d3 : IV) (d4 : IV) : Prop := lett (upd w0 0 (d0 0)) fun (w_1 : IV) => lett (upd w_1 1 (d0 1)) fun (w_2 : IV) => lett (upd w_2 2 (d0 2)) fun (w_3 : IV) => ok_Pa_copy_26 w_3 d0 w3 d3 w4 d4 d2 w2 d1 big (0 : Int32) w1
set_option maxRecDepth 100000 in
set_option maxHeartbeats 4000000 in
theorem c_Pa_copy (l : Launch) (g : GX) (qpa : Nat) (qpae : Nat) (qpar : Nat) (qpau : Nat) (qpab : Nat) (qdp : Nat) (qdpe : Nat) (qdpr : Nat) (qdpu : Nat) (qdpb : Nat) (w0 : IV) (w1 : IV) (w2 : IV) (w3 : IV) (w4 : IV) (d0 : IV) (d1 : IV) (d2 : IV) (d3 : IV) (d4 : IV)  (hok : ok_Pa_copy w0 w1 w2 w3 w4 d0 d1 d2 d3 d4) : Met l y_Pa_copy (wsY y_Pa_copy b_Pa_copy 3 none) rm_Pa_copy (CP g [.ref qpa, .ref qdp] (wPP g qpa qpae qpar qpau qpab qdp qdpe qdpr qdpu qdpb w0 w1 w2 w3 w4 d0 d1 d2 d3 d4)) (CV g (wPP g qpa qpae qpar qpau qpab qdp qdpe qdpr qdpu qdpb w0 w1 w2 w3 w4 d0 d1 d2 d3 d4) (fun u : IV × IV × IV × IV × IV => wPP g qpa qpae qpar qpau qpab qdp qdpe qdpr qdpu qdpb u.1 u.2.1 u.2.2.1 u.2.2.2.1 u.2.2.2.2 d0 d1 d2 d3 d4) (sp_Pa_copy w0 w1 w2 w3 w4 d0 d1 d2 d3 d4)) 0 0 (inW (wPP g qpa qpae qpar qpau qpab qdp qdpe qdpr qdpu qdpb w0 w1 w2 w3 w4 d0 d1 d2 d3 d4)) := by
  refine Met.ofW (cc := b_Pa_copy) (maxL := 3) (ret := none) pn_Pa rfl ?_
  intro p e s m args below meth c s₁ B hml hv
  obtain ⟨rfl, C, hP, hD, hS⟩ := enter "DecadeBridge$Parts" rfl B hml hv
  obtain ⟨hx, hb, hr, hml, hown, hlk, hts, hK, hZo, hZ⟩ := id C
  refine entryW (lv := [(0, .ref qpa), (1, .ref qdp)]) rfl (Nat.le_of_ble_eq_true rfl) (fun ls hl => ?_)
  obtain ⟨z, hz⟩ : ∃ z, z = sp_Pa_copy w0 w1 w2 w3 w4 d0 d1 d2 d3 d4 := ⟨_, rfl⟩
  rw [← hz]
  unfold sp_Pa_copy at hz
  unfold ok_Pa_copy at hok
  refine lv_aload_n hx hb d_Pa_copy_0 rfl (lv_at hl 0 rfl) ?_
  refine lv_aload_n hx hb d_Pa_copy_1 rfl (lv_at hl 1 rfl) ?_
  refine gf C hP 5 0 fkPa rfl (by decide) rfl qf_Pa_31 (gPa_0 _ _ _ _ _) d_Pa_copy_2 ?_
  refine pfI C hP hD hS 0 0 fkPa rfl (by decide) rfl qf_Pa_31 rfl rfl rfl (Nat.le_of_ble_eq_true rfl) (ff := fun o => fPa qpae qpar qpau qpab o) (sPa_0 _ _ _ _ _ _) d_Pa_copy_5 (fun w_1 ew_1 H locs hP hD hS => ?_)
  have hP : va_P g.1 vwCl (wPP g qpa qpae qpar qpau qpab qdp qdpe qdpr qdpu qdpb w_1 w1 w2 w3 w4 d0 d1 d2 d3 d4) H := hP
  have hD : va_D (inW (wPP g qpa qpae qpar qpau qpab qdp qdpe qdpr qdpu qdpb w0 w1 w2 w3 w4 d0 d1 d2 d3 d4)) (wPP g qpa qpae qpar qpau qpab qdp qdpe qdpr qdpu qdpb w_1 w1 w2 w3 w4 d0 d1 d2 d3 d4) := hD
  have hz := lett_z hz ew_1
  have hok := lett_o hok ew_1
  refine lv_aload_n hx hb d_Pa_copy_8 rfl (lv_at hl 0 rfl) ?_
  refine lv_aload_n hx hb d_Pa_copy_9 rfl (lv_at hl 1 rfl) ?_
  refine gf C hP 5 1 fkPa rfl (by decide) rfl qf_Pa_35 (gPa_1 _ _ _ _ _) d_Pa_copy_10 ?_
  refine pfI C hP hD hS 0 1 fkPa rfl (by decide) rfl qf_Pa_35 rfl rfl rfl (Nat.le_of_ble_eq_true rfl) (ff := fun o => fPa qpae qpar qpau qpab o) (sPa_1 _ _ _ _ _ _) d_Pa_copy_13 (fun w_2 ew_2 H locs hP hD hS => ?_)
  have hP : va_P g.1 vwCl (wPP g qpa qpae qpar qpau qpab qdp qdpe qdpr qdpu qdpb w_2 w1 w2 w3 w4 d0 d1 d2 d3 d4) H := hP
  have hD : va_D (inW (wPP g qpa qpae qpar qpau qpab qdp qdpe qdpr qdpu qdpb w0 w1 w2 w3 w4 d0 d1 d2 d3 d4)) (wPP g qpa qpae qpar qpau qpab qdp qdpe qdpr qdpu qdpb w_2 w1 w2 w3 w4 d0 d1 d2 d3 d4) := hD
  have hz := lett_z hz ew_2
  have hok := lett_o hok ew_2
  refine lv_aload_n hx hb d_Pa_copy_16 rfl (lv_at hl 0 rfl) ?_
  refine lv_aload_n hx hb d_Pa_copy_17 rfl (lv_at hl 1 rfl) ?_
  refine gf C hP 5 2 fkPa rfl (by decide) rfl qf_Pa_38 (gPa_2 _ _ _ _ _) d_Pa_copy_18 ?_
  refine pfI C hP hD hS 0 2 fkPa rfl (by decide) rfl qf_Pa_38 rfl rfl rfl (Nat.le_of_ble_eq_true rfl) (ff := fun o => fPa qpae qpar qpau qpab o) (sPa_2 _ _ _ _ _ _) d_Pa_copy_21 (fun w_3 ew_3 H locs hP hD hS => ?_)
  have hP : va_P g.1 vwCl (wPP g qpa qpae qpar qpau qpab qdp qdpe qdpr qdpu qdpb w_3 w1 w2 w3 w4 d0 d1 d2 d3 d4) H := hP
  have hD : va_D (inW (wPP g qpa qpae qpar qpau qpab qdp qdpe qdpr qdpu qdpb w0 w1 w2 w3 w4 d0 d1 d2 d3 d4)) (wPP g qpa qpae qpar qpau qpab qdp qdpe qdpr qdpu qdpb w_3 w1 w2 w3 w4 d0 d1 d2 d3 d4) := hD
  have hz := lett_z hz ew_3
  have hok := lett_o hok ew_3
  refine lv_iconst (v := 0) hx hb d_Pa_copy_24 (by decide) ?_
  refine lv_istore_n (lv' := [(2, .int (0 : Int32)), (0, .ref qpa), (1, .ref qdp)]) hx hb d_Pa_copy_25 rfl hl (by decide) rfl (fun ls hl => ?_)
  exact k_Pa_copy_26 C big (0 : Int32) w1 hok _ hz _ _ ls hP hD hS (lv_sub hl [1, 2, 0] rfl)
abbrev rm_Pr_orderOf : Room := { frames := 1, cells := 0, slots := 0, locals := 21 }
noncomputable def sp_Pr_orderOf (p1 : Int32) (po : IV) : Int32 := lett (sp_Pr_inRow30 p1 po) fun (y1 : Int32) => y1
set_option maxRecDepth 100000 in
set_option maxHeartbeats 4000000 in
theorem c_Pr_orderOf (l : Launch) (g : GX) (qpr : Nat) (qpro : Nat) (qprf : Nat) (qprs : Nat) (qprb : Nat) (qprn : Nat) (qprt : Nat) (qte : Nat) (qteb : Nat) (pi : IV) (po : IV) (pf : IV) (ps : IV) (pb : IV) (pn : IV) (pt : IV) (t : IV) (tb : IV) (p1 : Int32) : Met l y_Pr_orderOf (wsY y_Pr_orderOf b_Pr_orderOf 2 (some .int)) rm_Pr_orderOf (CP g [.ref qpr, .int p1] (wPr g qpr qpro qprf qprs qprb qprn qprt qte qteb pi po pf ps pb pn pt t tb)) (CI0 g (wPr g qpr qpro qprf qprs qprb qprn qprt qte qteb pi po pf ps pb pn pt t tb) (sp_Pr_orderOf p1 po)) 0 0 (inW (wPr g qpr qpro qprf qprs qprb qprn qprt qte qteb pi po pf ps pb pn pt t tb)) := by
  refine Met.ofW (cc := b_Pr_orderOf) (maxL := 2) (ret := (some .int)) pn_Pr rfl ?_
  intro p e s m args below meth c s₁ B hml hv
  obtain ⟨rfl, C, hP, hD, hS⟩ := enter "DecadeBridge$Protocol" rfl B hml hv
  obtain ⟨hx, hb, hr, hml, hown, hlk, hts, hK, hZo, hZ⟩ := id C
  refine entryW (lv := [(0, .ref qpr), (1, .int p1)]) rfl (Nat.le_of_ble_eq_true rfl) (fun ls hl => ?_)
  obtain ⟨z, hz⟩ : ∃ z, z = sp_Pr_orderOf p1 po := ⟨_, rfl⟩
  rw [← hz]
  unfold sp_Pr_orderOf at hz
  refine lv_aload_n hx hb d_Pr_orderOf_0 rfl (lv_at hl 0 rfl) ?_
  refine gf C hP 0 1 fkPr rfl (by decide) rfl qf_Pr_11 (gPr_1 _ _ _ _ _ _ _ _) d_Pr_orderOf_1 ?_
  refine lv_iload_n hx hb d_Pr_orderOf_4 rfl (lv_at hl 1 rfl) ?_
  have hB : SubW g (inW (wPr g qpr qpro qprf qprs qprb qprn qprt qte qteb pi po pf ps pb pn pt t tb)) s (wPr g qpr qpro qprf qprs qprb qprn qprt qte qteb pi po pf ps pb pn pt t tb) (wA30 g qpro po) [1] _ _ := ⟨rfl, rfl, hP, hD, hS⟩
  refine goI0 hB (run_s C mf_Pr_inRow qm_Pr_34 (c_Pr_inRow30 l g qpro po p1) rfl rfl ⟨Nat.le_of_ble_eq_true rfl, Nat.le_of_ble_eq_true rfl⟩ ⟨Nat.le_of_ble_eq_true rfl, Nat.le_of_ble_eq_true rfl⟩ hB hl rfl rfl (Nat.le_of_ble_eq_true rfl) d_Pr_orderOf_5) (fun y1 ey1 H locs hP hS => ?_)
  have hz := lett_z hz ey1
  exact endI0 C hz hP hS d_Pr_orderOf_8
abbrev rm_Pr_firstOf : Room := { frames := 1, cells := 0, slots := 0, locals := 21 }
noncomputable def sp_Pr_firstOf (p1 : Int32) (pf : IV) : Int32 := lett (sp_Pr_inRow30 p1 pf) fun (y1 : Int32) => y1
set_option maxRecDepth 100000 in
set_option maxHeartbeats 4000000 in
theorem c_Pr_firstOf (l : Launch) (g : GX) (qpr : Nat) (qpro : Nat) (qprf : Nat) (qprs : Nat) (qprb : Nat) (qprn : Nat) (qprt : Nat) (qte : Nat) (qteb : Nat) (pi : IV) (po : IV) (pf : IV) (ps : IV) (pb : IV) (pn : IV) (pt : IV) (t : IV) (tb : IV) (p1 : Int32) : Met l y_Pr_firstOf (wsY y_Pr_firstOf b_Pr_firstOf 2 (some .int)) rm_Pr_firstOf (CP g [.ref qpr, .int p1] (wPr g qpr qpro qprf qprs qprb qprn qprt qte qteb pi po pf ps pb pn pt t tb)) (CI0 g (wPr g qpr qpro qprf qprs qprb qprn qprt qte qteb pi po pf ps pb pn pt t tb) (sp_Pr_firstOf p1 pf)) 0 0 (inW (wPr g qpr qpro qprf qprs qprb qprn qprt qte qteb pi po pf ps pb pn pt t tb)) := by
  refine Met.ofW (cc := b_Pr_firstOf) (maxL := 2) (ret := (some .int)) pn_Pr rfl ?_
  intro p e s m args below meth c s₁ B hml hv
  obtain ⟨rfl, C, hP, hD, hS⟩ := enter "DecadeBridge$Protocol" rfl B hml hv
  obtain ⟨hx, hb, hr, hml, hown, hlk, hts, hK, hZo, hZ⟩ := id C
  refine entryW (lv := [(0, .ref qpr), (1, .int p1)]) rfl (Nat.le_of_ble_eq_true rfl) (fun ls hl => ?_)
  obtain ⟨z, hz⟩ : ∃ z, z = sp_Pr_firstOf p1 pf := ⟨_, rfl⟩
  rw [← hz]
  unfold sp_Pr_firstOf at hz
  refine lv_aload_n hx hb d_Pr_firstOf_0 rfl (lv_at hl 0 rfl) ?_
  refine gf C hP 0 2 fkPr rfl (by decide) rfl qf_Pr_15 (gPr_2 _ _ _ _ _ _ _ _) d_Pr_firstOf_1 ?_
  refine lv_iload_n hx hb d_Pr_firstOf_4 rfl (lv_at hl 1 rfl) ?_
  have hB : SubW g (inW (wPr g qpr qpro qprf qprs qprb qprn qprt qte qteb pi po pf ps pb pn pt t tb)) s (wPr g qpr qpro qprf qprs qprb qprn qprt qte qteb pi po pf ps pb pn pt t tb) (wA30 g qprf pf) [2] _ _ := ⟨rfl, rfl, hP, hD, hS⟩
  refine goI0 hB (run_s C mf_Pr_inRow qm_Pr_34 (c_Pr_inRow30 l g qprf pf p1) rfl rfl ⟨Nat.le_of_ble_eq_true rfl, Nat.le_of_ble_eq_true rfl⟩ ⟨Nat.le_of_ble_eq_true rfl, Nat.le_of_ble_eq_true rfl⟩ hB hl rfl rfl (Nat.le_of_ble_eq_true rfl) d_Pr_firstOf_5) (fun y1 ey1 H locs hP hS => ?_)
  have hz := lett_z hz ey1
  exact endI0 C hz hP hS d_Pr_firstOf_8
abbrev rm_Pr_secondOf : Room := { frames := 1, cells := 0, slots := 0, locals := 21 }
noncomputable def sp_Pr_secondOf (p1 : Int32) (ps : IV) : Int32 := lett (sp_Pr_inRow30 p1 ps) fun (y1 : Int32) => y1
set_option maxRecDepth 100000 in
set_option maxHeartbeats 4000000 in
theorem c_Pr_secondOf (l : Launch) (g : GX) (qpr : Nat) (qpro : Nat) (qprf : Nat) (qprs : Nat) (qprb : Nat) (qprn : Nat) (qprt : Nat) (qte : Nat) (qteb : Nat) (pi : IV) (po : IV) (pf : IV) (ps : IV) (pb : IV) (pn : IV) (pt : IV) (t : IV) (tb : IV) (p1 : Int32) : Met l y_Pr_secondOf (wsY y_Pr_secondOf b_Pr_secondOf 2 (some .int)) rm_Pr_secondOf (CP g [.ref qpr, .int p1] (wPr g qpr qpro qprf qprs qprb qprn qprt qte qteb pi po pf ps pb pn pt t tb)) (CI0 g (wPr g qpr qpro qprf qprs qprb qprn qprt qte qteb pi po pf ps pb pn pt t tb) (sp_Pr_secondOf p1 ps)) 0 0 (inW (wPr g qpr qpro qprf qprs qprb qprn qprt qte qteb pi po pf ps pb pn pt t tb)) := by
  refine Met.ofW (cc := b_Pr_secondOf) (maxL := 2) (ret := (some .int)) pn_Pr rfl ?_
  intro p e s m args below meth c s₁ B hml hv
  obtain ⟨rfl, C, hP, hD, hS⟩ := enter "DecadeBridge$Protocol" rfl B hml hv
  obtain ⟨hx, hb, hr, hml, hown, hlk, hts, hK, hZo, hZ⟩ := id C
  refine entryW (lv := [(0, .ref qpr), (1, .int p1)]) rfl (Nat.le_of_ble_eq_true rfl) (fun ls hl => ?_)
  obtain ⟨z, hz⟩ : ∃ z, z = sp_Pr_secondOf p1 ps := ⟨_, rfl⟩
  rw [← hz]
  unfold sp_Pr_secondOf at hz
  refine lv_aload_n hx hb d_Pr_secondOf_0 rfl (lv_at hl 0 rfl) ?_
  refine gf C hP 0 3 fkPr rfl (by decide) rfl qf_Pr_18 (gPr_3 _ _ _ _ _ _ _ _) d_Pr_secondOf_1 ?_
  refine lv_iload_n hx hb d_Pr_secondOf_4 rfl (lv_at hl 1 rfl) ?_
  have hB : SubW g (inW (wPr g qpr qpro qprf qprs qprb qprn qprt qte qteb pi po pf ps pb pn pt t tb)) s (wPr g qpr qpro qprf qprs qprb qprn qprt qte qteb pi po pf ps pb pn pt t tb) (wA30 g qprs ps) [3] _ _ := ⟨rfl, rfl, hP, hD, hS⟩
  refine goI0 hB (run_s C mf_Pr_inRow qm_Pr_34 (c_Pr_inRow30 l g qprs ps p1) rfl rfl ⟨Nat.le_of_ble_eq_true rfl, Nat.le_of_ble_eq_true rfl⟩ ⟨Nat.le_of_ble_eq_true rfl, Nat.le_of_ble_eq_true rfl⟩ hB hl rfl rfl (Nat.le_of_ble_eq_true rfl) d_Pr_secondOf_5) (fun y1 ey1 H locs hP hS => ?_)
  have hz := lett_z hz ey1
  exact endI0 C hz hP hS d_Pr_secondOf_8
abbrev rm_Pr_next : Room := { frames := 2, cells := 0, slots := 0, locals := 42 }
def HL_Pr_next_2 (p : Program) (l : Launch) (e : Env) (s : State) (m : MethodId) (args : Array Value) (below : List Frame) (meth : Method) (c : Code) (g : GX) (qpr : Nat) (qpro : Nat) (qprf : Nat) (qprs : Nat) (qprb : Nat) (qprn : Nat) (qprt : Nat) (qte : Nat) (qteb : Nat) (ws0 : va_W) (po : IV) (pf : IV) (ps : IV) (pb : IV) (t : IV) (tb : IV) (p1 : Int32) (sp : Int32 → IV → IV → IV → (Int32 × IV × IV × IV)) (ok : Int32 → IV → IV → IV → Prop) : Prop := ∀ (x2p2 : Int32) (pip2 : IV) (pnp2 : IV) (ptp2 : IV), ok x2p2 pip2 pnp2 ptp2 → ∀ z : (Int32 × IV × IV × IV), z = sp x2p2 pip2 pnp2 ptp2 → ∀ (H : Heap) (locs : List Loc) (ls : Array Slot), va_P g.1 vwCl (wPr g qpr qpro qprf qprs qprb qprn qprt qte qteb pip2 po pf ps pb pnp2 ptp2 t tb) H → va_D (inW ws0) (wPr g qpr qpro qprf qprs qprb qprn qprt qte qteb pip2 po pf ps pb pnp2 ptp2 t tb) → va_S (inW ws0) s.heap H locs → lv_has ls 4 [(0, .ref qpr), (1, .int p1), (2, .int x2p2)] → W p l e rm_Pr_next s m args below meth c H locs 0 0 (MQ below (CI g ws0 (fun u : IV × IV × IV => wPr g qpr qpro qprf qprs qprb qprn qprt qte qteb u.1 po pf ps pb u.2.1 u.2.2 t tb) z) args s 0 0 (inW ws0)) (F0 m 2 ls [])
def HL_Pr_next_32 (p : Program) (l : Launch) (e : Env) (s : State) (m : MethodId) (args : Array Value) (below : List Frame) (meth : Method) (c : Code) (g : GX) (qpr : Nat) (qpro : Nat) (qprf : Nat) (qprs : Nat) (qprb : Nat) (qprn : Nat) (qprt : Nat) (qte : Nat) (qteb : Nat) (ws0 : va_W) (pip2 : IV) (po : IV) (pf : IV) (ps : IV) (pb : IV) (pnp2 : IV) (ptp2 : IV) (t : IV) (tb : IV) (p1 : Int32) (x2p2 : Int32) (sp : Int32 → (Int32 × IV × IV × IV)) (ok : Int32 → Prop) : Prop := ∀ (t0p32 : Int32), ok t0p32 → ∀ z : (Int32 × IV × IV × IV), z = sp t0p32 → ∀ (H : Heap) (locs : List Loc) (ls : Array Slot), va_P g.1 vwCl (wPr g qpr qpro qprf qprs qprb qprn qprt qte qteb pip2 po pf ps pb pnp2 ptp2 t tb) H → va_D (inW ws0) (wPr g qpr qpro qprf qprs qprb qprn qprt qte qteb pip2 po pf ps pb pnp2 ptp2 t tb) → va_S (inW ws0) s.heap H locs → lv_has ls 4 [(0, .ref qpr), (1, .int p1), (2, .int x2p2)] → W p l e rm_Pr_next s m args below meth c H locs 0 0 (MQ below (CI g ws0 (fun u : IV × IV × IV => wPr g qpr qpro qprf qprs qprb qprn qprt qte qteb u.1 po pf ps pb u.2.1 u.2.2 t tb) z) args s 0 0 (inW ws0)) (F0 m 32 ls [.int t0p32])
def HL_Pr_next_61 (p : Program) (l : Launch) (e : Env) (s : State) (m : MethodId) (args : Array Value) (below : List Frame) (meth : Method) (c : Code) (g : GX) (qpr : Nat) (qpro : Nat) (qprf : Nat) (qprs : Nat) (qprb : Nat) (qprn : Nat) (qprt : Nat) (qte : Nat) (qteb : Nat) (ws0 : va_W) (pip2 : IV) (po : IV) (pf : IV) (ps : IV) (pb : IV) (pnp2 : IV) (ptp2 : IV) (t : IV) (tb : IV) (p1 : Int32) (x2p2 : Int32) (sp : (Int32 × IV × IV × IV)) (ok : Prop) : Prop := ∀ (_ : Unit), ok → ∀ z : (Int32 × IV × IV × IV), z = sp → ∀ (H : Heap) (locs : List Loc) (ls : Array Slot), va_P g.1 vwCl (wPr g qpr qpro qprf qprs qprb qprn qprt qte qteb pip2 po pf ps pb pnp2 ptp2 t tb) H → va_D (inW ws0) (wPr g qpr qpro qprf qprs qprb qprn qprt qte qteb pip2 po pf ps pb pnp2 ptp2 t tb) → va_S (inW ws0) s.heap H locs → lv_has ls 4 [(0, .ref qpr), (1, .int p1), (2, .int x2p2)] → W p l e rm_Pr_next s m args below meth c H locs 0 0 (MQ below (CI g ws0 (fun u : IV × IV × IV => wPr g qpr qpro qprf qprs qprb qprn qprt qte qteb u.1 po pf ps pb u.2.1 u.2.2 t tb) z) args s 0 0 (inW ws0)) (F0 m 61 ls [])
def HL_Pr_next_141 (p : Program) (l : Launch) (e : Env) (s : State) (m : MethodId) (args : Array Value) (below : List Frame) (meth : Method) (c : Code) (g : GX) (qpr : Nat) (qpro : Nat) (qprf : Nat) (qprs : Nat) (qprb : Nat) (qprn : Nat) (qprt : Nat) (qte : Nat) (qteb : Nat) (ws0 : va_W) (pip2 : IV) (po : IV) (pf : IV) (ps : IV) (pb : IV) (pnp2 : IV) (ptp2 : IV) (t : IV) (tb : IV) (p1 : Int32) (x2p2 : Int32) (sp : Int32 → (Int32 × IV × IV × IV)) (ok : Int32 → Prop) : Prop := ∀ (t1p141 : Int32), ok t1p141 → ∀ z : (Int32 × IV × IV × IV), z = sp t1p141 → ∀ (H : Heap) (locs : List Loc) (ls : Array Slot), va_P g.1 vwCl (wPr g qpr qpro qprf qprs qprb qprn qprt qte qteb pip2 po pf ps pb pnp2 ptp2 t tb) H → va_D (inW ws0) (wPr g qpr qpro qprf qprs qprb qprn qprt qte qteb pip2 po pf ps pb pnp2 ptp2 t tb) → va_S (inW ws0) s.heap H locs → lv_has ls 4 [(0, .ref qpr), (1, .int p1), (2, .int x2p2)] → W p l e rm_Pr_next s m args below meth c H locs 0 0 (MQ below (CI g ws0 (fun u : IV × IV × IV => wPr g qpr qpro qprf qprs qprb qprn qprt qte qteb u.1 po pf ps pb u.2.1 u.2.2 t tb) z) args s 0 0 (inW ws0)) (F0 m 141 ls [.int t1p141, .ref qpr])
def HL_Pr_next_164 (p : Program) (l : Launch) (e : Env) (s : State) (m : MethodId) (args : Array Value) (below : List Frame) (meth : Method) (c : Code) (g : GX) (qpr : Nat) (qpro : Nat) (qprf : Nat) (qprs : Nat) (qprb : Nat) (qprn : Nat) (qprt : Nat) (qte : Nat) (qteb : Nat) (ws0 : va_W) (po : IV) (pf : IV) (ps : IV) (pb : IV) (t : IV) (tb : IV) (p1 : Int32) (x2p2 : Int32) (sp : IV → IV → IV → (Int32 × IV × IV × IV)) (ok : IV → IV → IV → Prop) : Prop := ∀ (pip164 : IV) (pnp164 : IV) (ptp164 : IV), ok pip164 pnp164 ptp164 → ∀ z : (Int32 × IV × IV × IV), z = sp pip164 pnp164 ptp164 → ∀ (H : Heap) (locs : List Loc) (ls : Array Slot), va_P g.1 vwCl (wPr g qpr qpro qprf qprs qprb qprn qprt qte qteb pip164 po pf ps pb pnp164 ptp164 t tb) H → va_D (inW ws0) (wPr g qpr qpro qprf qprs qprb qprn qprt qte qteb pip164 po pf ps pb pnp164 ptp164 t tb) → va_S (inW ws0) s.heap H locs → lv_has ls 4 [(0, .ref qpr), (1, .int p1), (2, .int x2p2)] → W p l e rm_Pr_next s m args below meth c H locs 0 0 (MQ below (CI g ws0 (fun u : IV × IV × IV => wPr g qpr qpro qprf qprs qprb qprn qprt qte qteb u.1 po pf ps pb u.2.1 u.2.2 t tb) z) args s 0 0 (inW ws0)) (F0 m 164 ls [])
def HL_Pr_next_147 (p : Program) (l : Launch) (e : Env) (s : State) (m : MethodId) (args : Array Value) (below : List Frame) (meth : Method) (c : Code) (g : GX) (qpr : Nat) (qpro : Nat) (qprf : Nat) (qprs : Nat) (qprb : Nat) (qprn : Nat) (qprt : Nat) (qte : Nat) (qteb : Nat) (ws0 : va_W) (pip2 : IV) (po : IV) (pf : IV) (ps : IV) (pb : IV) (pnp2 : IV) (ptp2 : IV) (t : IV) (tb : IV) (sp : (Int32 × IV × IV × IV)) (ok : Prop) : Prop := ∀ (_ : Unit), ok → ∀ z : (Int32 × IV × IV × IV), z = sp → ∀ (H : Heap) (locs : List Loc) (ls : Array Slot), va_P g.1 vwCl (wPr g qpr qpro qprf qprs qprb qprn qprt qte qteb pip2 po pf ps pb pnp2 ptp2 t tb) H → va_D (inW ws0) (wPr g qpr qpro qprf qprs qprb qprn qprt qte qteb pip2 po pf ps pb pnp2 ptp2 t tb) → va_S (inW ws0) s.heap H locs → lv_has ls 4 [(0, .ref qpr)] → W p l e rm_Pr_next s m args below meth c H locs 0 0 (MQ below (CI g ws0 (fun u : IV × IV × IV => wPr g qpr qpro qprf qprs qprb qprn qprt qte qteb u.1 po pf ps pb u.2.1 u.2.2 t tb) z) args s 0 0 (inW ws0)) (F0 m 147 ls [])
noncomputable def sp_Pr_next_147 (pip2 : IV) (pnp2 : IV) (ptp2 : IV)   : Int32 × IV × IV × IV := lett (upd pip2 9 ((pip2 9) + (1 : Int32))) fun (pi_19 : IV) => ((pi_19 9) - (1 : Int32), (pi_19, pnp2, ptp2))
def ok_Pr_next_147 (pip2 : IV) (pnp2 : IV) (ptp2 : IV)    : Prop := True
set_option maxRecDepth 100000 in
set_option maxHeartbeats 4000000 in
theorem k_Pr_next_147 {p : Program} {l : Launch} {e : Env} {s : State} {m : MethodId} {args : Array Value} {below : List Frame} {meth : Method} {c : Code} {g : GX} {qpr : Nat} {qpro : Nat} {qprf : Nat} {qprs : Nat} {qprb : Nat} {qprn : Nat} {qprt : Nat} {qte : Nat} {qteb : Nat} {ws0 : va_W} {pip2 : IV} {po : IV} {pf : IV} {ps : IV} {pb : IV} {pnp2 : IV} {ptp2 : IV} {t : IV} {tb : IV}  (C : Cx p s m args meth c (inW ws0) g "DecadeBridge$Protocol" b_Pr_next (some .int) 4)  : HL_Pr_next_147 p l e s m args below meth c g qpr qpro qprf qprs qprb qprn qprt qte qteb ws0 pip2 po pf ps pb pnp2 ptp2 t tb (sp_Pr_next_147 pip2 pnp2 ptp2 ) (ok_Pr_next_147 pip2 pnp2 ptp2  ) := by
  intro _ hok z hz H locs ls hP hD hS hl
  obtain ⟨hx, hb, hr, hml, hown, hlk, hts, hK, hZo, hZ⟩ := id C
  unfold sp_Pr_next_147 at hz
  refine lv_aload_n hx hb d_Pr_next_147 rfl (lv_at hl 0 rfl) ?_
  refine lv_dup hx hb d_Pr_next_148 rfl ?_
  refine gf C hP 0 9 fkPr rfl (by decide) rfl qf_Pr_120 (gPr_9 _ _ _ _ _ _ _ _) d_Pr_next_149 ?_
  refine lv_iconst (v := 1) hx hb d_Pr_next_152 (by decide) ?_
  refine lv_iadd hx hb d_Pr_next_153 ?_
  refine pfI C hP hD hS 0 9 fkPr rfl (by decide) rfl qf_Pr_120 rfl rfl rfl (Nat.le_of_ble_eq_true rfl) (ff := fun o => fPr qte qpro qprf qprs qprb qprn qprt o) (sPr_9 _ _ _ _ _ _ _ _ _) d_Pr_next_154 (fun pi_19 epi_19 H locs hP hD hS => ?_)
  have hP : va_P g.1 vwCl (wPr g qpr qpro qprf qprs qprb qprn qprt qte qteb pi_19 po pf ps pb pnp2 ptp2 t tb) H := hP
  have hD : va_D (inW ws0) (wPr g qpr qpro qprf qprs qprb qprn qprt qte qteb pi_19 po pf ps pb pnp2 ptp2 t tb) := hD
  have hz := lett_z hz epi_19
  refine lv_aload_n hx hb d_Pr_next_157 rfl (lv_at hl 0 rfl) ?_
  refine gf C hP 0 9 fkPr rfl (by decide) rfl qf_Pr_120 (gPr_9 _ _ _ _ _ _ _ _) d_Pr_next_158 ?_
  refine lv_iconst (v := 1) hx hb d_Pr_next_161 (by decide) ?_
  refine lv_isub hx hb d_Pr_next_162 ?_
  exact endI1 C hz hP hS d_Pr_next_163
noncomputable def sp_Pr_next_164 (x2p2 : Int32) (r2 : Int32 → IV → IV → IV → (Int32 × IV × IV × IV)) (pip164 : IV) (pnp164 : IV) (ptp164 : IV) : Int32 × IV × IV × IV := lett (x2p2 + (1 : Int32)) fun (v18 : Int32) => r2 v18 pip164 pnp164 ptp164
def ok_Pr_next_164 (x2p2 : Int32) (r2 : Int32 → IV → IV → IV → (Int32 × IV × IV × IV)) (q2 : Int32 → IV → IV → IV → Prop) (pip164 : IV) (pnp164 : IV) (ptp164 : IV) : Prop := lett (x2p2 + (1 : Int32)) fun (v18 : Int32) => q2 v18 pip164 pnp164 ptp164
set_option maxRecDepth 100000 in
set_option maxHeartbeats 4000000 in
theorem k_Pr_next_164 {p : Program} {l : Launch} {e : Env} {s : State} {m : MethodId} {args : Array Value} {below : List Frame} {meth : Method} {c : Code} {g : GX} {qpr : Nat} {qpro : Nat} {qprf : Nat} {qprs : Nat} {qprb : Nat} {qprn : Nat} {qprt : Nat} {qte : Nat} {qteb : Nat} {ws0 : va_W} {po : IV} {pf : IV} {ps : IV} {pb : IV} {t : IV} {tb : IV} {p1 : Int32} {x2p2 : Int32} {r2 : Int32 → IV → IV → IV → (Int32 × IV × IV × IV)} {q2 : Int32 → IV → IV → IV → Prop} (C : Cx p s m args meth c (inW ws0) g "DecadeBridge$Protocol" b_Pr_next (some .int) 4) (ih2 : HL_Pr_next_2 p l e s m args below meth c g qpr qpro qprf qprs qprb qprn qprt qte qteb ws0 po pf ps pb t tb p1 r2 q2) : HL_Pr_next_164 p l e s m args below meth c g qpr qpro qprf qprs qprb qprn qprt qte qteb ws0 po pf ps pb t tb p1 x2p2 (sp_Pr_next_164 x2p2 r2) (ok_Pr_next_164 x2p2 r2 q2) := by
  intro pip164 pnp164 ptp164 hok z hz H locs ls hP hD hS hl
  obtain ⟨hx, hb, hr, hml, hown, hlk, hts, hK, hZo, hZ⟩ := id C
  unfold sp_Pr_next_164 at hz
  unfold ok_Pr_next_164 at hok
  obtain ⟨v18, ev18⟩ : ∃ y : Int32, y = x2p2 + (1 : Int32) := ⟨_, rfl⟩
  have hz := lett_z hz ev18
  have hok := lett_o hok ev18
  refine lv_iinc (v := v18) (lv' := [(2, .int v18), (0, .ref qpr), (1, .int p1)]) hx hb d_Pr_next_164 hl (k := 2) rfl (by rw [ev18]; rfl) (by decide) rfl (fun ls hl => ?_)
  refine lv_goto (tgt := 2) hx hb d_Pr_next_167 (by decide) ?_
  exact ih2 v18 pip164 pnp164 ptp164 hok _ hz _ _ ls hP hD hS (lv_sub hl [1, 2, 0] rfl)
noncomputable def sp_Pr_next_141 (pip2 : IV) (pb : IV) (pnp2 : IV) (ptp2 : IV) (x2p2 : Int32) (r2 : Int32 → IV → IV → IV → (Int32 × IV × IV × IV)) (t1p141 : Int32) : Int32 × IV × IV × IV := lett (sp_Pr_enter t1p141 pip2 pb pnp2 ptp2) fun (y17 : IV × IV × IV) => sp_Pr_next_164 x2p2 r2 y17.1 y17.2.1 y17.2.2
def ok_Pr_next_141 (pip2 : IV) (pb : IV) (pnp2 : IV) (ptp2 : IV) (x2p2 : Int32) (r2 : Int32 → IV → IV → IV → (Int32 × IV × IV × IV)) (q2 : Int32 → IV → IV → IV → Prop) (t1p141 : Int32) : Prop := lett (sp_Pr_enter t1p141 pip2 pb pnp2 ptp2) fun (y17 : IV × IV × IV) => ok_Pr_next_164 x2p2 r2 q2 y17.1 y17.2.1 y17.2.2
set_option maxRecDepth 100000 in
set_option maxHeartbeats 4000000 in
theorem k_Pr_next_141 {p : Program} {l : Launch} {e : Env} {s : State} {m : MethodId} {args : Array Value} {below : List Frame} {meth : Method} {c : Code} {g : GX} {qpr : Nat} {qpro : Nat} {qprf : Nat} {qprs : Nat} {qprb : Nat} {qprn : Nat} {qprt : Nat} {qte : Nat} {qteb : Nat} {ws0 : va_W} {pip2 : IV} {po : IV} {pf : IV} {ps : IV} {pb : IV} {pnp2 : IV} {ptp2 : IV} {t : IV} {tb : IV} {p1 : Int32} {x2p2 : Int32} {r2 : Int32 → IV → IV → IV → (Int32 × IV × IV × IV)} {q2 : Int32 → IV → IV → IV → Prop} (C : Cx p s m args meth c (inW ws0) g "DecadeBridge$Protocol" b_Pr_next (some .int) 4) (ih2 : HL_Pr_next_2 p l e s m args below meth c g qpr qpro qprf qprs qprb qprn qprt qte qteb ws0 po pf ps pb t tb p1 r2 q2) : HL_Pr_next_141 p l e s m args below meth c g qpr qpro qprf qprs qprb qprn qprt qte qteb ws0 pip2 po pf ps pb pnp2 ptp2 t tb p1 x2p2 (sp_Pr_next_141 pip2 pb pnp2 ptp2 x2p2 r2) (ok_Pr_next_141 pip2 pb pnp2 ptp2 x2p2 r2 q2) := by
  intro t1p141 hok z hz H locs ls hP hD hS hl
  obtain ⟨hx, hb, hr, hml, hown, hlk, hts, hK, hZo, hZ⟩ := id C
  unfold sp_Pr_next_141 at hz
  unfold ok_Pr_next_141 at hok
  have hB : SubW g (inW ws0) s (wPr g qpr qpro qprf qprs qprb qprn qprt qte qteb pip2 po pf ps pb pnp2 ptp2 t tb) _ (List.range _) _ _ := (subF hP hD hS)
  refine goVF hB (run_v C mf_Pr_enter qm_Pr_127 (c_Pr_enter l g qpr qpro qprf qprs qprb qprn qprt qte qteb pip2 po pf ps pb pnp2 ptp2 t tb t1p141) rfl rfl ⟨Nat.le_of_ble_eq_true rfl, Nat.le_of_ble_eq_true rfl⟩ ⟨Nat.le_of_ble_eq_true rfl, Nat.le_of_ble_eq_true rfl⟩ hB rfl rfl hl rfl rfl (Nat.le_of_ble_eq_true rfl) d_Pr_next_141) (fun _ => rfl) (fun y17 ey17 H locs hP hD hS => ?_)
  have hP : va_P g.1 vwCl (wPr g qpr qpro qprf qprs qprb qprn qprt qte qteb y17.1 po pf ps pb y17.2.1 y17.2.2 t tb) H := hP
  have hD : va_D (inW ws0) (wPr g qpr qpro qprf qprs qprb qprn qprt qte qteb y17.1 po pf ps pb y17.2.1 y17.2.2 t tb) := hD
  have hz := lett_z hz ey17
  have hok := lett_o hok ey17
  refine lv_goto (tgt := 164) hx hb d_Pr_next_144 (by decide) ?_
  exact k_Pr_next_164 C ih2 y17.1 y17.2.1 y17.2.2 hok _ hz _ _ ls hP hD hS hl
noncomputable def sp_Pr_next_61 (pip2 : IV) (pnp2 : IV) (ptp2 : IV) (po : IV) (pf : IV) (pb : IV) (x2p2 : Int32) (p1 : Int32) (r2 : Int32 → IV → IV → IV → (Int32 × IV × IV × IV))  : Int32 × IV × IV × IV := if (pip2 9) < 0 then (((-1 : Int32), (pip2, pnp2, ptp2))) else (if (pip2 9) < (pip2 7) then (lett (sp_Pr_inRow30 (pip2 9) po) fun (y10 : Int32) => if y10 = (8 : Int32) then (lett (sp_Pr_inRow30 (pip2 9) pf) fun (y15 : Int32) => lett (sp_Pr_enter y15 pip2 pb pnp2 ptp2) fun (y16 : IV × IV × IV) => sp_Pr_next_164 x2p2 r2 y16.1 y16.2.1 y16.2.2) else (lett (sp_Pr_inRow30 (pip2 9) po) fun (y12 : Int32) => if y12 = (9 : Int32) then (if p1 = 0 then (sp_Pr_next_141 pip2 pb pnp2 ptp2 x2p2 r2 (1 : Int32)) else (sp_Pr_next_141 pip2 pb pnp2 ptp2 x2p2 r2 (0 : Int32))) else (sp_Pr_next_147 pip2 pnp2 ptp2))) else (((-1 : Int32), (pip2, pnp2, ptp2))))
def ok_Pr_next_61 (pip2 : IV) (pnp2 : IV) (ptp2 : IV) (po : IV) (pf : IV) (pb : IV) (x2p2 : Int32) (p1 : Int32) (r2 : Int32 → IV → IV → IV → (Int32 × IV × IV × IV)) (q2 : Int32 → IV → IV → IV → Prop)  : Prop := (((pip2 9) < 0 → True) ∧ (¬ ((pip2 9) < 0) → (((pip2 9) < (pip2 7) → lett (sp_Pr_inRow30 (pip2 9) po) fun (y10 : Int32) => ((y10 = (8 : Int32) → lett (sp_Pr_inRow30 (pip2 9) pf) fun (y15 : Int32) => lett (sp_Pr_enter y15 pip2 pb pnp2 ptp2) fun (y16 : IV × IV × IV) => ok_Pr_next_164 x2p2 r2 q2 y16.1 y16.2.1 y16.2.2) ∧ (¬ (y10 = (8 : Int32)) → lett (sp_Pr_inRow30 (pip2 9) po) fun (y12 : Int32) => ((y12 = (9 : Int32) → ((p1 = 0 → ok_Pr_next_141 pip2 pb pnp2 ptp2 x2p2 r2 q2 (1 : Int32)) ∧ (¬ (p1 = 0) → ok_Pr_next_141 pip2 pb pnp2 ptp2 x2p2 r2 q2 (0 : Int32)))) ∧ (¬ (y12 = (9 : Int32)) → True))))) ∧ (¬ ((pip2 9) < (pip2 7)) → True))))
set_option maxRecDepth 100000 in
set_option maxHeartbeats 4000000 in
theorem k_Pr_next_61 {p : Program} {l : Launch} {e : Env} {s : State} {m : MethodId} {args : Array Value} {below : List Frame} {meth : Method} {c : Code} {g : GX} {qpr : Nat} {qpro : Nat} {qprf : Nat} {qprs : Nat} {qprb : Nat} {qprn : Nat} {qprt : Nat} {qte : Nat} {qteb : Nat} {ws0 : va_W} {pip2 : IV} {po : IV} {pf : IV} {ps : IV} {pb : IV} {pnp2 : IV} {ptp2 : IV} {t : IV} {tb : IV} {p1 : Int32} {x2p2 : Int32} {r2 : Int32 → IV → IV → IV → (Int32 × IV × IV × IV)} {q2 : Int32 → IV → IV → IV → Prop} (C : Cx p s m args meth c (inW ws0) g "DecadeBridge$Protocol" b_Pr_next (some .int) 4) (ih2 : HL_Pr_next_2 p l e s m args below meth c g qpr qpro qprf qprs qprb qprn qprt qte qteb ws0 po pf ps pb t tb p1 r2 q2) : HL_Pr_next_61 p l e s m args below meth c g qpr qpro qprf qprs qprb qprn qprt qte qteb ws0 pip2 po pf ps pb pnp2 ptp2 t tb p1 x2p2 (sp_Pr_next_61 pip2 pnp2 ptp2 po pf pb x2p2 p1 r2) (ok_Pr_next_61 pip2 pnp2 ptp2 po pf pb x2p2 p1 r2 q2) := by
  intro _ hok z hz H locs ls hP hD hS hl
  obtain ⟨hx, hb, hr, hml, hown, hlk, hts, hK, hZo, hZ⟩ := id C
  unfold sp_Pr_next_61 at hz
  unfold ok_Pr_next_61 at hok
  refine lv_aload_n hx hb d_Pr_next_61 rfl (lv_at hl 0 rfl) ?_
  refine gf C hP 0 9 fkPr rfl (by decide) rfl qf_Pr_120 (gPr_9 _ _ _ _ _ _ _ _) d_Pr_next_62 ?_
  refine lv_if_lt (tgt := 79) hx hb d_Pr_next_65 (by decide) (fun c8 => ?_) (fun c8 => ?_)
  · have hz := hz.trans (if_pos c8)
    refine lv_iconst (v := -1) hx hb d_Pr_next_79 (by decide) ?_
    exact endI1 C hz hP hS d_Pr_next_80
  · have hz := hz.trans (if_neg c8)
    have hok := hok.2 c8
    refine lv_aload_n hx hb d_Pr_next_68 rfl (lv_at hl 0 rfl) ?_
    refine gf C hP 0 9 fkPr rfl (by decide) rfl qf_Pr_120 (gPr_9 _ _ _ _ _ _ _ _) d_Pr_next_69 ?_
    refine lv_aload_n hx hb d_Pr_next_72 rfl (lv_at hl 0 rfl) ?_
    refine gf C hP 0 7 fkPr rfl (by decide) rfl qf_Pr_38 (gPr_7 _ _ _ _ _ _ _ _) d_Pr_next_73 ?_
    refine lv_icmp_lt (tgt := 81) hx hb d_Pr_next_76 (by decide) (fun c9 => ?_) (fun c9 => ?_)
    · have hz := hz.trans (if_pos c9)
      have hok := hok.1 c9
      refine lv_aload_n hx hb d_Pr_next_81 rfl (lv_at hl 0 rfl) ?_
      refine gf C hP 0 1 fkPr rfl (by decide) rfl qf_Pr_11 (gPr_1 _ _ _ _ _ _ _ _) d_Pr_next_82 ?_
      refine lv_aload_n hx hb d_Pr_next_85 rfl (lv_at hl 0 rfl) ?_
      refine gf C hP 0 9 fkPr rfl (by decide) rfl qf_Pr_120 (gPr_9 _ _ _ _ _ _ _ _) d_Pr_next_86 ?_
      have hB : SubW g (inW ws0) s (wPr g qpr qpro qprf qprs qprb qprn qprt qte qteb pip2 po pf ps pb pnp2 ptp2 t tb) (wA30 g qpro po) [1] _ _ := ⟨rfl, rfl, hP, hD, hS⟩
      refine goI0 hB (run_s C mf_Pr_inRow qm_Pr_34 (c_Pr_inRow30 l g qpro po (pip2 9)) rfl rfl ⟨Nat.le_of_ble_eq_true rfl, Nat.le_of_ble_eq_true rfl⟩ ⟨Nat.le_of_ble_eq_true rfl, Nat.le_of_ble_eq_true rfl⟩ hB hl rfl rfl (Nat.le_of_ble_eq_true rfl) d_Pr_next_89) (fun y10 ey10 H locs hP hS => ?_)
      have hz := lett_z hz ey10
      have hok := lett_o hok ey10
      refine lv_bipush (v := 8) hx hb d_Pr_next_92 (by decide) ?_
      refine lv_icmp_ne (tgt := 115) hx hb d_Pr_next_94 (by decide) (fun c11 => ?_) (fun c11 => ?_)
      · have hz := hz.trans (if_neg c11)
        have hok := hok.2 c11
        refine lv_aload_n hx hb d_Pr_next_115 rfl (lv_at hl 0 rfl) ?_
        refine gf C hP 0 1 fkPr rfl (by decide) rfl qf_Pr_11 (gPr_1 _ _ _ _ _ _ _ _) d_Pr_next_116 ?_
        refine lv_aload_n hx hb d_Pr_next_119 rfl (lv_at hl 0 rfl) ?_
        refine gf C hP 0 9 fkPr rfl (by decide) rfl qf_Pr_120 (gPr_9 _ _ _ _ _ _ _ _) d_Pr_next_120 ?_
        have hB : SubW g (inW ws0) s (wPr g qpr qpro qprf qprs qprb qprn qprt qte qteb pip2 po pf ps pb pnp2 ptp2 t tb) (wA30 g qpro po) [1] _ _ := ⟨rfl, rfl, hP, hD, hS⟩
        refine goI0 hB (run_s C mf_Pr_inRow qm_Pr_34 (c_Pr_inRow30 l g qpro po (pip2 9)) rfl rfl ⟨Nat.le_of_ble_eq_true rfl, Nat.le_of_ble_eq_true rfl⟩ ⟨Nat.le_of_ble_eq_true rfl, Nat.le_of_ble_eq_true rfl⟩ hB hl rfl rfl (Nat.le_of_ble_eq_true rfl) d_Pr_next_123) (fun y12 ey12 H locs hP hS => ?_)
        have hz := lett_z hz ey12
        have hok := lett_o hok ey12
        refine lv_bipush (v := 9) hx hb d_Pr_next_126 (by decide) ?_
        refine lv_icmp_ne (tgt := 147) hx hb d_Pr_next_128 (by decide) (fun c13 => ?_) (fun c13 => ?_)
        · have hz := hz.trans (if_neg c13)
          exact k_Pr_next_147 C () trivial _ hz _ _ ls hP hD hS (lv_sub hl [0] rfl)
        · have hz := hz.trans (if_pos c13)
          have hok := hok.1 c13
          refine lv_aload_n hx hb d_Pr_next_131 rfl (lv_at hl 0 rfl) ?_
          refine lv_iload_n hx hb d_Pr_next_132 rfl (lv_at hl 1 rfl) ?_
          refine lv_if_eq (tgt := 140) hx hb d_Pr_next_133 (by decide) (fun c14 => ?_) (fun c14 => ?_)
          · have hz := hz.trans (if_pos c14)
            have hok := hok.1 c14
            refine lv_iconst (v := 1) hx hb d_Pr_next_140 (by decide) ?_
            exact k_Pr_next_141 C ih2 (1 : Int32) hok _ hz _ _ ls hP hD hS hl
          · have hz := hz.trans (if_neg c14)
            have hok := hok.2 c14
            refine lv_iconst (v := 0) hx hb d_Pr_next_136 (by decide) ?_
            refine lv_goto (tgt := 141) hx hb d_Pr_next_137 (by decide) ?_
            exact k_Pr_next_141 C ih2 (0 : Int32) hok _ hz _ _ ls hP hD hS hl
      · have hz := hz.trans (if_pos c11)
        have hok := hok.1 c11
        refine lv_aload_n hx hb d_Pr_next_97 rfl (lv_at hl 0 rfl) ?_
        refine lv_aload_n hx hb d_Pr_next_98 rfl (lv_at hl 0 rfl) ?_
        refine gf C hP 0 2 fkPr rfl (by decide) rfl qf_Pr_15 (gPr_2 _ _ _ _ _ _ _ _) d_Pr_next_99 ?_
        refine lv_aload_n hx hb d_Pr_next_102 rfl (lv_at hl 0 rfl) ?_
        refine gf C hP 0 9 fkPr rfl (by decide) rfl qf_Pr_120 (gPr_9 _ _ _ _ _ _ _ _) d_Pr_next_103 ?_
        have hB : SubW g (inW ws0) s (wPr g qpr qpro qprf qprs qprb qprn qprt qte qteb pip2 po pf ps pb pnp2 ptp2 t tb) (wA30 g qprf pf) [2] _ _ := ⟨rfl, rfl, hP, hD, hS⟩
        refine goI0 hB (run_s C mf_Pr_inRow qm_Pr_34 (c_Pr_inRow30 l g qprf pf (pip2 9)) rfl rfl ⟨Nat.le_of_ble_eq_true rfl, Nat.le_of_ble_eq_true rfl⟩ ⟨Nat.le_of_ble_eq_true rfl, Nat.le_of_ble_eq_true rfl⟩ hB hl rfl rfl (Nat.le_of_ble_eq_true rfl) d_Pr_next_106) (fun y15 ey15 H locs hP hS => ?_)
        have hz := lett_z hz ey15
        have hok := lett_o hok ey15
        have hB : SubW g (inW ws0) s (wPr g qpr qpro qprf qprs qprb qprn qprt qte qteb pip2 po pf ps pb pnp2 ptp2 t tb) _ (List.range _) _ _ := (subF hP hD hS)
        refine goVF hB (run_v C mf_Pr_enter qm_Pr_127 (c_Pr_enter l g qpr qpro qprf qprs qprb qprn qprt qte qteb pip2 po pf ps pb pnp2 ptp2 t tb y15) rfl rfl ⟨Nat.le_of_ble_eq_true rfl, Nat.le_of_ble_eq_true rfl⟩ ⟨Nat.le_of_ble_eq_true rfl, Nat.le_of_ble_eq_true rfl⟩ hB rfl rfl hl rfl rfl (Nat.le_of_ble_eq_true rfl) d_Pr_next_109) (fun _ => rfl) (fun y16 ey16 H locs hP hD hS => ?_)
        have hP : va_P g.1 vwCl (wPr g qpr qpro qprf qprs qprb qprn qprt qte qteb y16.1 po pf ps pb y16.2.1 y16.2.2 t tb) H := hP
        have hD : va_D (inW ws0) (wPr g qpr qpro qprf qprs qprb qprn qprt qte qteb y16.1 po pf ps pb y16.2.1 y16.2.2 t tb) := hD
        have hz := lett_z hz ey16
        have hok := lett_o hok ey16
        refine lv_goto (tgt := 164) hx hb d_Pr_next_112 (by decide) ?_
        exact k_Pr_next_164 C ih2 y16.1 y16.2.1 y16.2.2 hok _ hz _ _ ls hP hD hS hl
    · have hz := hz.trans (if_neg c9)
      refine lv_iconst (v := -1) hx hb d_Pr_next_79 (by decide) ?_
      exact endI1 C hz hP hS d_Pr_next_80
noncomputable def sp_Pr_next_32 (pip2 : IV) (pnp2 : IV) (ptp2 : IV) (po : IV) (pf : IV) (pb : IV) (x2p2 : Int32) (p1 : Int32) (r2 : Int32 → IV → IV → IV → (Int32 × IV × IV × IV)) (t0p32 : Int32) : Int32 × IV × IV × IV := if t0p32 = (-1 : Int32) then (sp_Pr_next_61 pip2 pnp2 ptp2 po pf pb x2p2 p1 r2) else (lett (sp_Pr_inRow30 t0p32 pb) fun (y5 : Int32) => if (pip2 9) = y5 then (lett (sp_Pr_endTurn t0p32 pip2 ptp2) fun (y7 : IV × IV) => sp_Pr_next_164 x2p2 r2 y7.1 pnp2 y7.2) else (sp_Pr_next_61 pip2 pnp2 ptp2 po pf pb x2p2 p1 r2))
def ok_Pr_next_32 (pip2 : IV) (pnp2 : IV) (ptp2 : IV) (po : IV) (pf : IV) (pb : IV) (x2p2 : Int32) (p1 : Int32) (r2 : Int32 → IV → IV → IV → (Int32 × IV × IV × IV)) (q2 : Int32 → IV → IV → IV → Prop) (t0p32 : Int32) : Prop := ((t0p32 = (-1 : Int32) → ok_Pr_next_61 pip2 pnp2 ptp2 po pf pb x2p2 p1 r2 q2) ∧ (¬ (t0p32 = (-1 : Int32)) → lett (sp_Pr_inRow30 t0p32 pb) fun (y5 : Int32) => (((pip2 9) = y5 → lett (sp_Pr_endTurn t0p32 pip2 ptp2) fun (y7 : IV × IV) => ok_Pr_next_164 x2p2 r2 q2 y7.1 pnp2 y7.2) ∧ (¬ ((pip2 9) = y5) → ok_Pr_next_61 pip2 pnp2 ptp2 po pf pb x2p2 p1 r2 q2))))
set_option maxRecDepth 100000 in
set_option maxHeartbeats 4000000 in
theorem k_Pr_next_32 {p : Program} {l : Launch} {e : Env} {s : State} {m : MethodId} {args : Array Value} {below : List Frame} {meth : Method} {c : Code} {g : GX} {qpr : Nat} {qpro : Nat} {qprf : Nat} {qprs : Nat} {qprb : Nat} {qprn : Nat} {qprt : Nat} {qte : Nat} {qteb : Nat} {ws0 : va_W} {pip2 : IV} {po : IV} {pf : IV} {ps : IV} {pb : IV} {pnp2 : IV} {ptp2 : IV} {t : IV} {tb : IV} {p1 : Int32} {x2p2 : Int32} {r2 : Int32 → IV → IV → IV → (Int32 × IV × IV × IV)} {q2 : Int32 → IV → IV → IV → Prop} (C : Cx p s m args meth c (inW ws0) g "DecadeBridge$Protocol" b_Pr_next (some .int) 4) (ih2 : HL_Pr_next_2 p l e s m args below meth c g qpr qpro qprf qprs qprb qprn qprt qte qteb ws0 po pf ps pb t tb p1 r2 q2) : HL_Pr_next_32 p l e s m args below meth c g qpr qpro qprf qprs qprb qprn qprt qte qteb ws0 pip2 po pf ps pb pnp2 ptp2 t tb p1 x2p2 (sp_Pr_next_32 pip2 pnp2 ptp2 po pf pb x2p2 p1 r2) (ok_Pr_next_32 pip2 pnp2 ptp2 po pf pb x2p2 p1 r2 q2) := by
  intro t0p32 hok z hz H locs ls hP hD hS hl
  obtain ⟨hx, hb, hr, hml, hown, hlk, hts, hK, hZo, hZ⟩ := id C
  unfold sp_Pr_next_32 at hz
  unfold ok_Pr_next_32 at hok
  refine lv_istore_n (lv' := [(3, .int t0p32), (0, .ref qpr), (1, .int p1), (2, .int x2p2)]) hx hb d_Pr_next_32 rfl hl (by decide) rfl (fun ls hl => ?_)
  refine lv_iload_n hx hb d_Pr_next_33 rfl (lv_at hl 0 rfl) ?_
  refine lv_iconst (v := -1) hx hb d_Pr_next_34 (by decide) ?_
  refine lv_icmp_eq (tgt := 61) hx hb d_Pr_next_35 (by decide) (fun c4 => ?_) (fun c4 => ?_)
  · have hz := hz.trans (if_pos c4)
    have hok := hok.1 c4
    exact k_Pr_next_61 C ih2 () hok _ hz _ _ ls hP hD hS (lv_sub hl [1, 2, 3] rfl)
  · have hz := hz.trans (if_neg c4)
    have hok := hok.2 c4
    refine lv_aload_n hx hb d_Pr_next_38 rfl (lv_at hl 1 rfl) ?_
    refine gf C hP 0 9 fkPr rfl (by decide) rfl qf_Pr_120 (gPr_9 _ _ _ _ _ _ _ _) d_Pr_next_39 ?_
    refine lv_aload_n hx hb d_Pr_next_42 rfl (lv_at hl 1 rfl) ?_
    refine gf C hP 0 4 fkPr rfl (by decide) rfl qf_Pr_21 (gPr_4 _ _ _ _ _ _ _ _) d_Pr_next_43 ?_
    refine lv_iload_n hx hb d_Pr_next_46 rfl (lv_at hl 0 rfl) ?_
    have hB : SubW g (inW ws0) s (wPr g qpr qpro qprf qprs qprb qprn qprt qte qteb pip2 po pf ps pb pnp2 ptp2 t tb) (wA30 g qprb pb) [4] _ _ := ⟨rfl, rfl, hP, hD, hS⟩
    refine goI0 hB (run_s C mf_Pr_inRow qm_Pr_34 (c_Pr_inRow30 l g qprb pb t0p32) rfl rfl ⟨Nat.le_of_ble_eq_true rfl, Nat.le_of_ble_eq_true rfl⟩ ⟨Nat.le_of_ble_eq_true rfl, Nat.le_of_ble_eq_true rfl⟩ hB hl rfl rfl (Nat.le_of_ble_eq_true rfl) d_Pr_next_47) (fun y5 ey5 H locs hP hS => ?_)
    have hz := lett_z hz ey5
    have hok := lett_o hok ey5
    refine lv_icmp_ne (tgt := 61) hx hb d_Pr_next_50 (by decide) (fun c6 => ?_) (fun c6 => ?_)
    · have hz := hz.trans (if_neg c6)
      have hok := hok.2 c6
      exact k_Pr_next_61 C ih2 () hok _ hz _ _ ls hP hD hS (lv_sub hl [1, 2, 3] rfl)
    · have hz := hz.trans (if_pos c6)
      have hok := hok.1 c6
      refine lv_aload_n hx hb d_Pr_next_53 rfl (lv_at hl 1 rfl) ?_
      refine lv_iload_n hx hb d_Pr_next_54 rfl (lv_at hl 0 rfl) ?_
      have hB : SubW g (inW ws0) s (wPr g qpr qpro qprf qprs qprb qprn qprt qte qteb pip2 po pf ps pb pnp2 ptp2 t tb) _ (List.range _) _ _ := (subF hP hD hS)
      refine goVF hB (run_v C mf_Pr_endTurn qm_Pr_124 (c_Pr_endTurn l g qpr qpro qprf qprs qprb qprn qprt qte qteb pip2 po pf ps pb pnp2 ptp2 t tb t0p32) rfl rfl ⟨Nat.le_of_ble_eq_true rfl, Nat.le_of_ble_eq_true rfl⟩ ⟨Nat.le_of_ble_eq_true rfl, Nat.le_of_ble_eq_true rfl⟩ hB rfl rfl hl rfl rfl (Nat.le_of_ble_eq_true rfl) d_Pr_next_55) (fun _ => rfl) (fun y7 ey7 H locs hP hD hS => ?_)
      have hP : va_P g.1 vwCl (wPr g qpr qpro qprf qprs qprb qprn qprt qte qteb y7.1 po pf ps pb pnp2 y7.2 t tb) H := hP
      have hD : va_D (inW ws0) (wPr g qpr qpro qprf qprs qprb qprn qprt qte qteb y7.1 po pf ps pb pnp2 y7.2 t tb) := hD
      have hz := lett_z hz ey7
      have hok := lett_o hok ey7
      refine lv_goto (tgt := 164) hx hb d_Pr_next_58 (by decide) ?_
      exact k_Pr_next_164 C ih2 y7.1 pnp2 y7.2 hok _ hz _ _ ls hP hD hS (lv_sub hl [1, 2, 3] rfl)
noncomputable def bd_Pr_next_2 (po : IV) (pf : IV) (pb : IV) (p1 : Int32) (r2 : Int32 → IV → IV → IV → (Int32 × IV × IV × IV)) (x2p2 : Int32) (pip2 : IV) (pnp2 : IV) (ptp2 : IV) : Int32 × IV × IV × IV := if (1000000 : Int32) ≤ x2p2 then (((-1 : Int32), (pip2, pnp2, ptp2))) else (if (pip2 8) ≤ 0 then (sp_Pr_next_32 pip2 pnp2 ptp2 po pf pb x2p2 p1 r2 (-1 : Int32)) else (lett (sp_Pr_inRow2 ((pip2 8) - (1 : Int32)) pnp2) fun (y3 : Int32) => sp_Pr_next_32 pip2 pnp2 ptp2 po pf pb x2p2 p1 r2 y3))
def okb_Pr_next_2 (po : IV) (pf : IV) (pb : IV) (p1 : Int32) (r2 : Int32 → IV → IV → IV → (Int32 × IV × IV × IV)) (q2 : Int32 → IV → IV → IV → Prop) (x2p2 : Int32) (pip2 : IV) (pnp2 : IV) (ptp2 : IV) : Prop := (((1000000 : Int32) ≤ x2p2 → True) ∧ (¬ ((1000000 : Int32) ≤ x2p2) → (((pip2 8) ≤ 0 → ok_Pr_next_32 pip2 pnp2 ptp2 po pf pb x2p2 p1 r2 q2 (-1 : Int32)) ∧ (¬ ((pip2 8) ≤ 0) → lett (sp_Pr_inRow2 ((pip2 8) - (1 : Int32)) pnp2) fun (y3 : Int32) => ok_Pr_next_32 pip2 pnp2 ptp2 po pf pb x2p2 p1 r2 q2 y3))))
noncomputable def sp_Pr_next_2 (po : IV) (pf : IV) (pb : IV) (p1 : Int32)  : Nat → Int32 → IV → IV → IV → (Int32 × IV × IV × IV)
  | 0 => fun _ _ _ _ => default
  | f + 1 => bd_Pr_next_2 po pf pb p1  (sp_Pr_next_2 po pf pb p1  f)
def ok_Pr_next_2 (po : IV) (pf : IV) (pb : IV) (p1 : Int32)   : Nat → Int32 → IV → IV → IV → Prop
  | 0 => fun _ _ _ _ => False
  | f + 1 => okb_Pr_next_2 po pf pb p1  (sp_Pr_next_2 po pf pb p1  f)  (ok_Pr_next_2 po pf pb p1   f)
set_option maxRecDepth 100000 in
set_option maxHeartbeats 4000000 in
theorem kb_Pr_next_2 {p : Program} {l : Launch} {e : Env} {s : State} {m : MethodId} {args : Array Value} {below : List Frame} {meth : Method} {c : Code} {g : GX} {qpr : Nat} {qpro : Nat} {qprf : Nat} {qprs : Nat} {qprb : Nat} {qprn : Nat} {qprt : Nat} {qte : Nat} {qteb : Nat} {ws0 : va_W} {po : IV} {pf : IV} {ps : IV} {pb : IV} {t : IV} {tb : IV} {p1 : Int32}  (C : Cx p s m args meth c (inW ws0) g "DecadeBridge$Protocol" b_Pr_next (some .int) 4) {r2 : Int32 → IV → IV → IV → (Int32 × IV × IV × IV)} {q2 : Int32 → IV → IV → IV → Prop}  (ih2 : HL_Pr_next_2 p l e s m args below meth c g qpr qpro qprf qprs qprb qprn qprt qte qteb ws0 po pf ps pb t tb p1 r2 q2) : HL_Pr_next_2 p l e s m args below meth c g qpr qpro qprf qprs qprb qprn qprt qte qteb ws0 po pf ps pb t tb p1 (bd_Pr_next_2 po pf pb p1  r2) (okb_Pr_next_2 po pf pb p1  r2  q2) := by
  intro x2p2 pip2 pnp2 ptp2 hok z hz H locs ls hP hD hS hl
  obtain ⟨hx, hb, hr, hml, hown, hlk, hts, hK, hZo, hZ⟩ := id C
  unfold bd_Pr_next_2 at hz
  unfold okb_Pr_next_2 at hok
  refine lv_iload_n hx hb d_Pr_next_2 rfl (lv_at hl 2 rfl) ?_
  refine lv_ldc hx hb hown (hts _ qk_Pr_123) d_Pr_next_3 ?_
  refine lv_icmp_ge (tgt := 170) hx hb d_Pr_next_5 (by decide) (fun c1 => ?_) (fun c1 => ?_)
  · have hz := hz.trans (if_pos c1)
    refine lv_iconst (v := -1) hx hb d_Pr_next_170 (by decide) ?_
    exact endI1 C hz hP hS d_Pr_next_171
  · have hz := hz.trans (if_neg c1)
    have hok := hok.2 c1
    refine lv_aload_n hx hb d_Pr_next_8 rfl (lv_at hl 0 rfl) ?_
    refine gf C hP 0 8 fkPr rfl (by decide) rfl qf_Pr_42 (gPr_8 _ _ _ _ _ _ _ _) d_Pr_next_9 ?_
    refine lv_if_le (tgt := 31) hx hb d_Pr_next_12 (by decide) (fun c2 => ?_) (fun c2 => ?_)
    · have hz := hz.trans (if_pos c2)
      have hok := hok.1 c2
      refine lv_iconst (v := -1) hx hb d_Pr_next_31 (by decide) ?_
      exact k_Pr_next_32 C ih2 (-1 : Int32) hok _ hz _ _ ls hP hD hS hl
    · have hz := hz.trans (if_neg c2)
      have hok := hok.2 c2
      refine lv_aload_n hx hb d_Pr_next_15 rfl (lv_at hl 0 rfl) ?_
      refine gf C hP 0 5 fkPr rfl (by decide) rfl qf_Pr_24 (gPr_5 _ _ _ _ _ _ _ _) d_Pr_next_16 ?_
      refine lv_aload_n hx hb d_Pr_next_19 rfl (lv_at hl 0 rfl) ?_
      refine gf C hP 0 8 fkPr rfl (by decide) rfl qf_Pr_42 (gPr_8 _ _ _ _ _ _ _ _) d_Pr_next_20 ?_
      refine lv_iconst (v := 1) hx hb d_Pr_next_23 (by decide) ?_
      refine lv_isub hx hb d_Pr_next_24 ?_
      have hB : SubW g (inW ws0) s (wPr g qpr qpro qprf qprs qprb qprn qprt qte qteb pip2 po pf ps pb pnp2 ptp2 t tb) (wA2 g qprn pnp2) [5] _ _ := ⟨rfl, rfl, hP, hD, hS⟩
      refine goI0 hB (run_s C mf_Pr_inRow qm_Pr_34 (c_Pr_inRow2 l g qprn pnp2 ((pip2 8) - (1 : Int32))) rfl rfl ⟨Nat.le_of_ble_eq_true rfl, Nat.le_of_ble_eq_true rfl⟩ ⟨Nat.le_of_ble_eq_true rfl, Nat.le_of_ble_eq_true rfl⟩ hB hl rfl rfl (Nat.le_of_ble_eq_true rfl) d_Pr_next_25) (fun y3 ey3 H locs hP hS => ?_)
      have hz := lett_z hz ey3
      have hok := lett_o hok ey3
      refine lv_goto (tgt := 32) hx hb d_Pr_next_28 (by decide) ?_
      exact k_Pr_next_32 C ih2 y3 hok _ hz _ _ ls hP hD hS hl
theorem k_Pr_next_2 {p : Program} {l : Launch} {e : Env} {s : State} {m : MethodId} {args : Array Value} {below : List Frame} {meth : Method} {c : Code} {g : GX} {qpr : Nat} {qpro : Nat} {qprf : Nat} {qprs : Nat} {qprb : Nat} {qprn : Nat} {qprt : Nat} {qte : Nat} {qteb : Nat} {ws0 : va_W} {po : IV} {pf : IV} {ps : IV} {pb : IV} {t : IV} {tb : IV} {p1 : Int32}  (C : Cx p s m args meth c (inW ws0) g "DecadeBridge$Protocol" b_Pr_next (some .int) 4) (f : Nat)  : HL_Pr_next_2 p l e s m args below meth c g qpr qpro qprf qprs qprb qprn qprt qte qteb ws0 po pf ps pb t tb p1 (sp_Pr_next_2 po pf pb p1  f) (ok_Pr_next_2 po pf pb p1   f) := by
  induction f with
  | zero => intro x2p2 pip2 pnp2 ptp2 hok; exact False.elim hok
  | succ f ih => exact kb_Pr_next_2 C  ih
noncomputable def sp_Pr_next (p1 : Int32) (pi : IV) (po : IV) (pf : IV) (pb : IV) (pn : IV) (pt : IV) : Int32 × IV × IV × IV := sp_Pr_next_2 po pf pb p1 big (0 : Int32) pi pn pt
def ok_Pr_next (p1 : Int32) (pi : IV) (po : IV) (pf : IV) (pb : IV) (pn : IV) (pt : IV) : Prop := ok_Pr_next_2 po pf pb p1 big (0 : Int32) pi pn pt
set_option maxRecDepth 100000 in
set_option maxHeartbeats 4000000 in
theorem c_Pr_next (l : Launch) (g : GX) (qpr : Nat) (qpro : Nat) (qprf : Nat) (qprs : Nat) (qprb : Nat) (qprn : Nat) (qprt : Nat) (qte : Nat) (qteb : Nat) (pi : IV) (po : IV) (pf : IV) (ps : IV) (pb : IV) (pn : IV) (pt : IV) (t : IV) (tb : IV) (p1 : Int32) (hok : ok_Pr_next p1 pi po pf pb pn pt) : Met l y_Pr_next (wsY y_Pr_next b_Pr_next 4 (some .int)) rm_Pr_next (CP g [.ref qpr, .int p1] (wPr g qpr qpro qprf qprs qprb qprn qprt qte qteb pi po pf ps pb pn pt t tb)) (CI g (wPr g qpr qpro qprf qprs qprb qprn qprt qte qteb pi po pf ps pb pn pt t tb) (fun u : IV × IV × IV => wPr g qpr qpro qprf qprs qprb qprn qprt qte qteb u.1 po pf ps pb u.2.1 u.2.2 t tb) (sp_Pr_next p1 pi po pf pb pn pt)) 0 0 (inW (wPr g qpr qpro qprf qprs qprb qprn qprt qte qteb pi po pf ps pb pn pt t tb)) := by
  refine Met.ofW (cc := b_Pr_next) (maxL := 4) (ret := (some .int)) pn_Pr rfl ?_
  intro p e s m args below meth c s₁ B hml hv
  obtain ⟨rfl, C, hP, hD, hS⟩ := enter "DecadeBridge$Protocol" rfl B hml hv
  obtain ⟨hx, hb, hr, hml, hown, hlk, hts, hK, hZo, hZ⟩ := id C
  refine entryW (lv := [(0, .ref qpr), (1, .int p1)]) rfl (Nat.le_of_ble_eq_true rfl) (fun ls hl => ?_)
  obtain ⟨z, hz⟩ : ∃ z, z = sp_Pr_next p1 pi po pf pb pn pt := ⟨_, rfl⟩
  rw [← hz]
  unfold sp_Pr_next at hz
  unfold ok_Pr_next at hok
  refine lv_iconst (v := 0) hx hb d_Pr_next_0 (by decide) ?_
  refine lv_istore_n (lv' := [(2, .int (0 : Int32)), (0, .ref qpr), (1, .int p1)]) hx hb d_Pr_next_1 rfl hl (by decide) rfl (fun ls hl => ?_)
  exact k_Pr_next_2 C big (0 : Int32) pi pn pt hok _ hz _ _ ls hP hD hS (lv_sub hl [1, 2, 0] rfl)
abbrev rm_Re_addNumber : Room := { frames := 1, cells := 0, slots := 0, locals := 21 }
def HL_Re_addNumber_5 (p : Program) (l : Launch) (e : Env) (s : State) (m : MethodId) (args : Array Value) (below : List Frame) (meth : Method) (c : Code) (g : GX) (qre : Nat) (qreb : Nat) (ws0 : va_W) (p1 : Int64) (p2 : Int64) (sp : Int64 → IV → IV → (IV × IV)) (ok : Int64 → IV → IV → Prop) : Prop := ∀ (x5p5 : Int64) (revp5 : IV) (rbp5 : IV), ok x5p5 revp5 rbp5 → ∀ z : (IV × IV), z = sp x5p5 revp5 rbp5 → ∀ (H : Heap) (locs : List Loc) (ls : Array Slot), va_P g.1 vwCl (wRe g qre qreb revp5 rbp5) H → va_D (inW ws0) (wRe g qre qreb revp5 rbp5) → va_S (inW ws0) s.heap H locs → lv_has ls 7 [(0, .ref qre), (1, .long p1), (3, .long p2), (5, .long x5p5)] → W p l e rm_Re_addNumber s m args below meth c H locs 0 0 (MQ below (CV g ws0 (fun u : IV × IV => wRe g qre qreb u.1 u.2) z) args s 0 0 (inW ws0)) (F0 m 5 ls [])
def HL_Re_addNumber_26 (p : Program) (l : Launch) (e : Env) (s : State) (m : MethodId) (args : Array Value) (below : List Frame) (meth : Method) (c : Code) (g : GX) (qre : Nat) (qreb : Nat) (ws0 : va_W) (revp5 : IV) (rbp5 : IV) (p1 : Int64) (p2 : Int64) (x5p5 : Int64) (sp : (IV × IV)) (ok : Prop) : Prop := ∀ (_ : Unit), ok → ∀ z : (IV × IV), z = sp → ∀ (H : Heap) (locs : List Loc) (ls : Array Slot), va_P g.1 vwCl (wRe g qre qreb revp5 rbp5) H → va_D (inW ws0) (wRe g qre qreb revp5 rbp5) → va_S (inW ws0) s.heap H locs → lv_has ls 7 [(0, .ref qre), (1, .long p1), (3, .long p2), (5, .long x5p5)] → W p l e rm_Re_addNumber s m args below meth c H locs 0 0 (MQ below (CV g ws0 (fun u : IV × IV => wRe g qre qreb u.1 u.2) z) args s 0 0 (inW ws0)) (F0 m 26 ls [])
def HL_Re_addNumber_44 (p : Program) (l : Launch) (e : Env) (s : State) (m : MethodId) (args : Array Value) (below : List Frame) (meth : Method) (c : Code) (g : GX) (qre : Nat) (qreb : Nat) (ws0 : va_W) (p1 : Int64) (p2 : Int64) (x5p5 : Int64) (sp : IV → IV → (IV × IV)) (ok : IV → IV → Prop) : Prop := ∀ (revp44 : IV) (rbp44 : IV), ok revp44 rbp44 → ∀ z : (IV × IV), z = sp revp44 rbp44 → ∀ (H : Heap) (locs : List Loc) (ls : Array Slot), va_P g.1 vwCl (wRe g qre qreb revp44 rbp44) H → va_D (inW ws0) (wRe g qre qreb revp44 rbp44) → va_S (inW ws0) s.heap H locs → lv_has ls 7 [(0, .ref qre), (1, .long p1), (3, .long p2), (5, .long x5p5)] → W p l e rm_Re_addNumber s m args below meth c H locs 0 0 (MQ below (CV g ws0 (fun u : IV × IV => wRe g qre qreb u.1 u.2) z) args s 0 0 (inW ws0)) (F0 m 44 ls [])
noncomputable def sp_Re_addNumber_44 (x5p5 : Int64) (r5 : Int64 → IV → IV → (IV × IV)) (revp44 : IV) (rbp44 : IV) : IV × IV := lett (x5p5 / (10 : Int64)) fun (v7 : Int64) => r5 v7 revp44 rbp44
def ok_Re_addNumber_44 (x5p5 : Int64) (r5 : Int64 → IV → IV → (IV × IV)) (q5 : Int64 → IV → IV → Prop) (revp44 : IV) (rbp44 : IV) : Prop := lett (x5p5 / (10 : Int64)) fun (v7 : Int64) => q5 v7 revp44 rbp44
set_option maxRecDepth 100000 in
set_option maxHeartbeats 4000000 in
theorem k_Re_addNumber_44 {p : Program} {l : Launch} {e : Env} {s : State} {m : MethodId} {args : Array Value} {below : List Frame} {meth : Method} {c : Code} {g : GX} {qre : Nat} {qreb : Nat} {ws0 : va_W} {p1 : Int64} {p2 : Int64} {x5p5 : Int64} {r5 : Int64 → IV → IV → (IV × IV)} {q5 : Int64 → IV → IV → Prop} (C : Cx p s m args meth c (inW ws0) g "DecadeBridge$Report" b_Re_addNumber none 7) (ih5 : HL_Re_addNumber_5 p l e s m args below meth c g qre qreb ws0 p1 p2 r5 q5) : HL_Re_addNumber_44 p l e s m args below meth c g qre qreb ws0 p1 p2 x5p5 (sp_Re_addNumber_44 x5p5 r5) (ok_Re_addNumber_44 x5p5 r5 q5) := by
  intro revp44 rbp44 hok z hz H locs ls hP hD hS hl
  obtain ⟨hx, hb, hr, hml, hown, hlk, hts, hK, hZo, hZ⟩ := id C
  unfold sp_Re_addNumber_44 at hz
  unfold ok_Re_addNumber_44 at hok
  refine lv_lload hx hb d_Re_addNumber_44 (lv_at hl 3 rfl) ?_
  refine lv_ldc2 hx hb hown (hts _ qk_Re_79) d_Re_addNumber_46 ?_
  refine lv_ldiv hx hb d_Re_addNumber_49 (by decide) ?_
  refine lv_topl (fun v7 ev7 => ?_)
  have hz := lett_z hz ev7
  have hok := lett_o hok ev7
  refine lv_lstore (lv' := [(5, .long v7), (0, .ref qre), (1, .long p1), (3, .long p2)]) hx hb d_Re_addNumber_50 hl (by decide) rfl (fun ls hl => ?_)
  refine lv_goto (tgt := 5) hx hb d_Re_addNumber_52 (by decide) ?_
  exact ih5 v7 revp44 rbp44 hok _ hz _ _ ls hP hD hS (lv_sub hl [1, 2, 3, 0] rfl)
noncomputable def sp_Re_addNumber_26 (p1 : Int64) (x5p5 : Int64) (revp5 : IV) (rbp5 : IV) (r5 : Int64 → IV → IV → (IV × IV))  : IV × IV := lett (sp_Re_addSign (((((48 : Int64) + ((p1 / x5p5) - (p1 / x5p5) / (10 : Int64) * (10 : Int64))).toInt32).toUInt32 % 65536).toInt32) revp5 rbp5) fun (y6 : IV × IV) => sp_Re_addNumber_44 x5p5 r5 y6.1 y6.2
def ok_Re_addNumber_26 (p1 : Int64) (x5p5 : Int64) (revp5 : IV) (rbp5 : IV) (r5 : Int64 → IV → IV → (IV × IV)) (q5 : Int64 → IV → IV → Prop)  : Prop := (¬ x5p5 = 0) ∧ (ok_Re_addSign (((((48 : Int64) + ((p1 / x5p5) - (p1 / x5p5) / (10 : Int64) * (10 : Int64))).toInt32).toUInt32 % 65536).toInt32) revp5) ∧ lett (sp_Re_addSign (((((48 : Int64) + ((p1 / x5p5) - (p1 / x5p5) / (10 : Int64) * (10 : Int64))).toInt32).toUInt32 % 65536).toInt32) revp5 rbp5) fun (y6 : IV × IV) => ok_Re_addNumber_44 x5p5 r5 q5 y6.1 y6.2
set_option maxRecDepth 100000 in
set_option maxHeartbeats 4000000 in
theorem k_Re_addNumber_26 {p : Program} {l : Launch} {e : Env} {s : State} {m : MethodId} {args : Array Value} {below : List Frame} {meth : Method} {c : Code} {g : GX} {qre : Nat} {qreb : Nat} {ws0 : va_W} {revp5 : IV} {rbp5 : IV} {p1 : Int64} {p2 : Int64} {x5p5 : Int64} {r5 : Int64 → IV → IV → (IV × IV)} {q5 : Int64 → IV → IV → Prop} (C : Cx p s m args meth c (inW ws0) g "DecadeBridge$Report" b_Re_addNumber none 7) (ih5 : HL_Re_addNumber_5 p l e s m args below meth c g qre qreb ws0 p1 p2 r5 q5) : HL_Re_addNumber_26 p l e s m args below meth c g qre qreb ws0 revp5 rbp5 p1 p2 x5p5 (sp_Re_addNumber_26 p1 x5p5 revp5 rbp5 r5) (ok_Re_addNumber_26 p1 x5p5 revp5 rbp5 r5 q5) := by
  intro _ hok z hz H locs ls hP hD hS hl
  obtain ⟨hx, hb, hr, hml, hown, hlk, hts, hK, hZo, hZ⟩ := id C
  unfold sp_Re_addNumber_26 at hz
  unfold ok_Re_addNumber_26 at hok
  refine lv_aload_n hx hb d_Re_addNumber_26 rfl (lv_at hl 0 rfl) ?_
  refine lv_ldc2 hx hb hown (hts _ qk_Re_77) d_Re_addNumber_27 ?_
  refine lv_lload_n hx hb d_Re_addNumber_30 rfl (lv_at hl 1 rfl) ?_
  refine lv_lload hx hb d_Re_addNumber_31 (lv_at hl 3 rfl) ?_
  have hs4 := hok.1
  have hok := hok.2
  refine lv_ldiv hx hb d_Re_addNumber_33 hs4 ?_
  refine lv_ldc2 hx hb hown (hts _ qk_Re_79) d_Re_addNumber_34 ?_
  refine lv_lrem hx hb d_Re_addNumber_37 (by decide) ?_
  refine lv_ladd hx hb d_Re_addNumber_38 ?_
  refine lv_l2i hx hb d_Re_addNumber_39 rfl ?_
  refine lv_i2c hx hb d_Re_addNumber_40 rfl ?_
  have hs5 := hok.1
  have hok := hok.2
  have hB : SubW g (inW ws0) s (wRe g qre qreb revp5 rbp5) _ (List.range _) _ _ := (subF hP hD hS)
  refine goVF hB (run_v C mf_Re_addSign qm_Re_47 (c_Re_addSign l g qre qreb revp5 rbp5 (((((48 : Int64) + ((p1 / x5p5) - (p1 / x5p5) / (10 : Int64) * (10 : Int64))).toInt32).toUInt32 % 65536).toInt32) hs5) rfl rfl ⟨Nat.le_of_ble_eq_true rfl, Nat.le_of_ble_eq_true rfl⟩ ⟨Nat.le_of_ble_eq_true rfl, Nat.le_of_ble_eq_true rfl⟩ hB rfl rfl hl rfl rfl (Nat.le_of_ble_eq_true rfl) d_Re_addNumber_41) (fun _ => rfl) (fun y6 ey6 H locs hP hD hS => ?_)
  have hP : va_P g.1 vwCl (wRe g qre qreb y6.1 y6.2) H := hP
  have hD : va_D (inW ws0) (wRe g qre qreb y6.1 y6.2) := hD
  have hz := lett_z hz ey6
  have hok := lett_o hok ey6
  exact k_Re_addNumber_44 C ih5 y6.1 y6.2 hok _ hz _ _ ls hP hD hS hl
noncomputable def bd_Re_addNumber_5 (p2 : Int64) (p1 : Int64) (r5 : Int64 → IV → IV → (IV × IV)) (x5p5 : Int64) (revp5 : IV) (rbp5 : IV) : IV × IV := if x5p5 ≤ (0 : Int64) then ((revp5, rbp5)) else (if x5p5 ≤ p2 then (sp_Re_addNumber_26 p1 x5p5 revp5 rbp5 r5) else (if p1 < x5p5 then (sp_Re_addNumber_44 x5p5 r5 revp5 rbp5) else (sp_Re_addNumber_26 p1 x5p5 revp5 rbp5 r5)))
def okb_Re_addNumber_5 (p2 : Int64) (p1 : Int64) (r5 : Int64 → IV → IV → (IV × IV)) (q5 : Int64 → IV → IV → Prop) (x5p5 : Int64) (revp5 : IV) (rbp5 : IV) : Prop := ((x5p5 ≤ (0 : Int64) → True) ∧ (¬ (x5p5 ≤ (0 : Int64)) → ((x5p5 ≤ p2 → ok_Re_addNumber_26 p1 x5p5 revp5 rbp5 r5 q5) ∧ (¬ (x5p5 ≤ p2) → ((p1 < x5p5 → ok_Re_addNumber_44 x5p5 r5 q5 revp5 rbp5) ∧ (¬ (p1 < x5p5) → ok_Re_addNumber_26 p1 x5p5 revp5 rbp5 r5 q5))))))
noncomputable def sp_Re_addNumber_5 (p2 : Int64) (p1 : Int64)  : Nat → Int64 → IV → IV → (IV × IV)
  | 0 => fun _ _ _ => default
  | f + 1 => bd_Re_addNumber_5 p2 p1  (sp_Re_addNumber_5 p2 p1  f)
def ok_Re_addNumber_5 (p2 : Int64) (p1 : Int64)   : Nat → Int64 → IV → IV → Prop
  | 0 => fun _ _ _ => False
  | f + 1 => okb_Re_addNumber_5 p2 p1  (sp_Re_addNumber_5 p2 p1  f)  (ok_Re_addNumber_5 p2 p1   f)
set_option maxRecDepth 100000 in
set_option maxHeartbeats 4000000 in
theorem kb_Re_addNumber_5 {p : Program} {l : Launch} {e : Env} {s : State} {m : MethodId} {args : Array Value} {below : List Frame} {meth : Method} {c : Code} {g : GX} {qre : Nat} {qreb : Nat} {ws0 : va_W} {p1 : Int64} {p2 : Int64}  (C : Cx p s m args meth c (inW ws0) g "DecadeBridge$Report" b_Re_addNumber none 7) {r5 : Int64 → IV → IV → (IV × IV)} {q5 : Int64 → IV → IV → Prop}  (ih5 : HL_Re_addNumber_5 p l e s m args below meth c g qre qreb ws0 p1 p2 r5 q5) : HL_Re_addNumber_5 p l e s m args below meth c g qre qreb ws0 p1 p2 (bd_Re_addNumber_5 p2 p1  r5) (okb_Re_addNumber_5 p2 p1  r5  q5) := by
  intro x5p5 revp5 rbp5 hok z hz H locs ls hP hD hS hl
  obtain ⟨hx, hb, hr, hml, hown, hlk, hts, hK, hZo, hZ⟩ := id C
  unfold bd_Re_addNumber_5 at hz
  unfold okb_Re_addNumber_5 at hok
  refine lv_lload hx hb d_Re_addNumber_5 (lv_at hl 3 rfl) ?_
  refine lv_lconst (v := 0) hx hb d_Re_addNumber_7 (by decide) ?_
  refine lc_le (tgt := 55) hx hb d_Re_addNumber_8 d_Re_addNumber_9 (by decide) (fun c1 => ?_) (fun c1 => ?_)
  · have hz := hz.trans (if_pos c1)
    exact endV C hz hP hS d_Re_addNumber_55
  · have hz := hz.trans (if_neg c1)
    have hok := hok.2 c1
    refine lv_lload hx hb d_Re_addNumber_12 (lv_at hl 3 rfl) ?_
    refine lv_lload_n hx hb d_Re_addNumber_14 rfl (lv_at hl 2 rfl) ?_
    refine lc_le (tgt := 26) hx hb d_Re_addNumber_15 d_Re_addNumber_16 (by decide) (fun c2 => ?_) (fun c2 => ?_)
    · have hz := hz.trans (if_pos c2)
      have hok := hok.1 c2
      exact k_Re_addNumber_26 C ih5 () hok _ hz _ _ ls hP hD hS hl
    · have hz := hz.trans (if_neg c2)
      have hok := hok.2 c2
      refine lv_lload_n hx hb d_Re_addNumber_19 rfl (lv_at hl 1 rfl) ?_
      refine lv_lload hx hb d_Re_addNumber_20 (lv_at hl 3 rfl) ?_
      refine lc_lt (tgt := 44) hx hb d_Re_addNumber_22 d_Re_addNumber_23 (by decide) (fun c3 => ?_) (fun c3 => ?_)
      · have hz := hz.trans (if_pos c3)
        have hok := hok.1 c3
        exact k_Re_addNumber_44 C ih5 revp5 rbp5 hok _ hz _ _ ls hP hD hS hl
      · have hz := hz.trans (if_neg c3)
        have hok := hok.2 c3
        exact k_Re_addNumber_26 C ih5 () hok _ hz _ _ ls hP hD hS hl
theorem k_Re_addNumber_5 {p : Program} {l : Launch} {e : Env} {s : State} {m : MethodId} {args : Array Value} {below : List Frame} {meth : Method} {c : Code} {g : GX} {qre : Nat} {qreb : Nat} {ws0 : va_W} {p1 : Int64} {p2 : Int64}  (C : Cx p s m args meth c (inW ws0) g "DecadeBridge$Report" b_Re_addNumber none 7) (f : Nat)  : HL_Re_addNumber_5 p l e s m args below meth c g qre qreb ws0 p1 p2 (sp_Re_addNumber_5 p2 p1  f) (ok_Re_addNumber_5 p2 p1   f) := by
  induction f with
  | zero => intro x5p5 revp5 rbp5 hok; exact False.elim hok
  | succ f ih => exact kb_Re_addNumber_5 C  ih
noncomputable def sp_Re_addNumber (p1 : Int64) (p2 : Int64) (rev : IV) (rb : IV) : IV × IV := sp_Re_addNumber_5 p2 p1 big (100000000000000000 : Int64) rev rb
def ok_Re_addNumber (p1 : Int64) (p2 : Int64) (rev : IV) (rb : IV) : Prop := ok_Re_addNumber_5 p2 p1 big (100000000000000000 : Int64) rev rb
set_option maxRecDepth 100000 in
set_option maxHeartbeats 4000000 in
theorem c_Re_addNumber (l : Launch) (g : GX) (qre : Nat) (qreb : Nat) (rev : IV) (rb : IV) (p1 : Int64) (p2 : Int64) (hok : ok_Re_addNumber p1 p2 rev rb) : Met l y_Re_addNumber (wsY y_Re_addNumber b_Re_addNumber 7 none) rm_Re_addNumber (CP g [.ref qre, .long p1, .long p2] (wRe g qre qreb rev rb)) (CV g (wRe g qre qreb rev rb) (fun u : IV × IV => wRe g qre qreb u.1 u.2) (sp_Re_addNumber p1 p2 rev rb)) 0 0 (inW (wRe g qre qreb rev rb)) := by
  refine Met.ofW (cc := b_Re_addNumber) (maxL := 7) (ret := none) pn_Re rfl ?_
  intro p e s m args below meth c s₁ B hml hv
  obtain ⟨rfl, C, hP, hD, hS⟩ := enter "DecadeBridge$Report" rfl B hml hv
  obtain ⟨hx, hb, hr, hml, hown, hlk, hts, hK, hZo, hZ⟩ := id C
  refine entryW (lv := [(0, .ref qre), (1, .long p1), (3, .long p2)]) rfl (Nat.le_of_ble_eq_true rfl) (fun ls hl => ?_)
  obtain ⟨z, hz⟩ : ∃ z, z = sp_Re_addNumber p1 p2 rev rb := ⟨_, rfl⟩
  rw [← hz]
  unfold sp_Re_addNumber at hz
  unfold ok_Re_addNumber at hok
  refine lv_ldc2 hx hb hown (hts _ qk_Re_75) d_Re_addNumber_0 ?_
  refine lv_lstore (lv' := [(5, .long (100000000000000000 : Int64)), (0, .ref qre), (1, .long p1), (3, .long p2)]) hx hb d_Re_addNumber_3 hl (by decide) rfl (fun ls hl => ?_)
  exact k_Re_addNumber_5 C big (100000000000000000 : Int64) rev rb hok _ hz _ _ ls hP hD hS (lv_sub hl [1, 2, 3, 0] rfl)
abbrev rm_Rs_copy : Room := { frames := 2, cells := 0, slots := 0, locals := 44 }
def HL_Rs_copy_10 (p : Program) (l : Launch) (e : Env) (s : State) (m : MethodId) (args : Array Value) (below : List Frame) (meth : Method) (c : Code) (g : GX) (qrs : Nat) (qrsr : Nat) (uR : Nat → Nat) (qrt : Nat) (qrtr : Nat) (uT : Nat → Nat) (ws0 : va_W) (ra_1 : IV) (ral : LV) (ta : IV) (tal : LV) (tr : NI) (tl : NL) (sp : Int32 → NI → NL → (IV × NI × NL)) (ok : Int32 → NI → NL → Prop) : Prop := ∀ (x2p10 : Int32) (rrp10 : NI) (rlp10 : NL), ok x2p10 rrp10 rlp10 → ∀ z : (IV × NI × NL), z = sp x2p10 rrp10 rlp10 → ∀ (H : Heap) (locs : List Loc) (ls : Array Slot), va_P g.1 vwCl (wRR g qrs qrsr uR qrt qrtr uT ra_1 ral rrp10 rlp10 ta tal tr tl) H → va_D (inW ws0) (wRR g qrs qrsr uR qrt qrtr uT ra_1 ral rrp10 rlp10 ta tal tr tl) → va_S (inW ws0) s.heap H locs → lv_has ls 3 [(0, .ref qrs), (1, .ref qrt), (2, .int x2p10)] → W p l e rm_Rs_copy s m args below meth c H locs 0 0 (MQ below (CV g ws0 (fun u : IV × NI × NL => wRR g qrs qrsr uR qrt qrtr uT u.1 ral u.2.1 u.2.2 ta tal tr tl) z) args s 0 0 (inW ws0)) (F0 m 10 ls [])
noncomputable def bd_Rs_copy_10 (ra_1 : IV) (ta : IV) (tr : NI) (tl : NL) (r10 : Int32 → NI → NL → (IV × NI × NL)) (x2p10 : Int32) (rrp10 : NI) (rlp10 : NL) : IV × NI × NL := if (ra_1 1) ≤ x2p10 then ((ra_1, rrp10, rlp10)) else (lett (sp_Rs_at x2p10 ta) fun (y3 : Option Nat) => lett (sp_Rs_copyRow y3 x2p10 ra_1 rrp10 rlp10 tr tl) fun (y5 : NI × NL) => lett (x2p10 + (1 : Int32)) fun (v6 : Int32) => r10 v6 y5.1 y5.2)
def okb_Rs_copy_10 (ra_1 : IV) (ta : IV) (tr : NI) (tl : NL) (r10 : Int32 → NI → NL → (IV × NI × NL)) (q10 : Int32 → NI → NL → Prop) (x2p10 : Int32) (rrp10 : NI) (rlp10 : NL) : Prop := (((ra_1 1) ≤ x2p10 → True) ∧ (¬ ((ra_1 1) ≤ x2p10) → lett (sp_Rs_at x2p10 ta) fun (y3 : Option Nat) => (ok_Rs_copyRow y3 x2p10 ra_1) ∧ lett (sp_Rs_copyRow y3 x2p10 ra_1 rrp10 rlp10 tr tl) fun (y5 : NI × NL) => lett (x2p10 + (1 : Int32)) fun (v6 : Int32) => q10 v6 y5.1 y5.2))
noncomputable def sp_Rs_copy_10 (ra_1 : IV) (ta : IV) (tr : NI) (tl : NL)  : Nat → Int32 → NI → NL → (IV × NI × NL)
  | 0 => fun _ _ _ => default
  | f + 1 => bd_Rs_copy_10 ra_1 ta tr tl  (sp_Rs_copy_10 ra_1 ta tr tl  f)
def ok_Rs_copy_10 (ra_1 : IV) (ta : IV) (tr : NI) (tl : NL)   : Nat → Int32 → NI → NL → Prop
  | 0 => fun _ _ _ => False
  | f + 1 => okb_Rs_copy_10 ra_1 ta tr tl  (sp_Rs_copy_10 ra_1 ta tr tl  f)  (ok_Rs_copy_10 ra_1 ta tr tl   f)
set_option maxRecDepth 100000 in
set_option maxHeartbeats 4000000 in
theorem kb_Rs_copy_10 {p : Program} {l : Launch} {e : Env} {s : State} {m : MethodId} {args : Array Value} {below : List Frame} {meth : Method} {c : Code} {g : GX} {qrs : Nat} {qrsr : Nat} {uR : Nat → Nat} {qrt : Nat} {qrtr : Nat} {uT : Nat → Nat} {ws0 : va_W} {ra_1 : IV} {ral : LV} {ta : IV} {tal : LV} {tr : NI} {tl : NL}  (C : Cx p s m args meth c (inW ws0) g "DecadeBridge$Results" b_Rs_copy none 3) {r10 : Int32 → NI → NL → (IV × NI × NL)} {q10 : Int32 → NI → NL → Prop}  (ih10 : HL_Rs_copy_10 p l e s m args below meth c g qrs qrsr uR qrt qrtr uT ws0 ra_1 ral ta tal tr tl r10 q10) : HL_Rs_copy_10 p l e s m args below meth c g qrs qrsr uR qrt qrtr uT ws0 ra_1 ral ta tal tr tl (bd_Rs_copy_10 ra_1 ta tr tl  r10) (okb_Rs_copy_10 ra_1 ta tr tl  r10  q10) := by
  intro x2p10 rrp10 rlp10 hok z hz H locs ls hP hD hS hl
  obtain ⟨hx, hb, hr, hml, hown, hlk, hts, hK, hZo, hZ⟩ := id C
  unfold bd_Rs_copy_10 at hz
  unfold okb_Rs_copy_10 at hok
  refine lv_iload_n hx hb d_Rs_copy_10 rfl (lv_at hl 2 rfl) ?_
  refine lv_aload_n hx hb d_Rs_copy_11 rfl (lv_at hl 0 rfl) ?_
  refine gf C hP 0 1 fkRs rfl (by decide) rfl qf_Rs_18 (gRs_1 _ _ _) d_Rs_copy_12 ?_
  refine lv_icmp_ge (tgt := 34) hx hb d_Rs_copy_15 (by decide) (fun c2 => ?_) (fun c2 => ?_)
  · have hz := hz.trans (if_pos c2)
    exact endV C hz hP hS d_Rs_copy_34
  · have hz := hz.trans (if_neg c2)
    have hok := hok.2 c2
    refine lv_aload_n hx hb d_Rs_copy_18 rfl (lv_at hl 0 rfl) ?_
    refine lv_iload_n hx hb d_Rs_copy_19 rfl (lv_at hl 2 rfl) ?_
    refine lv_aload_n hx hb d_Rs_copy_20 rfl (lv_at hl 1 rfl) ?_
    refine lv_iload_n hx hb d_Rs_copy_21 rfl (lv_at hl 2 rfl) ?_
    have hB : SubW g (inW ws0) s (wRR g qrs qrsr uR qrt qrtr uT ra_1 ral rrp10 rlp10 ta tal tr tl) (wRs g qrt qrtr uT ta tal tr tl) [22, 23, 24, 25, 26, 27, 28, 29, 30, 31, 32, 33, 34, 35, 36, 37, 38, 39, 40, 41, 42, 43] _ _ := ⟨rfl, rfl, hP, hD, hS⟩
    refine goO0 hB (run_v C mf_Rs_at qm_Rs_22 (c_Rs_at l g qrt qrtr uT ta tal tr tl x2p10) rfl rfl ⟨Nat.le_of_ble_eq_true rfl, Nat.le_of_ble_eq_true rfl⟩ ⟨Nat.le_of_ble_eq_true rfl, Nat.le_of_ble_eq_true rfl⟩ hB rfl rfl hl rfl rfl (Nat.le_of_ble_eq_true rfl) d_Rs_copy_22) (fun y3 ey3 H locs hP hS => ?_)
    have hz := lett_z hz ey3
    have hok := lett_o hok ey3
    have hs4 := hok.1
    have hok := hok.2
    have hB : SubW g (inW ws0) s (wRR g qrs qrsr uR qrt qrtr uT ra_1 ral rrp10 rlp10 ta tal tr tl) (wRsT g qrs qrsr uR uT ra_1 ral rrp10 rlp10 tr tl) [0, 1, 2, 3, 4, 5, 6, 7, 8, 9, 10, 11, 12, 13, 14, 15, 16, 17, 18, 19, 20, 21, 24, 25, 26, 27, 28, 29, 30, 31, 32, 33, 34, 35, 36, 37, 38, 39, 40, 41, 42, 43] _ _ := ⟨rfl, rfl, hP, hD, hS⟩
    refine goV1 hB (run_v C mf_Rs_copyRow qm_Rs_26 (c_Rs_copyRow l g qrs qrsr uR uT ra_1 ral rrp10 rlp10 tr tl y3 x2p10 hs4) rfl rfl ⟨Nat.le_of_ble_eq_true rfl, Nat.le_of_ble_eq_true rfl⟩ ⟨Nat.le_of_ble_eq_true rfl, Nat.le_of_ble_eq_true rfl⟩ hB rfl rfl hl rfl rfl (Nat.le_of_ble_eq_true rfl) d_Rs_copy_25) (fun _ => rfl) (fun y5 ey5 H locs hP hD hS => ?_)
    have hP : va_P g.1 vwCl (wRR g qrs qrsr uR qrt qrtr uT ra_1 ral y5.1 y5.2 ta tal tr tl) H := cP (spq hB.1 hB.2.1 [22, 23] 44 rfl rfl (by decide +kernel) rfl) hP
    have hD : va_D (inW ws0) (wRR g qrs qrsr uR qrt qrtr uT ra_1 ral y5.1 y5.2 ta tal tr tl) := cD (spq hB.1 hB.2.1 [22, 23] 44 rfl rfl (by decide +kernel) rfl) hD
    have hz := lett_z hz ey5
    have hok := lett_o hok ey5
    obtain ⟨v6, ev6⟩ : ∃ y : Int32, y = x2p10 + (1 : Int32) := ⟨_, rfl⟩
    have hz := lett_z hz ev6
    have hok := lett_o hok ev6
    refine lv_iinc (v := v6) (lv' := [(2, .int v6), (0, .ref qrs), (1, .ref qrt)]) hx hb d_Rs_copy_28 hl (k := 2) rfl (by rw [ev6]; rfl) (by decide) rfl (fun ls hl => ?_)
    refine lv_goto (tgt := 10) hx hb d_Rs_copy_31 (by decide) ?_
    exact ih10 v6 y5.1 y5.2 hok _ hz _ _ ls hP hD hS (lv_sub hl [1, 2, 0] rfl)
theorem k_Rs_copy_10 {p : Program} {l : Launch} {e : Env} {s : State} {m : MethodId} {args : Array Value} {below : List Frame} {meth : Method} {c : Code} {g : GX} {qrs : Nat} {qrsr : Nat} {uR : Nat → Nat} {qrt : Nat} {qrtr : Nat} {uT : Nat → Nat} {ws0 : va_W} {ra_1 : IV} {ral : LV} {ta : IV} {tal : LV} {tr : NI} {tl : NL}  (C : Cx p s m args meth c (inW ws0) g "DecadeBridge$Results" b_Rs_copy none 3) (f : Nat)  : HL_Rs_copy_10 p l e s m args below meth c g qrs qrsr uR qrt qrtr uT ws0 ra_1 ral ta tal tr tl (sp_Rs_copy_10 ra_1 ta tr tl  f) (ok_Rs_copy_10 ra_1 ta tr tl   f) := by
  induction f with
  | zero => intro x2p10 rrp10 rlp10 hok; exact False.elim hok
  | succ f ih => exact kb_Rs_copy_10 C  ih
noncomputable def sp_Rs_copy (ra : IV) (rr : NI) (rl : NL) (ta : IV) (tr : NI) (tl : NL) : IV × NI × NL := lett (upd ra 1 (ta 1)) fun (ra_1 : IV) => sp_Rs_copy_10 ra_1 ta tr tl big (0 : Int32) rr rl
def ok_Rs_copy (ra : IV) (rr : NI) (rl : NL) (ta : IV) (tr : NI) (tl : NL) : Prop := lett (upd ra 1 (ta 1)) fun (ra_1 : IV) => ok_Rs_copy_10 ra_1 ta tr tl big (0 : Int32) rr rl
set_option maxRecDepth 100000 in
set_option maxHeartbeats 4000000 in
theorem c_Rs_copy (l : Launch) (g : GX) (qrs : Nat) (qrsr : Nat) (uR : Nat → Nat) (qrt : Nat) (qrtr : Nat) (uT : Nat → Nat) (ra : IV) (ral : LV) (rr : NI) (rl : NL) (ta : IV) (tal : LV) (tr : NI) (tl : NL)  (hok : ok_Rs_copy ra rr rl ta tr tl) : Met l y_Rs_copy (wsY y_Rs_copy b_Rs_copy 3 none) rm_Rs_copy (CP g [.ref qrs, .ref qrt] (wRR g qrs qrsr uR qrt qrtr uT ra ral rr rl ta tal tr tl)) (CV g (wRR g qrs qrsr uR qrt qrtr uT ra ral rr rl ta tal tr tl) (fun u : IV × NI × NL => wRR g qrs qrsr uR qrt qrtr uT u.1 ral u.2.1 u.2.2 ta tal tr tl) (sp_Rs_copy ra rr rl ta tr tl)) 0 0 (inW (wRR g qrs qrsr uR qrt qrtr uT ra ral rr rl ta tal tr tl)) := by
  refine Met.ofW (cc := b_Rs_copy) (maxL := 3) (ret := none) pn_Rs rfl ?_
  intro p e s m args below meth c s₁ B hml hv
  obtain ⟨rfl, C, hP, hD, hS⟩ := enter "DecadeBridge$Results" rfl B hml hv
  obtain ⟨hx, hb, hr, hml, hown, hlk, hts, hK, hZo, hZ⟩ := id C
  refine entryW (lv := [(0, .ref qrs), (1, .ref qrt)]) rfl (Nat.le_of_ble_eq_true rfl) (fun ls hl => ?_)
  obtain ⟨z, hz⟩ : ∃ z, z = sp_Rs_copy ra rr rl ta tr tl := ⟨_, rfl⟩
  rw [← hz]
  unfold sp_Rs_copy at hz
  unfold ok_Rs_copy at hok
  refine lv_aload_n hx hb d_Rs_copy_0 rfl (lv_at hl 0 rfl) ?_
  refine lv_aload_n hx hb d_Rs_copy_1 rfl (lv_at hl 1 rfl) ?_
  refine gf C hP 22 1 fkRs rfl (by decide) rfl qf_Rs_18 (gRs_1 _ _ _) d_Rs_copy_2 ?_
  refine pfI C hP hD hS 0 1 fkRs rfl (by decide) rfl qf_Rs_18 rfl rfl rfl (Nat.le_of_ble_eq_true rfl) (ff := fun o => fRs qrsr o ral) (sRs_1 _ _ _ _) d_Rs_copy_5 (fun ra_1 era_1 H locs hP hD hS => ?_)
  have hP : va_P g.1 vwCl (wRR g qrs qrsr uR qrt qrtr uT ra_1 ral rr rl ta tal tr tl) H := hP
  have hD : va_D (inW (wRR g qrs qrsr uR qrt qrtr uT ra ral rr rl ta tal tr tl)) (wRR g qrs qrsr uR qrt qrtr uT ra_1 ral rr rl ta tal tr tl) := hD
  have hz := lett_z hz era_1
  have hok := lett_o hok era_1
  refine lv_iconst (v := 0) hx hb d_Rs_copy_8 (by decide) ?_
  refine lv_istore_n (lv' := [(2, .int (0 : Int32)), (0, .ref qrs), (1, .ref qrt)]) hx hb d_Rs_copy_9 rfl hl (by decide) rfl (fun ls hl => ?_)
  exact k_Rs_copy_10 C big (0 : Int32) rr rl hok _ hz _ _ ls hP hD hS (lv_sub hl [1, 2, 0] rfl)
abbrev rm_Rs_add : Room := { frames := 3, cells := 0, slots := 0, locals := 67 }
def HL_Rs_add_24 (p : Program) (l : Launch) (e : Env) (s : State) (m : MethodId) (args : Array Value) (below : List Frame) (meth : Method) (c : Code) (g : GX) (qrs : Nat) (qrsr : Nat) (uR : Nat → Nat) (qci : Nat) (qpa : Nat) (qpae : Nat) (qpar : Nat) (qpau : Nat) (qpab : Nat) (ws0 : va_W) (ra : IV) (ral : LV) (ca : IV) (cal : LV) (w0 : IV) (w1 : IV) (w2 : IV) (w3 : IV) (w4 : IV) (p2 : Int32) (sp : Int32 → NI → NL → (IV × NI × NL)) (ok : Int32 → NI → NL → Prop) : Prop := ∀ (x3p24 : Int32) (rrp24 : NI) (rlp24 : NL), ok x3p24 rrp24 rlp24 → ∀ z : (IV × NI × NL), z = sp x3p24 rrp24 rlp24 → ∀ (H : Heap) (locs : List Loc) (ls : Array Slot), va_P g.1 vwCl (wRsC g qrs qrsr uR qci qpa qpae qpar qpau qpab ra ral rrp24 rlp24 ca cal w0 w1 w2 w3 w4) H → va_D (inW ws0) (wRsC g qrs qrsr uR qci qpa qpae qpar qpau qpab ra ral rrp24 rlp24 ca cal w0 w1 w2 w3 w4) → va_S (inW ws0) s.heap H locs → lv_has ls 4 [(0, .ref qrs), (1, .ref qci), (2, .int p2), (3, .int x3p24)] → W p l e rm_Rs_add s m args below meth c H locs 0 0 (MQ below (CV g ws0 (fun u : IV × NI × NL => wRsC g qrs qrsr uR qci qpa qpae qpar qpau qpab u.1 ral u.2.1 u.2.2 ca cal w0 w1 w2 w3 w4) z) args s 0 0 (inW ws0)) (F0 m 24 ls [])
def HL_Rs_add_52 (p : Program) (l : Launch) (e : Env) (s : State) (m : MethodId) (args : Array Value) (below : List Frame) (meth : Method) (c : Code) (g : GX) (qrs : Nat) (qrsr : Nat) (uR : Nat → Nat) (qci : Nat) (qpa : Nat) (qpae : Nat) (qpar : Nat) (qpau : Nat) (qpab : Nat) (ws0 : va_W) (ral : LV) (ca : IV) (cal : LV) (w0 : IV) (w1 : IV) (w2 : IV) (w3 : IV) (w4 : IV) (p2 : Int32) (sp : IV → NI → NL → (IV × NI × NL)) (ok : IV → NI → NL → Prop) : Prop := ∀ (rap52 : IV) (rrp52 : NI) (rlp52 : NL), ok rap52 rrp52 rlp52 → ∀ z : (IV × NI × NL), z = sp rap52 rrp52 rlp52 → ∀ (H : Heap) (locs : List Loc) (ls : Array Slot), va_P g.1 vwCl (wRsC g qrs qrsr uR qci qpa qpae qpar qpau qpab rap52 ral rrp52 rlp52 ca cal w0 w1 w2 w3 w4) H → va_D (inW ws0) (wRsC g qrs qrsr uR qci qpa qpae qpar qpau qpab rap52 ral rrp52 rlp52 ca cal w0 w1 w2 w3 w4) → va_S (inW ws0) s.heap H locs → lv_has ls 4 [(0, .ref qrs), (1, .ref qci), (2, .int p2)] → W p l e rm_Rs_add s m args below meth c H locs 0 0 (MQ below (CV g ws0 (fun u : IV × NI × NL => wRsC g qrs qrsr uR qci qpa qpae qpar qpau qpab u.1 ral u.2.1 u.2.2 ca cal w0 w1 w2 w3 w4) z) args s 0 0 (inW ws0)) (F0 m 52 ls [])
noncomputable def sp_Rs_add_52 (ca : IV) (p2 : Int32) (w0 : IV) (w2 : IV)  (rap52 : IV) (rrp52 : NI) (rlp52 : NL) : IV × NI × NL := lett (sp_Rs_at ((rap52 1) - (1 : Int32)) rap52) fun (y8 : Option Nat) => optt y8 ((rap52, rrp52, rlp52)) (fun (k9 : Nat) => lett (fset rrp52 k9 (upd (rrp52 k9) 0 (ca 1))) fun (rr_11 : NI) => lett (fset rr_11 k9 (upd (rr_11 k9) 1 (ca 2))) fun (rr_12 : NI) => lett (fset rr_12 k9 (upd (rr_12 k9) 2 (ca 4))) fun (rr_13 : NI) => lett (fset rr_13 k9 (upd (rr_13 k9) 3 (ca 5))) fun (rr_14 : NI) => lett (fset rr_14 k9 (upd (rr_14 k9) 4 (ca 10))) fun (rr_15 : NI) => lett (fset rr_15 k9 (upd (rr_15 k9) 5 p2)) fun (rr_16 : NI) => lett (sp_Ci_toldValue ca w0) fun (y17 : Int64) => lett (fset rlp52 k9 (vp_updL (rlp52 k9) 6 y17)) fun (rl_18 : NL) => lett (sp_Ci_correctedValue ca w0 w2) fun (y19 : Int64) => lett (fset rl_18 k9 (vp_updL (rl_18 k9) 7 y19)) fun (rl_20 : NL) => (rap52, rr_16, rl_20))
def ok_Rs_add_52 (ca : IV) (p2 : Int32) (w0 : IV) (w2 : IV)   (rap52 : IV) (rrp52 : NI) (rlp52 : NL) : Prop := lett (sp_Rs_at ((rap52 1) - (1 : Int32)) rap52) fun (y8 : Option Nat) => ((y8 = none → True) ∧ (∀ k9 : Nat, y8 = some k9 → (k9 < 20) ∧ True))
set_option maxRecDepth 100000 in
set_option maxHeartbeats 4000000 in
theorem k_Rs_add_52 {p : Program} {l : Launch} {e : Env} {s : State} {m : MethodId} {args : Array Value} {below : List Frame} {meth : Method} {c : Code} {g : GX} {qrs : Nat} {qrsr : Nat} {uR : Nat → Nat} {qci : Nat} {qpa : Nat} {qpae : Nat} {qpar : Nat} {qpau : Nat} {qpab : Nat} {ws0 : va_W} {ral : LV} {ca : IV} {cal : LV} {w0 : IV} {w1 : IV} {w2 : IV} {w3 : IV} {w4 : IV} {p2 : Int32}  (C : Cx p s m args meth c (inW ws0) g "DecadeBridge$Results" b_Rs_add none 4)  : HL_Rs_add_52 p l e s m args below meth c g qrs qrsr uR qci qpa qpae qpar qpau qpab ws0 ral ca cal w0 w1 w2 w3 w4 p2 (sp_Rs_add_52 ca p2 w0 w2 ) (ok_Rs_add_52 ca p2 w0 w2  ) := by
  intro rap52 rrp52 rlp52 hok z hz H locs ls hP hD hS hl
  obtain ⟨hx, hb, hr, hml, hown, hlk, hts, hK, hZo, hZ⟩ := id C
  unfold sp_Rs_add_52 at hz
  unfold ok_Rs_add_52 at hok
  refine lv_aload_n hx hb d_Rs_add_52 rfl (lv_at hl 0 rfl) ?_
  refine lv_aload_n hx hb d_Rs_add_53 rfl (lv_at hl 0 rfl) ?_
  refine gf C hP 0 1 fkRs rfl (by decide) rfl qf_Rs_18 (gRs_1 _ _ _) d_Rs_add_54 ?_
  refine lv_iconst (v := 1) hx hb d_Rs_add_57 (by decide) ?_
  refine lv_isub hx hb d_Rs_add_58 ?_
  have hB : SubW g (inW ws0) s (wRsC g qrs qrsr uR qci qpa qpae qpar qpau qpab rap52 ral rrp52 rlp52 ca cal w0 w1 w2 w3 w4) (wRs g qrs qrsr uR rap52 ral rrp52 rlp52) [0, 1, 2, 3, 4, 5, 6, 7, 8, 9, 10, 11, 12, 13, 14, 15, 16, 17, 18, 19, 20, 21] _ _ := ⟨rfl, rfl, hP, hD, hS⟩
  refine goO0 hB (run_v C mf_Rs_at qm_Rs_22 (c_Rs_at l g qrs qrsr uR rap52 ral rrp52 rlp52 ((rap52 1) - (1 : Int32))) rfl rfl ⟨Nat.le_of_ble_eq_true rfl, Nat.le_of_ble_eq_true rfl⟩ ⟨Nat.le_of_ble_eq_true rfl, Nat.le_of_ble_eq_true rfl⟩ hB rfl rfl hl rfl rfl (Nat.le_of_ble_eq_true rfl) d_Rs_add_59) (fun y8 ey8 H locs hP hS => ?_)
  have hz := lett_z hz ey8
  have hok := lett_o hok ey8
  refine lv_astore_nQ (Rf := uR) (o := y8) (lv' := [(3, va_rf (Option.map uR y8)), (0, .ref qrs), (1, .ref qci), (2, .int p2)]) hx hb d_Rs_add_62 rfl hl (by decide) rfl (fun ls hl => ?_)
  refine lv_aload_nQ (Rf := uR) (o := y8) hx hb d_Rs_add_63 rfl (lv_at hl 0 rfl) ?_
  rcases y8 with _ | k9
  · have hz := optt_n hz
    refine lv_ifnonnullN hx hb d_Rs_add_64 ?_
    exact endV C hz hP hS d_Rs_add_67
  · have hz := optt_s hz
    have hok := hok.2 _ rfl
    refine lv_ifnonnull (tgt := 68) hx hb d_Rs_add_64 (by decide) ?_
    refine lv_aload_n hx hb d_Rs_add_68 rfl (lv_at hl 0 rfl) ?_
    refine lv_aload_n hx hb d_Rs_add_69 rfl (lv_at hl 2 rfl) ?_
    refine gf C hP 22 1 fkCi rfl (by decide) rfl qf_Rs_34 (gCi_1 _ _ _) d_Rs_add_70 ?_
    have hs10 := hok.1
    have hok := hok.2
    refine pfI C hP hD hS (k9 + 2) 0 fkRt (pg_RsC_rp hs10) (by decide) rfl qf_Rs_39 rfl rfl rfl (Nat.le_of_ble_eq_true rfl) (ff := fun o => fRt o (rlp52 k9)) (sRt_0 _ _ _) d_Rs_add_73 (fun o1 eo1 H locs hP hD hS => ?_)
    obtain ⟨rr_11, err_11⟩ : ∃ y : NI, y = fset rrp52 k9 o1 := ⟨_, rfl⟩
    have hP : va_P g.1 vwCl (wRsC g qrs qrsr uR qci qpa qpae qpar qpau qpab rap52 ral rr_11 rlp52 ca cal w0 w1 w2 w3 w4) H := by rw [err_11]; exact cP (psI_RsC_rp hs10) hP
    have hD : va_D (inW ws0) (wRsC g qrs qrsr uR qci qpa qpae qpar qpau qpab rap52 ral rr_11 rlp52 ca cal w0 w1 w2 w3 w4) := by rw [err_11]; exact cD (psI_RsC_rp hs10) hD
    rw [eo1] at err_11
    have hz := lett_z hz err_11
    refine lv_aload_n hx hb d_Rs_add_76 rfl (lv_at hl 0 rfl) ?_
    refine lv_aload_n hx hb d_Rs_add_77 rfl (lv_at hl 2 rfl) ?_
    refine gf C hP 22 2 fkCi rfl (by decide) rfl qf_Rs_40 (gCi_2 _ _ _) d_Rs_add_78 ?_
    refine pfI C hP hD hS (k9 + 2) 1 fkRt (pg_RsC_rp hs10) (by decide) rfl qf_Rs_43 rfl rfl rfl (Nat.le_of_ble_eq_true rfl) (ff := fun o => fRt o (rlp52 k9)) (sRt_1 _ _ _) d_Rs_add_81 (fun o1 eo1 H locs hP hD hS => ?_)
    obtain ⟨rr_12, err_12⟩ : ∃ y : NI, y = fset rr_11 k9 o1 := ⟨_, rfl⟩
    have hP : va_P g.1 vwCl (wRsC g qrs qrsr uR qci qpa qpae qpar qpau qpab rap52 ral rr_12 rlp52 ca cal w0 w1 w2 w3 w4) H := by rw [err_12]; exact cP (psI_RsC_rp hs10) hP
    have hD : va_D (inW ws0) (wRsC g qrs qrsr uR qci qpa qpae qpar qpau qpab rap52 ral rr_12 rlp52 ca cal w0 w1 w2 w3 w4) := by rw [err_12]; exact cD (psI_RsC_rp hs10) hD
    rw [eo1] at err_12
    have hz := lett_z hz err_12
    refine lv_aload_n hx hb d_Rs_add_84 rfl (lv_at hl 0 rfl) ?_
    refine lv_aload_n hx hb d_Rs_add_85 rfl (lv_at hl 2 rfl) ?_
    refine gf C hP 22 4 fkCi rfl (by decide) rfl qf_Rs_44 (gCi_4 _ _ _) d_Rs_add_86 ?_
    refine pfI C hP hD hS (k9 + 2) 2 fkRt (pg_RsC_rp hs10) (by decide) rfl qf_Rs_47 rfl rfl rfl (Nat.le_of_ble_eq_true rfl) (ff := fun o => fRt o (rlp52 k9)) (sRt_2 _ _ _) d_Rs_add_89 (fun o1 eo1 H locs hP hD hS => ?_)
    obtain ⟨rr_13, err_13⟩ : ∃ y : NI, y = fset rr_12 k9 o1 := ⟨_, rfl⟩
    have hP : va_P g.1 vwCl (wRsC g qrs qrsr uR qci qpa qpae qpar qpau qpab rap52 ral rr_13 rlp52 ca cal w0 w1 w2 w3 w4) H := by rw [err_13]; exact cP (psI_RsC_rp hs10) hP
    have hD : va_D (inW ws0) (wRsC g qrs qrsr uR qci qpa qpae qpar qpau qpab rap52 ral rr_13 rlp52 ca cal w0 w1 w2 w3 w4) := by rw [err_13]; exact cD (psI_RsC_rp hs10) hD
    rw [eo1] at err_13
    have hz := lett_z hz err_13
    refine lv_aload_n hx hb d_Rs_add_92 rfl (lv_at hl 0 rfl) ?_
    refine lv_aload_n hx hb d_Rs_add_93 rfl (lv_at hl 2 rfl) ?_
    refine gf C hP 22 5 fkCi rfl (by decide) rfl qf_Rs_48 (gCi_5 _ _ _) d_Rs_add_94 ?_
    refine pfI C hP hD hS (k9 + 2) 3 fkRt (pg_RsC_rp hs10) (by decide) rfl qf_Rs_51 rfl rfl rfl (Nat.le_of_ble_eq_true rfl) (ff := fun o => fRt o (rlp52 k9)) (sRt_3 _ _ _) d_Rs_add_97 (fun o1 eo1 H locs hP hD hS => ?_)
    obtain ⟨rr_14, err_14⟩ : ∃ y : NI, y = fset rr_13 k9 o1 := ⟨_, rfl⟩
    have hP : va_P g.1 vwCl (wRsC g qrs qrsr uR qci qpa qpae qpar qpau qpab rap52 ral rr_14 rlp52 ca cal w0 w1 w2 w3 w4) H := by rw [err_14]; exact cP (psI_RsC_rp hs10) hP
    have hD : va_D (inW ws0) (wRsC g qrs qrsr uR qci qpa qpae qpar qpau qpab rap52 ral rr_14 rlp52 ca cal w0 w1 w2 w3 w4) := by rw [err_14]; exact cD (psI_RsC_rp hs10) hD
    rw [eo1] at err_14
    have hz := lett_z hz err_14
    refine lv_aload_n hx hb d_Rs_add_100 rfl (lv_at hl 0 rfl) ?_
    refine lv_aload_n hx hb d_Rs_add_101 rfl (lv_at hl 2 rfl) ?_
    refine gf C hP 22 10 fkCi rfl (by decide) rfl qf_Rs_52 (gCi_10 _ _ _) d_Rs_add_102 ?_
    refine pfI C hP hD hS (k9 + 2) 4 fkRt (pg_RsC_rp hs10) (by decide) rfl qf_Rs_55 rfl rfl rfl (Nat.le_of_ble_eq_true rfl) (ff := fun o => fRt o (rlp52 k9)) (sRt_4 _ _ _) d_Rs_add_105 (fun o1 eo1 H locs hP hD hS => ?_)
    obtain ⟨rr_15, err_15⟩ : ∃ y : NI, y = fset rr_14 k9 o1 := ⟨_, rfl⟩
    have hP : va_P g.1 vwCl (wRsC g qrs qrsr uR qci qpa qpae qpar qpau qpab rap52 ral rr_15 rlp52 ca cal w0 w1 w2 w3 w4) H := by rw [err_15]; exact cP (psI_RsC_rp hs10) hP
    have hD : va_D (inW ws0) (wRsC g qrs qrsr uR qci qpa qpae qpar qpau qpab rap52 ral rr_15 rlp52 ca cal w0 w1 w2 w3 w4) := by rw [err_15]; exact cD (psI_RsC_rp hs10) hD
    rw [eo1] at err_15
    have hz := lett_z hz err_15
    refine lv_aload_n hx hb d_Rs_add_108 rfl (lv_at hl 0 rfl) ?_
    refine lv_iload_n hx hb d_Rs_add_109 rfl (lv_at hl 3 rfl) ?_
    refine pfI C hP hD hS (k9 + 2) 5 fkRt (pg_RsC_rp hs10) (by decide) rfl qf_Rs_56 rfl rfl rfl (Nat.le_of_ble_eq_true rfl) (ff := fun o => fRt o (rlp52 k9)) (sRt_5 _ _ _) d_Rs_add_110 (fun o1 eo1 H locs hP hD hS => ?_)
    obtain ⟨rr_16, err_16⟩ : ∃ y : NI, y = fset rr_15 k9 o1 := ⟨_, rfl⟩
    have hP : va_P g.1 vwCl (wRsC g qrs qrsr uR qci qpa qpae qpar qpau qpab rap52 ral rr_16 rlp52 ca cal w0 w1 w2 w3 w4) H := by rw [err_16]; exact cP (psI_RsC_rp hs10) hP
    have hD : va_D (inW ws0) (wRsC g qrs qrsr uR qci qpa qpae qpar qpau qpab rap52 ral rr_16 rlp52 ca cal w0 w1 w2 w3 w4) := by rw [err_16]; exact cD (psI_RsC_rp hs10) hD
    rw [eo1] at err_16
    have hz := lett_z hz err_16
    refine lv_aload_n hx hb d_Rs_add_113 rfl (lv_at hl 0 rfl) ?_
    refine lv_aload_n hx hb d_Rs_add_114 rfl (lv_at hl 2 rfl) ?_
    have hB : SubW g (inW ws0) s (wRsC g qrs qrsr uR qci qpa qpae qpar qpau qpab rap52 ral rr_16 rlp52 ca cal w0 w1 w2 w3 w4) (wCi g qci qpa qpae qpar qpau qpab ca cal w0 w1 w2 w3 w4) [22, 23, 24, 25, 26, 27] _ _ := ⟨rfl, rfl, hP, hD, hS⟩
    refine goL0 hB (run_v C mf_Ci_toldValue qm_Rs_59 (c_Ci_toldValue l g qci qpa qpae qpar qpau qpab ca cal w0 w1 w2 w3 w4) rfl rfl ⟨Nat.le_of_ble_eq_true rfl, Nat.le_of_ble_eq_true rfl⟩ ⟨Nat.le_of_ble_eq_true rfl, Nat.le_of_ble_eq_true rfl⟩ hB rfl rfl hl rfl rfl (Nat.le_of_ble_eq_true rfl) d_Rs_add_115) (fun y17 ey17 H locs hP hS => ?_)
    have hz := lett_z hz ey17
    refine pfL C hP hD hS (k9 + 2) 6 fkRt (pg_RsC_rp hs10) (by decide) rfl qf_Rs_63 rfl rfl rfl (Nat.le_of_ble_eq_true rfl) (ff := fun o => fRt (rr_16 k9) o) (sRt_6 _ _ _) d_Rs_add_118 (fun o1 eo1 H locs hP hD hS => ?_)
    obtain ⟨rl_18, erl_18⟩ : ∃ y : NL, y = fset rlp52 k9 o1 := ⟨_, rfl⟩
    have hP : va_P g.1 vwCl (wRsC g qrs qrsr uR qci qpa qpae qpar qpau qpab rap52 ral rr_16 rl_18 ca cal w0 w1 w2 w3 w4) H := by rw [erl_18]; exact cP (psL_RsC_rp hs10) hP
    have hD : va_D (inW ws0) (wRsC g qrs qrsr uR qci qpa qpae qpar qpau qpab rap52 ral rr_16 rl_18 ca cal w0 w1 w2 w3 w4) := by rw [erl_18]; exact cD (psL_RsC_rp hs10) hD
    rw [eo1] at erl_18
    have hz := lett_z hz erl_18
    refine lv_aload_n hx hb d_Rs_add_121 rfl (lv_at hl 0 rfl) ?_
    refine lv_aload_n hx hb d_Rs_add_122 rfl (lv_at hl 2 rfl) ?_
    have hB : SubW g (inW ws0) s (wRsC g qrs qrsr uR qci qpa qpae qpar qpau qpab rap52 ral rr_16 rl_18 ca cal w0 w1 w2 w3 w4) (wCi g qci qpa qpae qpar qpau qpab ca cal w0 w1 w2 w3 w4) [22, 23, 24, 25, 26, 27] _ _ := ⟨rfl, rfl, hP, hD, hS⟩
    refine goL0 hB (run_v C mf_Ci_correctedValue qm_Rs_67 (c_Ci_correctedValue l g qci qpa qpae qpar qpau qpab ca cal w0 w1 w2 w3 w4) rfl rfl ⟨Nat.le_of_ble_eq_true rfl, Nat.le_of_ble_eq_true rfl⟩ ⟨Nat.le_of_ble_eq_true rfl, Nat.le_of_ble_eq_true rfl⟩ hB rfl rfl hl rfl rfl (Nat.le_of_ble_eq_true rfl) d_Rs_add_123) (fun y19 ey19 H locs hP hS => ?_)
    have hz := lett_z hz ey19
    refine pfL C hP hD hS (k9 + 2) 7 fkRt (pg_RsC_rp hs10) (by decide) rfl qf_Rs_70 rfl rfl rfl (Nat.le_of_ble_eq_true rfl) (ff := fun o => fRt (rr_16 k9) o) (sRt_7 _ _ _) d_Rs_add_126 (fun o1 eo1 H locs hP hD hS => ?_)
    obtain ⟨rl_20, erl_20⟩ : ∃ y : NL, y = fset rl_18 k9 o1 := ⟨_, rfl⟩
    have hP : va_P g.1 vwCl (wRsC g qrs qrsr uR qci qpa qpae qpar qpau qpab rap52 ral rr_16 rl_20 ca cal w0 w1 w2 w3 w4) H := by rw [erl_20]; exact cP (psL_RsC_rp hs10) hP
    have hD : va_D (inW ws0) (wRsC g qrs qrsr uR qci qpa qpae qpar qpau qpab rap52 ral rr_16 rl_20 ca cal w0 w1 w2 w3 w4) := by rw [erl_20]; exact cD (psL_RsC_rp hs10) hD
    rw [eo1] at erl_20
    have hz := lett_z hz erl_20
    exact endV C hz hP hS d_Rs_add_129
noncomputable def bd_Rs_add_24 (ra : IV) (ca : IV) (p2 : Int32) (w0 : IV) (w2 : IV) (r24 : Int32 → NI → NL → (IV × NI × NL)) (x3p24 : Int32) (rrp24 : NI) (rlp24 : NL) : IV × NI × NL := if (ra 1) ≤ (x3p24 + (1 : Int32)) then (sp_Rs_add_52 ca p2 w0 w2 ra rrp24 rlp24) else (lett (sp_Rs_at (x3p24 + (1 : Int32)) ra) fun (y4 : Option Nat) => lett (sp_Rs_copyRow1 y4 x3p24 ra rrp24 rlp24) fun (y6 : NI × NL) => lett (x3p24 + (1 : Int32)) fun (v7 : Int32) => r24 v7 y6.1 y6.2)
def okb_Rs_add_24 (ra : IV) (ca : IV) (p2 : Int32) (w0 : IV) (w2 : IV) (r24 : Int32 → NI → NL → (IV × NI × NL)) (q24 : Int32 → NI → NL → Prop) (x3p24 : Int32) (rrp24 : NI) (rlp24 : NL) : Prop := (((ra 1) ≤ (x3p24 + (1 : Int32)) → ok_Rs_add_52 ca p2 w0 w2 ra rrp24 rlp24) ∧ (¬ ((ra 1) ≤ (x3p24 + (1 : Int32))) → lett (sp_Rs_at (x3p24 + (1 : Int32)) ra) fun (y4 : Option Nat) => (ok_Rs_copyRow1 y4 x3p24 ra) ∧ lett (sp_Rs_copyRow1 y4 x3p24 ra rrp24 rlp24) fun (y6 : NI × NL) => lett (x3p24 + (1 : Int32)) fun (v7 : Int32) => q24 v7 y6.1 y6.2))
noncomputable def sp_Rs_add_24 (ra : IV) (ca : IV) (p2 : Int32) (w0 : IV) (w2 : IV)  : Nat → Int32 → NI → NL → (IV × NI × NL)
  | 0 => fun _ _ _ => default
  | f + 1 => bd_Rs_add_24 ra ca p2 w0 w2  (sp_Rs_add_24 ra ca p2 w0 w2  f)
def ok_Rs_add_24 (ra : IV) (ca : IV) (p2 : Int32) (w0 : IV) (w2 : IV)   : Nat → Int32 → NI → NL → Prop
  | 0 => fun _ _ _ => False
  | f + 1 => okb_Rs_add_24 ra ca p2 w0 w2  (sp_Rs_add_24 ra ca p2 w0 w2  f)  (ok_Rs_add_24 ra ca p2 w0 w2   f)
set_option maxRecDepth 100000 in
set_option maxHeartbeats 4000000 in
theorem kb_Rs_add_24 {p : Program} {l : Launch} {e : Env} {s : State} {m : MethodId} {args : Array Value} {below : List Frame} {meth : Method} {c : Code} {g : GX} {qrs : Nat} {qrsr : Nat} {uR : Nat → Nat} {qci : Nat} {qpa : Nat} {qpae : Nat} {qpar : Nat} {qpau : Nat} {qpab : Nat} {ws0 : va_W} {ra : IV} {ral : LV} {ca : IV} {cal : LV} {w0 : IV} {w1 : IV} {w2 : IV} {w3 : IV} {w4 : IV} {p2 : Int32}  (C : Cx p s m args meth c (inW ws0) g "DecadeBridge$Results" b_Rs_add none 4) {r24 : Int32 → NI → NL → (IV × NI × NL)} {q24 : Int32 → NI → NL → Prop}  (ih24 : HL_Rs_add_24 p l e s m args below meth c g qrs qrsr uR qci qpa qpae qpar qpau qpab ws0 ra ral ca cal w0 w1 w2 w3 w4 p2 r24 q24) : HL_Rs_add_24 p l e s m args below meth c g qrs qrsr uR qci qpa qpae qpar qpau qpab ws0 ra ral ca cal w0 w1 w2 w3 w4 p2 (bd_Rs_add_24 ra ca p2 w0 w2  r24) (okb_Rs_add_24 ra ca p2 w0 w2  r24  q24) := by
  intro x3p24 rrp24 rlp24 hok z hz H locs ls hP hD hS hl
  obtain ⟨hx, hb, hr, hml, hown, hlk, hts, hK, hZo, hZ⟩ := id C
  unfold bd_Rs_add_24 at hz
  unfold okb_Rs_add_24 at hok
  refine lv_iload_n hx hb d_Rs_add_24 rfl (lv_at hl 3 rfl) ?_
  refine lv_iconst (v := 1) hx hb d_Rs_add_25 (by decide) ?_
  refine lv_iadd hx hb d_Rs_add_26 ?_
  refine lv_aload_n hx hb d_Rs_add_27 rfl (lv_at hl 0 rfl) ?_
  refine gf C hP 0 1 fkRs rfl (by decide) rfl qf_Rs_18 (gRs_1 _ _ _) d_Rs_add_28 ?_
  refine lv_icmp_ge (tgt := 52) hx hb d_Rs_add_31 (by decide) (fun c3 => ?_) (fun c3 => ?_)
  · have hz := hz.trans (if_pos c3)
    have hok := hok.1 c3
    exact k_Rs_add_52 C ra rrp24 rlp24 hok _ hz _ _ ls hP hD hS (lv_sub hl [0, 1, 2] rfl)
  · have hz := hz.trans (if_neg c3)
    have hok := hok.2 c3
    refine lv_aload_n hx hb d_Rs_add_34 rfl (lv_at hl 0 rfl) ?_
    refine lv_iload_n hx hb d_Rs_add_35 rfl (lv_at hl 3 rfl) ?_
    refine lv_aload_n hx hb d_Rs_add_36 rfl (lv_at hl 0 rfl) ?_
    refine lv_iload_n hx hb d_Rs_add_37 rfl (lv_at hl 3 rfl) ?_
    refine lv_iconst (v := 1) hx hb d_Rs_add_38 (by decide) ?_
    refine lv_iadd hx hb d_Rs_add_39 ?_
    have hB : SubW g (inW ws0) s (wRsC g qrs qrsr uR qci qpa qpae qpar qpau qpab ra ral rrp24 rlp24 ca cal w0 w1 w2 w3 w4) (wRs g qrs qrsr uR ra ral rrp24 rlp24) [0, 1, 2, 3, 4, 5, 6, 7, 8, 9, 10, 11, 12, 13, 14, 15, 16, 17, 18, 19, 20, 21] _ _ := ⟨rfl, rfl, hP, hD, hS⟩
    refine goO0 hB (run_v C mf_Rs_at qm_Rs_22 (c_Rs_at l g qrs qrsr uR ra ral rrp24 rlp24 (x3p24 + (1 : Int32))) rfl rfl ⟨Nat.le_of_ble_eq_true rfl, Nat.le_of_ble_eq_true rfl⟩ ⟨Nat.le_of_ble_eq_true rfl, Nat.le_of_ble_eq_true rfl⟩ hB rfl rfl hl rfl rfl (Nat.le_of_ble_eq_true rfl) d_Rs_add_40) (fun y4 ey4 H locs hP hS => ?_)
    have hz := lett_z hz ey4
    have hok := lett_o hok ey4
    have hs5 := hok.1
    have hok := hok.2
    have hB : SubW g (inW ws0) s (wRsC g qrs qrsr uR qci qpa qpae qpar qpau qpab ra ral rrp24 rlp24 ca cal w0 w1 w2 w3 w4) (wRs g qrs qrsr uR ra ral rrp24 rlp24) [0, 1, 2, 3, 4, 5, 6, 7, 8, 9, 10, 11, 12, 13, 14, 15, 16, 17, 18, 19, 20, 21] _ _ := ⟨rfl, rfl, hP, hD, hS⟩
    refine goV1 hB (run_v C mf_Rs_copyRow qm_Rs_26 (c_Rs_copyRow1 l g qrs qrsr uR ra ral rrp24 rlp24 y4 x3p24 hs5) rfl rfl ⟨Nat.le_of_ble_eq_true rfl, Nat.le_of_ble_eq_true rfl⟩ ⟨Nat.le_of_ble_eq_true rfl, Nat.le_of_ble_eq_true rfl⟩ hB rfl rfl hl rfl rfl (Nat.le_of_ble_eq_true rfl) d_Rs_add_43) (fun _ => rfl) (fun y6 ey6 H locs hP hD hS => ?_)
    have hP : va_P g.1 vwCl (wRsC g qrs qrsr uR qci qpa qpae qpar qpau qpab ra ral y6.1 y6.2 ca cal w0 w1 w2 w3 w4) H := cP (spq hB.1 hB.2.1 [22, 23, 24, 25, 26, 27] 28 rfl rfl (by decide +kernel) rfl) hP
    have hD : va_D (inW ws0) (wRsC g qrs qrsr uR qci qpa qpae qpar qpau qpab ra ral y6.1 y6.2 ca cal w0 w1 w2 w3 w4) := cD (spq hB.1 hB.2.1 [22, 23, 24, 25, 26, 27] 28 rfl rfl (by decide +kernel) rfl) hD
    have hz := lett_z hz ey6
    have hok := lett_o hok ey6
    obtain ⟨v7, ev7⟩ : ∃ y : Int32, y = x3p24 + (1 : Int32) := ⟨_, rfl⟩
    have hz := lett_z hz ev7
    have hok := lett_o hok ev7
    refine lv_iinc (v := v7) (lv' := [(3, .int v7), (0, .ref qrs), (1, .ref qci), (2, .int p2)]) hx hb d_Rs_add_46 hl (k := 3) rfl (by rw [ev7]; rfl) (by decide) rfl (fun ls hl => ?_)
    refine lv_goto (tgt := 24) hx hb d_Rs_add_49 (by decide) ?_
    exact ih24 v7 y6.1 y6.2 hok _ hz _ _ ls hP hD hS (lv_sub hl [1, 2, 3, 0] rfl)
theorem k_Rs_add_24 {p : Program} {l : Launch} {e : Env} {s : State} {m : MethodId} {args : Array Value} {below : List Frame} {meth : Method} {c : Code} {g : GX} {qrs : Nat} {qrsr : Nat} {uR : Nat → Nat} {qci : Nat} {qpa : Nat} {qpae : Nat} {qpar : Nat} {qpau : Nat} {qpab : Nat} {ws0 : va_W} {ra : IV} {ral : LV} {ca : IV} {cal : LV} {w0 : IV} {w1 : IV} {w2 : IV} {w3 : IV} {w4 : IV} {p2 : Int32}  (C : Cx p s m args meth c (inW ws0) g "DecadeBridge$Results" b_Rs_add none 4) (f : Nat)  : HL_Rs_add_24 p l e s m args below meth c g qrs qrsr uR qci qpa qpae qpar qpau qpab ws0 ra ral ca cal w0 w1 w2 w3 w4 p2 (sp_Rs_add_24 ra ca p2 w0 w2  f) (ok_Rs_add_24 ra ca p2 w0 w2   f) := by
  induction f with
  | zero => intro x3p24 rrp24 rlp24 hok; exact False.elim hok
  | succ f ih => exact kb_Rs_add_24 C  ih
noncomputable def sp_Rs_add (p2 : Int32) (ra : IV) (rr : NI) (rl : NL) (ca : IV) (w0 : IV) (w2 : IV) : IV × NI × NL := if (20 : Int32) ≤ (ra 1) then (sp_Rs_add_24 ra ca p2 w0 w2 big (0 : Int32) rr rl) else (lett (upd ra 1 ((ra 1) + (1 : Int32))) fun (ra_2 : IV) => sp_Rs_add_52 ca p2 w0 w2 ra_2 rr rl)
def ok_Rs_add (p2 : Int32) (ra : IV) (rr : NI) (rl : NL) (ca : IV) (w0 : IV) (w2 : IV) : Prop := (((20 : Int32) ≤ (ra 1) → ok_Rs_add_24 ra ca p2 w0 w2 big (0 : Int32) rr rl) ∧ (¬ ((20 : Int32) ≤ (ra 1)) → lett (upd ra 1 ((ra 1) + (1 : Int32))) fun (ra_2 : IV) => ok_Rs_add_52 ca p2 w0 w2 ra_2 rr rl))
set_option maxRecDepth 100000 in
set_option maxHeartbeats 4000000 in
theorem c_Rs_add (l : Launch) (g : GX) (qrs : Nat) (qrsr : Nat) (uR : Nat → Nat) (qci : Nat) (qpa : Nat) (qpae : Nat) (qpar : Nat) (qpau : Nat) (qpab : Nat) (ra : IV) (ral : LV) (rr : NI) (rl : NL) (ca : IV) (cal : LV) (w0 : IV) (w1 : IV) (w2 : IV) (w3 : IV) (w4 : IV) (p2 : Int32) (hok : ok_Rs_add p2 ra rr rl ca w0 w2) : Met l y_Rs_add (wsY y_Rs_add b_Rs_add 4 none) rm_Rs_add (CP g [.ref qrs, .ref qci, .int p2] (wRsC g qrs qrsr uR qci qpa qpae qpar qpau qpab ra ral rr rl ca cal w0 w1 w2 w3 w4)) (CV g (wRsC g qrs qrsr uR qci qpa qpae qpar qpau qpab ra ral rr rl ca cal w0 w1 w2 w3 w4) (fun u : IV × NI × NL => wRsC g qrs qrsr uR qci qpa qpae qpar qpau qpab u.1 ral u.2.1 u.2.2 ca cal w0 w1 w2 w3 w4) (sp_Rs_add p2 ra rr rl ca w0 w2)) 0 0 (inW (wRsC g qrs qrsr uR qci qpa qpae qpar qpau qpab ra ral rr rl ca cal w0 w1 w2 w3 w4)) := by
  refine Met.ofW (cc := b_Rs_add) (maxL := 4) (ret := none) pn_Rs rfl ?_
  intro p e s m args below meth c s₁ B hml hv
  obtain ⟨rfl, C, hP, hD, hS⟩ := enter "DecadeBridge$Results" rfl B hml hv
  obtain ⟨hx, hb, hr, hml, hown, hlk, hts, hK, hZo, hZ⟩ := id C
  refine entryW (lv := [(0, .ref qrs), (1, .ref qci), (2, .int p2)]) rfl (Nat.le_of_ble_eq_true rfl) (fun ls hl => ?_)
  obtain ⟨z, hz⟩ : ∃ z, z = sp_Rs_add p2 ra rr rl ca w0 w2 := ⟨_, rfl⟩
  rw [← hz]
  unfold sp_Rs_add at hz
  unfold ok_Rs_add at hok
  refine lv_aload_n hx hb d_Rs_add_0 rfl (lv_at hl 0 rfl) ?_
  refine gf C hP 0 1 fkRs rfl (by decide) rfl qf_Rs_18 (gRs_1 _ _ _) d_Rs_add_1 ?_
  refine lv_bipush (v := 20) hx hb d_Rs_add_4 (by decide) ?_
  refine lv_icmp_ge (tgt := 22) hx hb d_Rs_add_6 (by decide) (fun c1 => ?_) (fun c1 => ?_)
  · have hz := hz.trans (if_pos c1)
    have hok := hok.1 c1
    refine lv_iconst (v := 0) hx hb d_Rs_add_22 (by decide) ?_
    refine lv_istore_n (lv' := [(3, .int (0 : Int32)), (0, .ref qrs), (1, .ref qci), (2, .int p2)]) hx hb d_Rs_add_23 rfl hl (by decide) rfl (fun ls hl => ?_)
    exact k_Rs_add_24 C big (0 : Int32) rr rl hok _ hz _ _ ls hP hD hS (lv_sub hl [1, 2, 3, 0] rfl)
  · have hz := hz.trans (if_neg c1)
    have hok := hok.2 c1
    refine lv_aload_n hx hb d_Rs_add_9 rfl (lv_at hl 0 rfl) ?_
    refine lv_dup hx hb d_Rs_add_10 rfl ?_
    refine gf C hP 0 1 fkRs rfl (by decide) rfl qf_Rs_18 (gRs_1 _ _ _) d_Rs_add_11 ?_
    refine lv_iconst (v := 1) hx hb d_Rs_add_14 (by decide) ?_
    refine lv_iadd hx hb d_Rs_add_15 ?_
    refine pfI C hP hD hS 0 1 fkRs rfl (by decide) rfl qf_Rs_18 rfl rfl rfl (Nat.le_of_ble_eq_true rfl) (ff := fun o => fRs qrsr o ral) (sRs_1 _ _ _ _) d_Rs_add_16 (fun ra_2 era_2 H locs hP hD hS => ?_)
    have hP : va_P g.1 vwCl (wRsC g qrs qrsr uR qci qpa qpae qpar qpau qpab ra_2 ral rr rl ca cal w0 w1 w2 w3 w4) H := hP
    have hD : va_D (inW (wRsC g qrs qrsr uR qci qpa qpae qpar qpau qpab ra ral rr rl ca cal w0 w1 w2 w3 w4)) (wRsC g qrs qrsr uR qci qpa qpae qpar qpau qpab ra_2 ral rr rl ca cal w0 w1 w2 w3 w4) := hD
    have hz := lett_z hz era_2
    have hok := lett_o hok era_2
    refine lv_goto (tgt := 52) hx hb d_Rs_add_19 (by decide) ?_
    exact k_Rs_add_52 C ra_2 rr rl hok _ hz _ _ ls hP hD hS hl
abbrev rm_Rs_gather : Room := { frames := 4, cells := 0, slots := 0, locals := 89 }
def HL_Rs_gather_12 (p : Program) (l : Launch) (e : Env) (s : State) (m : MethodId) (args : Array Value) (below : List Frame) (meth : Method) (c : Code) (g : GX) (qrs : Nat) (qrsr : Nat) (uR : Nat → Nat) (ws0 : va_W) (rr : NI) (rl : NL) (p1 : Int32) (sp : Int32 → IV → LV → (Int32 × IV × LV)) (ok : Int32 → IV → LV → Prop) : Prop := ∀ (x2p12 : Int32) (rap12 : IV) (ralp12 : LV), ok x2p12 rap12 ralp12 → ∀ z : (Int32 × IV × LV), z = sp x2p12 rap12 ralp12 → ∀ (H : Heap) (locs : List Loc) (ls : Array Slot), va_P g.1 vwCl (wRs g qrs qrsr uR rap12 ralp12 rr rl) H → va_D (inW ws0) (wRs g qrs qrsr uR rap12 ralp12 rr rl) → va_S (inW ws0) s.heap H locs → lv_has ls 4 [(0, .ref qrs), (1, .int p1), (2, .int x2p12)] → W p l e rm_Rs_gather s m args below meth c H locs 0 0 (MQ below (CI g ws0 (fun u : IV × LV => wRs g qrs qrsr uR u.1 u.2 rr rl) z) args s 0 0 (inW ws0)) (F0 m 12 ls [])
def HL_Rs_gather_48 (p : Program) (l : Launch) (e : Env) (s : State) (m : MethodId) (args : Array Value) (below : List Frame) (meth : Method) (c : Code) (g : GX) (qrs : Nat) (qrsr : Nat) (uR : Nat → Nat) (ws0 : va_W) (rr : NI) (rl : NL) (p1 : Int32) (x2p12 : Int32) (sp : IV → LV → (Int32 × IV × LV)) (ok : IV → LV → Prop) : Prop := ∀ (rap48 : IV) (ralp48 : LV), ok rap48 ralp48 → ∀ z : (Int32 × IV × LV), z = sp rap48 ralp48 → ∀ (H : Heap) (locs : List Loc) (ls : Array Slot), va_P g.1 vwCl (wRs g qrs qrsr uR rap48 ralp48 rr rl) H → va_D (inW ws0) (wRs g qrs qrsr uR rap48 ralp48 rr rl) → va_S (inW ws0) s.heap H locs → lv_has ls 4 [(0, .ref qrs), (1, .int p1), (2, .int x2p12)] → W p l e rm_Rs_gather s m args below meth c H locs 0 0 (MQ below (CI g ws0 (fun u : IV × LV => wRs g qrs qrsr uR u.1 u.2 rr rl) z) args s 0 0 (inW ws0)) (F0 m 48 ls [])
def HL_Rs_gather_54 (p : Program) (l : Launch) (e : Env) (s : State) (m : MethodId) (args : Array Value) (below : List Frame) (meth : Method) (c : Code) (g : GX) (qrs : Nat) (qrsr : Nat) (uR : Nat → Nat) (ws0 : va_W) (rap12 : IV) (ralp12 : LV) (rr : NI) (rl : NL) (sp : (Int32 × IV × LV)) (ok : Prop) : Prop := ∀ (_ : Unit), ok → ∀ z : (Int32 × IV × LV), z = sp → ∀ (H : Heap) (locs : List Loc) (ls : Array Slot), va_P g.1 vwCl (wRs g qrs qrsr uR rap12 ralp12 rr rl) H → va_D (inW ws0) (wRs g qrs qrsr uR rap12 ralp12 rr rl) → va_S (inW ws0) s.heap H locs → lv_has ls 4 [(0, .ref qrs)] → W p l e rm_Rs_gather s m args below meth c H locs 0 0 (MQ below (CI g ws0 (fun u : IV × LV => wRs g qrs qrsr uR u.1 u.2 rr rl) z) args s 0 0 (inW ws0)) (F0 m 54 ls [])
noncomputable def sp_Rs_gather_54 (rap12 : IV) (ralp12 : LV)   : Int32 × IV × LV := if (rap12 4) ≤ 0 then (((0 : Int32), (rap12, ralp12))) else (((1 : Int32), (rap12, ralp12)))
def ok_Rs_gather_54 (rap12 : IV) (ralp12 : LV)    : Prop := True
set_option maxRecDepth 100000 in
set_option maxHeartbeats 4000000 in
theorem k_Rs_gather_54 {p : Program} {l : Launch} {e : Env} {s : State} {m : MethodId} {args : Array Value} {below : List Frame} {meth : Method} {c : Code} {g : GX} {qrs : Nat} {qrsr : Nat} {uR : Nat → Nat} {ws0 : va_W} {rap12 : IV} {ralp12 : LV} {rr : NI} {rl : NL}  (C : Cx p s m args meth c (inW ws0) g "DecadeBridge$Results" b_Rs_gather (some .boolean) 4)  : HL_Rs_gather_54 p l e s m args below meth c g qrs qrsr uR ws0 rap12 ralp12 rr rl (sp_Rs_gather_54 rap12 ralp12 ) (ok_Rs_gather_54 rap12 ralp12  ) := by
  intro _ hok z hz H locs ls hP hD hS hl
  obtain ⟨hx, hb, hr, hml, hown, hlk, hts, hK, hZo, hZ⟩ := id C
  unfold sp_Rs_gather_54 at hz
  refine lv_aload_n hx hb d_Rs_gather_54 rfl (lv_at hl 0 rfl) ?_
  refine gf C hP 0 4 fkRs rfl (by decide) rfl qf_Rs_84 (gRs_4 _ _ _) d_Rs_gather_55 ?_
  refine lv_if_le (tgt := 65) hx hb d_Rs_gather_58 (by decide) (fun c12 => ?_) (fun c12 => ?_)
  · have hz := hz.trans (if_pos c12)
    refine lv_iconst (v := 0) hx hb d_Rs_gather_65 (by decide) ?_
    exact endZ1 C hz hP hS rfl d_Rs_gather_66
  · have hz := hz.trans (if_neg c12)
    refine lv_iconst (v := 1) hx hb d_Rs_gather_61 (by decide) ?_
    refine lv_goto (tgt := 66) hx hb d_Rs_gather_62 (by decide) ?_
    exact endZ1 C hz hP hS rfl d_Rs_gather_66
noncomputable def sp_Rs_gather_48 (x2p12 : Int32) (r12 : Int32 → IV → LV → (Int32 × IV × LV)) (rap48 : IV) (ralp48 : LV) : Int32 × IV × LV := lett (x2p12 + (1 : Int32)) fun (v11 : Int32) => r12 v11 rap48 ralp48
def ok_Rs_gather_48 (x2p12 : Int32) (r12 : Int32 → IV → LV → (Int32 × IV × LV)) (q12 : Int32 → IV → LV → Prop) (rap48 : IV) (ralp48 : LV) : Prop := lett (x2p12 + (1 : Int32)) fun (v11 : Int32) => q12 v11 rap48 ralp48
set_option maxRecDepth 100000 in
set_option maxHeartbeats 4000000 in
theorem k_Rs_gather_48 {p : Program} {l : Launch} {e : Env} {s : State} {m : MethodId} {args : Array Value} {below : List Frame} {meth : Method} {c : Code} {g : GX} {qrs : Nat} {qrsr : Nat} {uR : Nat → Nat} {ws0 : va_W} {rr : NI} {rl : NL} {p1 : Int32} {x2p12 : Int32} {r12 : Int32 → IV → LV → (Int32 × IV × LV)} {q12 : Int32 → IV → LV → Prop} (C : Cx p s m args meth c (inW ws0) g "DecadeBridge$Results" b_Rs_gather (some .boolean) 4) (ih12 : HL_Rs_gather_12 p l e s m args below meth c g qrs qrsr uR ws0 rr rl p1 r12 q12) : HL_Rs_gather_48 p l e s m args below meth c g qrs qrsr uR ws0 rr rl p1 x2p12 (sp_Rs_gather_48 x2p12 r12) (ok_Rs_gather_48 x2p12 r12 q12) := by
  intro rap48 ralp48 hok z hz H locs ls hP hD hS hl
  obtain ⟨hx, hb, hr, hml, hown, hlk, hts, hK, hZo, hZ⟩ := id C
  unfold sp_Rs_gather_48 at hz
  unfold ok_Rs_gather_48 at hok
  obtain ⟨v11, ev11⟩ : ∃ y : Int32, y = x2p12 + (1 : Int32) := ⟨_, rfl⟩
  have hz := lett_z hz ev11
  have hok := lett_o hok ev11
  refine lv_iinc (v := v11) (lv' := [(2, .int v11), (0, .ref qrs), (1, .int p1)]) hx hb d_Rs_gather_48 hl (k := 2) rfl (by rw [ev11]; rfl) (by decide) rfl (fun ls hl => ?_)
  refine lv_goto (tgt := 12) hx hb d_Rs_gather_51 (by decide) ?_
  exact ih12 v11 rap48 ralp48 hok _ hz _ _ ls hP hD hS (lv_sub hl [1, 2, 0] rfl)
noncomputable def bd_Rs_gather_12 (rr : NI) (p1 : Int32) (rl : NL) (r12 : Int32 → IV → LV → (Int32 × IV × LV)) (x2p12 : Int32) (rap12 : IV) (ralp12 : LV) : Int32 × IV × LV := if (rap12 1) ≤ x2p12 then (sp_Rs_gather_54 rap12 ralp12) else (lett (sp_Rs_at x2p12 rap12) fun (y4 : Option Nat) => optt y4 (sp_Rs_gather_48 x2p12 r12 rap12 ralp12) (fun (k5 : Nat) => lett (sp_Rs_mannerOf x2p12 rap12 rr) fun (y7 : Int32) => if y7 = p1 then (lett (sp_Rs_gatherOne x2p12 (rl k5 7) rap12 ralp12) fun (y10 : IV × LV) => sp_Rs_gather_48 x2p12 r12 y10.1 y10.2) else (sp_Rs_gather_48 x2p12 r12 rap12 ralp12)))
def okb_Rs_gather_12 (rr : NI) (p1 : Int32) (rl : NL) (r12 : Int32 → IV → LV → (Int32 × IV × LV)) (q12 : Int32 → IV → LV → Prop) (x2p12 : Int32) (rap12 : IV) (ralp12 : LV) : Prop := (((rap12 1) ≤ x2p12 → True) ∧ (¬ ((rap12 1) ≤ x2p12) → lett (sp_Rs_at x2p12 rap12) fun (y4 : Option Nat) => ((y4 = none → ok_Rs_gather_48 x2p12 r12 q12 rap12 ralp12) ∧ (∀ k5 : Nat, y4 = some k5 → (ok_Rs_mannerOf x2p12 rap12 rr) ∧ lett (sp_Rs_mannerOf x2p12 rap12 rr) fun (y7 : Int32) => ((y7 = p1 → (k5 < 20) ∧ lett (sp_Rs_gatherOne x2p12 (rl k5 7) rap12 ralp12) fun (y10 : IV × LV) => ok_Rs_gather_48 x2p12 r12 q12 y10.1 y10.2) ∧ (¬ (y7 = p1) → ok_Rs_gather_48 x2p12 r12 q12 rap12 ralp12))))))
noncomputable def sp_Rs_gather_12 (rr : NI) (p1 : Int32) (rl : NL)  : Nat → Int32 → IV → LV → (Int32 × IV × LV)
  | 0 => fun _ _ _ => default
  | f + 1 => bd_Rs_gather_12 rr p1 rl  (sp_Rs_gather_12 rr p1 rl  f)
def ok_Rs_gather_12 (rr : NI) (p1 : Int32) (rl : NL)   : Nat → Int32 → IV → LV → Prop
  | 0 => fun _ _ _ => False
  | f + 1 => okb_Rs_gather_12 rr p1 rl  (sp_Rs_gather_12 rr p1 rl  f)  (ok_Rs_gather_12 rr p1 rl   f)
set_option maxRecDepth 100000 in
set_option maxHeartbeats 4000000 in
theorem kb_Rs_gather_12 {p : Program} {l : Launch} {e : Env} {s : State} {m : MethodId} {args : Array Value} {below : List Frame} {meth : Method} {c : Code} {g : GX} {qrs : Nat} {qrsr : Nat} {uR : Nat → Nat} {ws0 : va_W} {rr : NI} {rl : NL} {p1 : Int32}  (C : Cx p s m args meth c (inW ws0) g "DecadeBridge$Results" b_Rs_gather (some .boolean) 4) {r12 : Int32 → IV → LV → (Int32 × IV × LV)} {q12 : Int32 → IV → LV → Prop}  (ih12 : HL_Rs_gather_12 p l e s m args below meth c g qrs qrsr uR ws0 rr rl p1 r12 q12) : HL_Rs_gather_12 p l e s m args below meth c g qrs qrsr uR ws0 rr rl p1 (bd_Rs_gather_12 rr p1 rl  r12) (okb_Rs_gather_12 rr p1 rl  r12  q12) := by
  intro x2p12 rap12 ralp12 hok z hz H locs ls hP hD hS hl
  obtain ⟨hx, hb, hr, hml, hown, hlk, hts, hK, hZo, hZ⟩ := id C
  unfold bd_Rs_gather_12 at hz
  unfold okb_Rs_gather_12 at hok
  refine lv_iload_n hx hb d_Rs_gather_12 rfl (lv_at hl 2 rfl) ?_
  refine lv_aload_n hx hb d_Rs_gather_13 rfl (lv_at hl 0 rfl) ?_
  refine gf C hP 0 1 fkRs rfl (by decide) rfl qf_Rs_18 (gRs_1 _ _ _) d_Rs_gather_14 ?_
  refine lv_icmp_ge (tgt := 54) hx hb d_Rs_gather_17 (by decide) (fun c3 => ?_) (fun c3 => ?_)
  · have hz := hz.trans (if_pos c3)
    exact k_Rs_gather_54 C () trivial _ hz _ _ ls hP hD hS (lv_sub hl [0] rfl)
  · have hz := hz.trans (if_neg c3)
    have hok := hok.2 c3
    refine lv_aload_n hx hb d_Rs_gather_20 rfl (lv_at hl 0 rfl) ?_
    refine lv_iload_n hx hb d_Rs_gather_21 rfl (lv_at hl 2 rfl) ?_
    have hB : SubW g (inW ws0) s (wRs g qrs qrsr uR rap12 ralp12 rr rl) _ (List.range _) _ _ := (subF hP hD hS)
    refine goO0 hB (run_v C mf_Rs_at qm_Rs_22 (c_Rs_at l g qrs qrsr uR rap12 ralp12 rr rl x2p12) rfl rfl ⟨Nat.le_of_ble_eq_true rfl, Nat.le_of_ble_eq_true rfl⟩ ⟨Nat.le_of_ble_eq_true rfl, Nat.le_of_ble_eq_true rfl⟩ hB rfl rfl hl rfl rfl (Nat.le_of_ble_eq_true rfl) d_Rs_gather_22) (fun y4 ey4 H locs hP hS => ?_)
    have hz := lett_z hz ey4
    have hok := lett_o hok ey4
    refine lv_astore_nQ (Rf := uR) (o := y4) (lv' := [(3, va_rf (Option.map uR y4)), (0, .ref qrs), (1, .int p1), (2, .int x2p12)]) hx hb d_Rs_gather_25 rfl hl (by decide) rfl (fun ls hl => ?_)
    refine lv_aload_nQ (Rf := uR) (o := y4) hx hb d_Rs_gather_26 rfl (lv_at hl 0 rfl) ?_
    rcases y4 with _ | k5
    · have hz := optt_n hz
      have hok := hok.1 rfl
      refine lv_ifnullN (tgt := 48) hx hb d_Rs_gather_27 (by decide) ?_
      exact k_Rs_gather_48 C ih12 rap12 ralp12 hok _ hz _ _ ls hP hD hS (lv_sub hl [1, 2, 3] rfl)
    · have hz := optt_s hz
      have hok := hok.2 _ rfl
      refine lv_ifnull hx hb d_Rs_gather_27 ?_
      refine lv_aload_n hx hb d_Rs_gather_30 rfl (lv_at hl 1 rfl) ?_
      refine lv_iload_n hx hb d_Rs_gather_31 rfl (lv_at hl 3 rfl) ?_
      have hs6 := hok.1
      have hok := hok.2
      have hB : SubW g (inW ws0) s (wRs g qrs qrsr uR rap12 ralp12 rr rl) _ (List.range _) _ _ := (subF hP hD hS)
      refine goI0 hB (run_v C mf_Rs_mannerOf qm_Rs_90 (c_Rs_mannerOf l g qrs qrsr uR rap12 ralp12 rr rl x2p12 hs6) rfl rfl ⟨Nat.le_of_ble_eq_true rfl, Nat.le_of_ble_eq_true rfl⟩ ⟨Nat.le_of_ble_eq_true rfl, Nat.le_of_ble_eq_true rfl⟩ hB rfl rfl hl rfl rfl (Nat.le_of_ble_eq_true rfl) d_Rs_gather_32) (fun y7 ey7 H locs hP hS => ?_)
      have hz := lett_z hz ey7
      have hok := lett_o hok ey7
      refine lv_iload_n hx hb d_Rs_gather_35 rfl (lv_at hl 2 rfl) ?_
      refine lv_icmp_ne (tgt := 48) hx hb d_Rs_gather_36 (by decide) (fun c8 => ?_) (fun c8 => ?_)
      · have hz := hz.trans (if_neg c8)
        have hok := hok.2 c8
        exact k_Rs_gather_48 C ih12 rap12 ralp12 hok _ hz _ _ ls hP hD hS (lv_sub hl [1, 2, 3] rfl)
      · have hz := hz.trans (if_pos c8)
        have hok := hok.1 c8
        refine lv_aload_n hx hb d_Rs_gather_39 rfl (lv_at hl 1 rfl) ?_
        refine lv_iload_n hx hb d_Rs_gather_40 rfl (lv_at hl 3 rfl) ?_
        refine lv_aload_n hx hb d_Rs_gather_41 rfl (lv_at hl 0 rfl) ?_
        have hs9 := hok.1
        have hok := hok.2
        refine gf C hP (k5 + 2) 7 fkRt (pg_Rs_rp hs9) (by decide) rfl qf_Rs_70 (gRt_7 _ _) d_Rs_gather_42 ?_
        have hB : SubW g (inW ws0) s (wRs g qrs qrsr uR rap12 ralp12 rr rl) _ (List.range _) _ _ := (subF hP hD hS)
        refine goVF hB (run_v C mf_Rs_gatherOne qm_Rs_93 (c_Rs_gatherOne l g qrs qrsr uR rap12 ralp12 rr rl x2p12 (rl k5 7)) rfl rfl ⟨Nat.le_of_ble_eq_true rfl, Nat.le_of_ble_eq_true rfl⟩ ⟨Nat.le_of_ble_eq_true rfl, Nat.le_of_ble_eq_true rfl⟩ hB rfl rfl hl rfl rfl (Nat.le_of_ble_eq_true rfl) d_Rs_gather_45) (fun _ => rfl) (fun y10 ey10 H locs hP hD hS => ?_)
        have hP : va_P g.1 vwCl (wRs g qrs qrsr uR y10.1 y10.2 rr rl) H := hP
        have hD : va_D (inW ws0) (wRs g qrs qrsr uR y10.1 y10.2 rr rl) := hD
        have hz := lett_z hz ey10
        have hok := lett_o hok ey10
        exact k_Rs_gather_48 C ih12 y10.1 y10.2 hok _ hz _ _ ls hP hD hS (lv_sub hl [1, 2, 3] rfl)
theorem k_Rs_gather_12 {p : Program} {l : Launch} {e : Env} {s : State} {m : MethodId} {args : Array Value} {below : List Frame} {meth : Method} {c : Code} {g : GX} {qrs : Nat} {qrsr : Nat} {uR : Nat → Nat} {ws0 : va_W} {rr : NI} {rl : NL} {p1 : Int32}  (C : Cx p s m args meth c (inW ws0) g "DecadeBridge$Results" b_Rs_gather (some .boolean) 4) (f : Nat)  : HL_Rs_gather_12 p l e s m args below meth c g qrs qrsr uR ws0 rr rl p1 (sp_Rs_gather_12 rr p1 rl  f) (ok_Rs_gather_12 rr p1 rl   f) := by
  induction f with
  | zero => intro x2p12 rap12 ralp12 hok; exact False.elim hok
  | succ f ih => exact kb_Rs_gather_12 C  ih
noncomputable def sp_Rs_gather (p1 : Int32) (ra : IV) (ral : LV) (rr : NI) (rl : NL) : Int32 × IV × LV := lett (upd ra 4 (0 : Int32)) fun (ra_1 : IV) => lett (vp_updL ral 5 (0 : Int64)) fun (ral_2 : LV) => sp_Rs_gather_12 rr p1 rl big (0 : Int32) ra_1 ral_2
def ok_Rs_gather (p1 : Int32) (ra : IV) (ral : LV) (rr : NI) (rl : NL) : Prop := lett (upd ra 4 (0 : Int32)) fun (ra_1 : IV) => lett (vp_updL ral 5 (0 : Int64)) fun (ral_2 : LV) => ok_Rs_gather_12 rr p1 rl big (0 : Int32) ra_1 ral_2
set_option maxRecDepth 100000 in
set_option maxHeartbeats 4000000 in
theorem c_Rs_gather (l : Launch) (g : GX) (qrs : Nat) (qrsr : Nat) (uR : Nat → Nat) (ra : IV) (ral : LV) (rr : NI) (rl : NL) (p1 : Int32) (hok : ok_Rs_gather p1 ra ral rr rl) : Met l y_Rs_gather (wsY y_Rs_gather b_Rs_gather 4 (some .boolean)) rm_Rs_gather (CP g [.ref qrs, .int p1] (wRs g qrs qrsr uR ra ral rr rl)) (CI g (wRs g qrs qrsr uR ra ral rr rl) (fun u : IV × LV => wRs g qrs qrsr uR u.1 u.2 rr rl) (sp_Rs_gather p1 ra ral rr rl)) 0 0 (inW (wRs g qrs qrsr uR ra ral rr rl)) := by
  refine Met.ofW (cc := b_Rs_gather) (maxL := 4) (ret := (some .boolean)) pn_Rs rfl ?_
  intro p e s m args below meth c s₁ B hml hv
  obtain ⟨rfl, C, hP, hD, hS⟩ := enter "DecadeBridge$Results" rfl B hml hv
  obtain ⟨hx, hb, hr, hml, hown, hlk, hts, hK, hZo, hZ⟩ := id C
  refine entryW (lv := [(0, .ref qrs), (1, .int p1)]) rfl (Nat.le_of_ble_eq_true rfl) (fun ls hl => ?_)
  obtain ⟨z, hz⟩ : ∃ z, z = sp_Rs_gather p1 ra ral rr rl := ⟨_, rfl⟩
  rw [← hz]
  unfold sp_Rs_gather at hz
  unfold ok_Rs_gather at hok
  refine lv_aload_n hx hb d_Rs_gather_0 rfl (lv_at hl 0 rfl) ?_
  refine lv_iconst (v := 0) hx hb d_Rs_gather_1 (by decide) ?_
  refine pfI C hP hD hS 0 4 fkRs rfl (by decide) rfl qf_Rs_84 rfl rfl rfl (Nat.le_of_ble_eq_true rfl) (ff := fun o => fRs qrsr o ral) (sRs_4 _ _ _ _) d_Rs_gather_2 (fun ra_1 era_1 H locs hP hD hS => ?_)
  have hP : va_P g.1 vwCl (wRs g qrs qrsr uR ra_1 ral rr rl) H := hP
  have hD : va_D (inW (wRs g qrs qrsr uR ra ral rr rl)) (wRs g qrs qrsr uR ra_1 ral rr rl) := hD
  have hz := lett_z hz era_1
  have hok := lett_o hok era_1
  refine lv_aload_n hx hb d_Rs_gather_5 rfl (lv_at hl 0 rfl) ?_
  refine lv_lconst (v := 0) hx hb d_Rs_gather_6 (by decide) ?_
  refine pfL C hP hD hS 0 5 fkRs rfl (by decide) rfl qf_Rs_87 rfl rfl rfl (Nat.le_of_ble_eq_true rfl) (ff := fun o => fRs qrsr ra_1 o) (sRs_5 _ _ _ _) d_Rs_gather_7 (fun ral_2 eral_2 H locs hP hD hS => ?_)
  have hP : va_P g.1 vwCl (wRs g qrs qrsr uR ra_1 ral_2 rr rl) H := hP
  have hD : va_D (inW (wRs g qrs qrsr uR ra ral rr rl)) (wRs g qrs qrsr uR ra_1 ral_2 rr rl) := hD
  have hz := lett_z hz eral_2
  have hok := lett_o hok eral_2
  refine lv_iconst (v := 0) hx hb d_Rs_gather_10 (by decide) ?_
  refine lv_istore_n (lv' := [(2, .int (0 : Int32)), (0, .ref qrs), (1, .int p1)]) hx hb d_Rs_gather_11 rfl hl (by decide) rfl (fun ls hl => ?_)
  exact k_Rs_gather_12 C big (0 : Int32) ra_1 ral_2 hok _ hz _ _ ls hP hD hS (lv_sub hl [1, 2, 0] rfl)
abbrev rm_Rs_steadiestManner : Room := { frames := 5, cells := 0, slots := 0, locals := 112 }
def HL_Rs_steadiestManner_13 (p : Program) (l : Launch) (e : Env) (s : State) (m : MethodId) (args : Array Value) (below : List Frame) (meth : Method) (c : Code) (g : GX) (qrs : Nat) (qrsr : Nat) (uR : Nat → Nat) (ws0 : va_W) (rr : NI) (rl : NL) (y2 : Int32) (sp : Int32 → Int64 → Int32 → IV → LV → (Int32 × IV × LV)) (ok : Int32 → Int64 → Int32 → IV → LV → Prop) : Prop := ∀ (x1p13 : Int32) (x2p13 : Int64) (x5p13 : Int32) (rap13 : IV) (ralp13 : LV), ok x1p13 x2p13 x5p13 rap13 ralp13 → ∀ z : (Int32 × IV × LV), z = sp x1p13 x2p13 x5p13 rap13 ralp13 → ∀ (H : Heap) (locs : List Loc) (ls : Array Slot), va_P g.1 vwCl (wRs g qrs qrsr uR rap13 ralp13 rr rl) H → va_D (inW ws0) (wRs g qrs qrsr uR rap13 ralp13 rr rl) → va_S (inW ws0) s.heap H locs → lv_has ls 6 [(0, .ref qrs), (1, .int x1p13), (2, .long x2p13), (4, .int y2), (5, .int x5p13)] → W p l e rm_Rs_steadiestManner s m args below meth c H locs 0 0 (MQ below (CI g ws0 (fun u : IV × LV => wRs g qrs qrsr uR u.1 u.2 rr rl) z) args s 0 0 (inW ws0)) (F0 m 13 ls [])
def HL_Rs_steadiestManner_56 (p : Program) (l : Launch) (e : Env) (s : State) (m : MethodId) (args : Array Value) (below : List Frame) (meth : Method) (c : Code) (g : GX) (qrs : Nat) (qrsr : Nat) (uR : Nat → Nat) (ws0 : va_W) (y5 : Int32 × IV × LV) (rr : NI) (rl : NL) (y2 : Int32) (x5p13 : Int32) (sp : (Int32 × IV × LV)) (ok : Prop) : Prop := ∀ (_ : Unit), ok → ∀ z : (Int32 × IV × LV), z = sp → ∀ (H : Heap) (locs : List Loc) (ls : Array Slot), va_P g.1 vwCl (wRs g qrs qrsr uR y5.2.1 y5.2.2 rr rl) H → va_D (inW ws0) (wRs g qrs qrsr uR y5.2.1 y5.2.2 rr rl) → va_S (inW ws0) s.heap H locs → lv_has ls 6 [(0, .ref qrs), (4, .int y2), (5, .int x5p13)] → W p l e rm_Rs_steadiestManner s m args below meth c H locs 0 0 (MQ below (CI g ws0 (fun u : IV × LV => wRs g qrs qrsr uR u.1 u.2 rr rl) z) args s 0 0 (inW ws0)) (F0 m 56 ls [])
def HL_Rs_steadiestManner_69 (p : Program) (l : Launch) (e : Env) (s : State) (m : MethodId) (args : Array Value) (below : List Frame) (meth : Method) (c : Code) (g : GX) (qrs : Nat) (qrsr : Nat) (uR : Nat → Nat) (ws0 : va_W) (y5 : Int32 × IV × LV) (rr : NI) (rl : NL) (y2 : Int32) (x5p13 : Int32) (sp : Int32 → Int64 → (Int32 × IV × LV)) (ok : Int32 → Int64 → Prop) : Prop := ∀ (x1p69 : Int32) (x2p69 : Int64), ok x1p69 x2p69 → ∀ z : (Int32 × IV × LV), z = sp x1p69 x2p69 → ∀ (H : Heap) (locs : List Loc) (ls : Array Slot), va_P g.1 vwCl (wRs g qrs qrsr uR y5.2.1 y5.2.2 rr rl) H → va_D (inW ws0) (wRs g qrs qrsr uR y5.2.1 y5.2.2 rr rl) → va_S (inW ws0) s.heap H locs → lv_has ls 6 [(0, .ref qrs), (1, .int x1p69), (2, .long x2p69), (4, .int y2), (5, .int x5p13)] → W p l e rm_Rs_steadiestManner s m args below meth c H locs 0 0 (MQ below (CI g ws0 (fun u : IV × LV => wRs g qrs qrsr uR u.1 u.2 rr rl) z) args s 0 0 (inW ws0)) (F0 m 69 ls [])
noncomputable def sp_Rs_steadiestManner_69 (x5p13 : Int32) (y5 : Int32 × IV × LV) (r13 : Int32 → Int64 → Int32 → IV → LV → (Int32 × IV × LV)) (x1p69 : Int32) (x2p69 : Int64) : Int32 × IV × LV := lett (x5p13 + (1 : Int32)) fun (v11 : Int32) => r13 x1p69 x2p69 v11 y5.2.1 y5.2.2
def ok_Rs_steadiestManner_69 (x5p13 : Int32) (y5 : Int32 × IV × LV) (r13 : Int32 → Int64 → Int32 → IV → LV → (Int32 × IV × LV)) (q13 : Int32 → Int64 → Int32 → IV → LV → Prop) (x1p69 : Int32) (x2p69 : Int64) : Prop := lett (x5p13 + (1 : Int32)) fun (v11 : Int32) => q13 x1p69 x2p69 v11 y5.2.1 y5.2.2
set_option maxRecDepth 100000 in
set_option maxHeartbeats 4000000 in
theorem k_Rs_steadiestManner_69 {p : Program} {l : Launch} {e : Env} {s : State} {m : MethodId} {args : Array Value} {below : List Frame} {meth : Method} {c : Code} {g : GX} {qrs : Nat} {qrsr : Nat} {uR : Nat → Nat} {ws0 : va_W} {y5 : Int32 × IV × LV} {rr : NI} {rl : NL} {y2 : Int32} {x5p13 : Int32} {r13 : Int32 → Int64 → Int32 → IV → LV → (Int32 × IV × LV)} {q13 : Int32 → Int64 → Int32 → IV → LV → Prop} (C : Cx p s m args meth c (inW ws0) g "DecadeBridge$Results" b_Rs_steadiestManner (some .int) 6) (ih13 : HL_Rs_steadiestManner_13 p l e s m args below meth c g qrs qrsr uR ws0 rr rl y2 r13 q13) : HL_Rs_steadiestManner_69 p l e s m args below meth c g qrs qrsr uR ws0 y5 rr rl y2 x5p13 (sp_Rs_steadiestManner_69 x5p13 y5 r13) (ok_Rs_steadiestManner_69 x5p13 y5 r13 q13) := by
  intro x1p69 x2p69 hok z hz H locs ls hP hD hS hl
  obtain ⟨hx, hb, hr, hml, hown, hlk, hts, hK, hZo, hZ⟩ := id C
  unfold sp_Rs_steadiestManner_69 at hz
  unfold ok_Rs_steadiestManner_69 at hok
  obtain ⟨v11, ev11⟩ : ∃ y : Int32, y = x5p13 + (1 : Int32) := ⟨_, rfl⟩
  have hz := lett_z hz ev11
  have hok := lett_o hok ev11
  refine lv_iinc (v := v11) (lv' := [(5, .int v11), (0, .ref qrs), (1, .int x1p69), (2, .long x2p69), (4, .int y2)]) hx hb d_Rs_steadiestManner_69 hl (k := 4) rfl (by rw [ev11]; rfl) (by decide) rfl (fun ls hl => ?_)
  refine lv_goto (tgt := 13) hx hb d_Rs_steadiestManner_72 (by decide) ?_
  exact ih13 x1p69 x2p69 v11 y5.2.1 y5.2.2 hok _ hz _ _ ls hP hD hS (lv_sub hl [1, 2, 3, 4, 0] rfl)
noncomputable def sp_Rs_steadiestManner_56 (y5 : Int32 × IV × LV) (x5p13 : Int32) (r13 : Int32 → Int64 → Int32 → IV → LV → (Int32 × IV × LV))  : Int32 × IV × LV := lett ((y5.2.2 7) - (y5.2.2 6)) fun (v10 : Int64) => sp_Rs_steadiestManner_69 x5p13 y5 r13 x5p13 v10
def ok_Rs_steadiestManner_56 (y5 : Int32 × IV × LV) (x5p13 : Int32) (r13 : Int32 → Int64 → Int32 → IV → LV → (Int32 × IV × LV)) (q13 : Int32 → Int64 → Int32 → IV → LV → Prop)  : Prop := lett ((y5.2.2 7) - (y5.2.2 6)) fun (v10 : Int64) => ok_Rs_steadiestManner_69 x5p13 y5 r13 q13 x5p13 v10
set_option maxRecDepth 100000 in
set_option maxHeartbeats 4000000 in
theorem k_Rs_steadiestManner_56 {p : Program} {l : Launch} {e : Env} {s : State} {m : MethodId} {args : Array Value} {below : List Frame} {meth : Method} {c : Code} {g : GX} {qrs : Nat} {qrsr : Nat} {uR : Nat → Nat} {ws0 : va_W} {y5 : Int32 × IV × LV} {rr : NI} {rl : NL} {y2 : Int32} {x5p13 : Int32} {r13 : Int32 → Int64 → Int32 → IV → LV → (Int32 × IV × LV)} {q13 : Int32 → Int64 → Int32 → IV → LV → Prop} (C : Cx p s m args meth c (inW ws0) g "DecadeBridge$Results" b_Rs_steadiestManner (some .int) 6) (ih13 : HL_Rs_steadiestManner_13 p l e s m args below meth c g qrs qrsr uR ws0 rr rl y2 r13 q13) : HL_Rs_steadiestManner_56 p l e s m args below meth c g qrs qrsr uR ws0 y5 rr rl y2 x5p13 (sp_Rs_steadiestManner_56 y5 x5p13 r13) (ok_Rs_steadiestManner_56 y5 x5p13 r13 q13) := by
  intro _ hok z hz H locs ls hP hD hS hl
  obtain ⟨hx, hb, hr, hml, hown, hlk, hts, hK, hZo, hZ⟩ := id C
  unfold sp_Rs_steadiestManner_56 at hz
  unfold ok_Rs_steadiestManner_56 at hok
  refine lv_iload hx hb d_Rs_steadiestManner_56 (lv_at hl 2 rfl) ?_
  refine lv_istore_n (lv' := [(1, .int x5p13), (0, .ref qrs), (4, .int y2), (5, .int x5p13)]) hx hb d_Rs_steadiestManner_58 rfl hl (by decide) rfl (fun ls hl => ?_)
  refine lv_aload_n hx hb d_Rs_steadiestManner_59 rfl (lv_at hl 1 rfl) ?_
  refine gf C hP 0 7 fkRs rfl (by decide) rfl qf_Rs_103 (gRs_7 _ _ _) d_Rs_steadiestManner_60 ?_
  refine lv_aload_n hx hb d_Rs_steadiestManner_63 rfl (lv_at hl 1 rfl) ?_
  refine gf C hP 0 6 fkRs rfl (by decide) rfl qf_Rs_100 (gRs_6 _ _ _) d_Rs_steadiestManner_64 ?_
  refine lv_lsub hx hb d_Rs_steadiestManner_67 ?_
  refine lv_topl (fun v10 ev10 => ?_)
  have hz := lett_z hz ev10
  have hok := lett_o hok ev10
  refine lv_lstore_n (lv' := [(2, .long v10), (1, .int x5p13), (0, .ref qrs), (4, .int y2), (5, .int x5p13)]) hx hb d_Rs_steadiestManner_68 rfl hl (by decide) rfl (fun ls hl => ?_)
  exact k_Rs_steadiestManner_69 C ih13 x5p13 v10 hok _ hz _ _ ls hP hD hS (lv_sub hl [2, 1, 0, 3, 4] rfl)
noncomputable def bd_Rs_steadiestManner_13 (y2 : Int32) (rr : NI) (rl : NL) (r13 : Int32 → Int64 → Int32 → IV → LV → (Int32 × IV × LV)) (x1p13 : Int32) (x2p13 : Int64) (x5p13 : Int32) (rap13 : IV) (ralp13 : LV) : Int32 × IV × LV := if y2 ≤ x5p13 then ((x1p13, (rap13, ralp13))) else (lett (sp_Rs_gather x5p13 rap13 ralp13 rr rl) fun (y5 : Int32 × IV × LV) => if y5.1 = 0 then (sp_Rs_steadiestManner_69 x5p13 y5 r13 x1p13 x2p13) else (if (y5.2.1 4) < (2 : Int32) then (sp_Rs_steadiestManner_69 x5p13 y5 r13 x1p13 x2p13) else (if x1p13 = (-1 : Int32) then (sp_Rs_steadiestManner_56 y5 x5p13 r13) else (if x2p13 ≤ ((y5.2.2 7) - (y5.2.2 6)) then (sp_Rs_steadiestManner_69 x5p13 y5 r13 x1p13 x2p13) else (sp_Rs_steadiestManner_56 y5 x5p13 r13)))))
def okb_Rs_steadiestManner_13 (y2 : Int32) (rr : NI) (rl : NL) (r13 : Int32 → Int64 → Int32 → IV → LV → (Int32 × IV × LV)) (q13 : Int32 → Int64 → Int32 → IV → LV → Prop) (x1p13 : Int32) (x2p13 : Int64) (x5p13 : Int32) (rap13 : IV) (ralp13 : LV) : Prop := ((y2 ≤ x5p13 → True) ∧ (¬ (y2 ≤ x5p13) → (ok_Rs_gather x5p13 rap13 ralp13 rr rl) ∧ lett (sp_Rs_gather x5p13 rap13 ralp13 rr rl) fun (y5 : Int32 × IV × LV) => ((y5.1 = 0 → ok_Rs_steadiestManner_69 x5p13 y5 r13 q13 x1p13 x2p13) ∧ (¬ (y5.1 = 0) → (((y5.2.1 4) < (2 : Int32) → ok_Rs_steadiestManner_69 x5p13 y5 r13 q13 x1p13 x2p13) ∧ (¬ ((y5.2.1 4) < (2 : Int32)) → ((x1p13 = (-1 : Int32) → ok_Rs_steadiestManner_56 y5 x5p13 r13 q13) ∧ (¬ (x1p13 = (-1 : Int32)) → ((x2p13 ≤ ((y5.2.2 7) - (y5.2.2 6)) → ok_Rs_steadiestManner_69 x5p13 y5 r13 q13 x1p13 x2p13) ∧ (¬ (x2p13 ≤ ((y5.2.2 7) - (y5.2.2 6))) → ok_Rs_steadiestManner_56 y5 x5p13 r13 q13))))))))))
noncomputable def sp_Rs_steadiestManner_13 (y2 : Int32) (rr : NI) (rl : NL)  : Nat → Int32 → Int64 → Int32 → IV → LV → (Int32 × IV × LV)
  | 0 => fun _ _ _ _ _ => default
  | f + 1 => bd_Rs_steadiestManner_13 y2 rr rl  (sp_Rs_steadiestManner_13 y2 rr rl  f)
def ok_Rs_steadiestManner_13 (y2 : Int32) (rr : NI) (rl : NL)   : Nat → Int32 → Int64 → Int32 → IV → LV → Prop
  | 0 => fun _ _ _ _ _ => False
  | f + 1 => okb_Rs_steadiestManner_13 y2 rr rl  (sp_Rs_steadiestManner_13 y2 rr rl  f)  (ok_Rs_steadiestManner_13 y2 rr rl   f)
set_option maxRecDepth 100000 in
set_option maxHeartbeats 4000000 in
theorem kb_Rs_steadiestManner_13 {p : Program} {l : Launch} {e : Env} {s : State} {m : MethodId} {args : Array Value} {below : List Frame} {meth : Method} {c : Code} {g : GX} {qrs : Nat} {qrsr : Nat} {uR : Nat → Nat} {ws0 : va_W} {rr : NI} {rl : NL} {y2 : Int32}  (C : Cx p s m args meth c (inW ws0) g "DecadeBridge$Results" b_Rs_steadiestManner (some .int) 6) {r13 : Int32 → Int64 → Int32 → IV → LV → (Int32 × IV × LV)} {q13 : Int32 → Int64 → Int32 → IV → LV → Prop}  (ih13 : HL_Rs_steadiestManner_13 p l e s m args below meth c g qrs qrsr uR ws0 rr rl y2 r13 q13) : HL_Rs_steadiestManner_13 p l e s m args below meth c g qrs qrsr uR ws0 rr rl y2 (bd_Rs_steadiestManner_13 y2 rr rl  r13) (okb_Rs_steadiestManner_13 y2 rr rl  r13  q13) := by
  intro x1p13 x2p13 x5p13 rap13 ralp13 hok z hz H locs ls hP hD hS hl
  obtain ⟨hx, hb, hr, hml, hown, hlk, hts, hK, hZo, hZ⟩ := id C
  unfold bd_Rs_steadiestManner_13 at hz
  unfold okb_Rs_steadiestManner_13 at hok
  refine lv_iload hx hb d_Rs_steadiestManner_13 (lv_at hl 4 rfl) ?_
  refine lv_iload hx hb d_Rs_steadiestManner_15 (lv_at hl 3 rfl) ?_
  refine lv_icmp_ge (tgt := 75) hx hb d_Rs_steadiestManner_17 (by decide) (fun c3 => ?_) (fun c3 => ?_)
  · have hz := hz.trans (if_pos c3)
    refine lv_iload_n hx hb d_Rs_steadiestManner_75 rfl (lv_at hl 1 rfl) ?_
    exact endI1 C hz hP hS d_Rs_steadiestManner_76
  · have hz := hz.trans (if_neg c3)
    have hok := hok.2 c3
    refine lv_aload_n hx hb d_Rs_steadiestManner_20 rfl (lv_at hl 0 rfl) ?_
    refine lv_iload hx hb d_Rs_steadiestManner_21 (lv_at hl 4 rfl) ?_
    have hs4 := hok.1
    have hok := hok.2
    have hB : SubW g (inW ws0) s (wRs g qrs qrsr uR rap13 ralp13 rr rl) _ (List.range _) _ _ := (subF hP hD hS)
    refine goIF hB (run_v C mf_Rs_gather qm_Rs_122 (c_Rs_gather l g qrs qrsr uR rap13 ralp13 rr rl x5p13 hs4) rfl rfl ⟨Nat.le_of_ble_eq_true rfl, Nat.le_of_ble_eq_true rfl⟩ ⟨Nat.le_of_ble_eq_true rfl, Nat.le_of_ble_eq_true rfl⟩ hB rfl rfl hl rfl rfl (Nat.le_of_ble_eq_true rfl) d_Rs_steadiestManner_23) (fun _ => rfl) (fun y5 ey5 H locs hP hD hS => ?_)
    have hP : va_P g.1 vwCl (wRs g qrs qrsr uR y5.2.1 y5.2.2 rr rl) H := hP
    have hD : va_D (inW ws0) (wRs g qrs qrsr uR y5.2.1 y5.2.2 rr rl) := hD
    have hz := lett_z hz ey5
    have hok := lett_o hok ey5
    refine lv_if_eq (tgt := 69) hx hb d_Rs_steadiestManner_26 (by decide) (fun c6 => ?_) (fun c6 => ?_)
    · have hz := hz.trans (if_pos c6)
      have hok := hok.1 c6
      exact k_Rs_steadiestManner_69 C ih13 x1p13 x2p13 hok _ hz _ _ ls hP hD hS hl
    · have hz := hz.trans (if_neg c6)
      have hok := hok.2 c6
      refine lv_aload_n hx hb d_Rs_steadiestManner_29 rfl (lv_at hl 0 rfl) ?_
      refine gf C hP 0 4 fkRs rfl (by decide) rfl qf_Rs_84 (gRs_4 _ _ _) d_Rs_steadiestManner_30 ?_
      refine lv_iconst (v := 2) hx hb d_Rs_steadiestManner_33 (by decide) ?_
      refine lv_icmp_lt (tgt := 69) hx hb d_Rs_steadiestManner_34 (by decide) (fun c7 => ?_) (fun c7 => ?_)
      · have hz := hz.trans (if_pos c7)
        have hok := hok.1 c7
        exact k_Rs_steadiestManner_69 C ih13 x1p13 x2p13 hok _ hz _ _ ls hP hD hS hl
      · have hz := hz.trans (if_neg c7)
        have hok := hok.2 c7
        refine lv_iload_n hx hb d_Rs_steadiestManner_37 rfl (lv_at hl 1 rfl) ?_
        refine lv_iconst (v := -1) hx hb d_Rs_steadiestManner_38 (by decide) ?_
        refine lv_icmp_eq (tgt := 56) hx hb d_Rs_steadiestManner_39 (by decide) (fun c8 => ?_) (fun c8 => ?_)
        · have hz := hz.trans (if_pos c8)
          have hok := hok.1 c8
          exact k_Rs_steadiestManner_56 C ih13 () hok _ hz _ _ ls hP hD hS (lv_sub hl [0, 3, 4] rfl)
        · have hz := hz.trans (if_neg c8)
          have hok := hok.2 c8
          refine lv_aload_n hx hb d_Rs_steadiestManner_42 rfl (lv_at hl 0 rfl) ?_
          refine gf C hP 0 7 fkRs rfl (by decide) rfl qf_Rs_103 (gRs_7 _ _ _) d_Rs_steadiestManner_43 ?_
          refine lv_aload_n hx hb d_Rs_steadiestManner_46 rfl (lv_at hl 0 rfl) ?_
          refine gf C hP 0 6 fkRs rfl (by decide) rfl qf_Rs_100 (gRs_6 _ _ _) d_Rs_steadiestManner_47 ?_
          refine lv_lsub hx hb d_Rs_steadiestManner_50 ?_
          refine lv_lload_n hx hb d_Rs_steadiestManner_51 rfl (lv_at hl 2 rfl) ?_
          refine lc_ge (tgt := 69) hx hb d_Rs_steadiestManner_52 d_Rs_steadiestManner_53 (by decide) (fun c9 => ?_) (fun c9 => ?_)
          · have hz := hz.trans (if_pos c9)
            have hok := hok.1 c9
            exact k_Rs_steadiestManner_69 C ih13 x1p13 x2p13 hok _ hz _ _ ls hP hD hS hl
          · have hz := hz.trans (if_neg c9)
            have hok := hok.2 c9
            exact k_Rs_steadiestManner_56 C ih13 () hok _ hz _ _ ls hP hD hS (lv_sub hl [0, 3, 4] rfl)
theorem k_Rs_steadiestManner_13 {p : Program} {l : Launch} {e : Env} {s : State} {m : MethodId} {args : Array Value} {below : List Frame} {meth : Method} {c : Code} {g : GX} {qrs : Nat} {qrsr : Nat} {uR : Nat → Nat} {ws0 : va_W} {rr : NI} {rl : NL} {y2 : Int32}  (C : Cx p s m args meth c (inW ws0) g "DecadeBridge$Results" b_Rs_steadiestManner (some .int) 6) (f : Nat)  : HL_Rs_steadiestManner_13 p l e s m args below meth c g qrs qrsr uR ws0 rr rl y2 (sp_Rs_steadiestManner_13 y2 rr rl  f) (ok_Rs_steadiestManner_13 y2 rr rl   f) := by
  induction f with
  | zero => intro x1p13 x2p13 x5p13 rap13 ralp13 hok; exact False.elim hok
  | succ f ih => exact kb_Rs_steadiestManner_13 C  ih
noncomputable def sp_Rs_steadiestManner (ra : IV) (ral : LV) (rr : NI) (rl : NL) : Int32 × IV × LV := lett (sp_Rs_manners ra rr) fun (y2 : Int32) => sp_Rs_steadiestManner_13 y2 rr rl big (-1 : Int32) (0 : Int64) (0 : Int32) ra ral
def ok_Rs_steadiestManner (ra : IV) (ral : LV) (rr : NI) (rl : NL) : Prop := (ok_Rs_manners ra rr) ∧ lett (sp_Rs_manners ra rr) fun (y2 : Int32) => ok_Rs_steadiestManner_13 y2 rr rl big (-1 : Int32) (0 : Int64) (0 : Int32) ra ral
set_option maxRecDepth 100000 in
set_option maxHeartbeats 4000000 in
theorem c_Rs_steadiestManner (l : Launch) (g : GX) (qrs : Nat) (qrsr : Nat) (uR : Nat → Nat) (ra : IV) (ral : LV) (rr : NI) (rl : NL)  (hok : ok_Rs_steadiestManner ra ral rr rl) : Met l y_Rs_steadiestManner (wsY y_Rs_steadiestManner b_Rs_steadiestManner 6 (some .int)) rm_Rs_steadiestManner (CP g [.ref qrs] (wRs g qrs qrsr uR ra ral rr rl)) (CI g (wRs g qrs qrsr uR ra ral rr rl) (fun u : IV × LV => wRs g qrs qrsr uR u.1 u.2 rr rl) (sp_Rs_steadiestManner ra ral rr rl)) 0 0 (inW (wRs g qrs qrsr uR ra ral rr rl)) := by
  refine Met.ofW (cc := b_Rs_steadiestManner) (maxL := 6) (ret := (some .int)) pn_Rs rfl ?_
  intro p e s m args below meth c s₁ B hml hv
  obtain ⟨rfl, C, hP, hD, hS⟩ := enter "DecadeBridge$Results" rfl B hml hv
  obtain ⟨hx, hb, hr, hml, hown, hlk, hts, hK, hZo, hZ⟩ := id C
  refine entryW (lv := [(0, .ref qrs)]) rfl (Nat.le_of_ble_eq_true rfl) (fun ls hl => ?_)
  obtain ⟨z, hz⟩ : ∃ z, z = sp_Rs_steadiestManner ra ral rr rl := ⟨_, rfl⟩
  rw [← hz]
  unfold sp_Rs_steadiestManner at hz
  unfold ok_Rs_steadiestManner at hok
  refine lv_iconst (v := -1) hx hb d_Rs_steadiestManner_0 (by decide) ?_
  refine lv_istore_n (lv' := [(1, .int (-1 : Int32)), (0, .ref qrs)]) hx hb d_Rs_steadiestManner_1 rfl hl (by decide) rfl (fun ls hl => ?_)
  refine lv_lconst (v := 0) hx hb d_Rs_steadiestManner_2 (by decide) ?_
  refine lv_lstore_n (lv' := [(2, .long (0 : Int64)), (1, .int (-1 : Int32)), (0, .ref qrs)]) hx hb d_Rs_steadiestManner_3 rfl hl (by decide) rfl (fun ls hl => ?_)
  refine lv_aload_n hx hb d_Rs_steadiestManner_4 rfl (lv_at hl 2 rfl) ?_
  have hs1 := hok.1
  have hok := hok.2
  have hB : SubW g (inW (wRs g qrs qrsr uR ra ral rr rl)) s (wRs g qrs qrsr uR ra ral rr rl) _ (List.range _) _ _ := (subF hP hD hS)
  refine goI0 hB (run_v C mf_Rs_manners qm_Rs_118 (c_Rs_manners l g qrs qrsr uR ra ral rr rl hs1) rfl rfl ⟨Nat.le_of_ble_eq_true rfl, Nat.le_of_ble_eq_true rfl⟩ ⟨Nat.le_of_ble_eq_true rfl, Nat.le_of_ble_eq_true rfl⟩ hB rfl rfl hl rfl rfl (Nat.le_of_ble_eq_true rfl) d_Rs_steadiestManner_5) (fun y2 ey2 H locs hP hS => ?_)
  have hz := lett_z hz ey2
  have hok := lett_o hok ey2
  refine lv_istore (lv' := [(4, .int y2), (2, .long (0 : Int64)), (1, .int (-1 : Int32)), (0, .ref qrs)]) hx hb d_Rs_steadiestManner_8 hl (by decide) rfl (fun ls hl => ?_)
  refine lv_iconst (v := 0) hx hb d_Rs_steadiestManner_10 (by decide) ?_
  refine lv_istore (lv' := [(5, .int (0 : Int32)), (4, .int y2), (2, .long (0 : Int64)), (1, .int (-1 : Int32)), (0, .ref qrs)]) hx hb d_Rs_steadiestManner_11 hl (by decide) rfl (fun ls hl => ?_)
  exact k_Rs_steadiestManner_13 C big (-1 : Int32) (0 : Int64) (0 : Int32) ra ral hok _ hz _ _ ls hP hD hS (lv_sub hl [4, 3, 2, 1, 0] rfl)
abbrev rm_Se_deflectionAt : Room := { frames := 2, cells := 0, slots := 0, locals := 49 }
noncomputable def sp_Se_deflectionAt (p1 : Int32) (ca : IV) (w0 : IV) (w1 : IV) (w3 : IV) (w4 : IV) : Int64 × IV := lett (upd ca 6 (0 : Int32)) fun (ca_1 : IV) => lett (sp_Ci_dial p1 ca_1 w0 w1 w3 w4) fun (y3 : IV) => lett (sp_Ci_imbalance y3) fun (y4 : Int64) => (y4, y3)
def ok_Se_deflectionAt (p1 : Int32) (ca : IV) (w0 : IV) (w1 : IV) : Prop := lett (upd ca 6 (0 : Int32)) fun (ca_1 : IV) => (ok_Ci_dial p1 ca_1 w0 w1) ∧ True
set_option maxRecDepth 100000 in
set_option maxHeartbeats 4000000 in
theorem c_Se_deflectionAt (l : Launch) (g : GX) (qse : Nat) (qci : Nat) (qpa : Nat) (qpae : Nat) (qpar : Nat) (qpau : Nat) (qpab : Nat) (ca : IV) (cal : LV) (w0 : IV) (w1 : IV) (w2 : IV) (w3 : IV) (w4 : IV) (p1 : Int32) (hok : ok_Se_deflectionAt p1 ca w0 w1) : Met l y_Se_deflectionAt (wsY y_Se_deflectionAt b_Se_deflectionAt 2 (some .long)) rm_Se_deflectionAt (CP g [.ref qse, .int p1] (wSe g qse qci qpa qpae qpar qpau qpab ca cal w0 w1 w2 w3 w4)) (CL g (wSe g qse qci qpa qpae qpar qpau qpab ca cal w0 w1 w2 w3 w4) (fun u : IV => wSe g qse qci qpa qpae qpar qpau qpab u cal w0 w1 w2 w3 w4) (sp_Se_deflectionAt p1 ca w0 w1 w3 w4)) 0 0 (inW (wSe g qse qci qpa qpae qpar qpau qpab ca cal w0 w1 w2 w3 w4)) := by
  refine Met.ofW (cc := b_Se_deflectionAt) (maxL := 2) (ret := (some .long)) pn_Se rfl ?_
  intro p e s m args below meth c s₁ B hml hv
  obtain ⟨rfl, C, hP, hD, hS⟩ := enter "DecadeBridge$Search" rfl B hml hv
  obtain ⟨hx, hb, hr, hml, hown, hlk, hts, hK, hZo, hZ⟩ := id C
  refine entryW (lv := [(0, .ref qse), (1, .int p1)]) rfl (Nat.le_of_ble_eq_true rfl) (fun ls hl => ?_)
  obtain ⟨z, hz⟩ : ∃ z, z = sp_Se_deflectionAt p1 ca w0 w1 w3 w4 := ⟨_, rfl⟩
  rw [← hz]
  unfold sp_Se_deflectionAt at hz
  unfold ok_Se_deflectionAt at hok
  refine lv_aload_n hx hb d_Se_deflectionAt_0 rfl (lv_at hl 0 rfl) ?_
  refine gf C hP 0 0 fkSe rfl (by decide) rfl qf_Se_20 (gSe_0 _ _) d_Se_deflectionAt_1 ?_
  refine lv_iconst (v := 0) hx hb d_Se_deflectionAt_4 (by decide) ?_
  refine pfI C hP hD hS 1 6 fkCi rfl (by decide) rfl qf_Se_24 rfl rfl rfl (Nat.le_of_ble_eq_true rfl) (ff := fun o => fCi qpa o cal) (sCi_6 _ _ _ _) d_Se_deflectionAt_5 (fun ca_1 eca_1 H locs hP hD hS => ?_)
  have hP : va_P g.1 vwCl (wSe g qse qci qpa qpae qpar qpau qpab ca_1 cal w0 w1 w2 w3 w4) H := hP
  have hD : va_D (inW (wSe g qse qci qpa qpae qpar qpau qpab ca cal w0 w1 w2 w3 w4)) (wSe g qse qci qpa qpae qpar qpau qpab ca_1 cal w0 w1 w2 w3 w4) := hD
  have hz := lett_z hz eca_1
  have hok := lett_o hok eca_1
  refine lv_aload_n hx hb d_Se_deflectionAt_8 rfl (lv_at hl 0 rfl) ?_
  refine gf C hP 0 0 fkSe rfl (by decide) rfl qf_Se_20 (gSe_0 _ _) d_Se_deflectionAt_9 ?_
  refine lv_iload_n hx hb d_Se_deflectionAt_12 rfl (lv_at hl 1 rfl) ?_
  have hs2 := hok.1
  have hok := hok.2
  have hB : SubW g (inW (wSe g qse qci qpa qpae qpar qpau qpab ca cal w0 w1 w2 w3 w4)) s (wSe g qse qci qpa qpae qpar qpau qpab ca_1 cal w0 w1 w2 w3 w4) (wCi g qci qpa qpae qpar qpau qpab ca_1 cal w0 w1 w2 w3 w4) [1, 2, 3, 4, 5, 6] _ _ := ⟨rfl, rfl, hP, hD, hS⟩
  refine goV1 hB (run_v C mf_Ci_dial qm_Se_28 (c_Ci_dial l g qci qpa qpae qpar qpau qpab ca_1 cal w0 w1 w2 w3 w4 p1 hs2) rfl rfl ⟨Nat.le_of_ble_eq_true rfl, Nat.le_of_ble_eq_true rfl⟩ ⟨Nat.le_of_ble_eq_true rfl, Nat.le_of_ble_eq_true rfl⟩ hB rfl rfl hl rfl rfl (Nat.le_of_ble_eq_true rfl) d_Se_deflectionAt_13) (fun _ => rfl) (fun y3 ey3 H locs hP hD hS => ?_)
  have hP : va_P g.1 vwCl (wSe g qse qci qpa qpae qpar qpau qpab y3 cal w0 w1 w2 w3 w4) H := cP (spq hB.1 hB.2.1 [0] 7 rfl rfl (by decide +kernel) rfl) hP
  have hD : va_D (inW (wSe g qse qci qpa qpae qpar qpau qpab ca cal w0 w1 w2 w3 w4)) (wSe g qse qci qpa qpae qpar qpau qpab y3 cal w0 w1 w2 w3 w4) := cD (spq hB.1 hB.2.1 [0] 7 rfl rfl (by decide +kernel) rfl) hD
  have hz := lett_z hz ey3
  refine lv_aload_n hx hb d_Se_deflectionAt_16 rfl (lv_at hl 0 rfl) ?_
  refine gf C hP 0 0 fkSe rfl (by decide) rfl qf_Se_20 (gSe_0 _ _) d_Se_deflectionAt_17 ?_
  have hB : SubW g (inW (wSe g qse qci qpa qpae qpar qpau qpab ca cal w0 w1 w2 w3 w4)) s (wSe g qse qci qpa qpae qpar qpau qpab y3 cal w0 w1 w2 w3 w4) (wCi g qci qpa qpae qpar qpau qpab y3 cal w0 w1 w2 w3 w4) [1, 2, 3, 4, 5, 6] _ _ := ⟨rfl, rfl, hP, hD, hS⟩
  refine goL0 hB (run_v C mf_Ci_imbalance qm_Se_32 (c_Ci_imbalance l g qci qpa qpae qpar qpau qpab y3 cal w0 w1 w2 w3 w4) rfl rfl ⟨Nat.le_of_ble_eq_true rfl, Nat.le_of_ble_eq_true rfl⟩ ⟨Nat.le_of_ble_eq_true rfl, Nat.le_of_ble_eq_true rfl⟩ hB rfl rfl hl rfl rfl (Nat.le_of_ble_eq_true rfl) d_Se_deflectionAt_20) (fun y4 ey4 H locs hP hS => ?_)
  have hz := lett_z hz ey4
  exact endL1 C hz hP hS d_Se_deflectionAt_23
abbrev rm_Se_amountAt : Room := { frames := 3, cells := 0, slots := 0, locals := 70 }
noncomputable def sp_Se_amountAt (p1 : Int32) (ca : IV) (w0 : IV) (w1 : IV) (w3 : IV) (w4 : IV) : Int64 × IV := lett (sp_Se_deflectionAt p1 ca w0 w1 w3 w4) fun (y2 : Int64 × IV) => (if 0 < y2.1 then y2.1 else -y2.1, y2.2)
def ok_Se_amountAt (p1 : Int32) (ca : IV) (w0 : IV) (w1 : IV) : Prop := (ok_Se_deflectionAt p1 ca w0 w1) ∧ True
set_option maxRecDepth 100000 in
set_option maxHeartbeats 4000000 in
theorem c_Se_amountAt (l : Launch) (g : GX) (qse : Nat) (qci : Nat) (qpa : Nat) (qpae : Nat) (qpar : Nat) (qpau : Nat) (qpab : Nat) (ca : IV) (cal : LV) (w0 : IV) (w1 : IV) (w2 : IV) (w3 : IV) (w4 : IV) (p1 : Int32) (hok : ok_Se_amountAt p1 ca w0 w1) : Met l y_Se_amountAt (wsY y_Se_amountAt b_Se_amountAt 2 (some .long)) rm_Se_amountAt (CP g [.ref qse, .int p1] (wSe g qse qci qpa qpae qpar qpau qpab ca cal w0 w1 w2 w3 w4)) (CL g (wSe g qse qci qpa qpae qpar qpau qpab ca cal w0 w1 w2 w3 w4) (fun u : IV => wSe g qse qci qpa qpae qpar qpau qpab u cal w0 w1 w2 w3 w4) (sp_Se_amountAt p1 ca w0 w1 w3 w4)) 0 0 (inW (wSe g qse qci qpa qpae qpar qpau qpab ca cal w0 w1 w2 w3 w4)) := by
  refine Met.ofW (cc := b_Se_amountAt) (maxL := 2) (ret := (some .long)) pn_Se rfl ?_
  intro p e s m args below meth c s₁ B hml hv
  obtain ⟨rfl, C, hP, hD, hS⟩ := enter "DecadeBridge$Search" rfl B hml hv
  obtain ⟨hx, hb, hr, hml, hown, hlk, hts, hK, hZo, hZ⟩ := id C
  refine entryW (lv := [(0, .ref qse), (1, .int p1)]) rfl (Nat.le_of_ble_eq_true rfl) (fun ls hl => ?_)
  obtain ⟨z, hz⟩ : ∃ z, z = sp_Se_amountAt p1 ca w0 w1 w3 w4 := ⟨_, rfl⟩
  rw [← hz]
  unfold sp_Se_amountAt at hz
  unfold ok_Se_amountAt at hok
  refine lv_aload_n hx hb d_Se_amountAt_0 rfl (lv_at hl 0 rfl) ?_
  refine lv_iload_n hx hb d_Se_amountAt_1 rfl (lv_at hl 1 rfl) ?_
  have hs1 := hok.1
  have hok := hok.2
  have hB : SubW g (inW (wSe g qse qci qpa qpae qpar qpau qpab ca cal w0 w1 w2 w3 w4)) s (wSe g qse qci qpa qpae qpar qpau qpab ca cal w0 w1 w2 w3 w4) _ (List.range _) _ _ := (subF hP hD hS)
  refine goLF hB (run_v C mf_Se_deflectionAt qm_Se_36 (c_Se_deflectionAt l g qse qci qpa qpae qpar qpau qpab ca cal w0 w1 w2 w3 w4 p1 hs1) rfl rfl ⟨Nat.le_of_ble_eq_true rfl, Nat.le_of_ble_eq_true rfl⟩ ⟨Nat.le_of_ble_eq_true rfl, Nat.le_of_ble_eq_true rfl⟩ hB rfl rfl hl rfl rfl (Nat.le_of_ble_eq_true rfl) d_Se_amountAt_2) (fun _ => rfl) (fun y2 ey2 H locs hP hD hS => ?_)
  have hP : va_P g.1 vwCl (wSe g qse qci qpa qpae qpar qpau qpab y2.2 cal w0 w1 w2 w3 w4) H := hP
  have hD : va_D (inW (wSe g qse qci qpa qpae qpar qpau qpab ca cal w0 w1 w2 w3 w4)) (wSe g qse qci qpa qpae qpar qpau qpab y2.2 cal w0 w1 w2 w3 w4) := hD
  have hz := lett_z hz ey2
  refine va_mabs_long hx hb (hml.trans hl.1.symm) hown (hts _ qm_Se_40) (hts _ (mf_JM_abs).2) (hts _ (mf_JM_abs).1.2.1) (hts _ (mf_JM_abs).1.1) (Nat.le_of_ble_eq_true rfl) (Nat.le_of_ble_eq_true rfl) (Nat.le_of_ble_eq_true rfl) (Nat.le_of_ble_eq_true rfl) d_Se_amountAt_5 ?_
  exact endL1 C hz hP hS d_Se_amountAt_8
abbrev rm_Se_idealSetting : Room := { frames := 3, cells := 0, slots := 0, locals := 70 }
def HL_Se_idealSetting_4 (p : Program) (l : Launch) (e : Env) (s : State) (m : MethodId) (args : Array Value) (below : List Frame) (meth : Method) (c : Code) (g : GX) (qse : Nat) (qci : Nat) (qpa : Nat) (qpae : Nat) (qpar : Nat) (qpau : Nat) (qpab : Nat) (ws0 : va_W) (cal : LV) (w0 : IV) (w1 : IV) (w2 : IV) (w3 : IV) (w4 : IV) (sp : Int32 → Int32 → IV → (Int32 × IV)) (ok : Int32 → Int32 → IV → Prop) : Prop := ∀ (x1p4 : Int32) (x2p4 : Int32) (cap4 : IV), ok x1p4 x2p4 cap4 → ∀ z : (Int32 × IV), z = sp x1p4 x2p4 cap4 → ∀ (H : Heap) (locs : List Loc) (ls : Array Slot), va_P g.1 vwCl (wSe g qse qci qpa qpae qpar qpau qpab cap4 cal w0 w1 w2 w3 w4) H → va_D (inW ws0) (wSe g qse qci qpa qpae qpar qpau qpab cap4 cal w0 w1 w2 w3 w4) → va_S (inW ws0) s.heap H locs → lv_has ls 7 [(0, .ref qse), (1, .int x1p4), (2, .int x2p4)] → W p l e rm_Se_idealSetting s m args below meth c H locs 0 0 (MQ below (CI g ws0 (fun u : IV => wSe g qse qci qpa qpae qpar qpau qpab u cal w0 w1 w2 w3 w4) z) args s 0 0 (inW ws0)) (F0 m 4 ls [])
def HL_Se_idealSetting_27 (p : Program) (l : Launch) (e : Env) (s : State) (m : MethodId) (args : Array Value) (below : List Frame) (meth : Method) (c : Code) (g : GX) (qse : Nat) (qci : Nat) (qpa : Nat) (qpae : Nat) (qpar : Nat) (qpau : Nat) (qpab : Nat) (ws0 : va_W) (cal : LV) (w0 : IV) (w1 : IV) (w2 : IV) (w3 : IV) (w4 : IV) (x2p4 : Int32) (y3 : Int32) (sp : Int32 → Int32 → IV → (Int32 × IV)) (ok : Int32 → Int32 → IV → Prop) : Prop := ∀ (x1p27 : Int32) (x4p27 : Int32) (cap27 : IV), ok x1p27 x4p27 cap27 → ∀ z : (Int32 × IV), z = sp x1p27 x4p27 cap27 → ∀ (H : Heap) (locs : List Loc) (ls : Array Slot), va_P g.1 vwCl (wSe g qse qci qpa qpae qpar qpau qpab cap27 cal w0 w1 w2 w3 w4) H → va_D (inW ws0) (wSe g qse qci qpa qpae qpar qpau qpab cap27 cal w0 w1 w2 w3 w4) → va_S (inW ws0) s.heap H locs → lv_has ls 7 [(0, .ref qse), (1, .int x1p27), (2, .int x2p4), (3, .int y3), (4, .int x4p27)] → W p l e rm_Se_idealSetting s m args below meth c H locs 0 0 (MQ below (CI g ws0 (fun u : IV => wSe g qse qci qpa qpae qpar qpau qpab u cal w0 w1 w2 w3 w4) z) args s 0 0 (inW ws0)) (F0 m 27 ls [])
def HL_Se_idealSetting_50 (p : Program) (l : Launch) (e : Env) (s : State) (m : MethodId) (args : Array Value) (below : List Frame) (meth : Method) (c : Code) (g : GX) (qse : Nat) (qci : Nat) (qpa : Nat) (qpae : Nat) (qpar : Nat) (qpau : Nat) (qpab : Nat) (ws0 : va_W) (y6 : Int64 × IV) (cal : LV) (w0 : IV) (w1 : IV) (w2 : IV) (w3 : IV) (w4 : IV) (x1p27 : Int32) (x2p4 : Int32) (sp : (Int32 × IV)) (ok : Prop) : Prop := ∀ (_ : Unit), ok → ∀ z : (Int32 × IV), z = sp → ∀ (H : Heap) (locs : List Loc) (ls : Array Slot), va_P g.1 vwCl (wSe g qse qci qpa qpae qpar qpau qpab y6.2 cal w0 w1 w2 w3 w4) H → va_D (inW ws0) (wSe g qse qci qpa qpae qpar qpau qpab y6.2 cal w0 w1 w2 w3 w4) → va_S (inW ws0) s.heap H locs → lv_has ls 7 [(0, .ref qse), (1, .int x1p27), (2, .int x2p4)] → W p l e rm_Se_idealSetting s m args below meth c H locs 0 0 (MQ below (CI g ws0 (fun u : IV => wSe g qse qci qpa qpae qpar qpau qpab u cal w0 w1 w2 w3 w4) z) args s 0 0 (inW ws0)) (F0 m 50 ls [])
def HL_Se_idealSetting_72 (p : Program) (l : Launch) (e : Env) (s : State) (m : MethodId) (args : Array Value) (below : List Frame) (meth : Method) (c : Code) (g : GX) (qse : Nat) (qci : Nat) (qpa : Nat) (qpae : Nat) (qpar : Nat) (qpau : Nat) (qpab : Nat) (ws0 : va_W) (cal : LV) (w0 : IV) (w1 : IV) (w2 : IV) (w3 : IV) (w4 : IV) (x1p27 : Int32) (x2p4 : Int32) (sp : IV → (Int32 × IV)) (ok : IV → Prop) : Prop := ∀ (cap72 : IV), ok cap72 → ∀ z : (Int32 × IV), z = sp cap72 → ∀ (H : Heap) (locs : List Loc) (ls : Array Slot), va_P g.1 vwCl (wSe g qse qci qpa qpae qpar qpau qpab cap72 cal w0 w1 w2 w3 w4) H → va_D (inW ws0) (wSe g qse qci qpa qpae qpar qpau qpab cap72 cal w0 w1 w2 w3 w4) → va_S (inW ws0) s.heap H locs → lv_has ls 7 [(0, .ref qse), (1, .int x1p27), (2, .int x2p4)] → W p l e rm_Se_idealSetting s m args below meth c H locs 0 0 (MQ below (CI g ws0 (fun u : IV => wSe g qse qci qpa qpae qpar qpau qpab u cal w0 w1 w2 w3 w4) z) args s 0 0 (inW ws0)) (F0 m 72 ls [])
noncomputable def sp_Se_idealSetting_72 (x2p4 : Int32) (x1p27 : Int32) (r4 : Int32 → Int32 → IV → (Int32 × IV)) (cap72 : IV) : Int32 × IV := lett (x2p4 + (1 : Int32)) fun (v11 : Int32) => r4 x1p27 v11 cap72
def ok_Se_idealSetting_72 (x2p4 : Int32) (x1p27 : Int32) (r4 : Int32 → Int32 → IV → (Int32 × IV)) (q4 : Int32 → Int32 → IV → Prop) (cap72 : IV) : Prop := lett (x2p4 + (1 : Int32)) fun (v11 : Int32) => q4 x1p27 v11 cap72
set_option maxRecDepth 100000 in
set_option maxHeartbeats 4000000 in
theorem k_Se_idealSetting_72 {p : Program} {l : Launch} {e : Env} {s : State} {m : MethodId} {args : Array Value} {below : List Frame} {meth : Method} {c : Code} {g : GX} {qse : Nat} {qci : Nat} {qpa : Nat} {qpae : Nat} {qpar : Nat} {qpau : Nat} {qpab : Nat} {ws0 : va_W} {cal : LV} {w0 : IV} {w1 : IV} {w2 : IV} {w3 : IV} {w4 : IV} {x1p27 : Int32} {x2p4 : Int32} {r4 : Int32 → Int32 → IV → (Int32 × IV)} {q4 : Int32 → Int32 → IV → Prop} (C : Cx p s m args meth c (inW ws0) g "DecadeBridge$Search" b_Se_idealSetting (some .int) 7) (ih4 : HL_Se_idealSetting_4 p l e s m args below meth c g qse qci qpa qpae qpar qpau qpab ws0 cal w0 w1 w2 w3 w4 r4 q4) : HL_Se_idealSetting_72 p l e s m args below meth c g qse qci qpa qpae qpar qpau qpab ws0 cal w0 w1 w2 w3 w4 x1p27 x2p4 (sp_Se_idealSetting_72 x2p4 x1p27 r4) (ok_Se_idealSetting_72 x2p4 x1p27 r4 q4) := by
  intro cap72 hok z hz H locs ls hP hD hS hl
  obtain ⟨hx, hb, hr, hml, hown, hlk, hts, hK, hZo, hZ⟩ := id C
  unfold sp_Se_idealSetting_72 at hz
  unfold ok_Se_idealSetting_72 at hok
  obtain ⟨v11, ev11⟩ : ∃ y : Int32, y = x2p4 + (1 : Int32) := ⟨_, rfl⟩
  have hz := lett_z hz ev11
  have hok := lett_o hok ev11
  refine lv_iinc (v := v11) (lv' := [(2, .int v11), (0, .ref qse), (1, .int x1p27)]) hx hb d_Se_idealSetting_72 hl (k := 2) rfl (by rw [ev11]; rfl) (by decide) rfl (fun ls hl => ?_)
  refine lv_goto (tgt := 4) hx hb d_Se_idealSetting_75 (by decide) ?_
  exact ih4 x1p27 v11 cap72 hok _ hz _ _ ls hP hD hS (lv_sub hl [1, 2, 0] rfl)
noncomputable def sp_Se_idealSetting_50 (x2p4 : Int32) (x1p27 : Int32) (y6 : Int64 × IV) (r4 : Int32 → Int32 → IV → (Int32 × IV))  : Int32 × IV := sp_Se_idealSetting_72 x2p4 x1p27 r4 y6.2
def ok_Se_idealSetting_50 (x2p4 : Int32) (x1p27 : Int32) (y6 : Int64 × IV) (r4 : Int32 → Int32 → IV → (Int32 × IV)) (q4 : Int32 → Int32 → IV → Prop)  : Prop := ok_Se_idealSetting_72 x2p4 x1p27 r4 q4 y6.2
set_option maxRecDepth 100000 in
set_option maxHeartbeats 4000000 in
theorem k_Se_idealSetting_50 {p : Program} {l : Launch} {e : Env} {s : State} {m : MethodId} {args : Array Value} {below : List Frame} {meth : Method} {c : Code} {g : GX} {qse : Nat} {qci : Nat} {qpa : Nat} {qpae : Nat} {qpar : Nat} {qpau : Nat} {qpab : Nat} {ws0 : va_W} {y6 : Int64 × IV} {cal : LV} {w0 : IV} {w1 : IV} {w2 : IV} {w3 : IV} {w4 : IV} {x1p27 : Int32} {x2p4 : Int32} {r4 : Int32 → Int32 → IV → (Int32 × IV)} {q4 : Int32 → Int32 → IV → Prop} (C : Cx p s m args meth c (inW ws0) g "DecadeBridge$Search" b_Se_idealSetting (some .int) 7) (ih4 : HL_Se_idealSetting_4 p l e s m args below meth c g qse qci qpa qpae qpar qpau qpab ws0 cal w0 w1 w2 w3 w4 r4 q4) : HL_Se_idealSetting_50 p l e s m args below meth c g qse qci qpa qpae qpar qpau qpab ws0 y6 cal w0 w1 w2 w3 w4 x1p27 x2p4 (sp_Se_idealSetting_50 x2p4 x1p27 y6 r4) (ok_Se_idealSetting_50 x2p4 x1p27 y6 r4 q4) := by
  intro _ hok z hz H locs ls hP hD hS hl
  obtain ⟨hx, hb, hr, hml, hown, hlk, hts, hK, hZo, hZ⟩ := id C
  unfold sp_Se_idealSetting_50 at hz
  unfold ok_Se_idealSetting_50 at hok
  refine lv_goto (tgt := 72) hx hb d_Se_idealSetting_50 (by decide) ?_
  exact k_Se_idealSetting_72 C ih4 y6.2 hok _ hz _ _ ls hP hD hS hl
noncomputable def bd_Se_idealSetting_27 (x2p4 : Int32) (y3 : Int32) (w0 : IV) (w1 : IV) (w3 : IV) (w4 : IV) (r4 : Int32 → Int32 → IV → (Int32 × IV)) (r27 : Int32 → Int32 → IV → (Int32 × IV)) (x1p27 : Int32) (x4p27 : Int32) (cap27 : IV) : Int32 × IV := if (9 : Int32) < x4p27 then (sp_Se_idealSetting_72 x2p4 x1p27 r4 cap27) else (lett (sp_Se_deflectionAt (x1p27 + y3) cap27 w0 w1 w3 w4) fun (y6 : Int64 × IV) => if (0 : Int64) ≤ y6.1 then (lett (x1p27 + y3) fun (v8 : Int32) => if y6.1 = (0 : Int64) then ((v8, y6.2)) else (lett (x4p27 + (1 : Int32)) fun (v10 : Int32) => r27 v8 v10 y6.2)) else (sp_Se_idealSetting_50 x2p4 x1p27 y6 r4))
def okb_Se_idealSetting_27 (x2p4 : Int32) (y3 : Int32) (w0 : IV) (w1 : IV) (w3 : IV) (w4 : IV) (r4 : Int32 → Int32 → IV → (Int32 × IV)) (r27 : Int32 → Int32 → IV → (Int32 × IV)) (q4 : Int32 → Int32 → IV → Prop) (q27 : Int32 → Int32 → IV → Prop) (x1p27 : Int32) (x4p27 : Int32) (cap27 : IV) : Prop := (((9 : Int32) < x4p27 → ok_Se_idealSetting_72 x2p4 x1p27 r4 q4 cap27) ∧ (¬ ((9 : Int32) < x4p27) → (ok_Se_deflectionAt (x1p27 + y3) cap27 w0 w1) ∧ lett (sp_Se_deflectionAt (x1p27 + y3) cap27 w0 w1 w3 w4) fun (y6 : Int64 × IV) => (((0 : Int64) ≤ y6.1 → lett (x1p27 + y3) fun (v8 : Int32) => ((y6.1 = (0 : Int64) → True) ∧ (¬ (y6.1 = (0 : Int64)) → lett (x4p27 + (1 : Int32)) fun (v10 : Int32) => q27 v8 v10 y6.2))) ∧ (¬ ((0 : Int64) ≤ y6.1) → ok_Se_idealSetting_50 x2p4 x1p27 y6 r4 q4))))
noncomputable def sp_Se_idealSetting_27 (x2p4 : Int32) (y3 : Int32) (w0 : IV) (w1 : IV) (w3 : IV) (w4 : IV) (r4 : Int32 → Int32 → IV → (Int32 × IV)) : Nat → Int32 → Int32 → IV → (Int32 × IV)
  | 0 => fun _ _ _ => default
  | f + 1 => bd_Se_idealSetting_27 x2p4 y3 w0 w1 w3 w4 r4 (sp_Se_idealSetting_27 x2p4 y3 w0 w1 w3 w4 r4 f)
def ok_Se_idealSetting_27 (x2p4 : Int32) (y3 : Int32) (w0 : IV) (w1 : IV) (w3 : IV) (w4 : IV) (r4 : Int32 → Int32 → IV → (Int32 × IV)) (q4 : Int32 → Int32 → IV → Prop) : Nat → Int32 → Int32 → IV → Prop
  | 0 => fun _ _ _ => False
  | f + 1 => okb_Se_idealSetting_27 x2p4 y3 w0 w1 w3 w4 r4 (sp_Se_idealSetting_27 x2p4 y3 w0 w1 w3 w4 r4 f) q4 (ok_Se_idealSetting_27 x2p4 y3 w0 w1 w3 w4 r4 q4 f)
set_option maxRecDepth 100000 in
set_option maxHeartbeats 4000000 in
theorem kb_Se_idealSetting_27 {p : Program} {l : Launch} {e : Env} {s : State} {m : MethodId} {args : Array Value} {below : List Frame} {meth : Method} {c : Code} {g : GX} {qse : Nat} {qci : Nat} {qpa : Nat} {qpae : Nat} {qpar : Nat} {qpau : Nat} {qpab : Nat} {ws0 : va_W} {cal : LV} {w0 : IV} {w1 : IV} {w2 : IV} {w3 : IV} {w4 : IV} {x2p4 : Int32} {y3 : Int32} {r4 : Int32 → Int32 → IV → (Int32 × IV)} {q4 : Int32 → Int32 → IV → Prop} (C : Cx p s m args meth c (inW ws0) g "DecadeBridge$Search" b_Se_idealSetting (some .int) 7) {r27 : Int32 → Int32 → IV → (Int32 × IV)} {q27 : Int32 → Int32 → IV → Prop} (ih4 : HL_Se_idealSetting_4 p l e s m args below meth c g qse qci qpa qpae qpar qpau qpab ws0 cal w0 w1 w2 w3 w4 r4 q4) (ih27 : HL_Se_idealSetting_27 p l e s m args below meth c g qse qci qpa qpae qpar qpau qpab ws0 cal w0 w1 w2 w3 w4 x2p4 y3 r27 q27) : HL_Se_idealSetting_27 p l e s m args below meth c g qse qci qpa qpae qpar qpau qpab ws0 cal w0 w1 w2 w3 w4 x2p4 y3 (bd_Se_idealSetting_27 x2p4 y3 w0 w1 w3 w4 r4 r27) (okb_Se_idealSetting_27 x2p4 y3 w0 w1 w3 w4 r4 r27 q4 q27) := by
  intro x1p27 x4p27 cap27 hok z hz H locs ls hP hD hS hl
  obtain ⟨hx, hb, hr, hml, hown, hlk, hts, hK, hZo, hZ⟩ := id C
  unfold bd_Se_idealSetting_27 at hz
  unfold okb_Se_idealSetting_27 at hok
  refine lv_iload hx hb d_Se_idealSetting_27 (lv_at hl 4 rfl) ?_
  refine lv_bipush (v := 9) hx hb d_Se_idealSetting_29 (by decide) ?_
  refine lv_icmp_gt (tgt := 72) hx hb d_Se_idealSetting_31 (by decide) (fun c4 => ?_) (fun c4 => ?_)
  · have hz := hz.trans (if_pos c4)
    have hok := hok.1 c4
    exact k_Se_idealSetting_72 C ih4 cap27 hok _ hz _ _ ls hP hD hS (lv_sub hl [0, 1, 2] rfl)
  · have hz := hz.trans (if_neg c4)
    have hok := hok.2 c4
    refine lv_aload_n hx hb d_Se_idealSetting_34 rfl (lv_at hl 0 rfl) ?_
    refine lv_iload_n hx hb d_Se_idealSetting_35 rfl (lv_at hl 1 rfl) ?_
    refine lv_iload_n hx hb d_Se_idealSetting_36 rfl (lv_at hl 3 rfl) ?_
    refine lv_iadd hx hb d_Se_idealSetting_37 ?_
    have hs5 := hok.1
    have hok := hok.2
    have hB : SubW g (inW ws0) s (wSe g qse qci qpa qpae qpar qpau qpab cap27 cal w0 w1 w2 w3 w4) _ (List.range _) _ _ := (subF hP hD hS)
    refine goLF hB (run_v C mf_Se_deflectionAt qm_Se_36 (c_Se_deflectionAt l g qse qci qpa qpae qpar qpau qpab cap27 cal w0 w1 w2 w3 w4 (x1p27 + y3) hs5) rfl rfl ⟨Nat.le_of_ble_eq_true rfl, Nat.le_of_ble_eq_true rfl⟩ ⟨Nat.le_of_ble_eq_true rfl, Nat.le_of_ble_eq_true rfl⟩ hB rfl rfl hl rfl rfl (Nat.le_of_ble_eq_true rfl) d_Se_idealSetting_38) (fun _ => rfl) (fun y6 ey6 H locs hP hD hS => ?_)
    have hP : va_P g.1 vwCl (wSe g qse qci qpa qpae qpar qpau qpab y6.2 cal w0 w1 w2 w3 w4) H := hP
    have hD : va_D (inW ws0) (wSe g qse qci qpa qpae qpar qpau qpab y6.2 cal w0 w1 w2 w3 w4) := hD
    have hz := lett_z hz ey6
    have hok := lett_o hok ey6
    refine lv_lstore (lv' := [(5, .long y6.1), (0, .ref qse), (1, .int x1p27), (2, .int x2p4), (3, .int y3), (4, .int x4p27)]) hx hb d_Se_idealSetting_41 hl (by decide) rfl (fun ls hl => ?_)
    refine lv_lload hx hb d_Se_idealSetting_43 (lv_at hl 0 rfl) ?_
    refine lv_lconst (v := 0) hx hb d_Se_idealSetting_45 (by decide) ?_
    refine lc_ge (tgt := 53) hx hb d_Se_idealSetting_46 d_Se_idealSetting_47 (by decide) (fun c7 => ?_) (fun c7 => ?_)
    · have hz := hz.trans (if_pos c7)
      have hok := hok.1 c7
      refine lv_iload_n hx hb d_Se_idealSetting_53 rfl (lv_at hl 2 rfl) ?_
      refine lv_iload_n hx hb d_Se_idealSetting_54 rfl (lv_at hl 4 rfl) ?_
      refine lv_iadd hx hb d_Se_idealSetting_55 ?_
      refine lv_topi (fun v8 ev8 => ?_)
      have hz := lett_z hz ev8
      have hok := lett_o hok ev8
      refine lv_istore_n (lv' := [(1, .int v8), (5, .long y6.1), (0, .ref qse), (2, .int x2p4), (3, .int y3), (4, .int x4p27)]) hx hb d_Se_idealSetting_56 rfl hl (by decide) rfl (fun ls hl => ?_)
      refine lv_lload hx hb d_Se_idealSetting_57 (lv_at hl 1 rfl) ?_
      refine lv_lconst (v := 0) hx hb d_Se_idealSetting_59 (by decide) ?_
      refine lc_ne (tgt := 66) hx hb d_Se_idealSetting_60 d_Se_idealSetting_61 (by decide) (fun c9 => ?_) (fun c9 => ?_)
      · have hz := hz.trans (if_neg c9)
        have hok := hok.2 c9
        obtain ⟨v10, ev10⟩ : ∃ y : Int32, y = x4p27 + (1 : Int32) := ⟨_, rfl⟩
        have hz := lett_z hz ev10
        have hok := lett_o hok ev10
        refine lv_iinc (v := v10) (lv' := [(4, .int v10), (1, .int v8), (5, .long y6.1), (0, .ref qse), (2, .int x2p4), (3, .int y3)]) hx hb d_Se_idealSetting_66 hl (k := 5) rfl (by rw [ev10]; rfl) (by decide) rfl (fun ls hl => ?_)
        refine lv_goto (tgt := 27) hx hb d_Se_idealSetting_69 (by decide) ?_
        exact ih27 v8 v10 y6.2 hok _ hz _ _ ls hP hD hS (lv_sub hl [3, 1, 4, 5, 0] rfl)
      · have hz := hz.trans (if_pos c9)
        refine lv_iload_n hx hb d_Se_idealSetting_64 rfl (lv_at hl 0 rfl) ?_
        exact endI1 C hz hP hS d_Se_idealSetting_65
    · have hz := hz.trans (if_neg c7)
      have hok := hok.2 c7
      exact k_Se_idealSetting_50 C ih4 () hok _ hz _ _ ls hP hD hS (lv_sub hl [1, 2, 3] rfl)
theorem k_Se_idealSetting_27 {p : Program} {l : Launch} {e : Env} {s : State} {m : MethodId} {args : Array Value} {below : List Frame} {meth : Method} {c : Code} {g : GX} {qse : Nat} {qci : Nat} {qpa : Nat} {qpae : Nat} {qpar : Nat} {qpau : Nat} {qpab : Nat} {ws0 : va_W} {cal : LV} {w0 : IV} {w1 : IV} {w2 : IV} {w3 : IV} {w4 : IV} {x2p4 : Int32} {y3 : Int32} {r4 : Int32 → Int32 → IV → (Int32 × IV)} {q4 : Int32 → Int32 → IV → Prop} (C : Cx p s m args meth c (inW ws0) g "DecadeBridge$Search" b_Se_idealSetting (some .int) 7) (f : Nat) (ih4 : HL_Se_idealSetting_4 p l e s m args below meth c g qse qci qpa qpae qpar qpau qpab ws0 cal w0 w1 w2 w3 w4 r4 q4) : HL_Se_idealSetting_27 p l e s m args below meth c g qse qci qpa qpae qpar qpau qpab ws0 cal w0 w1 w2 w3 w4 x2p4 y3 (sp_Se_idealSetting_27 x2p4 y3 w0 w1 w3 w4 r4 f) (ok_Se_idealSetting_27 x2p4 y3 w0 w1 w3 w4 r4 q4 f) := by
  induction f with
  | zero => intro x1p27 x4p27 cap27 hok; exact False.elim hok
  | succ f ih => exact kb_Se_idealSetting_27 C ih4 ih
noncomputable def bd_Se_idealSetting_4 (w0 : IV) (w1 : IV) (w3 : IV) (w4 : IV) (r4 : Int32 → Int32 → IV → (Int32 × IV)) (x1p4 : Int32) (x2p4 : Int32) (cap4 : IV) : Int32 × IV := if (w0 0) ≤ x2p4 then ((x1p4, cap4)) else (lett (sp_Pa_weightOf x2p4 w0) fun (y3 : Int32) => sp_Se_idealSetting_27 x2p4 y3 w0 w1 w3 w4 r4 big x1p4 (1 : Int32) cap4)
def okb_Se_idealSetting_4 (w0 : IV) (w1 : IV) (w3 : IV) (w4 : IV) (r4 : Int32 → Int32 → IV → (Int32 × IV)) (q4 : Int32 → Int32 → IV → Prop) (x1p4 : Int32) (x2p4 : Int32) (cap4 : IV) : Prop := (((w0 0) ≤ x2p4 → True) ∧ (¬ ((w0 0) ≤ x2p4) → (ok_Pa_weightOf x2p4 w0) ∧ lett (sp_Pa_weightOf x2p4 w0) fun (y3 : Int32) => ok_Se_idealSetting_27 x2p4 y3 w0 w1 w3 w4 r4 q4 big x1p4 (1 : Int32) cap4))
noncomputable def sp_Se_idealSetting_4 (w0 : IV) (w1 : IV) (w3 : IV) (w4 : IV)  : Nat → Int32 → Int32 → IV → (Int32 × IV)
  | 0 => fun _ _ _ => default
  | f + 1 => bd_Se_idealSetting_4 w0 w1 w3 w4  (sp_Se_idealSetting_4 w0 w1 w3 w4  f)
def ok_Se_idealSetting_4 (w0 : IV) (w1 : IV) (w3 : IV) (w4 : IV)   : Nat → Int32 → Int32 → IV → Prop
  | 0 => fun _ _ _ => False
  | f + 1 => okb_Se_idealSetting_4 w0 w1 w3 w4  (sp_Se_idealSetting_4 w0 w1 w3 w4  f)  (ok_Se_idealSetting_4 w0 w1 w3 w4   f)
set_option maxRecDepth 100000 in
set_option maxHeartbeats 4000000 in
theorem kb_Se_idealSetting_4 {p : Program} {l : Launch} {e : Env} {s : State} {m : MethodId} {args : Array Value} {below : List Frame} {meth : Method} {c : Code} {g : GX} {qse : Nat} {qci : Nat} {qpa : Nat} {qpae : Nat} {qpar : Nat} {qpau : Nat} {qpab : Nat} {ws0 : va_W} {cal : LV} {w0 : IV} {w1 : IV} {w2 : IV} {w3 : IV} {w4 : IV}  (C : Cx p s m args meth c (inW ws0) g "DecadeBridge$Search" b_Se_idealSetting (some .int) 7) {r4 : Int32 → Int32 → IV → (Int32 × IV)} {q4 : Int32 → Int32 → IV → Prop}  (ih4 : HL_Se_idealSetting_4 p l e s m args below meth c g qse qci qpa qpae qpar qpau qpab ws0 cal w0 w1 w2 w3 w4 r4 q4) : HL_Se_idealSetting_4 p l e s m args below meth c g qse qci qpa qpae qpar qpau qpab ws0 cal w0 w1 w2 w3 w4 (bd_Se_idealSetting_4 w0 w1 w3 w4  r4) (okb_Se_idealSetting_4 w0 w1 w3 w4  r4  q4) := by
  intro x1p4 x2p4 cap4 hok z hz H locs ls hP hD hS hl
  obtain ⟨hx, hb, hr, hml, hown, hlk, hts, hK, hZo, hZ⟩ := id C
  unfold bd_Se_idealSetting_4 at hz
  unfold okb_Se_idealSetting_4 at hok
  refine lv_iload_n hx hb d_Se_idealSetting_4 rfl (lv_at hl 2 rfl) ?_
  refine lv_aload_n hx hb d_Se_idealSetting_5 rfl (lv_at hl 0 rfl) ?_
  refine gf C hP 0 1 fkSe rfl (by decide) rfl qf_Se_9 (gSe_1 _ _) d_Se_idealSetting_6 ?_
  refine gf C hP 2 0 fkPa rfl (by decide) rfl qf_Se_46 (gPa_0 _ _ _ _ _) d_Se_idealSetting_9 ?_
  refine lv_icmp_ge (tgt := 78) hx hb d_Se_idealSetting_12 (by decide) (fun c1 => ?_) (fun c1 => ?_)
  · have hz := hz.trans (if_pos c1)
    refine lv_iload_n hx hb d_Se_idealSetting_78 rfl (lv_at hl 1 rfl) ?_
    exact endI1 C hz hP hS d_Se_idealSetting_79
  · have hz := hz.trans (if_neg c1)
    have hok := hok.2 c1
    refine lv_aload_n hx hb d_Se_idealSetting_15 rfl (lv_at hl 0 rfl) ?_
    refine gf C hP 0 1 fkSe rfl (by decide) rfl qf_Se_9 (gSe_1 _ _) d_Se_idealSetting_16 ?_
    refine lv_iload_n hx hb d_Se_idealSetting_19 rfl (lv_at hl 2 rfl) ?_
    have hs2 := hok.1
    have hok := hok.2
    have hB : SubW g (inW ws0) s (wSe g qse qci qpa qpae qpar qpau qpab cap4 cal w0 w1 w2 w3 w4) (wPa g qpa qpae qpar qpau qpab w0 w1 w2 w3 w4) [2, 3, 4, 5, 6] _ _ := ⟨rfl, rfl, hP, hD, hS⟩
    refine goI0 hB (run_v C mf_Pa_weightOf qm_Se_52 (c_Pa_weightOf l g qpa qpae qpar qpau qpab w0 w1 w2 w3 w4 x2p4 hs2) rfl rfl ⟨Nat.le_of_ble_eq_true rfl, Nat.le_of_ble_eq_true rfl⟩ ⟨Nat.le_of_ble_eq_true rfl, Nat.le_of_ble_eq_true rfl⟩ hB rfl rfl hl rfl rfl (Nat.le_of_ble_eq_true rfl) d_Se_idealSetting_20) (fun y3 ey3 H locs hP hS => ?_)
    have hz := lett_z hz ey3
    have hok := lett_o hok ey3
    refine lv_istore_n (lv' := [(3, .int y3), (0, .ref qse), (1, .int x1p4), (2, .int x2p4)]) hx hb d_Se_idealSetting_23 rfl hl (by decide) rfl (fun ls hl => ?_)
    refine lv_iconst (v := 1) hx hb d_Se_idealSetting_24 (by decide) ?_
    refine lv_istore (lv' := [(4, .int (1 : Int32)), (3, .int y3), (0, .ref qse), (1, .int x1p4), (2, .int x2p4)]) hx hb d_Se_idealSetting_25 hl (by decide) rfl (fun ls hl => ?_)
    exact k_Se_idealSetting_27 C big ih4 x1p4 (1 : Int32) cap4 hok _ hz _ _ ls hP hD hS (lv_sub hl [2, 3, 4, 1, 0] rfl)
theorem k_Se_idealSetting_4 {p : Program} {l : Launch} {e : Env} {s : State} {m : MethodId} {args : Array Value} {below : List Frame} {meth : Method} {c : Code} {g : GX} {qse : Nat} {qci : Nat} {qpa : Nat} {qpae : Nat} {qpar : Nat} {qpau : Nat} {qpab : Nat} {ws0 : va_W} {cal : LV} {w0 : IV} {w1 : IV} {w2 : IV} {w3 : IV} {w4 : IV}  (C : Cx p s m args meth c (inW ws0) g "DecadeBridge$Search" b_Se_idealSetting (some .int) 7) (f : Nat)  : HL_Se_idealSetting_4 p l e s m args below meth c g qse qci qpa qpae qpar qpau qpab ws0 cal w0 w1 w2 w3 w4 (sp_Se_idealSetting_4 w0 w1 w3 w4  f) (ok_Se_idealSetting_4 w0 w1 w3 w4   f) := by
  induction f with
  | zero => intro x1p4 x2p4 cap4 hok; exact False.elim hok
  | succ f ih => exact kb_Se_idealSetting_4 C  ih
noncomputable def sp_Se_idealSetting (ca : IV) (w0 : IV) (w1 : IV) (w3 : IV) (w4 : IV) : Int32 × IV := sp_Se_idealSetting_4 w0 w1 w3 w4 big (0 : Int32) (0 : Int32) ca
def ok_Se_idealSetting (ca : IV) (w0 : IV) (w1 : IV) (w3 : IV) (w4 : IV) : Prop := ok_Se_idealSetting_4 w0 w1 w3 w4 big (0 : Int32) (0 : Int32) ca
set_option maxRecDepth 100000 in
set_option maxHeartbeats 4000000 in
theorem c_Se_idealSetting (l : Launch) (g : GX) (qse : Nat) (qci : Nat) (qpa : Nat) (qpae : Nat) (qpar : Nat) (qpau : Nat) (qpab : Nat) (ca : IV) (cal : LV) (w0 : IV) (w1 : IV) (w2 : IV) (w3 : IV) (w4 : IV)  (hok : ok_Se_idealSetting ca w0 w1 w3 w4) : Met l y_Se_idealSetting (wsY y_Se_idealSetting b_Se_idealSetting 7 (some .int)) rm_Se_idealSetting (CP g [.ref qse] (wSe g qse qci qpa qpae qpar qpau qpab ca cal w0 w1 w2 w3 w4)) (CI g (wSe g qse qci qpa qpae qpar qpau qpab ca cal w0 w1 w2 w3 w4) (fun u : IV => wSe g qse qci qpa qpae qpar qpau qpab u cal w0 w1 w2 w3 w4) (sp_Se_idealSetting ca w0 w1 w3 w4)) 0 0 (inW (wSe g qse qci qpa qpae qpar qpau qpab ca cal w0 w1 w2 w3 w4)) := by
  refine Met.ofW (cc := b_Se_idealSetting) (maxL := 7) (ret := (some .int)) pn_Se rfl ?_
  intro p e s m args below meth c s₁ B hml hv
  obtain ⟨rfl, C, hP, hD, hS⟩ := enter "DecadeBridge$Search" rfl B hml hv
  obtain ⟨hx, hb, hr, hml, hown, hlk, hts, hK, hZo, hZ⟩ := id C
  refine entryW (lv := [(0, .ref qse)]) rfl (Nat.le_of_ble_eq_true rfl) (fun ls hl => ?_)
  obtain ⟨z, hz⟩ : ∃ z, z = sp_Se_idealSetting ca w0 w1 w3 w4 := ⟨_, rfl⟩
  rw [← hz]
  unfold sp_Se_idealSetting at hz
  unfold ok_Se_idealSetting at hok
  refine lv_iconst (v := 0) hx hb d_Se_idealSetting_0 (by decide) ?_
  refine lv_istore_n (lv' := [(1, .int (0 : Int32)), (0, .ref qse)]) hx hb d_Se_idealSetting_1 rfl hl (by decide) rfl (fun ls hl => ?_)
  refine lv_iconst (v := 0) hx hb d_Se_idealSetting_2 (by decide) ?_
  refine lv_istore_n (lv' := [(2, .int (0 : Int32)), (1, .int (0 : Int32)), (0, .ref qse)]) hx hb d_Se_idealSetting_3 rfl hl (by decide) rfl (fun ls hl => ?_)
  exact k_Se_idealSetting_4 C big (0 : Int32) (0 : Int32) ca hok _ hz _ _ ls hP hD hS (lv_sub hl [2, 1, 0] rfl)
abbrev rm_Se_alikeBehind : Room := { frames := 3, cells := 0, slots := 0, locals := 70 }
def HL_Se_alikeBehind_17 (p : Program) (l : Launch) (e : Env) (s : State) (m : MethodId) (args : Array Value) (below : List Frame) (meth : Method) (c : Code) (g : GX) (qse : Nat) (qci : Nat) (qpa : Nat) (qpae : Nat) (qpar : Nat) (qpau : Nat) (qpab : Nat) (ws0 : va_W) (cal : LV) (w0 : IV) (w1 : IV) (w2 : IV) (w3 : IV) (w4 : IV) (p1 : Int32) (p3 : Int64) (y1 : Int32) (sp : Int32 → IV → (Int32 × IV)) (ok : Int32 → IV → Prop) : Prop := ∀ (x7p17 : Int32) (cap17 : IV), ok x7p17 cap17 → ∀ z : (Int32 × IV), z = sp x7p17 cap17 → ∀ (H : Heap) (locs : List Loc) (ls : Array Slot), va_P g.1 vwCl (wSe g qse qci qpa qpae qpar qpau qpab cap17 cal w0 w1 w2 w3 w4) H → va_D (inW ws0) (wSe g qse qci qpa qpae qpar qpau qpab cap17 cal w0 w1 w2 w3 w4) → va_S (inW ws0) s.heap H locs → lv_has ls 8 [(0, .ref qse), (1, .int p1), (4, .long p3), (6, .int y1), (7, .int x7p17)] → W p l e rm_Se_alikeBehind s m args below meth c H locs 0 0 (MQ below (CI g ws0 (fun u : IV => wSe g qse qci qpa qpae qpar qpau qpab u cal w0 w1 w2 w3 w4) z) args s 0 0 (inW ws0)) (F0 m 17 ls [])
def HL_Se_alikeBehind_58 (p : Program) (l : Launch) (e : Env) (s : State) (m : MethodId) (args : Array Value) (below : List Frame) (meth : Method) (c : Code) (g : GX) (qse : Nat) (qci : Nat) (qpa : Nat) (qpae : Nat) (qpar : Nat) (qpau : Nat) (qpab : Nat) (ws0 : va_W) (cal : LV) (w0 : IV) (w1 : IV) (w2 : IV) (w3 : IV) (w4 : IV) (x7p17 : Int32) (sp : IV → (Int32 × IV)) (ok : IV → Prop) : Prop := ∀ (cap58 : IV), ok cap58 → ∀ z : (Int32 × IV), z = sp cap58 → ∀ (H : Heap) (locs : List Loc) (ls : Array Slot), va_P g.1 vwCl (wSe g qse qci qpa qpae qpar qpau qpab cap58 cal w0 w1 w2 w3 w4) H → va_D (inW ws0) (wSe g qse qci qpa qpae qpar qpau qpab cap58 cal w0 w1 w2 w3 w4) → va_S (inW ws0) s.heap H locs → lv_has ls 8 [(7, .int x7p17)] → W p l e rm_Se_alikeBehind s m args below meth c H locs 0 0 (MQ below (CI g ws0 (fun u : IV => wSe g qse qci qpa qpae qpar qpau qpab u cal w0 w1 w2 w3 w4) z) args s 0 0 (inW ws0)) (F0 m 58 ls [])
def HL_Se_alikeBehind_63 (p : Program) (l : Launch) (e : Env) (s : State) (m : MethodId) (args : Array Value) (below : List Frame) (meth : Method) (c : Code) (g : GX) (qse : Nat) (qci : Nat) (qpa : Nat) (qpae : Nat) (qpar : Nat) (qpau : Nat) (qpab : Nat) (ws0 : va_W) (cal : LV) (w0 : IV) (w1 : IV) (w2 : IV) (w3 : IV) (w4 : IV) (p1 : Int32) (p3 : Int64) (y1 : Int32) (x7p17 : Int32) (sp : IV → (Int32 × IV)) (ok : IV → Prop) : Prop := ∀ (cap63 : IV), ok cap63 → ∀ z : (Int32 × IV), z = sp cap63 → ∀ (H : Heap) (locs : List Loc) (ls : Array Slot), va_P g.1 vwCl (wSe g qse qci qpa qpae qpar qpau qpab cap63 cal w0 w1 w2 w3 w4) H → va_D (inW ws0) (wSe g qse qci qpa qpae qpar qpau qpab cap63 cal w0 w1 w2 w3 w4) → va_S (inW ws0) s.heap H locs → lv_has ls 8 [(0, .ref qse), (1, .int p1), (4, .long p3), (6, .int y1), (7, .int x7p17)] → W p l e rm_Se_alikeBehind s m args below meth c H locs 0 0 (MQ below (CI g ws0 (fun u : IV => wSe g qse qci qpa qpae qpar qpau qpab u cal w0 w1 w2 w3 w4) z) args s 0 0 (inW ws0)) (F0 m 63 ls [])
noncomputable def sp_Se_alikeBehind_63 (x7p17 : Int32) (r17 : Int32 → IV → (Int32 × IV)) (cap63 : IV) : Int32 × IV := lett (x7p17 / (10 : Int32)) fun (v13 : Int32) => r17 v13 cap63
def ok_Se_alikeBehind_63 (x7p17 : Int32) (r17 : Int32 → IV → (Int32 × IV)) (q17 : Int32 → IV → Prop) (cap63 : IV) : Prop := lett (x7p17 / (10 : Int32)) fun (v13 : Int32) => q17 v13 cap63
set_option maxRecDepth 100000 in
set_option maxHeartbeats 4000000 in
theorem k_Se_alikeBehind_63 {p : Program} {l : Launch} {e : Env} {s : State} {m : MethodId} {args : Array Value} {below : List Frame} {meth : Method} {c : Code} {g : GX} {qse : Nat} {qci : Nat} {qpa : Nat} {qpae : Nat} {qpar : Nat} {qpau : Nat} {qpab : Nat} {ws0 : va_W} {cal : LV} {w0 : IV} {w1 : IV} {w2 : IV} {w3 : IV} {w4 : IV} {p1 : Int32} {p3 : Int64} {y1 : Int32} {x7p17 : Int32} {r17 : Int32 → IV → (Int32 × IV)} {q17 : Int32 → IV → Prop} (C : Cx p s m args meth c (inW ws0) g "DecadeBridge$Search" b_Se_alikeBehind (some .int) 8) (ih17 : HL_Se_alikeBehind_17 p l e s m args below meth c g qse qci qpa qpae qpar qpau qpab ws0 cal w0 w1 w2 w3 w4 p1 p3 y1 r17 q17) : HL_Se_alikeBehind_63 p l e s m args below meth c g qse qci qpa qpae qpar qpau qpab ws0 cal w0 w1 w2 w3 w4 p1 p3 y1 x7p17 (sp_Se_alikeBehind_63 x7p17 r17) (ok_Se_alikeBehind_63 x7p17 r17 q17) := by
  intro cap63 hok z hz H locs ls hP hD hS hl
  obtain ⟨hx, hb, hr, hml, hown, hlk, hts, hK, hZo, hZ⟩ := id C
  unfold sp_Se_alikeBehind_63 at hz
  unfold ok_Se_alikeBehind_63 at hok
  refine lv_iload hx hb d_Se_alikeBehind_63 (lv_at hl 4 rfl) ?_
  refine lv_bipush (v := 10) hx hb d_Se_alikeBehind_65 (by decide) ?_
  refine lv_idiv hx hb d_Se_alikeBehind_67 (by decide) ?_
  refine lv_topi (fun v13 ev13 => ?_)
  have hz := lett_z hz ev13
  have hok := lett_o hok ev13
  refine lv_istore (lv' := [(7, .int v13), (0, .ref qse), (1, .int p1), (4, .long p3), (6, .int y1)]) hx hb d_Se_alikeBehind_68 hl (by decide) rfl (fun ls hl => ?_)
  refine lv_goto (tgt := 17) hx hb d_Se_alikeBehind_70 (by decide) ?_
  exact ih17 v13 cap63 hok _ hz _ _ ls hP hD hS (lv_sub hl [1, 2, 3, 4, 0] rfl)
noncomputable def sp_Se_alikeBehind_58 (x7p17 : Int32)  (cap58 : IV) : Int32 × IV := (x7p17 - (1 : Int32), cap58)
def ok_Se_alikeBehind_58 (x7p17 : Int32)   (cap58 : IV) : Prop := True
set_option maxRecDepth 100000 in
set_option maxHeartbeats 4000000 in
theorem k_Se_alikeBehind_58 {p : Program} {l : Launch} {e : Env} {s : State} {m : MethodId} {args : Array Value} {below : List Frame} {meth : Method} {c : Code} {g : GX} {qse : Nat} {qci : Nat} {qpa : Nat} {qpae : Nat} {qpar : Nat} {qpau : Nat} {qpab : Nat} {ws0 : va_W} {cal : LV} {w0 : IV} {w1 : IV} {w2 : IV} {w3 : IV} {w4 : IV} {x7p17 : Int32}  (C : Cx p s m args meth c (inW ws0) g "DecadeBridge$Search" b_Se_alikeBehind (some .int) 8)  : HL_Se_alikeBehind_58 p l e s m args below meth c g qse qci qpa qpae qpar qpau qpab ws0 cal w0 w1 w2 w3 w4 x7p17 (sp_Se_alikeBehind_58 x7p17 ) (ok_Se_alikeBehind_58 x7p17  ) := by
  intro cap58 hok z hz H locs ls hP hD hS hl
  obtain ⟨hx, hb, hr, hml, hown, hlk, hts, hK, hZo, hZ⟩ := id C
  unfold sp_Se_alikeBehind_58 at hz
  refine lv_iload hx hb d_Se_alikeBehind_58 (lv_at hl 0 rfl) ?_
  refine lv_iconst (v := 1) hx hb d_Se_alikeBehind_60 (by decide) ?_
  refine lv_isub hx hb d_Se_alikeBehind_61 ?_
  exact endI1 C hz hP hS d_Se_alikeBehind_62
noncomputable def bd_Se_alikeBehind_17 (y1 : Int32) (p1 : Int32) (w0 : IV) (w1 : IV) (w3 : IV) (w4 : IV) (p3 : Int64) (r17 : Int32 → IV → (Int32 × IV)) (x7p17 : Int32) (cap17 : IV) : Int32 × IV := if x7p17 ≤ (1 : Int32) then (((0 : Int32), cap17)) else (if y1 = 0 then (((0 : Int32), cap17)) else (if (p1 - p1 / x7p17 * x7p17) = 0 then (if y1 < 0 then (sp_Se_alikeBehind_58 x7p17 cap17) else (lett (sp_Se_deflectionAt ((p1 + x7p17) - (1 : Int32)) cap17 w0 w1 w3 w4) fun (y10 : Int64 × IV) => lett (sp_Se_sideOf y10.1 p3) fun (y11 : Int32) => if y11 ≤ 0 then (sp_Se_alikeBehind_63 x7p17 r17 y10.2) else (sp_Se_alikeBehind_58 x7p17 y10.2))) else (sp_Se_alikeBehind_63 x7p17 r17 cap17)))
def okb_Se_alikeBehind_17 (y1 : Int32) (p1 : Int32) (w0 : IV) (w1 : IV) (w3 : IV) (w4 : IV) (p3 : Int64) (r17 : Int32 → IV → (Int32 × IV)) (q17 : Int32 → IV → Prop) (x7p17 : Int32) (cap17 : IV) : Prop := ((x7p17 ≤ (1 : Int32) → True) ∧ (¬ (x7p17 ≤ (1 : Int32)) → ((y1 = 0 → True) ∧ (¬ (y1 = 0) → (¬ x7p17 = 0) ∧ (((p1 - p1 / x7p17 * x7p17) = 0 → ((y1 < 0 → True) ∧ (¬ (y1 < 0) → (ok_Se_deflectionAt ((p1 + x7p17) - (1 : Int32)) cap17 w0 w1) ∧ lett (sp_Se_deflectionAt ((p1 + x7p17) - (1 : Int32)) cap17 w0 w1 w3 w4) fun (y10 : Int64 × IV) => lett (sp_Se_sideOf y10.1 p3) fun (y11 : Int32) => ((y11 ≤ 0 → ok_Se_alikeBehind_63 x7p17 r17 q17 y10.2) ∧ (¬ (y11 ≤ 0) → True))))) ∧ (¬ ((p1 - p1 / x7p17 * x7p17) = 0) → ok_Se_alikeBehind_63 x7p17 r17 q17 cap17))))))
noncomputable def sp_Se_alikeBehind_17 (y1 : Int32) (p1 : Int32) (w0 : IV) (w1 : IV) (w3 : IV) (w4 : IV) (p3 : Int64)  : Nat → Int32 → IV → (Int32 × IV)
  | 0 => fun _ _ => default
  | f + 1 => bd_Se_alikeBehind_17 y1 p1 w0 w1 w3 w4 p3  (sp_Se_alikeBehind_17 y1 p1 w0 w1 w3 w4 p3  f)
def ok_Se_alikeBehind_17 (y1 : Int32) (p1 : Int32) (w0 : IV) (w1 : IV) (w3 : IV) (w4 : IV) (p3 : Int64)   : Nat → Int32 → IV → Prop
  | 0 => fun _ _ => False
  | f + 1 => okb_Se_alikeBehind_17 y1 p1 w0 w1 w3 w4 p3  (sp_Se_alikeBehind_17 y1 p1 w0 w1 w3 w4 p3  f)  (ok_Se_alikeBehind_17 y1 p1 w0 w1 w3 w4 p3   f)
set_option maxRecDepth 100000 in
set_option maxHeartbeats 4000000 in
theorem kb_Se_alikeBehind_17 {p : Program} {l : Launch} {e : Env} {s : State} {m : MethodId} {args : Array Value} {below : List Frame} {meth : Method} {c : Code} {g : GX} {qse : Nat} {qci : Nat} {qpa : Nat} {qpae : Nat} {qpar : Nat} {qpau : Nat} {qpab : Nat} {ws0 : va_W} {cal : LV} {w0 : IV} {w1 : IV} {w2 : IV} {w3 : IV} {w4 : IV} {p1 : Int32} {p3 : Int64} {y1 : Int32}  (C : Cx p s m args meth c (inW ws0) g "DecadeBridge$Search" b_Se_alikeBehind (some .int) 8) {r17 : Int32 → IV → (Int32 × IV)} {q17 : Int32 → IV → Prop}  (ih17 : HL_Se_alikeBehind_17 p l e s m args below meth c g qse qci qpa qpae qpar qpau qpab ws0 cal w0 w1 w2 w3 w4 p1 p3 y1 r17 q17) : HL_Se_alikeBehind_17 p l e s m args below meth c g qse qci qpa qpae qpar qpau qpab ws0 cal w0 w1 w2 w3 w4 p1 p3 y1 (bd_Se_alikeBehind_17 y1 p1 w0 w1 w3 w4 p3  r17) (okb_Se_alikeBehind_17 y1 p1 w0 w1 w3 w4 p3  r17  q17) := by
  intro x7p17 cap17 hok z hz H locs ls hP hD hS hl
  obtain ⟨hx, hb, hr, hml, hown, hlk, hts, hK, hZo, hZ⟩ := id C
  unfold bd_Se_alikeBehind_17 at hz
  unfold okb_Se_alikeBehind_17 at hok
  refine lv_iload hx hb d_Se_alikeBehind_17 (lv_at hl 4 rfl) ?_
  refine lv_iconst (v := 1) hx hb d_Se_alikeBehind_19 (by decide) ?_
  refine lv_icmp_le (tgt := 73) hx hb d_Se_alikeBehind_20 (by decide) (fun c4 => ?_) (fun c4 => ?_)
  · have hz := hz.trans (if_pos c4)
    refine lv_iconst (v := 0) hx hb d_Se_alikeBehind_73 (by decide) ?_
    exact endI1 C hz hP hS d_Se_alikeBehind_74
  · have hz := hz.trans (if_neg c4)
    have hok := hok.2 c4
    refine lv_iload hx hb d_Se_alikeBehind_23 (lv_at hl 3 rfl) ?_
    refine lv_if_eq (tgt := 73) hx hb d_Se_alikeBehind_25 (by decide) (fun c5 => ?_) (fun c5 => ?_)
    · have hz := hz.trans (if_pos c5)
      refine lv_iconst (v := 0) hx hb d_Se_alikeBehind_73 (by decide) ?_
      exact endI1 C hz hP hS d_Se_alikeBehind_74
    · have hz := hz.trans (if_neg c5)
      have hok := hok.2 c5
      refine lv_iload_n hx hb d_Se_alikeBehind_28 rfl (lv_at hl 1 rfl) ?_
      refine lv_iload hx hb d_Se_alikeBehind_29 (lv_at hl 4 rfl) ?_
      have hs6 := hok.1
      have hok := hok.2
      refine lv_irem hx hb d_Se_alikeBehind_31 hs6 ?_
      refine lv_if_ne (tgt := 63) hx hb d_Se_alikeBehind_32 (by decide) (fun c7 => ?_) (fun c7 => ?_)
      · have hz := hz.trans (if_neg c7)
        have hok := hok.2 c7
        exact k_Se_alikeBehind_63 C ih17 cap17 hok _ hz _ _ ls hP hD hS hl
      · have hz := hz.trans (if_pos c7)
        have hok := hok.1 c7
        refine lv_iload hx hb d_Se_alikeBehind_35 (lv_at hl 3 rfl) ?_
        refine lv_if_lt (tgt := 58) hx hb d_Se_alikeBehind_37 (by decide) (fun c8 => ?_) (fun c8 => ?_)
        · have hz := hz.trans (if_pos c8)
          exact k_Se_alikeBehind_58 C cap17 trivial _ hz _ _ ls hP hD hS (lv_sub hl [4] rfl)
        · have hz := hz.trans (if_neg c8)
          have hok := hok.2 c8
          refine lv_aload_n hx hb d_Se_alikeBehind_40 rfl (lv_at hl 0 rfl) ?_
          refine lv_iload_n hx hb d_Se_alikeBehind_41 rfl (lv_at hl 1 rfl) ?_
          refine lv_iload hx hb d_Se_alikeBehind_42 (lv_at hl 4 rfl) ?_
          refine lv_iadd hx hb d_Se_alikeBehind_44 ?_
          refine lv_iconst (v := 1) hx hb d_Se_alikeBehind_45 (by decide) ?_
          refine lv_isub hx hb d_Se_alikeBehind_46 ?_
          have hs9 := hok.1
          have hok := hok.2
          have hB : SubW g (inW ws0) s (wSe g qse qci qpa qpae qpar qpau qpab cap17 cal w0 w1 w2 w3 w4) _ (List.range _) _ _ := (subF hP hD hS)
          refine goLF hB (run_v C mf_Se_deflectionAt qm_Se_36 (c_Se_deflectionAt l g qse qci qpa qpae qpar qpau qpab cap17 cal w0 w1 w2 w3 w4 ((p1 + x7p17) - (1 : Int32)) hs9) rfl rfl ⟨Nat.le_of_ble_eq_true rfl, Nat.le_of_ble_eq_true rfl⟩ ⟨Nat.le_of_ble_eq_true rfl, Nat.le_of_ble_eq_true rfl⟩ hB rfl rfl hl rfl rfl (Nat.le_of_ble_eq_true rfl) d_Se_alikeBehind_47) (fun _ => rfl) (fun y10 ey10 H locs hP hD hS => ?_)
          have hP : va_P g.1 vwCl (wSe g qse qci qpa qpae qpar qpau qpab y10.2 cal w0 w1 w2 w3 w4) H := hP
          have hD : va_D (inW ws0) (wSe g qse qci qpa qpae qpar qpau qpab y10.2 cal w0 w1 w2 w3 w4) := hD
          have hz := lett_z hz ey10
          have hok := lett_o hok ey10
          refine lv_lload hx hb d_Se_alikeBehind_50 (lv_at hl 2 rfl) ?_
          have hB : SubW g (inW ws0) s (wSe g qse qci qpa qpae qpar qpau qpab y10.2 cal w0 w1 w2 w3 w4) (wNil g ) [] _ _ := ⟨rfl, rfl, hP, hD, hS⟩
          refine goI0 hB (run_s C mf_Se_sideOf qm_Se_74 (c_Se_sideOf l g y10.1 p3) rfl rfl ⟨Nat.le_of_ble_eq_true rfl, Nat.le_of_ble_eq_true rfl⟩ ⟨Nat.le_of_ble_eq_true rfl, Nat.le_of_ble_eq_true rfl⟩ hB hl rfl rfl (Nat.le_of_ble_eq_true rfl) d_Se_alikeBehind_52) (fun y11 ey11 H locs hP hS => ?_)
          have hz := lett_z hz ey11
          have hok := lett_o hok ey11
          refine lv_if_le (tgt := 63) hx hb d_Se_alikeBehind_55 (by decide) (fun c12 => ?_) (fun c12 => ?_)
          · have hz := hz.trans (if_pos c12)
            have hok := hok.1 c12
            exact k_Se_alikeBehind_63 C ih17 y10.2 hok _ hz _ _ ls hP hD hS hl
          · have hz := hz.trans (if_neg c12)
            exact k_Se_alikeBehind_58 C y10.2 trivial _ hz _ _ ls hP hD hS (lv_sub hl [4] rfl)
theorem k_Se_alikeBehind_17 {p : Program} {l : Launch} {e : Env} {s : State} {m : MethodId} {args : Array Value} {below : List Frame} {meth : Method} {c : Code} {g : GX} {qse : Nat} {qci : Nat} {qpa : Nat} {qpae : Nat} {qpar : Nat} {qpau : Nat} {qpab : Nat} {ws0 : va_W} {cal : LV} {w0 : IV} {w1 : IV} {w2 : IV} {w3 : IV} {w4 : IV} {p1 : Int32} {p3 : Int64} {y1 : Int32}  (C : Cx p s m args meth c (inW ws0) g "DecadeBridge$Search" b_Se_alikeBehind (some .int) 8) (f : Nat)  : HL_Se_alikeBehind_17 p l e s m args below meth c g qse qci qpa qpae qpar qpau qpab ws0 cal w0 w1 w2 w3 w4 p1 p3 y1 (sp_Se_alikeBehind_17 y1 p1 w0 w1 w3 w4 p3  f) (ok_Se_alikeBehind_17 y1 p1 w0 w1 w3 w4 p3   f) := by
  induction f with
  | zero => intro x7p17 cap17 hok; exact False.elim hok
  | succ f ih => exact kb_Se_alikeBehind_17 C  ih
noncomputable def sp_Se_alikeBehind (p1 : Int32) (p2 : Int64) (p3 : Int64) (ca : IV) (w0 : IV) (w1 : IV) (w3 : IV) (w4 : IV) : Int32 × IV := lett (sp_Se_sideOf p2 p3) fun (y1 : Int32) => lett (sp_Pa_settings w0) fun (y3 : Int32) => sp_Se_alikeBehind_17 y1 p1 w0 w1 w3 w4 p3 big y3 ca
def ok_Se_alikeBehind (p1 : Int32) (p2 : Int64) (p3 : Int64) (ca : IV) (w0 : IV) (w1 : IV) (w3 : IV) (w4 : IV) : Prop := lett (sp_Se_sideOf p2 p3) fun (y1 : Int32) => (ok_Pa_settings w0) ∧ lett (sp_Pa_settings w0) fun (y3 : Int32) => ok_Se_alikeBehind_17 y1 p1 w0 w1 w3 w4 p3 big y3 ca
set_option maxRecDepth 100000 in
set_option maxHeartbeats 4000000 in
theorem c_Se_alikeBehind (l : Launch) (g : GX) (qse : Nat) (qci : Nat) (qpa : Nat) (qpae : Nat) (qpar : Nat) (qpau : Nat) (qpab : Nat) (ca : IV) (cal : LV) (w0 : IV) (w1 : IV) (w2 : IV) (w3 : IV) (w4 : IV) (p1 : Int32) (p2 : Int64) (p3 : Int64) (hok : ok_Se_alikeBehind p1 p2 p3 ca w0 w1 w3 w4) : Met l y_Se_alikeBehind (wsY y_Se_alikeBehind b_Se_alikeBehind 8 (some .int)) rm_Se_alikeBehind (CP g [.ref qse, .int p1, .long p2, .long p3] (wSe g qse qci qpa qpae qpar qpau qpab ca cal w0 w1 w2 w3 w4)) (CI g (wSe g qse qci qpa qpae qpar qpau qpab ca cal w0 w1 w2 w3 w4) (fun u : IV => wSe g qse qci qpa qpae qpar qpau qpab u cal w0 w1 w2 w3 w4) (sp_Se_alikeBehind p1 p2 p3 ca w0 w1 w3 w4)) 0 0 (inW (wSe g qse qci qpa qpae qpar qpau qpab ca cal w0 w1 w2 w3 w4)) := by
  refine Met.ofW (cc := b_Se_alikeBehind) (maxL := 8) (ret := (some .int)) pn_Se rfl ?_
  intro p e s m args below meth c s₁ B hml hv
  obtain ⟨rfl, C, hP, hD, hS⟩ := enter "DecadeBridge$Search" rfl B hml hv
  obtain ⟨hx, hb, hr, hml, hown, hlk, hts, hK, hZo, hZ⟩ := id C
  refine entryW (lv := [(0, .ref qse), (1, .int p1), (2, .long p2), (4, .long p3)]) rfl (Nat.le_of_ble_eq_true rfl) (fun ls hl => ?_)
  obtain ⟨z, hz⟩ : ∃ z, z = sp_Se_alikeBehind p1 p2 p3 ca w0 w1 w3 w4 := ⟨_, rfl⟩
  rw [← hz]
  unfold sp_Se_alikeBehind at hz
  unfold ok_Se_alikeBehind at hok
  refine lv_lload_n hx hb d_Se_alikeBehind_0 rfl (lv_at hl 2 rfl) ?_
  refine lv_lload hx hb d_Se_alikeBehind_1 (lv_at hl 3 rfl) ?_
  have hB : SubW g (inW (wSe g qse qci qpa qpae qpar qpau qpab ca cal w0 w1 w2 w3 w4)) s (wSe g qse qci qpa qpae qpar qpau qpab ca cal w0 w1 w2 w3 w4) (wNil g ) [] _ _ := ⟨rfl, rfl, hP, hD, hS⟩
  refine goI0 hB (run_s C mf_Se_sideOf qm_Se_74 (c_Se_sideOf l g p2 p3) rfl rfl ⟨Nat.le_of_ble_eq_true rfl, Nat.le_of_ble_eq_true rfl⟩ ⟨Nat.le_of_ble_eq_true rfl, Nat.le_of_ble_eq_true rfl⟩ hB hl rfl rfl (Nat.le_of_ble_eq_true rfl) d_Se_alikeBehind_3) (fun y1 ey1 H locs hP hS => ?_)
  have hz := lett_z hz ey1
  have hok := lett_o hok ey1
  refine lv_istore (lv' := [(6, .int y1), (0, .ref qse), (1, .int p1), (2, .long p2), (4, .long p3)]) hx hb d_Se_alikeBehind_6 hl (by decide) rfl (fun ls hl => ?_)
  refine lv_aload_n hx hb d_Se_alikeBehind_8 rfl (lv_at hl 1 rfl) ?_
  refine gf C hP 0 1 fkSe rfl (by decide) rfl qf_Se_9 (gSe_1 _ _) d_Se_alikeBehind_9 ?_
  have hs2 := hok.1
  have hok := hok.2
  have hB : SubW g (inW (wSe g qse qci qpa qpae qpar qpau qpab ca cal w0 w1 w2 w3 w4)) s (wSe g qse qci qpa qpae qpar qpau qpab ca cal w0 w1 w2 w3 w4) (wPa g qpa qpae qpar qpau qpab w0 w1 w2 w3 w4) [2, 3, 4, 5, 6] _ _ := ⟨rfl, rfl, hP, hD, hS⟩
  refine goI0 hB (run_v C mf_Pa_settings qm_Se_56 (c_Pa_settings l g qpa qpae qpar qpau qpab w0 w1 w2 w3 w4 hs2) rfl rfl ⟨Nat.le_of_ble_eq_true rfl, Nat.le_of_ble_eq_true rfl⟩ ⟨Nat.le_of_ble_eq_true rfl, Nat.le_of_ble_eq_true rfl⟩ hB rfl rfl hl rfl rfl (Nat.le_of_ble_eq_true rfl) d_Se_alikeBehind_12) (fun y3 ey3 H locs hP hS => ?_)
  have hz := lett_z hz ey3
  have hok := lett_o hok ey3
  refine lv_istore (lv' := [(7, .int y3), (6, .int y1), (0, .ref qse), (1, .int p1), (2, .long p2), (4, .long p3)]) hx hb d_Se_alikeBehind_15 hl (by decide) rfl (fun ls hl => ?_)
  exact k_Se_alikeBehind_17 C big y3 ca hok _ hz _ _ ls hP hD hS (lv_sub hl [2, 3, 5, 1, 0] rfl)
abbrev rm_Se_ticksToSteady : Room := { frames := 2, cells := 0, slots := 0, locals := 53 }
def HL_Se_ticksToSteady_2 (p : Program) (l : Launch) (e : Env) (s : State) (m : MethodId) (args : Array Value) (below : List Frame) (meth : Method) (c : Code) (g : GX) (qse : Nat) (qci : Nat) (qpa : Nat) (qpae : Nat) (qpar : Nat) (qpau : Nat) (qpab : Nat) (ws0 : va_W) (w0 : IV) (w1 : IV) (w2 : IV) (w3 : IV) (w4 : IV) (p1 : Int32) (sp : Int32 → IV → LV → (Int32 × IV × LV)) (ok : Int32 → IV → LV → Prop) : Prop := ∀ (x2p2 : Int32) (cap2 : IV) (calp2 : LV), ok x2p2 cap2 calp2 → ∀ z : (Int32 × IV × LV), z = sp x2p2 cap2 calp2 → ∀ (H : Heap) (locs : List Loc) (ls : Array Slot), va_P g.1 vwCl (wSe g qse qci qpa qpae qpar qpau qpab cap2 calp2 w0 w1 w2 w3 w4) H → va_D (inW ws0) (wSe g qse qci qpa qpae qpar qpau qpab cap2 calp2 w0 w1 w2 w3 w4) → va_S (inW ws0) s.heap H locs → lv_has ls 5 [(0, .ref qse), (1, .int p1), (2, .int x2p2)] → W p l e rm_Se_ticksToSteady s m args below meth c H locs 0 0 (MQ below (CI g ws0 (fun u : IV × LV => wSe g qse qci qpa qpae qpar qpau qpab u.1 u.2 w0 w1 w2 w3 w4) z) args s 0 0 (inW ws0)) (F0 m 2 ls [])
def HL_Se_ticksToSteady_59 (p : Program) (l : Launch) (e : Env) (s : State) (m : MethodId) (args : Array Value) (below : List Frame) (meth : Method) (c : Code) (g : GX) (qse : Nat) (qci : Nat) (qpa : Nat) (qpae : Nat) (qpar : Nat) (qpau : Nat) (qpab : Nat) (ws0 : va_W) (y5 : IV × LV) (w0 : IV) (w1 : IV) (w2 : IV) (w3 : IV) (w4 : IV) (p1 : Int32) (x2p2 : Int32) (sp : (Int32 × IV × LV)) (ok : Prop) : Prop := ∀ (_ : Unit), ok → ∀ z : (Int32 × IV × LV), z = sp → ∀ (H : Heap) (locs : List Loc) (ls : Array Slot), va_P g.1 vwCl (wSe g qse qci qpa qpae qpar qpau qpab y5.1 y5.2 w0 w1 w2 w3 w4) H → va_D (inW ws0) (wSe g qse qci qpa qpae qpar qpau qpab y5.1 y5.2 w0 w1 w2 w3 w4) → va_S (inW ws0) s.heap H locs → lv_has ls 5 [(0, .ref qse), (1, .int p1), (2, .int x2p2)] → W p l e rm_Se_ticksToSteady s m args below meth c H locs 0 0 (MQ below (CI g ws0 (fun u : IV × LV => wSe g qse qci qpa qpae qpar qpau qpab u.1 u.2 w0 w1 w2 w3 w4) z) args s 0 0 (inW ws0)) (F0 m 59 ls [])
noncomputable def sp_Se_ticksToSteady_59 (x2p2 : Int32) (y5 : IV × LV) (r2 : Int32 → IV → LV → (Int32 × IV × LV))  : Int32 × IV × LV := lett (x2p2 + (1 : Int32)) fun (v8 : Int32) => r2 v8 y5.1 y5.2
def ok_Se_ticksToSteady_59 (x2p2 : Int32) (y5 : IV × LV) (r2 : Int32 → IV → LV → (Int32 × IV × LV)) (q2 : Int32 → IV → LV → Prop)  : Prop := lett (x2p2 + (1 : Int32)) fun (v8 : Int32) => q2 v8 y5.1 y5.2
set_option maxRecDepth 100000 in
set_option maxHeartbeats 4000000 in
theorem k_Se_ticksToSteady_59 {p : Program} {l : Launch} {e : Env} {s : State} {m : MethodId} {args : Array Value} {below : List Frame} {meth : Method} {c : Code} {g : GX} {qse : Nat} {qci : Nat} {qpa : Nat} {qpae : Nat} {qpar : Nat} {qpau : Nat} {qpab : Nat} {ws0 : va_W} {y5 : IV × LV} {w0 : IV} {w1 : IV} {w2 : IV} {w3 : IV} {w4 : IV} {p1 : Int32} {x2p2 : Int32} {r2 : Int32 → IV → LV → (Int32 × IV × LV)} {q2 : Int32 → IV → LV → Prop} (C : Cx p s m args meth c (inW ws0) g "DecadeBridge$Search" b_Se_ticksToSteady (some .int) 5) (ih2 : HL_Se_ticksToSteady_2 p l e s m args below meth c g qse qci qpa qpae qpar qpau qpab ws0 w0 w1 w2 w3 w4 p1 r2 q2) : HL_Se_ticksToSteady_59 p l e s m args below meth c g qse qci qpa qpae qpar qpau qpab ws0 y5 w0 w1 w2 w3 w4 p1 x2p2 (sp_Se_ticksToSteady_59 x2p2 y5 r2) (ok_Se_ticksToSteady_59 x2p2 y5 r2 q2) := by
  intro _ hok z hz H locs ls hP hD hS hl
  obtain ⟨hx, hb, hr, hml, hown, hlk, hts, hK, hZo, hZ⟩ := id C
  unfold sp_Se_ticksToSteady_59 at hz
  unfold ok_Se_ticksToSteady_59 at hok
  obtain ⟨v8, ev8⟩ : ∃ y : Int32, y = x2p2 + (1 : Int32) := ⟨_, rfl⟩
  have hz := lett_z hz ev8
  have hok := lett_o hok ev8
  refine lv_iinc (v := v8) (lv' := [(2, .int v8), (0, .ref qse), (1, .int p1)]) hx hb d_Se_ticksToSteady_59 hl (k := 2) rfl (by rw [ev8]; rfl) (by decide) rfl (fun ls hl => ?_)
  refine lv_goto (tgt := 2) hx hb d_Se_ticksToSteady_62 (by decide) ?_
  exact ih2 v8 y5.1 y5.2 hok _ hz _ _ ls hP hD hS (lv_sub hl [1, 2, 0] rfl)
noncomputable def bd_Se_ticksToSteady_2 (p1 : Int32) (w0 : IV) (w3 : IV) (w4 : IV) (r2 : Int32 → IV → LV → (Int32 × IV × LV)) (x2p2 : Int32) (cap2 : IV) (calp2 : LV) : Int32 × IV × LV := if (300 : Int32) < x2p2 then (((-1 : Int32), (cap2, calp2))) else (lett (cap2 7) fun (v2 : Int32) => lett (cap2 8) fun (v3 : Int32) => lett (sp_Ci_tick p1 cap2 calp2 w0 w3 w4) fun (y5 : IV × LV) => if (y5.1 7) = v2 then (if (y5.1 8) = v3 then ((x2p2, (y5.1, y5.2))) else (sp_Se_ticksToSteady_59 x2p2 y5 r2)) else (sp_Se_ticksToSteady_59 x2p2 y5 r2))
def okb_Se_ticksToSteady_2 (p1 : Int32) (w0 : IV) (w3 : IV) (w4 : IV) (r2 : Int32 → IV → LV → (Int32 × IV × LV)) (q2 : Int32 → IV → LV → Prop) (x2p2 : Int32) (cap2 : IV) (calp2 : LV) : Prop := (((300 : Int32) < x2p2 → True) ∧ (¬ ((300 : Int32) < x2p2) → lett (cap2 7) fun (v2 : Int32) => lett (cap2 8) fun (v3 : Int32) => (ok_Ci_tick p1 cap2 calp2 w0 w3 w4) ∧ lett (sp_Ci_tick p1 cap2 calp2 w0 w3 w4) fun (y5 : IV × LV) => (((y5.1 7) = v2 → (((y5.1 8) = v3 → True) ∧ (¬ ((y5.1 8) = v3) → ok_Se_ticksToSteady_59 x2p2 y5 r2 q2))) ∧ (¬ ((y5.1 7) = v2) → ok_Se_ticksToSteady_59 x2p2 y5 r2 q2))))
noncomputable def sp_Se_ticksToSteady_2 (p1 : Int32) (w0 : IV) (w3 : IV) (w4 : IV)  : Nat → Int32 → IV → LV → (Int32 × IV × LV)
  | 0 => fun _ _ _ => default
  | f + 1 => bd_Se_ticksToSteady_2 p1 w0 w3 w4  (sp_Se_ticksToSteady_2 p1 w0 w3 w4  f)
def ok_Se_ticksToSteady_2 (p1 : Int32) (w0 : IV) (w3 : IV) (w4 : IV)   : Nat → Int32 → IV → LV → Prop
  | 0 => fun _ _ _ => False
  | f + 1 => okb_Se_ticksToSteady_2 p1 w0 w3 w4  (sp_Se_ticksToSteady_2 p1 w0 w3 w4  f)  (ok_Se_ticksToSteady_2 p1 w0 w3 w4   f)
set_option maxRecDepth 100000 in
set_option maxHeartbeats 4000000 in
theorem kb_Se_ticksToSteady_2 {p : Program} {l : Launch} {e : Env} {s : State} {m : MethodId} {args : Array Value} {below : List Frame} {meth : Method} {c : Code} {g : GX} {qse : Nat} {qci : Nat} {qpa : Nat} {qpae : Nat} {qpar : Nat} {qpau : Nat} {qpab : Nat} {ws0 : va_W} {w0 : IV} {w1 : IV} {w2 : IV} {w3 : IV} {w4 : IV} {p1 : Int32}  (C : Cx p s m args meth c (inW ws0) g "DecadeBridge$Search" b_Se_ticksToSteady (some .int) 5) {r2 : Int32 → IV → LV → (Int32 × IV × LV)} {q2 : Int32 → IV → LV → Prop}  (ih2 : HL_Se_ticksToSteady_2 p l e s m args below meth c g qse qci qpa qpae qpar qpau qpab ws0 w0 w1 w2 w3 w4 p1 r2 q2) : HL_Se_ticksToSteady_2 p l e s m args below meth c g qse qci qpa qpae qpar qpau qpab ws0 w0 w1 w2 w3 w4 p1 (bd_Se_ticksToSteady_2 p1 w0 w3 w4  r2) (okb_Se_ticksToSteady_2 p1 w0 w3 w4  r2  q2) := by
  intro x2p2 cap2 calp2 hok z hz H locs ls hP hD hS hl
  obtain ⟨hx, hb, hr, hml, hown, hlk, hts, hK, hZo, hZ⟩ := id C
  unfold bd_Se_ticksToSteady_2 at hz
  unfold okb_Se_ticksToSteady_2 at hok
  refine lv_iload_n hx hb d_Se_ticksToSteady_2 rfl (lv_at hl 2 rfl) ?_
  refine lv_sipush (v := 300) hx hb d_Se_ticksToSteady_3 (by decide) ?_
  refine lv_icmp_gt (tgt := 65) hx hb d_Se_ticksToSteady_6 (by decide) (fun c1 => ?_) (fun c1 => ?_)
  · have hz := hz.trans (if_pos c1)
    refine lv_iconst (v := -1) hx hb d_Se_ticksToSteady_65 (by decide) ?_
    exact endI1 C hz hP hS d_Se_ticksToSteady_66
  · have hz := hz.trans (if_neg c1)
    have hok := hok.2 c1
    refine lv_aload_n hx hb d_Se_ticksToSteady_9 rfl (lv_at hl 0 rfl) ?_
    refine gf C hP 0 0 fkSe rfl (by decide) rfl qf_Se_20 (gSe_0 _ _) d_Se_ticksToSteady_10 ?_
    refine gf C hP 1 7 fkCi rfl (by decide) rfl qf_Se_101 (gCi_7 _ _ _) d_Se_ticksToSteady_13 ?_
    refine lv_topi (fun v2 ev2 => ?_)
    have hz := lett_z hz ev2
    have hok := lett_o hok ev2
    refine lv_istore_n (lv' := [(3, .int v2), (0, .ref qse), (1, .int p1), (2, .int x2p2)]) hx hb d_Se_ticksToSteady_16 rfl hl (by decide) rfl (fun ls hl => ?_)
    refine lv_aload_n hx hb d_Se_ticksToSteady_17 rfl (lv_at hl 1 rfl) ?_
    refine gf C hP 0 0 fkSe rfl (by decide) rfl qf_Se_20 (gSe_0 _ _) d_Se_ticksToSteady_18 ?_
    refine gf C hP 1 8 fkCi rfl (by decide) rfl qf_Se_104 (gCi_8 _ _ _) d_Se_ticksToSteady_21 ?_
    refine lv_topi (fun v3 ev3 => ?_)
    have hz := lett_z hz ev3
    have hok := lett_o hok ev3
    refine lv_istore (lv' := [(4, .int v3), (3, .int v2), (0, .ref qse), (1, .int p1), (2, .int x2p2)]) hx hb d_Se_ticksToSteady_24 hl (by decide) rfl (fun ls hl => ?_)
    refine lv_aload_n hx hb d_Se_ticksToSteady_26 rfl (lv_at hl 2 rfl) ?_
    refine gf C hP 0 0 fkSe rfl (by decide) rfl qf_Se_20 (gSe_0 _ _) d_Se_ticksToSteady_27 ?_
    refine lv_iload_n hx hb d_Se_ticksToSteady_30 rfl (lv_at hl 3 rfl) ?_
    have hs4 := hok.1
    have hok := hok.2
    have hB : SubW g (inW ws0) s (wSe g qse qci qpa qpae qpar qpau qpab cap2 calp2 w0 w1 w2 w3 w4) (wCi g qci qpa qpae qpar qpau qpab cap2 calp2 w0 w1 w2 w3 w4) [1, 2, 3, 4, 5, 6] _ _ := ⟨rfl, rfl, hP, hD, hS⟩
    refine goV1 hB (run_v C mf_Ci_tick qm_Se_107 (c_Ci_tick l g qci qpa qpae qpar qpau qpab cap2 calp2 w0 w1 w2 w3 w4 p1 hs4) rfl rfl ⟨Nat.le_of_ble_eq_true rfl, Nat.le_of_ble_eq_true rfl⟩ ⟨Nat.le_of_ble_eq_true rfl, Nat.le_of_ble_eq_true rfl⟩ hB rfl rfl hl rfl rfl (Nat.le_of_ble_eq_true rfl) d_Se_ticksToSteady_31) (fun _ => rfl) (fun y5 ey5 H locs hP hD hS => ?_)
    have hP : va_P g.1 vwCl (wSe g qse qci qpa qpae qpar qpau qpab y5.1 y5.2 w0 w1 w2 w3 w4) H := cP (spq hB.1 hB.2.1 [0] 7 rfl rfl (by decide +kernel) rfl) hP
    have hD : va_D (inW ws0) (wSe g qse qci qpa qpae qpar qpau qpab y5.1 y5.2 w0 w1 w2 w3 w4) := cD (spq hB.1 hB.2.1 [0] 7 rfl rfl (by decide +kernel) rfl) hD
    have hz := lett_z hz ey5
    have hok := lett_o hok ey5
    refine lv_aload_n hx hb d_Se_ticksToSteady_34 rfl (lv_at hl 2 rfl) ?_
    refine gf C hP 0 0 fkSe rfl (by decide) rfl qf_Se_20 (gSe_0 _ _) d_Se_ticksToSteady_35 ?_
    refine gf C hP 1 7 fkCi rfl (by decide) rfl qf_Se_101 (gCi_7 _ _ _) d_Se_ticksToSteady_38 ?_
    refine lv_iload_n hx hb d_Se_ticksToSteady_41 rfl (lv_at hl 1 rfl) ?_
    refine lv_icmp_ne (tgt := 59) hx hb d_Se_ticksToSteady_42 (by decide) (fun c6 => ?_) (fun c6 => ?_)
    · have hz := hz.trans (if_neg c6)
      have hok := hok.2 c6
      exact k_Se_ticksToSteady_59 C ih2 () hok _ hz _ _ ls hP hD hS (lv_sub hl [2, 3, 4] rfl)
    · have hz := hz.trans (if_pos c6)
      have hok := hok.1 c6
      refine lv_aload_n hx hb d_Se_ticksToSteady_45 rfl (lv_at hl 2 rfl) ?_
      refine gf C hP 0 0 fkSe rfl (by decide) rfl qf_Se_20 (gSe_0 _ _) d_Se_ticksToSteady_46 ?_
      refine gf C hP 1 8 fkCi rfl (by decide) rfl qf_Se_104 (gCi_8 _ _ _) d_Se_ticksToSteady_49 ?_
      refine lv_iload hx hb d_Se_ticksToSteady_52 (lv_at hl 0 rfl) ?_
      refine lv_icmp_ne (tgt := 59) hx hb d_Se_ticksToSteady_54 (by decide) (fun c7 => ?_) (fun c7 => ?_)
      · have hz := hz.trans (if_neg c7)
        have hok := hok.2 c7
        exact k_Se_ticksToSteady_59 C ih2 () hok _ hz _ _ ls hP hD hS (lv_sub hl [2, 3, 4] rfl)
      · have hz := hz.trans (if_pos c7)
        refine lv_iload_n hx hb d_Se_ticksToSteady_57 rfl (lv_at hl 4 rfl) ?_
        exact endI1 C hz hP hS d_Se_ticksToSteady_58
theorem k_Se_ticksToSteady_2 {p : Program} {l : Launch} {e : Env} {s : State} {m : MethodId} {args : Array Value} {below : List Frame} {meth : Method} {c : Code} {g : GX} {qse : Nat} {qci : Nat} {qpa : Nat} {qpae : Nat} {qpar : Nat} {qpau : Nat} {qpab : Nat} {ws0 : va_W} {w0 : IV} {w1 : IV} {w2 : IV} {w3 : IV} {w4 : IV} {p1 : Int32}  (C : Cx p s m args meth c (inW ws0) g "DecadeBridge$Search" b_Se_ticksToSteady (some .int) 5) (f : Nat)  : HL_Se_ticksToSteady_2 p l e s m args below meth c g qse qci qpa qpae qpar qpau qpab ws0 w0 w1 w2 w3 w4 p1 (sp_Se_ticksToSteady_2 p1 w0 w3 w4  f) (ok_Se_ticksToSteady_2 p1 w0 w3 w4   f) := by
  induction f with
  | zero => intro x2p2 cap2 calp2 hok; exact False.elim hok
  | succ f ih => exact kb_Se_ticksToSteady_2 C  ih
noncomputable def sp_Se_ticksToSteady (p1 : Int32) (ca : IV) (cal : LV) (w0 : IV) (w3 : IV) (w4 : IV) : Int32 × IV × LV := sp_Se_ticksToSteady_2 p1 w0 w3 w4 big (0 : Int32) ca cal
def ok_Se_ticksToSteady (p1 : Int32) (ca : IV) (cal : LV) (w0 : IV) (w3 : IV) (w4 : IV) : Prop := ok_Se_ticksToSteady_2 p1 w0 w3 w4 big (0 : Int32) ca cal
set_option maxRecDepth 100000 in
set_option maxHeartbeats 4000000 in
theorem c_Se_ticksToSteady (l : Launch) (g : GX) (qse : Nat) (qci : Nat) (qpa : Nat) (qpae : Nat) (qpar : Nat) (qpau : Nat) (qpab : Nat) (ca : IV) (cal : LV) (w0 : IV) (w1 : IV) (w2 : IV) (w3 : IV) (w4 : IV) (p1 : Int32) (hok : ok_Se_ticksToSteady p1 ca cal w0 w3 w4) : Met l y_Se_ticksToSteady (wsY y_Se_ticksToSteady b_Se_ticksToSteady 5 (some .int)) rm_Se_ticksToSteady (CP g [.ref qse, .int p1] (wSe g qse qci qpa qpae qpar qpau qpab ca cal w0 w1 w2 w3 w4)) (CI g (wSe g qse qci qpa qpae qpar qpau qpab ca cal w0 w1 w2 w3 w4) (fun u : IV × LV => wSe g qse qci qpa qpae qpar qpau qpab u.1 u.2 w0 w1 w2 w3 w4) (sp_Se_ticksToSteady p1 ca cal w0 w3 w4)) 0 0 (inW (wSe g qse qci qpa qpae qpar qpau qpab ca cal w0 w1 w2 w3 w4)) := by
  refine Met.ofW (cc := b_Se_ticksToSteady) (maxL := 5) (ret := (some .int)) pn_Se rfl ?_
  intro p e s m args below meth c s₁ B hml hv
  obtain ⟨rfl, C, hP, hD, hS⟩ := enter "DecadeBridge$Search" rfl B hml hv
  obtain ⟨hx, hb, hr, hml, hown, hlk, hts, hK, hZo, hZ⟩ := id C
  refine entryW (lv := [(0, .ref qse), (1, .int p1)]) rfl (Nat.le_of_ble_eq_true rfl) (fun ls hl => ?_)
  obtain ⟨z, hz⟩ : ∃ z, z = sp_Se_ticksToSteady p1 ca cal w0 w3 w4 := ⟨_, rfl⟩
  rw [← hz]
  unfold sp_Se_ticksToSteady at hz
  unfold ok_Se_ticksToSteady at hok
  refine lv_iconst (v := 0) hx hb d_Se_ticksToSteady_0 (by decide) ?_
  refine lv_istore_n (lv' := [(2, .int (0 : Int32)), (0, .ref qse), (1, .int p1)]) hx hb d_Se_ticksToSteady_1 rfl hl (by decide) rfl (fun ls hl => ?_)
  exact k_Se_ticksToSteady_2 C big (0 : Int32) ca cal hok _ hz _ _ ls hP hD hS (lv_sub hl [1, 2, 0] rfl)
abbrev rm_Te_advance : Room := { frames := 1, cells := 0, slots := 0, locals := 22 }
def HL_Te_advance_13 (p : Program) (l : Launch) (e : Env) (s : State) (m : MethodId) (args : Array Value) (below : List Frame) (meth : Method) (c : Code) (g : GX) (qte : Nat) (qteb : Nat) (ws0 : va_W) (t : IV) (tb : IV) (sp : Int32 → IV) (ok : Int32 → Prop) : Prop := ∀ (x1p13 : Int32), ok x1p13 → ∀ z : IV, z = sp x1p13 → ∀ (H : Heap) (locs : List Loc) (ls : Array Slot), va_P g.1 vwCl (wTe g qte qteb t tb) H → va_D (inW ws0) (wTe g qte qteb t tb) → va_S (inW ws0) s.heap H locs → lv_has ls 2 [(0, .ref qte), (1, .int x1p13)] → W p l e rm_Te_advance s m args below meth c H locs 0 0 (MQ below (CV g ws0 (fun u : IV => wTe g qte qteb u tb) z) args s 0 0 (inW ws0)) (F0 m 13 ls [])
def HL_Te_advance_37 (p : Program) (l : Launch) (e : Env) (s : State) (m : MethodId) (args : Array Value) (below : List Frame) (meth : Method) (c : Code) (g : GX) (qte : Nat) (qteb : Nat) (ws0 : va_W) (t : IV) (tb : IV) (x1p13 : Int32) (sp : IV) (ok : Prop) : Prop := ∀ (_ : Unit), ok → ∀ z : IV, z = sp → ∀ (H : Heap) (locs : List Loc) (ls : Array Slot), va_P g.1 vwCl (wTe g qte qteb t tb) H → va_D (inW ws0) (wTe g qte qteb t tb) → va_S (inW ws0) s.heap H locs → lv_has ls 2 [(0, .ref qte), (1, .int x1p13)] → W p l e rm_Te_advance s m args below meth c H locs 0 0 (MQ below (CV g ws0 (fun u : IV => wTe g qte qteb u tb) z) args s 0 0 (inW ws0)) (F0 m 37 ls [])
def HL_Te_advance_60 (p : Program) (l : Launch) (e : Env) (s : State) (m : MethodId) (args : Array Value) (below : List Frame) (meth : Method) (c : Code) (g : GX) (qte : Nat) (qteb : Nat) (ws0 : va_W) (t_7 : IV) (tb : IV) (x1p13 : Int32) (sp : Int32 → IV) (ok : Int32 → Prop) : Prop := ∀ (t1p60 : Int32), ok t1p60 → ∀ z : IV, z = sp t1p60 → ∀ (H : Heap) (locs : List Loc) (ls : Array Slot), va_P g.1 vwCl (wTe g qte qteb t_7 tb) H → va_D (inW ws0) (wTe g qte qteb t_7 tb) → va_S (inW ws0) s.heap H locs → lv_has ls 2 [(0, .ref qte), (1, .int x1p13)] → W p l e rm_Te_advance s m args below meth c H locs 0 0 (MQ below (CV g ws0 (fun u : IV => wTe g qte qteb u tb) z) args s 0 0 (inW ws0)) (F0 m 60 ls [.int t1p60, .ref qte])
def HL_Te_advance_74 (p : Program) (l : Launch) (e : Env) (s : State) (m : MethodId) (args : Array Value) (below : List Frame) (meth : Method) (c : Code) (g : GX) (qte : Nat) (qteb : Nat) (ws0 : va_W) (t_10 : IV) (tb : IV) (sp : Int32 → IV) (ok : Int32 → Prop) : Prop := ∀ (x1p74 : Int32), ok x1p74 → ∀ z : IV, z = sp x1p74 → ∀ (H : Heap) (locs : List Loc) (ls : Array Slot), va_P g.1 vwCl (wTe g qte qteb t_10 tb) H → va_D (inW ws0) (wTe g qte qteb t_10 tb) → va_S (inW ws0) s.heap H locs → lv_has ls 2 [(0, .ref qte), (1, .int x1p74)] → W p l e rm_Te_advance s m args below meth c H locs 0 0 (MQ below (CV g ws0 (fun u : IV => wTe g qte qteb u tb) z) args s 0 0 (inW ws0)) (F0 m 74 ls [])
def HL_Te_advance_100 (p : Program) (l : Launch) (e : Env) (s : State) (m : MethodId) (args : Array Value) (below : List Frame) (meth : Method) (c : Code) (g : GX) (qte : Nat) (qteb : Nat) (ws0 : va_W) (t_10 : IV) (tb : IV) (x1p74 : Int32) (sp : IV) (ok : Prop) : Prop := ∀ (_ : Unit), ok → ∀ z : IV, z = sp → ∀ (H : Heap) (locs : List Loc) (ls : Array Slot), va_P g.1 vwCl (wTe g qte qteb t_10 tb) H → va_D (inW ws0) (wTe g qte qteb t_10 tb) → va_S (inW ws0) s.heap H locs → lv_has ls 2 [(0, .ref qte), (1, .int x1p74)] → W p l e rm_Te_advance s m args below meth c H locs 0 0 (MQ below (CV g ws0 (fun u : IV => wTe g qte qteb u tb) z) args s 0 0 (inW ws0)) (F0 m 100 ls [])
def HL_Te_advance_118 (p : Program) (l : Launch) (e : Env) (s : State) (m : MethodId) (args : Array Value) (below : List Frame) (meth : Method) (c : Code) (g : GX) (qte : Nat) (qteb : Nat) (ws0 : va_W) (t_10 : IV) (tb : IV) (x1p74 : Int32) (sp : IV) (ok : Prop) : Prop := ∀ (_ : Unit), ok → ∀ z : IV, z = sp → ∀ (H : Heap) (locs : List Loc) (ls : Array Slot), va_P g.1 vwCl (wTe g qte qteb t_10 tb) H → va_D (inW ws0) (wTe g qte qteb t_10 tb) → va_S (inW ws0) s.heap H locs → lv_has ls 2 [(0, .ref qte), (1, .int x1p74)] → W p l e rm_Te_advance s m args below meth c H locs 0 0 (MQ below (CV g ws0 (fun u : IV => wTe g qte qteb u tb) z) args s 0 0 (inW ws0)) (F0 m 118 ls [])
noncomputable def sp_Te_advance_118 (t_10 : IV) (x1p74 : Int32)   : IV := lett (upd t_10 4 x1p74) fun (t_19 : IV) => t_19
def ok_Te_advance_118 (t_10 : IV) (x1p74 : Int32)    : Prop := True
set_option maxRecDepth 100000 in
set_option maxHeartbeats 4000000 in
theorem k_Te_advance_118 {p : Program} {l : Launch} {e : Env} {s : State} {m : MethodId} {args : Array Value} {below : List Frame} {meth : Method} {c : Code} {g : GX} {qte : Nat} {qteb : Nat} {ws0 : va_W} {t_10 : IV} {tb : IV} {x1p74 : Int32}  (C : Cx p s m args meth c (inW ws0) g "DecadeBridge$Text" b_Te_advance none 2)  : HL_Te_advance_118 p l e s m args below meth c g qte qteb ws0 t_10 tb x1p74 (sp_Te_advance_118 t_10 x1p74 ) (ok_Te_advance_118 t_10 x1p74  ) := by
  intro _ hok z hz H locs ls hP hD hS hl
  obtain ⟨hx, hb, hr, hml, hown, hlk, hts, hK, hZo, hZ⟩ := id C
  unfold sp_Te_advance_118 at hz
  refine lv_aload_n hx hb d_Te_advance_118 rfl (lv_at hl 0 rfl) ?_
  refine lv_iload_n hx hb d_Te_advance_119 rfl (lv_at hl 1 rfl) ?_
  refine pfI C hP hD hS 0 4 fkTe rfl (by decide) rfl qf_Te_25 rfl rfl rfl (Nat.le_of_ble_eq_true rfl) (ff := fun o => fTe qteb o) (sTe_4 _ _ _) d_Te_advance_120 (fun t_19 et_19 H locs hP hD hS => ?_)
  have hP : va_P g.1 vwCl (wTe g qte qteb t_19 tb) H := hP
  have hD : va_D (inW ws0) (wTe g qte qteb t_19 tb) := hD
  have hz := lett_z hz et_19
  exact endV C hz hP hS d_Te_advance_123
noncomputable def sp_Te_advance_100 (x1p74 : Int32) (tb : IV) (t_10 : IV) (r74 : Int32 → IV)  : IV := lett (sp_Te_kindAt x1p74 tb) fun (y16 : Int32) => if y16 = (t_10 2) then (lett (x1p74 + (1 : Int32)) fun (v18 : Int32) => r74 v18) else (sp_Te_advance_118 t_10 x1p74)
def ok_Te_advance_100 (x1p74 : Int32) (tb : IV) (t_10 : IV) (r74 : Int32 → IV) (q74 : Int32 → Prop)  : Prop := lett (sp_Te_kindAt x1p74 tb) fun (y16 : Int32) => ((y16 = (t_10 2) → lett (x1p74 + (1 : Int32)) fun (v18 : Int32) => q74 v18) ∧ (¬ (y16 = (t_10 2)) → True))
set_option maxRecDepth 100000 in
set_option maxHeartbeats 4000000 in
theorem k_Te_advance_100 {p : Program} {l : Launch} {e : Env} {s : State} {m : MethodId} {args : Array Value} {below : List Frame} {meth : Method} {c : Code} {g : GX} {qte : Nat} {qteb : Nat} {ws0 : va_W} {t_10 : IV} {tb : IV} {x1p74 : Int32} {r74 : Int32 → IV} {q74 : Int32 → Prop} (C : Cx p s m args meth c (inW ws0) g "DecadeBridge$Text" b_Te_advance none 2) (ih74 : HL_Te_advance_74 p l e s m args below meth c g qte qteb ws0 t_10 tb r74 q74) : HL_Te_advance_100 p l e s m args below meth c g qte qteb ws0 t_10 tb x1p74 (sp_Te_advance_100 x1p74 tb t_10 r74) (ok_Te_advance_100 x1p74 tb t_10 r74 q74) := by
  intro _ hok z hz H locs ls hP hD hS hl
  obtain ⟨hx, hb, hr, hml, hown, hlk, hts, hK, hZo, hZ⟩ := id C
  unfold sp_Te_advance_100 at hz
  unfold ok_Te_advance_100 at hok
  refine lv_aload_n hx hb d_Te_advance_100 rfl (lv_at hl 0 rfl) ?_
  refine lv_iload_n hx hb d_Te_advance_101 rfl (lv_at hl 1 rfl) ?_
  have hB : SubW g (inW ws0) s (wTe g qte qteb t_10 tb) _ (List.range _) _ _ := (subF hP hD hS)
  refine goI0 hB (run_v C mf_Te_kindAt qm_Te_31 (c_Te_kindAt l g qte qteb t_10 tb x1p74) rfl rfl ⟨Nat.le_of_ble_eq_true rfl, Nat.le_of_ble_eq_true rfl⟩ ⟨Nat.le_of_ble_eq_true rfl, Nat.le_of_ble_eq_true rfl⟩ hB rfl rfl hl rfl rfl (Nat.le_of_ble_eq_true rfl) d_Te_advance_102) (fun y16 ey16 H locs hP hS => ?_)
  have hz := lett_z hz ey16
  have hok := lett_o hok ey16
  refine lv_aload_n hx hb d_Te_advance_105 rfl (lv_at hl 0 rfl) ?_
  refine gf C hP 0 2 fkTe rfl (by decide) rfl qf_Te_38 (gTe_2 _ _) d_Te_advance_106 ?_
  refine lv_icmp_ne (tgt := 118) hx hb d_Te_advance_109 (by decide) (fun c17 => ?_) (fun c17 => ?_)
  · have hz := hz.trans (if_neg c17)
    exact k_Te_advance_118 C () trivial _ hz _ _ ls hP hD hS hl
  · have hz := hz.trans (if_pos c17)
    have hok := hok.1 c17
    obtain ⟨v18, ev18⟩ : ∃ y : Int32, y = x1p74 + (1 : Int32) := ⟨_, rfl⟩
    have hz := lett_z hz ev18
    have hok := lett_o hok ev18
    refine lv_iinc (v := v18) (lv' := [(1, .int v18), (0, .ref qte)]) hx hb d_Te_advance_112 hl (k := 1) rfl (by rw [ev18]; rfl) (by decide) rfl (fun ls hl => ?_)
    refine lv_goto (tgt := 74) hx hb d_Te_advance_115 (by decide) ?_
    exact ih74 v18 hok _ hz _ _ ls hP hD hS (lv_sub hl [1, 0] rfl)
noncomputable def bd_Te_advance_74 (t_10 : IV) (tb : IV) (r74 : Int32 → IV) (x1p74 : Int32) : IV := if (t_10 1) ≤ x1p74 then (sp_Te_advance_118 t_10 x1p74) else (if (t_10 2) = (97 : Int32) then (sp_Te_advance_100 x1p74 tb t_10 r74) else (if (t_10 2) = (48 : Int32) then (sp_Te_advance_100 x1p74 tb t_10 r74) else (sp_Te_advance_118 t_10 x1p74)))
def okb_Te_advance_74 (t_10 : IV) (tb : IV) (r74 : Int32 → IV) (q74 : Int32 → Prop) (x1p74 : Int32) : Prop := (((t_10 1) ≤ x1p74 → True) ∧ (¬ ((t_10 1) ≤ x1p74) → (((t_10 2) = (97 : Int32) → ok_Te_advance_100 x1p74 tb t_10 r74 q74) ∧ (¬ ((t_10 2) = (97 : Int32)) → (((t_10 2) = (48 : Int32) → ok_Te_advance_100 x1p74 tb t_10 r74 q74) ∧ (¬ ((t_10 2) = (48 : Int32)) → True))))))
noncomputable def sp_Te_advance_74 (t_10 : IV) (tb : IV)  : Nat → Int32 → IV
  | 0 => fun _ => default
  | f + 1 => bd_Te_advance_74 t_10 tb  (sp_Te_advance_74 t_10 tb  f)
def ok_Te_advance_74 (t_10 : IV) (tb : IV)   : Nat → Int32 → Prop
  | 0 => fun _ => False
  | f + 1 => okb_Te_advance_74 t_10 tb  (sp_Te_advance_74 t_10 tb  f)  (ok_Te_advance_74 t_10 tb   f)
set_option maxRecDepth 100000 in
set_option maxHeartbeats 4000000 in
theorem kb_Te_advance_74 {p : Program} {l : Launch} {e : Env} {s : State} {m : MethodId} {args : Array Value} {below : List Frame} {meth : Method} {c : Code} {g : GX} {qte : Nat} {qteb : Nat} {ws0 : va_W} {t_10 : IV} {tb : IV}  (C : Cx p s m args meth c (inW ws0) g "DecadeBridge$Text" b_Te_advance none 2) {r74 : Int32 → IV} {q74 : Int32 → Prop}  (ih74 : HL_Te_advance_74 p l e s m args below meth c g qte qteb ws0 t_10 tb r74 q74) : HL_Te_advance_74 p l e s m args below meth c g qte qteb ws0 t_10 tb (bd_Te_advance_74 t_10 tb  r74) (okb_Te_advance_74 t_10 tb  r74  q74) := by
  intro x1p74 hok z hz H locs ls hP hD hS hl
  obtain ⟨hx, hb, hr, hml, hown, hlk, hts, hK, hZo, hZ⟩ := id C
  unfold bd_Te_advance_74 at hz
  unfold okb_Te_advance_74 at hok
  refine lv_iload_n hx hb d_Te_advance_74 rfl (lv_at hl 1 rfl) ?_
  refine lv_aload_n hx hb d_Te_advance_75 rfl (lv_at hl 0 rfl) ?_
  refine gf C hP 0 1 fkTe rfl (by decide) rfl qf_Te_19 (gTe_1 _ _) d_Te_advance_76 ?_
  refine lv_icmp_ge (tgt := 118) hx hb d_Te_advance_79 (by decide) (fun c13 => ?_) (fun c13 => ?_)
  · have hz := hz.trans (if_pos c13)
    exact k_Te_advance_118 C () trivial _ hz _ _ ls hP hD hS hl
  · have hz := hz.trans (if_neg c13)
    have hok := hok.2 c13
    refine lv_aload_n hx hb d_Te_advance_82 rfl (lv_at hl 0 rfl) ?_
    refine gf C hP 0 2 fkTe rfl (by decide) rfl qf_Te_38 (gTe_2 _ _) d_Te_advance_83 ?_
    refine lv_bipush (v := 97) hx hb d_Te_advance_86 (by decide) ?_
    refine lv_icmp_eq (tgt := 100) hx hb d_Te_advance_88 (by decide) (fun c14 => ?_) (fun c14 => ?_)
    · have hz := hz.trans (if_pos c14)
      have hok := hok.1 c14
      exact k_Te_advance_100 C ih74 () hok _ hz _ _ ls hP hD hS hl
    · have hz := hz.trans (if_neg c14)
      have hok := hok.2 c14
      refine lv_aload_n hx hb d_Te_advance_91 rfl (lv_at hl 0 rfl) ?_
      refine gf C hP 0 2 fkTe rfl (by decide) rfl qf_Te_38 (gTe_2 _ _) d_Te_advance_92 ?_
      refine lv_bipush (v := 48) hx hb d_Te_advance_95 (by decide) ?_
      refine lv_icmp_ne (tgt := 118) hx hb d_Te_advance_97 (by decide) (fun c15 => ?_) (fun c15 => ?_)
      · have hz := hz.trans (if_neg c15)
        exact k_Te_advance_118 C () trivial _ hz _ _ ls hP hD hS hl
      · have hz := hz.trans (if_pos c15)
        have hok := hok.1 c15
        exact k_Te_advance_100 C ih74 () hok _ hz _ _ ls hP hD hS hl
theorem k_Te_advance_74 {p : Program} {l : Launch} {e : Env} {s : State} {m : MethodId} {args : Array Value} {below : List Frame} {meth : Method} {c : Code} {g : GX} {qte : Nat} {qteb : Nat} {ws0 : va_W} {t_10 : IV} {tb : IV}  (C : Cx p s m args meth c (inW ws0) g "DecadeBridge$Text" b_Te_advance none 2) (f : Nat)  : HL_Te_advance_74 p l e s m args below meth c g qte qteb ws0 t_10 tb (sp_Te_advance_74 t_10 tb  f) (ok_Te_advance_74 t_10 tb   f) := by
  induction f with
  | zero => intro x1p74 hok; exact False.elim hok
  | succ f ih => exact kb_Te_advance_74 C  ih
noncomputable def sp_Te_advance_60 (t_7 : IV) (x1p13 : Int32) (tb : IV)  (t1p60 : Int32) : IV := lett (upd t_7 2 t1p60) fun (t_10 : IV) => if (t_10 1) ≤ x1p13 then (sp_Te_advance_74 t_10 tb big x1p13) else (lett (x1p13 + (1 : Int32)) fun (v12 : Int32) => sp_Te_advance_74 t_10 tb big v12)
def ok_Te_advance_60 (t_7 : IV) (x1p13 : Int32) (tb : IV)   (t1p60 : Int32) : Prop := lett (upd t_7 2 t1p60) fun (t_10 : IV) => (((t_10 1) ≤ x1p13 → ok_Te_advance_74 t_10 tb big x1p13) ∧ (¬ ((t_10 1) ≤ x1p13) → lett (x1p13 + (1 : Int32)) fun (v12 : Int32) => ok_Te_advance_74 t_10 tb big v12))
set_option maxRecDepth 100000 in
set_option maxHeartbeats 4000000 in
theorem k_Te_advance_60 {p : Program} {l : Launch} {e : Env} {s : State} {m : MethodId} {args : Array Value} {below : List Frame} {meth : Method} {c : Code} {g : GX} {qte : Nat} {qteb : Nat} {ws0 : va_W} {t_7 : IV} {tb : IV} {x1p13 : Int32}  (C : Cx p s m args meth c (inW ws0) g "DecadeBridge$Text" b_Te_advance none 2)  : HL_Te_advance_60 p l e s m args below meth c g qte qteb ws0 t_7 tb x1p13 (sp_Te_advance_60 t_7 x1p13 tb ) (ok_Te_advance_60 t_7 x1p13 tb  ) := by
  intro t1p60 hok z hz H locs ls hP hD hS hl
  obtain ⟨hx, hb, hr, hml, hown, hlk, hts, hK, hZo, hZ⟩ := id C
  unfold sp_Te_advance_60 at hz
  unfold ok_Te_advance_60 at hok
  refine pfI C hP hD hS 0 2 fkTe rfl (by decide) rfl qf_Te_38 rfl rfl rfl (Nat.le_of_ble_eq_true rfl) (ff := fun o => fTe qteb o) (sTe_2 _ _ _) d_Te_advance_60 (fun t_10 et_10 H locs hP hD hS => ?_)
  have hP : va_P g.1 vwCl (wTe g qte qteb t_10 tb) H := hP
  have hD : va_D (inW ws0) (wTe g qte qteb t_10 tb) := hD
  have hz := lett_z hz et_10
  have hok := lett_o hok et_10
  refine lv_iload_n hx hb d_Te_advance_63 rfl (lv_at hl 1 rfl) ?_
  refine lv_aload_n hx hb d_Te_advance_64 rfl (lv_at hl 0 rfl) ?_
  refine gf C hP 0 1 fkTe rfl (by decide) rfl qf_Te_19 (gTe_1 _ _) d_Te_advance_65 ?_
  refine lv_icmp_ge (tgt := 74) hx hb d_Te_advance_68 (by decide) (fun c11 => ?_) (fun c11 => ?_)
  · have hz := hz.trans (if_pos c11)
    have hok := hok.1 c11
    exact k_Te_advance_74 C big x1p13 hok _ hz _ _ ls hP hD hS hl
  · have hz := hz.trans (if_neg c11)
    have hok := hok.2 c11
    obtain ⟨v12, ev12⟩ : ∃ y : Int32, y = x1p13 + (1 : Int32) := ⟨_, rfl⟩
    have hz := lett_z hz ev12
    have hok := lett_o hok ev12
    refine lv_iinc (v := v12) (lv' := [(1, .int v12), (0, .ref qte)]) hx hb d_Te_advance_71 hl (k := 1) rfl (by rw [ev12]; rfl) (by decide) rfl (fun ls hl => ?_)
    exact k_Te_advance_74 C big v12 hok _ hz _ _ ls hP hD hS (lv_sub hl [1, 0] rfl)
noncomputable def sp_Te_advance_37 (t : IV) (x1p13 : Int32) (tb : IV)   : IV := lett (upd t 3 x1p13) fun (t_7 : IV) => if (t_7 1) ≤ x1p13 then (sp_Te_advance_60 t_7 x1p13 tb (0 : Int32)) else (lett (sp_Te_kindAt x1p13 tb) fun (y9 : Int32) => sp_Te_advance_60 t_7 x1p13 tb y9)
def ok_Te_advance_37 (t : IV) (x1p13 : Int32) (tb : IV)    : Prop := lett (upd t 3 x1p13) fun (t_7 : IV) => (((t_7 1) ≤ x1p13 → ok_Te_advance_60 t_7 x1p13 tb (0 : Int32)) ∧ (¬ ((t_7 1) ≤ x1p13) → lett (sp_Te_kindAt x1p13 tb) fun (y9 : Int32) => ok_Te_advance_60 t_7 x1p13 tb y9))
set_option maxRecDepth 100000 in
set_option maxHeartbeats 4000000 in
theorem k_Te_advance_37 {p : Program} {l : Launch} {e : Env} {s : State} {m : MethodId} {args : Array Value} {below : List Frame} {meth : Method} {c : Code} {g : GX} {qte : Nat} {qteb : Nat} {ws0 : va_W} {t : IV} {tb : IV} {x1p13 : Int32}  (C : Cx p s m args meth c (inW ws0) g "DecadeBridge$Text" b_Te_advance none 2)  : HL_Te_advance_37 p l e s m args below meth c g qte qteb ws0 t tb x1p13 (sp_Te_advance_37 t x1p13 tb ) (ok_Te_advance_37 t x1p13 tb  ) := by
  intro _ hok z hz H locs ls hP hD hS hl
  obtain ⟨hx, hb, hr, hml, hown, hlk, hts, hK, hZo, hZ⟩ := id C
  unfold sp_Te_advance_37 at hz
  unfold ok_Te_advance_37 at hok
  refine lv_aload_n hx hb d_Te_advance_37 rfl (lv_at hl 0 rfl) ?_
  refine lv_iload_n hx hb d_Te_advance_38 rfl (lv_at hl 1 rfl) ?_
  refine pfI C hP hD hS 0 3 fkTe rfl (by decide) rfl qf_Te_35 rfl rfl rfl (Nat.le_of_ble_eq_true rfl) (ff := fun o => fTe qteb o) (sTe_3 _ _ _) d_Te_advance_39 (fun t_7 et_7 H locs hP hD hS => ?_)
  have hP : va_P g.1 vwCl (wTe g qte qteb t_7 tb) H := hP
  have hD : va_D (inW ws0) (wTe g qte qteb t_7 tb) := hD
  have hz := lett_z hz et_7
  have hok := lett_o hok et_7
  refine lv_aload_n hx hb d_Te_advance_42 rfl (lv_at hl 0 rfl) ?_
  refine lv_iload_n hx hb d_Te_advance_43 rfl (lv_at hl 1 rfl) ?_
  refine lv_aload_n hx hb d_Te_advance_44 rfl (lv_at hl 0 rfl) ?_
  refine gf C hP 0 1 fkTe rfl (by decide) rfl qf_Te_19 (gTe_1 _ _) d_Te_advance_45 ?_
  refine lv_icmp_ge (tgt := 59) hx hb d_Te_advance_48 (by decide) (fun c8 => ?_) (fun c8 => ?_)
  · have hz := hz.trans (if_pos c8)
    have hok := hok.1 c8
    refine lv_iconst (v := 0) hx hb d_Te_advance_59 (by decide) ?_
    exact k_Te_advance_60 C (0 : Int32) hok _ hz _ _ ls hP hD hS hl
  · have hz := hz.trans (if_neg c8)
    have hok := hok.2 c8
    refine lv_aload_n hx hb d_Te_advance_51 rfl (lv_at hl 0 rfl) ?_
    refine lv_iload_n hx hb d_Te_advance_52 rfl (lv_at hl 1 rfl) ?_
    have hB : SubW g (inW ws0) s (wTe g qte qteb t_7 tb) _ (List.range _) _ _ := (subF hP hD hS)
    refine goI0 hB (run_v C mf_Te_kindAt qm_Te_31 (c_Te_kindAt l g qte qteb t_7 tb x1p13) rfl rfl ⟨Nat.le_of_ble_eq_true rfl, Nat.le_of_ble_eq_true rfl⟩ ⟨Nat.le_of_ble_eq_true rfl, Nat.le_of_ble_eq_true rfl⟩ hB rfl rfl hl rfl rfl (Nat.le_of_ble_eq_true rfl) d_Te_advance_53) (fun y9 ey9 H locs hP hS => ?_)
    have hz := lett_z hz ey9
    have hok := lett_o hok ey9
    refine lv_goto (tgt := 60) hx hb d_Te_advance_56 (by decide) ?_
    exact k_Te_advance_60 C y9 hok _ hz _ _ ls hP hD hS hl
noncomputable def bd_Te_advance_13 (t : IV) (tb : IV) (r13 : Int32 → IV) (x1p13 : Int32) : IV := if (t 1) ≤ x1p13 then (sp_Te_advance_37 t x1p13 tb) else (lett (sp_Te_kindAt x1p13 tb) fun (y4 : Int32) => if y4 = (32 : Int32) then (lett (x1p13 + (1 : Int32)) fun (v6 : Int32) => r13 v6) else (sp_Te_advance_37 t x1p13 tb))
def okb_Te_advance_13 (t : IV) (tb : IV) (r13 : Int32 → IV) (q13 : Int32 → Prop) (x1p13 : Int32) : Prop := (((t 1) ≤ x1p13 → ok_Te_advance_37 t x1p13 tb) ∧ (¬ ((t 1) ≤ x1p13) → lett (sp_Te_kindAt x1p13 tb) fun (y4 : Int32) => ((y4 = (32 : Int32) → lett (x1p13 + (1 : Int32)) fun (v6 : Int32) => q13 v6) ∧ (¬ (y4 = (32 : Int32)) → ok_Te_advance_37 t x1p13 tb))))
noncomputable def sp_Te_advance_13 (t : IV) (tb : IV)  : Nat → Int32 → IV
  | 0 => fun _ => default
  | f + 1 => bd_Te_advance_13 t tb  (sp_Te_advance_13 t tb  f)
def ok_Te_advance_13 (t : IV) (tb : IV)   : Nat → Int32 → Prop
  | 0 => fun _ => False
  | f + 1 => okb_Te_advance_13 t tb  (sp_Te_advance_13 t tb  f)  (ok_Te_advance_13 t tb   f)
set_option maxRecDepth 100000 in
set_option maxHeartbeats 4000000 in
theorem kb_Te_advance_13 {p : Program} {l : Launch} {e : Env} {s : State} {m : MethodId} {args : Array Value} {below : List Frame} {meth : Method} {c : Code} {g : GX} {qte : Nat} {qteb : Nat} {ws0 : va_W} {t : IV} {tb : IV}  (C : Cx p s m args meth c (inW ws0) g "DecadeBridge$Text" b_Te_advance none 2) {r13 : Int32 → IV} {q13 : Int32 → Prop}  (ih13 : HL_Te_advance_13 p l e s m args below meth c g qte qteb ws0 t tb r13 q13) : HL_Te_advance_13 p l e s m args below meth c g qte qteb ws0 t tb (bd_Te_advance_13 t tb  r13) (okb_Te_advance_13 t tb  r13  q13) := by
  intro x1p13 hok z hz H locs ls hP hD hS hl
  obtain ⟨hx, hb, hr, hml, hown, hlk, hts, hK, hZo, hZ⟩ := id C
  unfold bd_Te_advance_13 at hz
  unfold okb_Te_advance_13 at hok
  refine lv_iload_n hx hb d_Te_advance_13 rfl (lv_at hl 1 rfl) ?_
  refine lv_aload_n hx hb d_Te_advance_14 rfl (lv_at hl 0 rfl) ?_
  refine gf C hP 0 1 fkTe rfl (by decide) rfl qf_Te_19 (gTe_1 _ _) d_Te_advance_15 ?_
  refine lv_icmp_ge (tgt := 37) hx hb d_Te_advance_18 (by decide) (fun c3 => ?_) (fun c3 => ?_)
  · have hz := hz.trans (if_pos c3)
    have hok := hok.1 c3
    exact k_Te_advance_37 C () hok _ hz _ _ ls hP hD hS hl
  · have hz := hz.trans (if_neg c3)
    have hok := hok.2 c3
    refine lv_aload_n hx hb d_Te_advance_21 rfl (lv_at hl 0 rfl) ?_
    refine lv_iload_n hx hb d_Te_advance_22 rfl (lv_at hl 1 rfl) ?_
    have hB : SubW g (inW ws0) s (wTe g qte qteb t tb) _ (List.range _) _ _ := (subF hP hD hS)
    refine goI0 hB (run_v C mf_Te_kindAt qm_Te_31 (c_Te_kindAt l g qte qteb t tb x1p13) rfl rfl ⟨Nat.le_of_ble_eq_true rfl, Nat.le_of_ble_eq_true rfl⟩ ⟨Nat.le_of_ble_eq_true rfl, Nat.le_of_ble_eq_true rfl⟩ hB rfl rfl hl rfl rfl (Nat.le_of_ble_eq_true rfl) d_Te_advance_23) (fun y4 ey4 H locs hP hS => ?_)
    have hz := lett_z hz ey4
    have hok := lett_o hok ey4
    refine lv_bipush (v := 32) hx hb d_Te_advance_26 (by decide) ?_
    refine lv_icmp_ne (tgt := 37) hx hb d_Te_advance_28 (by decide) (fun c5 => ?_) (fun c5 => ?_)
    · have hz := hz.trans (if_neg c5)
      have hok := hok.2 c5
      exact k_Te_advance_37 C () hok _ hz _ _ ls hP hD hS hl
    · have hz := hz.trans (if_pos c5)
      have hok := hok.1 c5
      obtain ⟨v6, ev6⟩ : ∃ y : Int32, y = x1p13 + (1 : Int32) := ⟨_, rfl⟩
      have hz := lett_z hz ev6
      have hok := lett_o hok ev6
      refine lv_iinc (v := v6) (lv' := [(1, .int v6), (0, .ref qte)]) hx hb d_Te_advance_31 hl (k := 1) rfl (by rw [ev6]; rfl) (by decide) rfl (fun ls hl => ?_)
      refine lv_goto (tgt := 13) hx hb d_Te_advance_34 (by decide) ?_
      exact ih13 v6 hok _ hz _ _ ls hP hD hS (lv_sub hl [1, 0] rfl)
theorem k_Te_advance_13 {p : Program} {l : Launch} {e : Env} {s : State} {m : MethodId} {args : Array Value} {below : List Frame} {meth : Method} {c : Code} {g : GX} {qte : Nat} {qteb : Nat} {ws0 : va_W} {t : IV} {tb : IV}  (C : Cx p s m args meth c (inW ws0) g "DecadeBridge$Text" b_Te_advance none 2) (f : Nat)  : HL_Te_advance_13 p l e s m args below meth c g qte qteb ws0 t tb (sp_Te_advance_13 t tb  f) (ok_Te_advance_13 t tb   f) := by
  induction f with
  | zero => intro x1p13 hok; exact False.elim hok
  | succ f ih => exact kb_Te_advance_13 C  ih
noncomputable def sp_Te_advance (t : IV) (tb : IV) : IV := if (t 5) = 0 then (lett (t 4) fun (v2 : Int32) => sp_Te_advance_13 t tb big v2) else (t)
def ok_Te_advance (t : IV) (tb : IV) : Prop := (((t 5) = 0 → lett (t 4) fun (v2 : Int32) => ok_Te_advance_13 t tb big v2) ∧ (¬ ((t 5) = 0) → True))
set_option maxRecDepth 100000 in
set_option maxHeartbeats 4000000 in
theorem c_Te_advance (l : Launch) (g : GX) (qte : Nat) (qteb : Nat) (t : IV) (tb : IV)  (hok : ok_Te_advance t tb) : Met l y_Te_advance (wsY y_Te_advance b_Te_advance 2 none) rm_Te_advance (CP g [.ref qte] (wTe g qte qteb t tb)) (CV g (wTe g qte qteb t tb) (fun u : IV => wTe g qte qteb u tb) (sp_Te_advance t tb)) 0 0 (inW (wTe g qte qteb t tb)) := by
  refine Met.ofW (cc := b_Te_advance) (maxL := 2) (ret := none) pn_Te rfl ?_
  intro p e s m args below meth c s₁ B hml hv
  obtain ⟨rfl, C, hP, hD, hS⟩ := enter "DecadeBridge$Text" rfl B hml hv
  obtain ⟨hx, hb, hr, hml, hown, hlk, hts, hK, hZo, hZ⟩ := id C
  refine entryW (lv := [(0, .ref qte)]) rfl (Nat.le_of_ble_eq_true rfl) (fun ls hl => ?_)
  obtain ⟨z, hz⟩ : ∃ z, z = sp_Te_advance t tb := ⟨_, rfl⟩
  rw [← hz]
  unfold sp_Te_advance at hz
  unfold ok_Te_advance at hok
  refine lv_aload_n hx hb d_Te_advance_0 rfl (lv_at hl 0 rfl) ?_
  refine gf C hP 0 5 fkTe rfl (by decide) rfl qf_Te_22 (gTe_5 _ _) d_Te_advance_1 ?_
  refine lv_if_eq (tgt := 8) hx hb d_Te_advance_4 (by decide) (fun c1 => ?_) (fun c1 => ?_)
  · have hz := hz.trans (if_pos c1)
    have hok := hok.1 c1
    refine lv_aload_n hx hb d_Te_advance_8 rfl (lv_at hl 0 rfl) ?_
    refine gf C hP 0 4 fkTe rfl (by decide) rfl qf_Te_25 (gTe_4 _ _) d_Te_advance_9 ?_
    refine lv_topi (fun v2 ev2 => ?_)
    have hz := lett_z hz ev2
    have hok := lett_o hok ev2
    refine lv_istore_n (lv' := [(1, .int v2), (0, .ref qte)]) hx hb d_Te_advance_12 rfl hl (by decide) rfl (fun ls hl => ?_)
    exact k_Te_advance_13 C big v2 hok _ hz _ _ ls hP hD hS (lv_sub hl [1, 0] rfl)
  · have hz := hz.trans (if_neg c1)
    exact endV C hz hP hS d_Te_advance_7
abbrev rm_Te_fail : Room := { frames := 1, cells := 0, slots := 0, locals := 22 }
noncomputable def sp_Te_fail (p1 : Int32) (t : IV) : IV := lett (sp_Te_failAt p1 (t 3) t) fun (y1 : IV) => y1
set_option maxRecDepth 100000 in
set_option maxHeartbeats 4000000 in
theorem c_Te_fail (l : Launch) (g : GX) (qte : Nat) (qteb : Nat) (t : IV) (tb : IV) (p1 : Int32) : Met l y_Te_fail (wsY y_Te_fail b_Te_fail 2 none) rm_Te_fail (CP g [.ref qte, .int p1] (wTe g qte qteb t tb)) (CV g (wTe g qte qteb t tb) (fun u : IV => wTe g qte qteb u tb) (sp_Te_fail p1 t)) 0 0 (inW (wTe g qte qteb t tb)) := by
  refine Met.ofW (cc := b_Te_fail) (maxL := 2) (ret := none) pn_Te rfl ?_
  intro p e s m args below meth c s₁ B hml hv
  obtain ⟨rfl, C, hP, hD, hS⟩ := enter "DecadeBridge$Text" rfl B hml hv
  obtain ⟨hx, hb, hr, hml, hown, hlk, hts, hK, hZo, hZ⟩ := id C
  refine entryW (lv := [(0, .ref qte), (1, .int p1)]) rfl (Nat.le_of_ble_eq_true rfl) (fun ls hl => ?_)
  obtain ⟨z, hz⟩ : ∃ z, z = sp_Te_fail p1 t := ⟨_, rfl⟩
  rw [← hz]
  unfold sp_Te_fail at hz
  refine lv_aload_n hx hb d_Te_fail_0 rfl (lv_at hl 0 rfl) ?_
  refine lv_iload_n hx hb d_Te_fail_1 rfl (lv_at hl 1 rfl) ?_
  refine lv_aload_n hx hb d_Te_fail_2 rfl (lv_at hl 0 rfl) ?_
  refine gf C hP 0 3 fkTe rfl (by decide) rfl qf_Te_35 (gTe_3 _ _) d_Te_fail_3 ?_
  have hB : SubW g (inW (wTe g qte qteb t tb)) s (wTe g qte qteb t tb) _ (List.range _) _ _ := (subF hP hD hS)
  refine goVF hB (run_v C mf_Te_failAt qm_Te_41 (c_Te_failAt l g qte qteb t tb p1 (t 3)) rfl rfl ⟨Nat.le_of_ble_eq_true rfl, Nat.le_of_ble_eq_true rfl⟩ ⟨Nat.le_of_ble_eq_true rfl, Nat.le_of_ble_eq_true rfl⟩ hB rfl rfl hl rfl rfl (Nat.le_of_ble_eq_true rfl) d_Te_fail_6) (fun _ => rfl) (fun y1 ey1 H locs hP hD hS => ?_)
  have hP : va_P g.1 vwCl (wTe g qte qteb y1 tb) H := hP
  have hD : va_D (inW (wTe g qte qteb t tb)) (wTe g qte qteb y1 tb) := hD
  have hz := lett_z hz ey1
  exact endV C hz hP hS d_Te_fail_9
