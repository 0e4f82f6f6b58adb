section TXA
/-! ===== methods that throw: the base ===== -/
def nmsX : List String := ["java/lang/RuntimeException", "java/lang/Exception"]
def nIOB : String := "java/lang/IndexOutOfBoundsException"
def nIAE : String := "java/lang/IllegalArgumentException"
def xws : List Cond := [Cond.declares ⟨"java/lang/RuntimeException", "<init>", "()V"⟩, Cond.declares ⟨"java/lang/Exception", "<init>", "()V"⟩, Cond.declares ⟨"java/lang/Throwable", "<init>", "()V"⟩, Cond.castable nIOB nIOB, Cond.castable nIAE nIAE]
def XW (U : State) : Prop := (∀ w ∈ xws, w.before #[] U = true) ∧ va_Nc nIAE nIOB U
theorem xw_moved {u U : State} (hvm : u.vm.Alike U.vm) (h : XW u) : XW U := by
  have tr : ∀ c : Cond, c.onTables = true → c.before #[] (u.setVm U.vm) = true → c.before #[] U = true := fun c hc h => by
    have e := Cond.onTables_vm (A := #[]) (A' := #[]) (U := u) (U' := U) U.vm c hc
    have hU : U.setVm U.vm = U := rfl
    rw [hU] at e
    rw [← e]; exact h
  refine ⟨?_, va_Nc.moved hvm h.2⟩
  intro w hw
  have h1 := h.1 w hw
  unfold xws at hw
  rcases List.mem_cons.mp hw with rfl | hw
  · exact tr _ rfl (by rw [Cond.declares_setVm hvm]; exact h1)
  rcases List.mem_cons.mp hw with rfl | hw
  · exact tr _ rfl (by rw [Cond.declares_setVm hvm]; exact h1)
  rcases List.mem_cons.mp hw with rfl | hw
  · exact tr _ rfl (by rw [Cond.declares_setVm hvm]; exact h1)
  rcases List.mem_cons.mp hw with rfl | hw
  · exact tr _ rfl (by rw [Cond.castable_setVm hvm]; exact h1)
  rcases List.mem_cons.mp hw with rfl | hw
  · exact tr _ rfl (by rw [Cond.castable_setVm hvm]; exact h1)
  · cases hw
theorem xw_args {U : State} (h : XW U) (args : Array Value) : ∀ w ∈ xws, w.before args U = true := by
  intro w hw
  have h1 := h.1 w hw
  unfold xws at hw
  rcases List.mem_cons.mp hw with rfl | hw
  · exact va_any rfl h1
  rcases List.mem_cons.mp hw with rfl | hw
  · exact va_any rfl h1
  rcases List.mem_cons.mp hw with rfl | hw
  · exact va_any rfl h1
  rcases List.mem_cons.mp hw with rfl | hw
  · exact va_any rfl h1
  rcases List.mem_cons.mp hw with rfl | hw
  · exact va_any rfl h1
  · cases hw
def CPX (g : GX) (av : List Value) (ws : va_W) : Array Value → State → Prop := fun a U => CP g av ws a U ∧ XW U
theorem CPX_blind (g : GX) (av : List Value) (ws : va_W) : FrameBlind (CPX g av ws) := fun a U gg mk h => ⟨CP_blind g av ws a U gg mk h.1, xw_moved (u := U) (U := U.calling gg mk a) (Vm.Alike.refl U.vm) h.2⟩
/-- what a throw leaves: the class thrown, the world -/
def XT (g : GX) (E0 : String) (A : Nat → Prop) (w1 : va_W) : String → State → State → Prop := fun E st t => E = E0 ∧ va_P g.1 vwCl w1 t.heap ∧ va_F A st t
def QN : Array Value → State → Outcome → State → Prop := fun _ _ _ _ => False
/-- a method that throws E0 -/
abbrev TMet (l : Launch) (y : MethodName) (bytes : ByteArray) (maxL : Nat) (ret : Option FieldType) (rm : Room) (g : GX) (av : List Value) (ws w1 : va_W) (E0 : String) : Prop :=
  vx_Met l y (wsY y bytes maxL ret) rm (CPX g av ws) QN (XT g E0 (inW ws) w1) 1 6 (inW ws)
theorem atI_in : ∀ w ∈ (vx_at0 "DecadeBridge" 447 nIOB nmsX).filter goodWord, w ∈ tables_1 := by
  have h : (vx_at0 "DecadeBridge" 447 nIOB nmsX).filter goodWord = [19, 1267, 1276, 1279, 1282, 1284, 1268, 1269, 30, 31, 1270, 1275, 1280, 1296, 1257, 1297, 1259, 1298, 1261, 1271, 1273, 1263, 1329, 1330, 1331, 1289, 1289, 1290, 1291, 1292, 1292, 1293, 1294, 1268, 1328, 1320, 1322, 1278, 1323, 1324, 1325, 1326, 1266, 1265, 1327].filterMap (fun i => tables_1[i]?) := by decide +kernel
  intro w hw
  rw [h] at hw
  obtain ⟨i, -, hi⟩ := List.mem_filterMap.mp hw
  exact List.mem_of_getElem? hi
theorem atA_in : ∀ w ∈ (vx_at0 "DecadeBridge" 411 nIAE nmsX).filter goodWord, w ∈ tables_1 := by
  have h : (vx_at0 "DecadeBridge" 411 nIAE nmsX).filter goodWord = [19, 1267, 1276, 1279, 1282, 1284, 1268, 1269, 30, 31, 1270, 1275, 1280, 1296, 1257, 1297, 1259, 1298, 1261, 1271, 1273, 1263, 1286, 1287, 1288, 1289, 1289, 1290, 1291, 1292, 1292, 1293, 1294, 1268, 1285, 1246, 1254, 1255, 1256, 1258, 1260, 1262, 1266, 1265, 1264].filterMap (fun i => tables_1[i]?) := by decide +kernel
  intro w hw
  rw [h] at hw
  obtain ⟨i, -, hi⟩ := List.mem_filterMap.mp hw
  exact List.mem_of_getElem? hi
theorem atI_bad : ∀ w ∈ (vx_at0 "DecadeBridge" 447 nIOB nmsX).filter (fun w => !goodWord w), w ∈ xws := by decide +kernel
theorem atA_bad : ∀ w ∈ (vx_at0 "DecadeBridge" 411 nIAE nmsX).filter (fun w => !goodWord w), w ∈ xws := by decide +kernel
theorem atI_ot : ∀ w ∈ Cond.classLink "DecadeBridge" 445 nIOB :: Cond.initialized nIOB :: vx_at0 "DecadeBridge" 447 nIOB nmsX, vx_ot w = true := by decide +kernel
theorem atA_ot : ∀ w ∈ Cond.classLink "DecadeBridge" 409 nIAE :: Cond.initialized nIAE :: vx_at0 "DecadeBridge" 411 nIAE nmsX, vx_ot w = true := by decide +kernel
theorem tb_all {w : Cond} (h : w ∈ tables_1) (g : goodWord w = true) : w ∈ TB := List.mem_filter.mpr ⟨List.mem_append_right _ h, g⟩
theorem atI_tb : ∀ w ∈ (vx_at0 "DecadeBridge" 447 nIOB nmsX).filter goodWord, w ∈ TB := fun w hw => tb_all (atI_in w hw) (List.mem_filter.mp hw).2
theorem atA_tb : ∀ w ∈ (vx_at0 "DecadeBridge" 411 nIAE nmsX).filter goodWord, w ∈ TB := fun w hw => tb_all (atA_in w hw) (List.mem_filter.mp hw).2
theorem kI_tb : Cond.classLink "DecadeBridge" 445 nIOB ∈ TB := tb_all (List.mem_of_getElem? (i := 1319) (by decide +kernel)) rfl
theorem iI_tb : Cond.initialized nIOB ∈ TB := tb_all (List.mem_of_getElem? (i := 23) (by decide +kernel)) rfl
theorem kA_tb : Cond.classLink "DecadeBridge" 409 nIAE ∈ TB := tb_all (List.mem_of_getElem? (i := 1245) (by decide +kernel)) rfl
theorem iA_tb : Cond.initialized nIAE ∈ TB := tb_all (List.mem_of_getElem? (i := 22) (by decide +kernel)) rfl
section
variable {p : Program} {l : Launch} {e : Env} {R : Room} {s : State} {m : MethodId} {args : Array Value} {below : List Frame} {meth : Method} {c : Code} {H : Heap} {locs : List Loc} {g : GX} {pc : Nat} {ls : Array Slot} {rest st0 : List Value} {cc : ByteArray} {nL : Nat} {ret : Option FieldType} {ws w0 w1 : va_W} {lv : List (Nat × Value)}
theorem va_P_more {D : va_G} {w : va_W} {H H1 : Heap} (hP : va_P D vwCl w H) (hk : ∀ q : Nat, q < H.size → H1[q]? = H[q]?) : va_P D vwCl w H1 := fun k q hq => (hP k q hq).kept (hk q.1 (hP k q hq).lt)
theorem xt_of {E0 : String} {t : State} (hP : va_P g.1 vwCl w1 H) (hS : va_S (inW ws) s.heap H locs) (h1 : H.size ≤ t.heap.size) (h2 : ∀ q : Nat, q < H.size → t.heap[q]? = H[q]?) : XT g E0 (inW ws) w1 E0 s t :=
  ⟨rfl, va_P_more hP h2, Nat.le_trans hS.1 h1, fun q a b => (h2 q (Nat.lt_of_lt_of_le a hS.1)).trans (hS.2.1 q a b)⟩
/-- throw new IndexOutOfBoundsException() -/
theorem thrI (C : Cx p s m args meth c (inW ws) g "DecadeBridge" cc ret nL) (hfl : l.stackTraces = false) (hX : XW s) (ht : ∀ x ∈ c.exceptionTable.toList, False) (hP : va_P g.1 vwCl w1 H) (hS : va_S (inW ws) s.heap H locs) (hl : lv_has ls nL lv)
    (d0 : decode cc pc = .ok (.new 445, 3)) (d3 : decode cc (pc + 3) = .ok (.dup, 1)) (d4 : decode cc (pc + 4) = .ok (.invokespecial 447, 3)) (d7 : decode cc (pc + 7) = .ok (.athrow, 1))
    (hR : 5 < R.frames ∧ 81 ≤ R.locals ∧ 1 ≤ R.cells ∧ 6 ≤ R.slots) : W p l e R s m args below meth c H locs 0 0 (vx_MQ below QN (XT g nIOB (inW ws) w1) args s 1 6 (inW ws)) (F0 m pc ls []) := by
  obtain ⟨hx, hb, hr, hml, hown, hlk, hts, hK, hZo, hZ⟩ := id C
  obtain ⟨z1, z2⟩ := zExc hZo hZ
  exact vx_throw0 hx hb hfl hown (by decide +kernel) (by decide +kernel) (hts _ kI_tb) (hts _ iI_tb) (vx_hat (fun w hw => hts w (atI_tb w hw)) atI_bad (xw_args hX args)) atI_ot z1 z2 hS (hl.1.trans hml.symm) d0 d3 d4 d7 (fun x hx => absurd (ht x hx) id)
    hR.1 hR.2.1 hR.2.2.1 hR.2.2.2 hlk (fun t _ h1 h2 => xt_of hP hS h1 h2) hS.2.2 (Nat.le_refl _) (Nat.le_refl _)
/-- throw new IllegalArgumentException() -/
theorem thrA (C : Cx p s m args meth c (inW ws) g "DecadeBridge" cc ret nL) (hfl : l.stackTraces = false) (hX : XW s) (ht : ∀ x ∈ c.exceptionTable.toList, False) (hP : va_P g.1 vwCl w1 H) (hS : va_S (inW ws) s.heap H locs) (hl : lv_has ls nL lv)
    (d0 : decode cc pc = .ok (.new 409, 3)) (d3 : decode cc (pc + 3) = .ok (.dup, 1)) (d4 : decode cc (pc + 4) = .ok (.invokespecial 411, 3)) (d7 : decode cc (pc + 7) = .ok (.athrow, 1))
    (hR : 5 < R.frames ∧ 81 ≤ R.locals ∧ 1 ≤ R.cells ∧ 6 ≤ R.slots) : W p l e R s m args below meth c H locs 0 0 (vx_MQ below QN (XT g nIAE (inW ws) w1) args s 1 6 (inW ws)) (F0 m pc ls []) := by
  obtain ⟨hx, hb, hr, hml, hown, hlk, hts, hK, hZo, hZ⟩ := id C
  obtain ⟨z1, z2⟩ := zExc hZo hZ
  exact vx_throw0 hx hb hfl hown (by decide +kernel) (by decide +kernel) (hts _ kA_tb) (hts _ iA_tb) (vx_hat (fun w hw => hts w (atA_tb w hw)) atA_bad (xw_args hX args)) atA_ot z1 z2 hS (hl.1.trans hml.symm) d0 d3 d4 d7 (fun x hx => absurd (ht x hx) id)
    hR.1 hR.2.1 hR.2.2.1 hR.2.2.2 hlk (fun t _ h1 h2 => xt_of hP hS h1 h2) hS.2.2 (Nat.le_refl _) (Nat.le_refl _)
theorem mkCBX {rm : Room} {own : String} {index : Nat} {y : MethodName} {bytes : ByteArray} {maxL n : Nat} {ret : Option FieldType} (hT : ∀ w ∈ TB, w.before args s = true) (mf : MF y bytes maxL ret n) (hl : Cond.methodLink own index y ∈ TB)
    (hc0 : rm.cells = 1) (hs0 : rm.slots = 6) (hR : rm.frames + 1 ≤ R.frames ∧ 8 + (maxL + 11) + rm.locals ≤ R.locals) : CallB R s args own index y bytes maxL ret (wsY y bytes maxL ret) rm 1 6 n := by
  obtain ⟨h1, h2, h3⟩ := mf
  refine callB_of n hT (ws := wsY y bytes maxL ret) (fun w hw => ?_) rfl hc0 hs0 (hT _ h2) (hT _ hl) h3 hR
  rcases List.mem_cons.mp hw with rfl | hw
  · exact ⟨h1, TBgood _ h1⟩
  · exact ⟨hw, TBgood _ hw⟩
theorem pre_genX {A : Nat → Prop} {wc : va_W} {av : List Value} {is : List Nat} {own : String} (C : Cx p s m args meth c A g own cc ret nL) (hX : XW s) (hB : SubW g A s ws wc is H locs) : ∀ U : State, U.heap = H → s.WarmedH U.vm → CPX g av wc av.toArray U :=
  fun U hU hW => ⟨pre_gen C hB.1 hB.2.1 hB.2.2.1 hB.2.2.2.1 hB.2.2.2.2 U hU hW, xw_moved hW.alike hX⟩
/-- what a callee threw goes on to the caller -/
theorem thr_out {E0 : String} {mc : Nat} {wc wc1 : va_W} {av : Array Value} {is : List Nat} (C : Cx p s m args meth c (inW ws) g "DecadeBridge" cc ret nL) (ht : ∀ x ∈ c.exceptionTable.toList, False)
    (hr : vx_Run p l e R s m args below meth c H locs 0 0 1 6 (F0 m pc ls st0) rest (QN av) (XT g E0 (inW wc) wc1) (inW wc)) (hB : SubW g (inW ws) s w0 wc is H locs) (had : wc1.map Prod.fst = wc.map Prod.fst) (hw1 : splice w0 is wc1 = w1) :
    W p l e R s m args below meth c H locs 0 0 (vx_MQ below QN (XT g E0 (inW ws) w1) args s 1 6 (inW ws)) (F0 m pc ls st0) := by
  obtain ⟨hC, hn, hP, hD, hS⟩ := hB
  obtain ⟨hx, hb, hrr, hml, hown, hlk, hts, hK, hZo, hZ⟩ := id C
  intro T hT X
  rcases hr T hT X with ⟨v, st₀, t, T', L, h0, X', hL, e1, e2, hq, st⟩ | ⟨q, st₀, t, T', L, E, ce, h0, X', hL, e1, e2, ⟨hE, hb1, hz, hk⟩, hce, hcv, hcl, st⟩
  · exact hq.elim
  · rw [h0] at hz hk
    have hin : ∀ q, inW wc q → inW ws q := fun q ⟨k, ee, hk⟩ => by
      obtain ⟨i, -, h2⟩ := sub_at hC hk
      exact hD.2 i _ h2
    have hadr : ∀ (j : Nat) (q : Nat × va_E), wc1[j]? = some q → ∃ q0, wc[j]? = some q0 ∧ q0.1 = q.1 := by
      intro j q hj
      have h5 : (wc.map Prod.fst)[j]? = some q.1 := by rw [← had, List.getElem?_map, hj]; rfl
      rw [List.getElem?_map] at h5
      cases h6 : wc[j]? with
      | none => rw [h6] at h5; cases h5
      | some q4 => rw [h6] at h5; exact ⟨q4, rfl, Option.some.inj h5⟩
    have hlen : wc1.length = wc.length := by have := congrArg List.length had; simpa using this
    have hP1 : va_P g.1 vwCl (splice w0 is wc1) t.heap := by
      intro k q hq
      by_cases hki : k ∈ is
      · obtain ⟨j, hj⟩ := List.getElem?_of_mem hki
        obtain ⟨q0, g1, g2⟩ := sub_at' hC hj
        have hkl : k < w0.length := (List.getElem?_eq_some_iff.mp g2).1
        have hjl : j < wc1.length := by rw [hlen]; exact (List.getElem?_eq_some_iff.mp g1).1
        have hwj : wc1[j]? = some wc1[j] := List.getElem?_eq_getElem hjl
        rw [splice_in is wc1 w0 j k _ hn hj hwj hkl] at hq
        cases hq
        exact hb1 j _ hwj
      · rw [splice_out _ _ _ _ hki] at hq
        have hl := (hP k q hq).lt
        refine (hP k q hq).kept (hk q.1 hl fun ⟨k2, ee, h⟩ => ?_)
        obtain ⟨i, h3, h4⟩ := sub_at hC h
        have := hD.1 k i q (q.1, ee) hq h4 rfl
        exact hki (by rw [this]; exact List.mem_of_getElem? h3)
    rw [hw1] at hP1
    have hF : ∀ t2 : State, t2.heap = T'.heap → XT g E0 (inW ws) w1 E s t2 := fun t2 h2 => by
      have e9 : t2.heap = t.heap := h2.trans e1
      refine ⟨hE, by rw [e9]; exact hP1, ?_, fun q a b => ?_⟩
      · rw [e9]; exact Nat.le_trans hS.1 hz
      · rw [e9, hk q (Nat.lt_of_lt_of_le a hS.1) (fun z => b (hin q z))]; exact hS.2.1 q a b
    have hlo : ∀ z ∈ locs ++ L, inW ws z.base := fun z hz => by
      rcases List.mem_append.mp hz with h | h
      · exact hS.2.2 z h
      · exact hin _ (hL z h)
    obtain ⟨t2, a1, b1⟩ := vx_out (pc := pc) (ls := ls) (rest := rest) (mc := 1) (ms := 6) (Qc := QN) (XC := XT g E0 (inW ws) w1) (free := inW ws) (H := T'.heap) (fun x hx => absurd (ht x hx) id) hlk (by rw [e1]; exact hce) hcv hcl (fun t2 h2 _ => hF t2 h2) hlo (Nat.le_refl _) (Nat.le_refl _) T' rfl X'
    exact ⟨t2, st.trans a1, b1⟩
/-- a static check fails -/
theorem thr_s {E0 : String} {rm : Room} {y : MethodName} {bytes : ByteArray} {maxL n index : Nat} {ret' : Option FieldType} {As : List Value} (C : Cx p s m args meth c (inW ws) g "DecadeBridge" cc ret nL) (hX : XW s) (ht : ∀ x ∈ c.exceptionTable.toList, False) (mf : MFS y bytes maxL ret' n) (hl : Cond.methodLink "DecadeBridge" index y ∈ TB)
    (hM : TMet l y bytes maxL ret' rm g As (wNil g) (wNil g) E0) (hc0 : rm.cells = 1) (hs0 : rm.slots = 6) (hR : rm.frames + 1 ≤ R.frames ∧ 8 + (maxL + 11) + rm.locals ≤ R.locals) (hf : 1 ≤ R.cells ∧ 6 ≤ R.slots)
    (hP : va_P g.1 vwCl w0 H) (hD : va_D (inW ws) w0) (hS : va_S (inW ws) s.heap H locs) (hlv : lv_has ls nL lv) (hAs : As.length = n) (hst : st0 = As.reverse ++ rest) (hcat : (rest.map fun v => v.category).sum ≤ 8) (hdg : decode cc pc = .ok (.invokestatic index, 3)) :
    W p l e R s m args below meth c H locs 0 0 (vx_MQ below QN (XT g E0 (inW ws) w0) args s 1 6 (inW ws)) (F0 m pc ls st0) := by
  obtain ⟨hx, hb, hr, hml, hown, hlk, hts, hK, hZo, hZ⟩ := id C
  obtain ⟨mf1, mf2⟩ := mf
  have hB : SubW g (inW ws) s w0 (wNil g) [] H locs := ⟨rfl, rfl, hP, hD, hS⟩
  exact thr_out (mc := 1) C ht (vx_runS (As := As) (rest := rest) (n := n) (ret := ret') (maxL := maxL) (bytes := bytes) ⟨hx, hb, hml, hown, hts⟩ hM ⟨mkCBX hts mf1 hl hc0 hs0 hR, hts _ mf2⟩ ⟨CPX_blind _ _ _, pre_genX C hX hB⟩ rfl hAs hlv.1 hst (lv_room hcat) hdg (by rw [Nat.zero_add, Nat.zero_add]; exact hf)) hB rfl rfl
/-- a check of the object's own fails -/
theorem thr_v {E0 : String} {rm : Room} {y : MethodName} {bytes : ByteArray} {maxL n index b : Nat} {ret' : Option FieldType} {As : List Value} {wc wc1 : va_W} {is : List Nat} {fs : List Value} {ci : Nat} {Tt : u_T} {N : Nat} (C : Cx p s m args meth c (inW ws) g "DecadeBridge" cc ret nL) (hX : XW s) (ht : ∀ x ∈ c.exceptionTable.toList, False) (mf : MFV y bytes maxL ret' n) (hl : Cond.methodLink "DecadeBridge" index y ∈ TB)
    (hM : TMet l y bytes maxL ret' rm g (.ref b :: As) wc wc1 E0) (hc0 : rm.cells = 1) (hs0 : rm.slots = 6) (hR : rm.frames + 1 ≤ R.frames ∧ 8 + (maxL + 11) + rm.locals ≤ R.locals) (hf : 1 ≤ R.cells ∧ 6 ≤ R.slots)
    (hB : SubW g (inW ws) s w0 wc is H locs) (had : wc1.map Prod.fst = wc.map Prod.fst) (hw1 : splice w0 is wc1 = w1) (hrec : wc[0]? = some (b, .inr (ci, fs))) (hcl : vwCl[ci]? = some (y.cls, Tt, N)) (hlv : lv_has ls nL lv) (hAs : As.length = n) (hst : st0 = As.reverse ++ .ref b :: rest) (hcat : (rest.map fun v => v.category).sum ≤ 8) (hdg : decode cc pc = .ok (.invokevirtual index, 3)) :
    W p l e R s m args below meth c H locs 0 0 (vx_MQ below QN (XT g E0 (inW ws) w1) args s 1 6 (inW ws)) (F0 m pc ls st0) := by
  obtain ⟨hx, hb, hr, hml, hown, hlk, hts, hK, hZo, hZ⟩ := id C
  obtain ⟨mf1, mf2, mf3⟩ := mf
  have hPc : va_P g.1 vwCl wc H := fun k q hk => by
    obtain ⟨i, -, h2⟩ := sub_at hB.1 hk
    exact hB.2.2.1 i q h2
  exact thr_out (mc := 1) C ht (vx_runV (As := As) (rest := rest) (b := b) (n := n) (ret := ret') (maxL := maxL) (bytes := bytes) ⟨hx, hb, hml, hown, hts⟩ hM ⟨mkCBX hts mf1 hl hc0 hs0 hR, hts _ mf2, hts _ mf3⟩ ⟨CPX_blind _ _ _, va_recv hK hPc hcl hrec, pre_genX C hX hB⟩ rfl hAs hlv.1 hst (lv_room hcat) hdg (by rw [Nat.zero_add, Nat.zero_add]; exact hf)) hB had hw1
end
end TXA
