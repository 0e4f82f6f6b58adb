section TXC
/-! ===== the law's wrappers: the base ===== -/
abbrev wsH (y : MethodName) (bytes : ByteArray) (maxL : Nat) (hh : List (Nat × Nat × Nat × Nat)) : List Cond := Cond.codeWith y bytes maxL (some .int) hh :: TB
abbrev aD (g : GX) (n : Nat) (f : Nat → UInt64) : va_E := .inl (g.2.1 7, n, .inr (.inr (.inr (.inl f))))
abbrev WMet (l : Launch) (y : MethodName) (bytes : ByteArray) (maxL : Nat) (hh : List (Nat × Nat × Nat × Nat)) (rm : Room) (g : GX) (av : List Value) (ws w1 : va_W) (v : Int32) : Prop :=
  Met l y (wsH y bytes maxL hh) rm (CPX g av ws) (CQ g (inW ws) (fun x : Int32 => some (.int x)) (fun _ => w1) v) 1 6 (inW ws)
theorem met_of_vx {l : Launch} {y : MethodName} {ws : List Cond} {rm : Room} {Pc : Array Value → State → Prop} {Qc : Array Value → State → Outcome → State → Prop} {mc ms : Nat} {free : Addr → Prop} (h : vx_Met l y ws rm Pc Qc (fun _ _ _ => False) mc ms free) : Met l y ws rm Pc Qc mc ms free := by
  intro p e h1 h2 h3 s m args below h4 h5 h6 h7
  obtain ⟨n, o, a1, a2, a3, a4⟩ := h p e h1 h2 h3 s m args below h4 h5 h6 h7
  refine ⟨n, o, a1, a2, a3, ?_⟩
  rcases a4 with w | ⟨q, -, E, ce, L, hx, -⟩
  · exact w
  · exact hx.elim
theorem enterH {p : Program} {l : Launch} {e : Env} {s s₁ : State} {m : MethodId} {args : Array Value} {below : List Frame} {meth : Method} {c : Code} {g : GX} {y : MethodName} {bytes : ByteArray} {maxL : Nat} {hh : List (Nat × Nat × Nat × Nat)} {rm : Room} {av : List Value} {ws : va_W} (own : String) (ho : y.cls = own) (B : BodyLoose p l y (headSpec (wsH y bytes maxL hh) rm) bytes maxL (some .int) e s m args below meth c s₁) (hml : c.maxLocals = maxL) (hv : CP g av ws args s) :
    args = av.toArray ∧ Cx p s m args meth c (inW ws) g own bytes (some .int) maxL ∧ c.exceptionTable.toList = tableOf hh ∧ va_P g.1 vwCl ws s.heap ∧ va_D (inW ws) ws ∧ va_S (inW ws) s.heap s.heap [] := by
  obtain ⟨h0, h1, h2, h3, h4, h5⟩ := hv
  have hts := atoms_spec (ws := wsH y bytes maxL hh) B.pre
  exact ⟨h0, ⟨B.exec, B.bytes, B.returns, hml, by rw [← ho]; exact findClass_of_methodNamed B.named, B.notSynchronized, fun w hw => hts w (List.mem_cons_of_mem _ hw), h2, h4, h5⟩, vx_table (x := y) B (hts _ List.mem_cons_self), h1, ⟨h3.1, fun k q hk => ⟨k, q.2, hk⟩⟩, va_S.rf⟩
section
variable {p : Program} {l : Launch} {e : Env} {R : Room} {s : State} {m : MethodId} {args : Array Value} {below : List Frame} {meth : Method} {c : Code} {H : Heap} {locs : List Loc} {cells slots : Nat} {Q : State → Prop} {g : GX} {pc : Nat} {ls : Array Slot} {rest st0 : List Value} {cc : ByteArray} {nL : Nat} {ret : Option FieldType} {ws w0 w1 : va_W} {lv : List (Nat × Value)} {A : Nat → Prop}
theorem ofWW {y : MethodName} {bytes : ByteArray} {maxL : Nat} {hh : List (Nat × Nat × Nat × Nat)} {rm : Room} {av : List Value} {v : Int32} (ho : y.cls = "DecadeBridgeLaw")
    (body : ∀ (p : Program) (e : Env) (s : State) (m : MethodId) (args : Array Value) (below : List Frame) (meth : Method) (c : Code), args = av.toArray → Cx p s m args meth c (inW ws) g "DecadeBridgeLaw" bytes (some .int) maxL → XW s → c.exceptionTable.toList = tableOf hh → va_P g.1 vwCl ws s.heap → va_D (inW ws) ws → va_S (inW ws) s.heap s.heap [] →
      W p l e rm s m args below meth c s.heap [] 0 0 (MQ below (CQ g (inW ws) (fun x : Int32 => some (.int x)) (fun _ => w1) v) args s 1 6 (inW ws)) (entryFrame m args maxL)) : WMet l y bytes maxL hh rm g av ws w1 v := by
  refine met_of_vx (vx_ofWH (cc := bytes) (maxL := maxL) (ret := some .int) (hh := hh) (by rw [ho]; exact pn_La) rfl ?_)
  intro p e s m args below meth c s₁ B hml hv
  obtain ⟨h1, C, ht, hP, hD, hS⟩ := enterH "DecadeBridgeLaw" ho B hml hv.1
  exact vx_ret (body p e s m args below meth c h1 C hv.2 ht hP hD hS)
theorem splice_apR {wx w1 r : va_W} (h : w1.length = wx.length) : splice (wx ++ r) (List.range wx.length) w1 = w1 ++ r := by
  have hlen := splice_len (List.range wx.length) w1 (wx ++ r)
  apply List.ext_getElem?
  intro i
  by_cases hi : i < wx.length
  · have hw : w1[i]? = some w1[i] := List.getElem?_eq_getElem (by omega)
    rw [List.getElem?_append_left (by omega), hw]
    exact splice_in _ w1 (wx ++ r) i i _ (nd_range _) (by simp [hi]) hw (by rw [List.length_append]; omega)
  · rw [splice_out _ _ _ _ (by rw [List.mem_range]; omega), List.getElem?_append_right (by omega), List.getElem?_append_right (by omega), h]
theorem sub_app {wx r : va_W} {A : Nat → Prop} (hP : va_P g.1 vwCl (wx ++ r) H) (hD : va_D A (wx ++ r)) (hS : va_S A s.heap H locs) : SubW g A s (wx ++ r) wx (List.range wx.length) H locs := by
  refine ⟨?_, nd_range _, hP, hD, hS⟩
  apply List.ext_getElem?
  intro i
  by_cases hi : i < wx.length
  · simp [hi, List.getElem?_append_left]
  · simp [hi]
theorem len_of {wx w1 : va_W} (h : w1.map Prod.fst = wx.map Prod.fst) : w1.length = wx.length := by have := congrArg List.length h; simpa using this
/-- a call on the first object of the world, some cells of which are no business of the callee -/
theorem wcall {α : Type} {vf : α → Option Value} {wf : α → va_W} {z : α} {wx r : va_W} {rm : Room} {y : MethodName} {bytes : ByteArray} {maxL n index b : Nat} {ret' : Option FieldType} {As : List Value} {fs : List Value} {ci : Nat} {Tt : u_T} {N : Nat}
    (C : Cx p s m args meth c A g "DecadeBridgeLaw" cc ret nL) (mf : MFV y bytes maxL ret' n) (hl : Cond.methodLink "DecadeBridgeLaw" index y ∈ TB)
    (hM : Met l y (wsY y bytes maxL ret') rm (CP g (.ref b :: As) wx) (CQ g (inW wx) vf wf z) 0 0 (inW wx))
    (hc0 : rm.cells = 0) (hs0 : rm.slots = 0) (hR : rm.frames + 1 ≤ R.frames ∧ 8 + (maxL + 11) + rm.locals ≤ R.locals) (hf : cells + 0 ≤ R.cells ∧ slots + 0 ≤ R.slots)
    (hP : va_P g.1 vwCl (wx ++ r) H) (hD : va_D A (wx ++ r)) (hS : va_S A s.heap H locs) (had : (wf z).map Prod.fst = wx.map Prod.fst) (hrec : wx[0]? = some (b, .inr (ci, fs))) (hcl : vwCl[ci]? = some (y.cls, Tt, N)) (hlv : lv_has ls nL lv) (hAs : As.length = n) (hst : st0 = As.reverse ++ .ref b :: rest) (hcat : (rest.map fun v => v.category).sum ≤ 8) (hdg : decode cc pc = .ok (.invokevirtual index, 3))
    (kk : ∀ (H1 : Heap) (locs1 : List Loc), va_P g.1 vwCl (wf z ++ r) H1 → va_D A (wf z ++ r) → va_S A s.heap H1 locs1 → W p l e R s m args below meth c H1 locs1 cells slots Q (F0 m (pc + 3) ls ((vf z).toList ++ rest))) : W p l e R s m args below meth c H locs cells slots Q (F0 m pc ls st0) := by
  have hB := sub_app (g := g) hP hD hS
  refine cg1 hB (run_v C mf hl hM hc0 hs0 hR hf hB hrec hcl hlv hAs hst hcat hdg) had (fun H1 locs1 h1 h2 h3 => kk H1 locs1 ?_ ?_ h3)
  · rw [splice_apR (len_of had)] at h1; exact h1
  · rw [splice_apR (len_of had)] at h2; exact h2
/-- a call that throws, and its catching -/
theorem wcatch {E0 : String} {wx wx1 r : va_W} {rm : Room} {y : MethodName} {bytes : ByteArray} {maxL n index b : Nat} {ret' : Option FieldType} {As : List Value} {fs : List Value} {ci : Nat} {Tt : u_T} {N : Nat} {hh : List (Nat × Nat × Nat × Nat)}
    (C : Cx p s m args meth c A g "DecadeBridgeLaw" cc ret nL) (hX : XW s) (htab : c.exceptionTable.toList = tableOf hh) (mf : MFV y bytes maxL ret' n) (hl : Cond.methodLink "DecadeBridgeLaw" index y ∈ TB)
    (hM : TMet l y bytes maxL ret' rm g (.ref b :: As) wx wx1 E0)
    (hc0 : rm.cells = 1) (hs0 : rm.slots = 6) (hR : rm.frames + 1 ≤ R.frames ∧ 8 + (maxL + 11) + rm.locals ≤ R.locals) (hf : cells + 1 ≤ R.cells ∧ slots + 6 ≤ R.slots)
    (hP : va_P g.1 vwCl (wx ++ r) H) (hD : va_D A (wx ++ r)) (hS : va_S A s.heap H locs) (had : wx1.map Prod.fst = wx.map Prod.fst) (hrec : wx[0]? = some (b, .inr (ci, fs))) (hcl : vwCl[ci]? = some (y.cls, Tt, N)) (hlv : lv_has ls nL lv) (hAs : As.length = n) (hst : st0 = As.reverse ++ .ref b :: rest) (hcat : (rest.map fun v => v.category).sum ≤ 8) (hdg : decode cc pc = .ok (.invokevirtual index, 3))
    (pre : List ExceptionTableEntry) (x : ExceptionTableEntry) (suf : List ExceptionTableEntry) (hsplit : tableOf hh = pre ++ x :: suf) (hpass : ∀ z ∈ pre, covers z pc = false ∨ (z.catchType ≠ 0 ∧ ∃ nm : String, (Cond.classLink "DecadeBridgeLaw" z.catchType nm).before args s = true ∧ va_Nc E0 nm s)) (hcov : covers x pc = true) (h0 : x.catchType ≠ 0)
    (hlink : Cond.classLink "DecadeBridgeLaw" x.catchType E0 ∈ TB) (hcast : Cond.castable E0 E0 ∈ xws)
    (kk : ∀ (q : Nat) (H1 : Heap) (locs1 : List Loc), va_P g.1 vwCl (wx1 ++ r) H1 → va_D A (wx1 ++ r) → va_S A s.heap H1 locs1 → W p l e R s m args below meth c H1 locs1 (cells + 1) (slots + 6) Q (F0 m x.handlerPc ls [.ref q])) : W p l e R s m args below meth c H locs cells slots Q (F0 m pc ls st0) := by
  obtain ⟨hx, hb, hrr, hml, hown, hlk, hts, hK, hZo, hZ⟩ := id C
  obtain ⟨mf1, mf2, mf3⟩ := mf
  have hB := sub_app (g := g) hP hD hS
  have hPc : va_P g.1 vwCl wx H := fun k q hk => by
    obtain ⟨i, -, h2⟩ := sub_at hB.1 hk
    exact hP i q h2
  have hr := vx_runV (p := p) (l := l) (e := e) (R := R) (s := s) (below := below) (meth := meth) (H := H) (locs := locs) (cells := cells) (slots := slots) (g := F0 m pc ls st0) (As := As) (rest := rest) (b := b) (n := n) (ret := ret') (maxL := maxL) (bytes := bytes) ⟨hx, hb, hml, hown, hts⟩ hM ⟨mkCBX hts mf1 hl hc0 hs0 hR, hts _ mf2, hts _ mf3⟩ ⟨CPX_blind _ _ _, va_recv hK hPc hcl hrec, pre_genX C hX hB⟩ rfl hAs hlv.1 hst (lv_room hcat) hdg hf
  obtain ⟨hC, hn, -, -, -⟩ := id hB
  intro T hT X
  rcases hr T hT X with ⟨v, st₀, t, T', L, h0, X', hL, e1, e2, hq, st⟩ | ⟨q, st₀, t, T', L, E, ce, h0', X', hL, e1, e2, ⟨hE, hb1, hz, hk⟩, hce, hcv, hcl', st⟩
  · exact hq.elim
  · rw [h0'] at hz hk
    subst hE
    have hin : ∀ q, inW wx q → A q := fun q ⟨k, ee, hk⟩ => by
      obtain ⟨i, -, h2⟩ := sub_at hC hk
      exact hD.2 i _ h2
    have hlen := len_of had
    have hm : (wx1 ++ r).map Prod.fst = (wx ++ r).map Prod.fst := by rw [List.map_append, List.map_append, had]
    have hP1 : va_P g.1 vwCl (wx1 ++ r) t.heap := by
      intro k q hq
      by_cases hki : k < wx.length
      · rw [List.getElem?_append_left (by omega)] at hq
        exact hb1 k q hq
      · rw [List.getElem?_append_right (by omega), hlen] at hq
        have hq2 : (wx ++ r)[k]? = some q := by rw [List.getElem?_append_right (by omega)]; exact hq
        have hl := (hP k q hq2).lt
        refine (hP k q hq2).kept (hk q.1 hl fun ⟨k2, ee, h⟩ => ?_)
        have hk2 : k2 < wx.length := (List.getElem?_eq_some_iff.mp h).1
        have h4 : (wx ++ r)[k2]? = some (q.1, ee) := by rw [List.getElem?_append_left hk2]; exact h
        have := hD.1 k k2 q (q.1, ee) hq2 h4 rfl
        omega
    have hSn : va_S A s.heap T'.heap (locs ++ L) := ⟨Nat.le_trans hS.1 (by rw [e1]; exact hz), fun q h1 h2 => by rw [e1, hk q (Nat.lt_of_lt_of_le h1 hS.1) (fun z => h2 (hin q z))]; exact hS.2.1 q h1 h2, fun q hq => by
      rcases List.mem_append.mp hq with h | h
      · exact hS.2.2 q h
      · exact hin _ (hL q h)⟩
    obtain ⟨t2, a1, b1⟩ := vx_catch (pc := pc) (ls := ls) (rest := rest) (cells := cells + 1) (slots := slots + 6) (Q := Q) hown pre x suf (htab.trans hsplit) hpass hcov h0 (hts _ hlink) (xw_args hX args _ hcast) (by rw [e1]; exact hce) hcv hcl' (kk q T'.heap (locs ++ L) (by rw [e1]; exact hP1) (D_of_map hm hD) hSn) T' rfl X'
    exact ⟨t2, st.trans a1, b1⟩
theorem endW {v : Int32} {own : String} (C : Cx p s m args meth c (inW ws) g own cc (some .int) nL) (hP : va_P g.1 vwCl w1 H) (hS : va_S (inW ws) s.heap H locs) (hdg : decode cc pc = .ok (.ireturn, 1)) : W p l e R s m args below meth c H locs cells slots (MQ below (CQ g (inW ws) (fun x : Int32 => some (.int x)) (fun _ => w1) v) args s cells slots (inW ws)) (F0 m pc ls [.int v]) := by
  obtain ⟨hx, hb, hr, hml, hown, hlk, hts, hK, hZo, hZ⟩ := C
  exact W.iret hx hb hr (fun t ht hW => ⟨rfl, by rw [ht]; exact hP, hS.F ht⟩) hS.2.2 hdg hlk
/-- the last cell of the world: an array of one long, of one double -/
theorem get_last {wx : va_W} {o : Nat × va_E} : (wx ++ [o])[wx.length]? = some o := by rw [List.getElem?_append_right (Nat.le_refl _), Nat.sub_self]; rfl
theorem set_last {wx : va_W} {o o' : Nat × va_E} : (wx ++ [o]).set wx.length o' = wx ++ [o'] := by
  rw [List.set_append_right _ _ (Nat.le_refl _), Nat.sub_self]; rfl
theorem stOut {wx : va_W} {own : String} {qo : Nat} {fo : LV} {x : Int64} (C : Cx p s m args meth c A g own cc ret nL) (hP : va_P g.1 vwCl (wx ++ [(qo, aL g 1 fo)]) H) (hD : va_D A (wx ++ [(qo, aL g 1 fo)])) (hS : va_S A s.heap H locs) (hdg : decode cc pc = .ok (.lastore, 1))
    (kk : ∀ (H1 : Heap) (locs1 : List Loc), va_P g.1 vwCl (wx ++ [(qo, aL g 1 (vp_updL fo 0 x))]) H1 → va_D A (wx ++ [(qo, aL g 1 (vp_updL fo 0 x))]) → va_S A s.heap H1 locs1 → W p l e R s m args below meth c H1 locs1 cells slots Q (F0 m (pc + 1) ls rest)) : W p l e R s m args below meth c H locs cells slots Q (F0 m pc ls (.long x :: .int 0 :: .ref qo :: rest)) := by
  refine stL C hP hD hS wx.length get_last (i := 0) (k := 0) (vp_of (by decide) (by decide)) rfl hdg (fun f' ef H1 locs1 h1 h2 h3 => ?_)
  subst ef
  rw [set_last] at h1 h2
  exact kk H1 locs1 h1 h2 h3
theorem stOutD {wx : va_W} {own : String} {qo : Nat} {fo : Nat → UInt64} {x : UInt64} (C : Cx p s m args meth c A g own cc ret nL) (hP : va_P g.1 vwCl (wx ++ [(qo, aD g 1 fo)]) H) (hD : va_D A (wx ++ [(qo, aD g 1 fo)])) (hS : va_S A s.heap H locs) (hdg : decode cc pc = .ok (.dastore, 1))
    (kk : ∀ (H1 : Heap) (locs1 : List Loc), va_P g.1 vwCl (wx ++ [(qo, aD g 1 (vf_upd fo 0 x))]) H1 → va_D A (wx ++ [(qo, aD g 1 (vf_upd fo 0 x))]) → va_S A s.heap H1 locs1 → W p l e R s m args below meth c H1 locs1 cells slots Q (F0 m (pc + 1) ls rest)) : W p l e R s m args below meth c H locs cells slots Q (F0 m pc ls (.double x :: .int 0 :: .ref qo :: rest)) := by
  obtain ⟨hx, hb, hrr, hml, hown, hlk, hts, hK, hZo, hZ⟩ := C
  refine va_dast hx hb hK hP hD hS wx.length 7 get_last rfl (vp_of (by decide) (by decide)) hdg (fun H1 locs1 h1 h2 h3 => ?_)
  rw [set_last] at h1 h2
  exact kk H1 locs1 h1 h2 h3
end
end TXC
