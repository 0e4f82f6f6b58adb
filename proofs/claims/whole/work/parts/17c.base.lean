section TZC
/-! ===== the law's own walk: the base ===== -/
abbrev AMet (l : Launch) (y : MethodName) (bytes : ByteArray) (maxL : Nat) (ret : Option FieldType) (rm : Room) (g : GX) (av : List Value) (X X' : va_W) (v : Option Value) : Prop := Met l y (wsY y bytes maxL ret) rm (CP g av X) (CQ g (inW X) (fun _ : Unit => v) (fun _ => X') ()) 0 0 (inW X)
theorem amet {l : Launch} {y : MethodName} {bytes : ByteArray} {maxL : Nat} {ret : Option FieldType} {rm : Room} {g : GX} {av : List Value} {X X' : va_W} {v : Option Value} {α : Type} {vf : α → Option Value} {wf : α → va_W} {z : α} (h : Met l y (wsY y bytes maxL ret) rm (CP g av X) (CQ g (inW X) vf wf z) 0 0 (inW X)) (hv : vf z = v) (hw : wf z = X') : AMet l y bytes maxL ret rm g av X X' v := by
  subst hv hw
  exact h
abbrev LW (g : GX) (X M : va_W) (qo : Nat) (fo : LV) (qd : Nat) (fd : Nat → UInt64) : va_W := X ++ ((qo, aL g 1 fo) :: (qd, aD g 1 fd) :: M)
section
variable {p : Program} {l : Launch} {e : Env} {R : Room} {s : State} {m : MethodId} {args : Array Value} {below : List Frame} {meth : Method} {c : Code} {H : Heap} {locs : List Loc} {cells slots : Nat} {Q : State → Prop} {g : GX} {pc : Nat} {ls : Array Slot} {rest st0 : List Value} {cc : ByteArray} {nL : Nat} {ret : Option FieldType} {lv : List (Nat × Value)} {A : Nat → Prop} {X X' M M' : va_W} {qo qd : Nat} {fo fo' : LV} {fd fd' : Nat → UInt64} {own : String}
theorem lw_eq : LW g X M qo fo qd fd = (X ++ [(qo, aL g 1 fo), (qd, aD g 1 fd)]) ++ M := (List.append_assoc X [(qo, aL g 1 fo), (qd, aD g 1 fd)] M).symm
theorem lw_eq1 : LW g X M qo fo qd fd = (X ++ [(qo, aL g 1 fo)]) ++ ((qd, aD g 1 fd) :: M) := (List.append_assoc X [(qo, aL g 1 fo)] ((qd, aD g 1 fd) :: M)).symm
theorem lw_pd : (LW g X M qo fo qd fd).Perm ((X ++ [(qd, aD g 1 fd)]) ++ ((qo, aL g 1 fo) :: M)) := by
  rw [show (X ++ [(qd, aD g 1 fd)]) ++ ((qo, aL g 1 fo) :: M) = X ++ ((qd, aD g 1 fd) :: (qo, aL g 1 fo) :: M) from List.append_assoc X [(qd, aD g 1 fd)] ((qo, aL g 1 fo) :: M)]
  exact (List.Perm.swap (qd, aD g 1 fd) (qo, aL g 1 fo) M).append_left X
/-- a call on the first object -/
theorem lX {v : Option Value} {rm : Room} {y : MethodName} {bytes : ByteArray} {maxL n index b : Nat} {ret' : Option FieldType} {As : List Value} {fs : List Value} {ci : Nat} {Tt : u_T} {N : Nat}
    (C : Cx p s m args meth c A g own cc ret nL) (mf : MFV y bytes maxL ret' n) (hl : Cond.methodLink own index y ∈ TB) (hM : AMet l y bytes maxL ret' rm g (.ref b :: As) X X' v)
    (hc0 : rm.cells = 0) (hs0 : rm.slots = 0) (hR : rm.frames + 1 ≤ R.frames ∧ 8 + (maxL + 11) + rm.locals ≤ R.locals) (hf : cells ≤ R.cells ∧ slots ≤ R.slots)
    (hP : va_P g.1 vwCl (LW g X M qo fo qd fd) H) (hD : va_D A (LW g X M qo fo qd fd)) (hS : va_S A s.heap H locs) (had : X'.map Prod.fst = X.map Prod.fst) (hrec : X[0]? = some (b, .inr (ci, fs))) (hcl : vwCl[ci]? = some (y.cls, Tt, N)) (hlv : lv_has ls nL lv) (hAs : As.length = n) (hst : st0 = As.reverse ++ .ref b :: rest) (hcat : (rest.map fun v => v.category).sum ≤ 8) (hdg : decode cc pc = .ok (.invokevirtual index, 3))
    (kk : ∀ (H1 : Heap) (locs1 : List Loc), va_P g.1 vwCl (LW g X' M qo fo qd fd) H1 → va_D A (LW g X' M qo fo qd fd) → va_S A s.heap H1 locs1 → W p l e R s m args below meth c H1 locs1 cells slots Q (F0 m (pc + 3) ls (v.toList ++ rest))) : W p l e R s m args below meth c H locs cells slots Q (F0 m pc ls st0) :=
  ocall (wx := X) (r := (qo, aL g 1 fo) :: (qd, aD g 1 fd) :: M) C mf hl hM hc0 hs0 hR hf hP hD hS had hrec hcl hlv hAs hst hcat hdg kk
/-- a call on the reference -/
theorem lM {v : Option Value} {rm : Room} {y : MethodName} {bytes : ByteArray} {maxL n index b : Nat} {ret' : Option FieldType} {As : List Value} {fs : List Value} {ci : Nat} {Tt : u_T} {N : Nat}
    (C : Cx p s m args meth c A g own cc ret nL) (mf : MFV y bytes maxL ret' n) (hl : Cond.methodLink own index y ∈ TB) (hM : AMet l y bytes maxL ret' rm g (.ref b :: As) M M' v)
    (hc0 : rm.cells = 0) (hs0 : rm.slots = 0) (hR : rm.frames + 1 ≤ R.frames ∧ 8 + (maxL + 11) + rm.locals ≤ R.locals) (hf : cells ≤ R.cells ∧ slots ≤ R.slots)
    (hP : va_P g.1 vwCl (LW g X M qo fo qd fd) H) (hD : va_D A (LW g X M qo fo qd fd)) (hS : va_S A s.heap H locs) (had : M'.map Prod.fst = M.map Prod.fst) (hrec : M[0]? = some (b, .inr (ci, fs))) (hcl : vwCl[ci]? = some (y.cls, Tt, N)) (hlv : lv_has ls nL lv) (hAs : As.length = n) (hst : st0 = As.reverse ++ .ref b :: rest) (hcat : (rest.map fun v => v.category).sum ≤ 8) (hdg : decode cc pc = .ok (.invokevirtual index, 3))
    (kk : ∀ (H1 : Heap) (locs1 : List Loc), va_P g.1 vwCl (LW g X M' qo fo qd fd) H1 → va_D A (LW g X M' qo fo qd fd) → va_S A s.heap H1 locs1 → W p l e R s m args below meth c H1 locs1 cells slots Q (F0 m (pc + 3) ls (v.toList ++ rest))) : W p l e R s m args below meth c H locs cells slots Q (F0 m pc ls st0) := by
  rw [lw_eq] at hP hD
  obtain ⟨hP, hD⟩ := va_perm (w' := M ++ (X ++ [(qo, aL g 1 fo), (qd, aD g 1 fd)])) List.perm_append_comm hP hD
  refine ocall (wx := M) (r := X ++ [(qo, aL g 1 fo), (qd, aD g 1 fd)]) C mf hl hM hc0 hs0 hR hf hP hD hS had hrec hcl hlv hAs hst hcat hdg (fun H1 locs1 hP hD hS => ?_)
  obtain ⟨hP, hD⟩ := va_perm (w' := (X ++ [(qo, aL g 1 fo), (qd, aD g 1 fd)]) ++ M') List.perm_append_comm hP hD
  rw [← lw_eq] at hP hD
  exact kk H1 locs1 hP hD hS
/-- a call on the first cells of the world, that may make a cell -/
theorem wcore {α : Type} {vf : α → Option Value} {wf : α → va_W} {z : α} {mc ms : Nat} {av : Array Value} {wx r : va_W} (hr : va_Run p l e R s m args below meth c H locs cells slots mc ms (F0 m pc ls st0) rest (CQ g (inW wx) vf wf z av) (inW wx))
    (hP : va_P g.1 vwCl (wx ++ r) H) (hD : va_D A (wx ++ r)) (hS : va_S A s.heap H locs) (had : (wf z).map Prod.fst = wx.map Prod.fst)
    (kk : ∀ (H1 : Heap) (locs1 : List Loc), va_P g.1 vwCl (wf z ++ r) H1 → va_D A (wf z ++ r) → va_S A s.heap H1 locs1 → W p l e R s m args below meth c H1 locs1 (cells + mc) (slots + ms) Q (F0 m (pc + 3) ls ((vf z).toList ++ rest))) : W p l e R s m args below meth c H locs cells slots Q (F0 m pc ls st0) := by
  intro T hT X
  obtain ⟨v, st₀, t, T', L, h0, X', hL, e1, e2, ⟨hv, hb1, hz, hk⟩, st⟩ := hr T hT X
  cases hv
  rw [h0] at hz hk
  have hin : ∀ q, inW wx q → A q := fun q ⟨k, ee, hk⟩ => hD.2 k (q, ee) (by rw [List.getElem?_append_left (List.getElem?_eq_some_iff.mp hk).1]; exact hk)
  have hlen := len_of had
  have hm : (wf z ++ r).map Prod.fst = (wx ++ r).map Prod.fst := by rw [List.map_append, List.map_append, had]
  have hP1 : va_P g.1 vwCl (wf z ++ r) t.heap := by
    intro k q hq
    by_cases hki : k < wx.length
    · rw [List.getElem?_append_left (by omega)] at hq
      exact hb1 k q hq
    · rw [List.getElem?_append_right (by omega), hlen] at hq
      have hq2 : (wx ++ r)[k]? = some q := by rw [List.getElem?_append_right (by omega)]; exact hq
      have hl := (hP k q hq2).lt
      refine (hP k q hq2).kept (hk q.1 hl fun ⟨k2, ee, h⟩ => ?_)
      have hk2 : k2 < wx.length := (List.getElem?_eq_some_iff.mp h).1
      have h4 : (wx ++ r)[k2]? = some (q.1, ee) := by rw [List.getElem?_append_left hk2]; exact h
      have := hD.1 k k2 q (q.1, ee) hq2 h4 rfl
      omega
  have hSn : va_S A s.heap T'.heap (locs ++ L) := ⟨Nat.le_trans hS.1 (by rw [e1]; exact hz), fun q h1 h2 => by rw [e1, hk q (Nat.lt_of_lt_of_le h1 hS.1) (fun z => h2 (hin q z))]; exact hS.2.1 q h1 h2, fun q hq => by
    rcases List.mem_append.mp hq with h | h
    · exact hS.2.2 q h
    · exact hin _ (hL q h)⟩
  obtain ⟨t2, a1, b1⟩ := kk T'.heap (locs ++ L) (by rw [e1]; exact hP1) (D_of_map hm hD) hSn T' rfl X'
  exact ⟨t2, st t2 a1, b1⟩
/-- a static call of a wrapper -/
theorem lS {w1 wx r : va_W} {k : Int32} {y : MethodName} {bytes : ByteArray} {maxL n index : Nat} {hh : List (Nat × Nat × Nat × Nat)} {As : List Value}
    (C : Cx p s m args meth c A g own cc ret nL) (hX : XW s) (mf : Cond.codeWith y bytes maxL (some .int) hh ∈ TB ∧ Cond.initialized y.cls ∈ TB ∧ Cond.static y ∈ TB ∧ (y.cls ≠ "java/lang/invoke/MethodHandle" ∧ y.cls ≠ "java/lang/invoke/VarHandle" ∧ (parseMethodDescriptor y.desc).map (fun d => d.parameters.length) = some n)) (hl : Cond.methodLink own index y ∈ TB) (hM : WMet l y bytes maxL hh rm_La g As wx w1 k)
    (hR : 9 ≤ R.frames ∧ maxL + 200 ≤ R.locals) (hf : cells + 1 ≤ R.cells ∧ slots + 6 ≤ R.slots)
    (hP : va_P g.1 vwCl (wx ++ r) H) (hD : va_D A (wx ++ r)) (hS : va_S A s.heap H locs) (had : w1.map Prod.fst = wx.map Prod.fst) (hlv : lv_has ls nL lv) (hAs : As.length = n) (hst : st0 = As.reverse ++ rest) (hcat : (rest.map fun v => v.category).sum ≤ 8) (hdg : decode cc pc = .ok (.invokestatic index, 3))
    (kk : ∀ (H1 : Heap) (locs1 : List Loc), va_P g.1 vwCl (w1 ++ r) H1 → va_D A (w1 ++ r) → va_S A s.heap H1 locs1 → W p l e R s m args below meth c H1 locs1 (cells + 1) (slots + 6) Q (F0 m (pc + 3) ls (.int k :: rest))) : W p l e R s m args below meth c H locs cells slots Q (F0 m pc ls st0) := by
  obtain ⟨hx, hb, hrr, hml, hown, hlk, hts, hK, hZo, hZ⟩ := id C
  obtain ⟨m1, m2, m3, m4, m5, m6⟩ := mf
  have hB := sub_app (g := g) hP hD hS
  have hG : GoodIn TB (wsH y bytes maxL hh) := fun w hw => by
    rcases List.mem_cons.mp hw with rfl | hw
    · exact ⟨m1, TBgood _ m1⟩
    · exact ⟨hw, TBgood _ hw⟩
  have cw : vx_CSW R s args own index y bytes maxL (some .int) hh (wsH y bytes maxL hh) rm_La 1 6 n := by
    refine ⟨⟨rfl, rfl, hR.1, ?_, pay_in hts hG, List.mem_cons_self⟩, hts _ m1, hts _ m2, ⟨m4, m5⟩, fun sig h => ?_, hts _ hl, hts _ m3⟩
    · show 8 + (maxL + 11) + 180 ≤ R.locals
      have := hR.2
      omega
    · rw [h] at m6
      exact (Option.some.inj m6).symm
  exact wcore (vx_runSW (p := p) (l := l) (e := e) (R := R) (s := s) (below := below) (meth := meth) (H := H) (locs := locs) (cells := cells) (slots := slots) (g := F0 m pc ls st0) (As := As) (rest := rest) ⟨hx, hb, hml, hown, hts⟩ hM cw ⟨CPX_blind _ _ _, pre_genX C hX hB⟩ rfl hAs hlv.1 hst (lv_room hcat) hdg hf) hP hD hS had kk
theorem had_o {wa wb : va_W} {o o' : Nat × va_E} (h : wa.map Prod.fst = wb.map Prod.fst) (ho : o.1 = o'.1) : (wa ++ [o]).map Prod.fst = (wb ++ [o']).map Prod.fst := by
  rw [List.map_append, List.map_append, h, List.map_singleton, List.map_singleton, ho]
/-- a wrapper with the row of one long -/
theorem lWo {k : Int32} {y : MethodName} {bytes : ByteArray} {maxL n index : Nat} {hh : List (Nat × Nat × Nat × Nat)} {As : List Value}
    (C : Cx p s m args meth c A g own cc ret nL) (hX : XW s) (mf : Cond.codeWith y bytes maxL (some .int) hh ∈ TB ∧ Cond.initialized y.cls ∈ TB ∧ Cond.static y ∈ TB ∧ (y.cls ≠ "java/lang/invoke/MethodHandle" ∧ y.cls ≠ "java/lang/invoke/VarHandle" ∧ (parseMethodDescriptor y.desc).map (fun d => d.parameters.length) = some n)) (hl : Cond.methodLink own index y ∈ TB) (hM : WMet l y bytes maxL hh rm_La g As (X ++ [(qo, aL g 1 fo)]) (X' ++ [(qo, aL g 1 fo')]) k)
    (hR : 9 ≤ R.frames ∧ maxL + 200 ≤ R.locals) (hf : cells + 1 ≤ R.cells ∧ slots + 6 ≤ R.slots)
    (hP : va_P g.1 vwCl (LW g X M qo fo qd fd) H) (hD : va_D A (LW g X M qo fo qd fd)) (hS : va_S A s.heap H locs) (had : X'.map Prod.fst = X.map Prod.fst) (hlv : lv_has ls nL lv) (hAs : As.length = n) (hst : st0 = As.reverse ++ rest) (hcat : (rest.map fun v => v.category).sum ≤ 8) (hdg : decode cc pc = .ok (.invokestatic index, 3))
    (kk : ∀ (H1 : Heap) (locs1 : List Loc), va_P g.1 vwCl (LW g X' M qo fo' qd fd) H1 → va_D A (LW g X' M qo fo' qd fd) → va_S A s.heap H1 locs1 → W p l e R s m args below meth c H1 locs1 (cells + 1) (slots + 6) Q (F0 m (pc + 3) ls (.int k :: rest))) : W p l e R s m args below meth c H locs cells slots Q (F0 m pc ls st0) := by
  rw [lw_eq1] at hP hD
  refine lS C hX mf hl hM hR hf hP hD hS (had_o had rfl) hlv hAs hst hcat hdg (fun H1 locs1 hP hD hS => ?_)
  rw [← lw_eq1] at hP hD
  exact kk H1 locs1 hP hD hS
/-- a wrapper with the row of one double -/
theorem lWd {k : Int32} {y : MethodName} {bytes : ByteArray} {maxL n index : Nat} {hh : List (Nat × Nat × Nat × Nat)} {As : List Value}
    (C : Cx p s m args meth c A g own cc ret nL) (hX : XW s) (mf : Cond.codeWith y bytes maxL (some .int) hh ∈ TB ∧ Cond.initialized y.cls ∈ TB ∧ Cond.static y ∈ TB ∧ (y.cls ≠ "java/lang/invoke/MethodHandle" ∧ y.cls ≠ "java/lang/invoke/VarHandle" ∧ (parseMethodDescriptor y.desc).map (fun d => d.parameters.length) = some n)) (hl : Cond.methodLink own index y ∈ TB) (hM : WMet l y bytes maxL hh rm_La g As (X ++ [(qd, aD g 1 fd)]) (X' ++ [(qd, aD g 1 fd')]) k)
    (hR : 9 ≤ R.frames ∧ maxL + 200 ≤ R.locals) (hf : cells + 1 ≤ R.cells ∧ slots + 6 ≤ R.slots)
    (hP : va_P g.1 vwCl (LW g X M qo fo qd fd) H) (hD : va_D A (LW g X M qo fo qd fd)) (hS : va_S A s.heap H locs) (had : X'.map Prod.fst = X.map Prod.fst) (hlv : lv_has ls nL lv) (hAs : As.length = n) (hst : st0 = As.reverse ++ rest) (hcat : (rest.map fun v => v.category).sum ≤ 8) (hdg : decode cc pc = .ok (.invokestatic index, 3))
    (kk : ∀ (H1 : Heap) (locs1 : List Loc), va_P g.1 vwCl (LW g X' M qo fo qd fd') H1 → va_D A (LW g X' M qo fo qd fd') → va_S A s.heap H1 locs1 → W p l e R s m args below meth c H1 locs1 (cells + 1) (slots + 6) Q (F0 m (pc + 3) ls (.int k :: rest))) : W p l e R s m args below meth c H locs cells slots Q (F0 m pc ls st0) := by
  obtain ⟨hP, hD⟩ := va_perm lw_pd hP hD
  refine lS C hX mf hl hM hR hf hP hD hS (had_o had rfl) hlv hAs hst hcat hdg (fun H1 locs1 hP hD hS => ?_)
  obtain ⟨hP, hD⟩ := va_perm (lw_pd (g := g) (X := X') (M := M) (qo := qo) (fo := fo) (qd := qd) (fd := fd')).symm hP hD
  exact kk H1 locs1 hP hD hS
theorem lw_o : (LW g X M qo fo qd fd)[X.length]? = some (qo, aL g 1 fo) := by
  rw [List.getElem?_append_right (Nat.le_refl _), Nat.sub_self]; rfl
theorem lw_d : (LW g X M qo fo qd fd)[X.length + 1]? = some (qd, aD g 1 fd) := by
  rw [List.getElem?_append_right (by omega), Nat.add_sub_cancel_left]; rfl
/-- the script, k places on -/
theorem ldSc {b L i k : Nat} {kv : Int} {xs : Nat → Int32} {v5 : Int32} (C : Cx p s m args meth c A g own code ret nL) (hX : va_X b L xs s s.heap) (hbl : b < s.heap.size) (hbA : ¬ A b) (hS : va_S A s.heap H locs) (h0 : ls[0]? = some (.val (.ref b))) (h5 : ls[5]? = some (.val (.int v5))) (hv5 : v5 = nI i) (hik : i + k < L) (hL : L ≤ 3072)
    (d0 : decode code pc = .ok (.aload_n 0, 1)) (d1 : decode code (pc + 1) = .ok (.iload 5, 2)) (d3 : decode code (pc + 3) = .ok (.iconst kv, 1)) (hkv : Int32.ofInt kv = nI k) (d4 : decode code (pc + 4) = .ok (.iadd, 1)) (d5 : decode code (pc + 5) = .ok (.iaload, 1))
    (kk : W p l e R s m args below meth c H locs cells slots Q (F0 m (pc + 6) ls (.int (xs (i + k)) :: rest))) : W p l e R s m args below meth c H locs cells slots Q (F0 m pc ls rest) := by
  obtain ⟨hx, hb, hrr, hml, hown, hlk, hts, hK, hZo, hZ⟩ := id C
  subst hv5
  refine lv_aload_n hx hb d0 rfl h0 ?_
  refine lv_iload hx hb d1 h5 ?_
  refine lv_iconst (v := nI k) hx hb d3 hkv ?_
  refine lv_iadd hx hb d4 ?_
  rw [nzadd i k (by omega)]
  refine va_sld hx hb hX hbl hbA hS (vp_nI hik (by omega)) d5 ?_
  rw [cl_nI (by omega)]
  exact kk
def bZ (x : Int32) : Int32 := if x = 0 then 0 else 1
/-- .. as a truth value -/
theorem ldBo {x : Int32} {o1 o2 : Int} (C : Cx p s m args meth c A g own code ret nL) (d6 : decode code pc = .ok (.ifCond .eq o1, 3)) (t6 : (pc : Int) + o1 = ((pc + 7 : Nat) : Int)) (d9 : decode code (pc + 3) = .ok (.iconst 1, 1)) (d10 : decode code (pc + 4) = .ok (.goto o2, 3)) (t10 : ((pc + 4 : Nat) : Int) + o2 = ((pc + 8 : Nat) : Int)) (d13 : decode code (pc + 7) = .ok (.iconst 0, 1))
    (kk : W p l e R s m args below meth c H locs cells slots Q (F0 m (pc + 8) ls (.int (bZ x) :: rest))) : W p l e R s m args below meth c H locs cells slots Q (F0 m pc ls (.int x :: rest)) := by
  obtain ⟨hx, hb, hrr, hml, hown, hlk, hts, hK, hZo, hZ⟩ := id C
  refine lv_if_eq hx hb d6 t6 (fun h => ?_) (fun h => ?_)
  · refine lv_iconst (v := 0) hx hb d13 (by decide) ?_
    unfold bZ at kk
    rw [if_pos h] at kk
    exact kk
  · refine lv_iconst (v := 1) hx hb d9 (by decide) ?_
    refine lv_goto hx hb d10 t10 ?_
    unfold bZ at kk
    rw [if_neg h] at kk
    exact kk
theorem lg_cmp_self (x : Int64) : lg_cmp x x = 0 := by
  unfold lg_cmp
  rw [if_neg (show ¬ x > x from fun h => absurd (Int64.lt_iff_toInt_lt.mp h) (Int.lt_irrefl _)), if_pos rfl]
end
end TZC
