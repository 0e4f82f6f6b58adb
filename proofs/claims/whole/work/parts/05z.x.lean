/-! ===== options, pools, wide constants ===== -/
section B5
variable {p : Program} {l : Launch} {e : Env} {R : Room} {s : State} {m : MethodId} {args : Array Value} {below : List Frame} {meth : Method} {c : Code} {H : Heap} {locs : List Loc} {cells slots : Nat} {Q : State → Prop} {A : Nat → Prop} {g : GX} {pc : Nat} {ls : Array Slot} {rest st0 : List Value}
theorem ldcw_str {Q1 : Unit → Pre} {E1 : CtlPost} {d1 : Bool} {acts : List Action} {f : JFrame} {index i a : Nat} {k : Class} {cf : ClassFile}
    (hs : s.topJava?.isSome) (hk : s.vm.classes[f.method.cls]? = some k) (hcf : k.cf = some cf) (hc : cf.constantPool[index]? = some (.string i))
    (hr : k.resolved[index]? = some (some (.string a))) :
    wp (ldc_w.sem index) Q1 E1 e d1 acts (s.setTop f) ↔ Q1 () true acts (s.setTop { f with stack := .ref a :: f.stack }) := ldc.wp_string hs hk hcf hc hr
theorem va_ldcwS (hexec : p.tables.exec = Jvm.exec) {cc : ByteArray} (hb : c.code = cc) {own tx : String} {index q : Nat} (hown : s.vm.findClass own = some m.cls) (hZ : vk_R own index tx q s) (hdg : decode cc pc = .ok (.ldc_w index, 3))
    (k : W p l e R s m args below meth c H locs cells slots Q (F0 m (pc + 3) ls (.ref q :: rest))) : W p l e R s m args below meth c H locs cells slots Q (F0 m pc ls rest) := by
  intro T hT X
  obtain ⟨t, a1, b1⟩ := k T hT X
  refine ⟨t, ?_, b1⟩
  obtain ⟨k, cf, i, a', hk, hcf, hcp, -, hr, hev'⟩ := Cond.stringRef_spec hown hZ.1
  cases hZ.2.symm.trans hev'
  obtain ⟨k', hk', he⟩ := X.warmed.alike.2.2 _ _ hk
  have hr' : k'.resolved[index]? = some (some (.string q)) := by
    rcases X.warmed.entry hk hk' index with h | ⟨h, -⟩
    · rw [h]; exact hr
    · rw [hr] at h; cases h
  subst hb
  jvm_step X.here [hexec, hdg, ldcw_str (e := e) (s := T) (f := F0 m pc ls rest) X.here.top hk' (by rw [he]; exact hcf) hcp hr']
  exact a1
def optt {α : Sort _} {β : Sort _} (o : Option α) (a : β) (f : α → β) : β := match o with
  | none => a
  | some k => f k
theorem optt_n {α β : Type} {z a : β} {f : α → β} (hz : z = optt none a f) : z = a := hz
theorem optt_s {α β : Type} {z a : β} {k : α} {f : α → β} (hz : z = optt (some k) a f) : z = f k := hz
def fset {α : Type} (f : Nat → α) (k : Nat) (v : α) : Nat → α := fun j => if j = k then v else f j
theorem vi_lt {i : Int32} {n : Nat} (h : vp_in i n) : i.toNatClampNeg < n := Nat.not_le.mp fun q => h (Or.inr q)
theorem cP {ws ws' : va_W} (h : ws = ws') (hP : va_P g.1 vwCl ws H) : va_P g.1 vwCl ws' H := by subst h; exact hP
theorem cD {ws ws' : va_W} (h : ws = ws') (hD : va_D A ws) : va_D A ws' := by subst h; exact hD
def CO (g : GX) (ws : va_W) (Rf : Nat → Nat) (z : Option Nat) : Array Value → State → Outcome → State → Prop := CQ g (inW ws) (fun x : Option Nat => some (va_rf (Option.map Rf x))) (fun _ => ws) z
theorem goO0 {Rf : Nat → Nat} {z : Option Nat} {wc ws : va_W} {av : Array Value} {is : List Nat} (hB : SubW g A s ws wc is H locs) (hr : va_Run p l e R s m args below meth c H locs cells slots 0 0 (F0 m pc ls st0) rest (CO g wc Rf z av) (inW wc))
    (kk : ∀ (r : Option Nat), r = z → ∀ (H1 : Heap) (locs1 : List Loc), va_P g.1 vwCl ws H1 → va_S A s.heap H1 locs1 → W p l e R s m args below meth c H1 locs1 cells slots Q (F0 m (pc + 3) ls (va_rf (Option.map Rf r) :: rest))) : W p l e R s m args below meth c H locs cells slots Q (F0 m pc ls st0) := cg0 hB hr (fun H1 locs1 h1 h2 => kk z rfl H1 locs1 h1 h2)
theorem endO0 {Rf : Nat → Nat} {z o : Option Nat} {rt : FieldType} {ws : va_W} {own : String} {cc : ByteArray} {nL : Nat} (C : Cx p s m args meth c (inW ws) g own cc (some rt) nL) (hrt : (∃ n, rt = .object n) ∨ ∃ t, rt = .array t) (hz : z = o) (hP : va_P g.1 vwCl ws H) (hS : va_S (inW ws) s.heap H locs) (hdg : decode cc pc = .ok (.areturn, 1)) : W p l e R s m args below meth c H locs cells slots (MQ below (CO g ws Rf z) args s cells slots (inW ws)) (F0 m pc ls [va_rf (Option.map Rf o)]) := by
  obtain ⟨hx, hb, hr, hml, hown, hlk, hts, hK, hZo, hZ⟩ := C
  refine W.aret hx hb hr hrt ?_ (fun t ht hW => ⟨by rw [hz], by rw [ht]; exact hP, hS.F ht⟩) hS.2.2 hdg hlk
  cases o with
  | none => exact Or.inl rfl
  | some k => exact Or.inr ⟨_, rfl⟩
/-- a call on one of the cells, wherever it lies -/
theorem run_p {Qc : Array Value → State → Outcome → State → Prop} {wc ws : va_W} {rm : Room} {y : MethodName} {bytes cc : ByteArray} {maxL nL n index b q0 : Nat} {ret retM : Option FieldType} {own : String} {As : List Value} {lv : List (Nat × Value)} {fs : List Value} {ci : Nat} {T : u_T} {N : Nat} {is : List Nat}
    (C : Cx p s m args meth c A g own cc retM nL) (mf : MFV y bytes maxL ret n) (hl : Cond.methodLink own index y ∈ TB)
    (hM : Met l y (wsY y bytes maxL ret) rm (CP g (.ref b :: As) wc) Qc 0 0 (inW wc))
    (hc0 : rm.cells = 0) (hs0 : rm.slots = 0) (hR : rm.frames + 1 ≤ R.frames ∧ 8 + (maxL + 11) + rm.locals ≤ R.locals) (hf : cells + 0 ≤ R.cells ∧ slots + 0 ≤ R.slots)
    (hB : SubW g A s ws wc is H locs) (hrec : wc[q0]? = some (b, .inr (ci, fs))) (hcl : vwCl[ci]? = some (y.cls, T, N)) (hlv : lv_has ls nL lv) (hAs : As.length = n) (hst : st0 = As.reverse ++ .ref b :: rest) (hcat : (rest.map fun v => v.category).sum ≤ 8) (hdg : decode cc pc = .ok (.invokevirtual index, 3)) :
    va_Run p l e R s m args below meth c H locs cells slots 0 0 (F0 m pc ls st0) rest (Qc (Value.ref b :: As).toArray) (inW wc) := by
  have hPc : va_P g.1 vwCl wc H := fun k q hk => by
    obtain ⟨i, -, h2⟩ := sub_at hB.1 hk
    exact hB.2.2.1 i q h2
  obtain ⟨cell, h1, h2, h3⟩ := va_recv C.2.2.2.2.2.2.2.1 hPc hcl hrec
  exact run_q C mf hl hM hc0 hs0 hR hf hB ⟨cell, h1, h2, h3⟩ hlv hAs hst hcat hdg
end B5
