section TYA
/-! ===== constructors: the base ===== -/
def AOW (U : State) : Prop := (va_AO "DecadeBridge$Result" U ∧ va_AO "DecadeBridge$Bench" U ∧ va_AO "java/lang/String" U) ∧ va_Nw (.methodLinkNest "DecadeBridge" 9 y_Te_init "DecadeBridge") U ∧ va_Nw (.methodLinkNest "DecadeBridge$Parts" 20 y_He_init "DecadeBridge") U ∧ va_Nw (.methodLinkNest "DecadeBridge$Results" 17 y_Rt_init "DecadeBridge") U ∧ va_Nw (.methodLinkNest "DecadeBridge" 57 y_Re_init "DecadeBridge") U
theorem aow_moved {u U : State} (hW : u.WarmedH U.vm) (h : AOW u) : AOW U := ⟨⟨va_AO.moved hW.alike h.1.1, va_AO.moved hW.alike h.1.2.1, va_AO.moved hW.alike h.1.2.2⟩, va_Nw.warmM hW h.2.1, va_Nw.warmM hW h.2.2.1, va_Nw.warmM hW h.2.2.2.1, va_Nw.warmM hW h.2.2.2.2⟩
def CPN (g : GX) (av : List Value) (ws : va_W) (sz : Nat) : Array Value → State → Prop := va_Pc av (fun U => U.heap.size = sz ∧ va_P g.1 vwCl ws U.heap ∧ KK g U ∧ va_D (fun _ => True) ws ∧ ZOk g ∧ g.2.2.1 (va_A ws sz) U U.heap ∧ AOW U)
def CQN (g : GX) (ws : va_W) (sz : Nat) (Post : va_W → Prop) : Array Value → State → Outcome → State → Prop := fun _ st oc t => oc = .returned none ∧ (∃ w1 : va_W, Post w1 ∧ va_P g.1 vwCl w1 t.heap ∧ va_D (va_A ws sz) w1) ∧ va_F (va_A ws sz) st t
theorem CPN_blind (g : GX) (av : List Value) (ws : va_W) (sz : Nat) : FrameBlind (CPN g av ws sz) := by
  intro a U gg mk h
  obtain ⟨h0, h1, h2, h3, h4, h5, h6, h7⟩ := h
  exact ⟨h0, h1, h2, va_K.moved (u := U) (U := U.calling gg mk a) (Vm.Alike.refl U.vm) h3, h4, h5, h5.2.1 _ U (U.calling gg mk a) _ rfl h6, aow_moved (u := U) (U := U.calling gg mk a) (State.WarmedH.refl U) h7⟩
abbrev NMet (l : Launch) (y : MethodName) (bytes : ByteArray) (maxL : Nat) (rm : Room) (g : GX) (av : List Value) (ws : va_W) (sz : Nat) (Post : va_W → Prop) (mc ms : Nat) : Prop := Met l y (wsY y bytes maxL none) rm (CPN g av ws sz) (CQN g ws sz Post) mc ms (va_A ws sz)
theorem enterN {p : Program} {l : Launch} {e : Env} {s s₁ : State} {m : MethodId} {args : Array Value} {below : List Frame} {meth : Method} {c : Code} {g : GX} {y : MethodName} {bytes : ByteArray} {maxL sz : Nat} {rm : Room} {av : List Value} {ws : va_W} (own : String) (ho : y.cls = own) (hn : y.name = "<init>") (B : BodyLoose p l y (headSpec (wsY y bytes maxL none) rm) bytes maxL none e s m args below meth c s₁) (hml : c.maxLocals = maxL) (hv : CPN g av ws sz args s) :
    sz = s.heap.size ∧ args = av.toArray ∧ Cx p s m args meth c (va_A ws s.heap.size) g own bytes none maxL ∧ meth.name = "<init>" ∧ AOW s ∧ va_P g.1 vwCl ws s.heap ∧ va_D (va_A ws s.heap.size) ws ∧ va_S (va_A ws s.heap.size) s.heap s.heap [] ∧ (∀ q : Nat, s.heap.size ≤ q → va_A ws s.heap.size q) := by
  obtain ⟨h0, h1, h2, h3, h4, h5, h6, h7⟩ := hv
  subst h1
  have hts := atoms_spec (ws := wsY y bytes maxL none) B.pre
  exact ⟨rfl, h0, ⟨B.exec, B.bytes, B.returns, hml, by rw [← ho]; exact findClass_of_methodNamed B.named, B.notSynchronized, fun w hw => hts w (List.mem_cons_of_mem _ hw), h3, h5, h6⟩, by rw [← hn]; exact (name_of_methodNamed B.named B.method).1, h7, h2, h4.self, va_S.rf, fun q hq => Or.inr hq⟩
theorem oi_tb : Cond.instanceMethod Lib.objectInit ∈ TB ∧ Cond.code Lib.objectInit { data := #[177] } 1 none ∈ TB := ⟨tb_all (by decide +kernel) rfl, tb_all (by decide +kernel) rfl⟩
section
variable {p : Program} {l : Launch} {e : Env} {R : Room} {s : State} {m : MethodId} {args : Array Value} {below : List Frame} {meth : Method} {c : Code} {H : Heap} {locs : List Loc} {cells slots : Nat} {Q : State → Prop} {g : GX} {pc : Nat} {ls : Array Slot} {rest st0 : List Value} {cc : ByteArray} {nL : Nat} {ret : Option FieldType} {ws w0 w1 : va_W} {lv : List (Nat × Value)} {A : Nat → Prop} {own : String}
theorem objI {idx a : Nat} (C : Cx p s m args meth c A g own cc ret nL) (hl : Cond.methodLink own idx Lib.objectInit ∈ TB) (hlv : lv_has ls nL lv) (hdg : decode cc pc = .ok (.invokespecial idx, 3)) (hR : 1 ≤ R.frames ∧ 12 + (rest.map fun v => v.category).sum ≤ R.locals)
    (kk : W p l e R s m args below meth c H locs cells slots Q (F0 m (pc + 3) ls rest)) : W p l e R s m args below meth c H locs cells slots Q (F0 m pc ls (.ref a :: rest)) := by
  obtain ⟨hx, hb, hr, hml, hown, hlk, hts, hK, hZo, hZ⟩ := C
  refine W.objInit hx hb hown (hts _ hl) (hts _ oi_tb.1) (hts _ oi_tb.2) rfl (hlv.1.trans hml.symm) rfl hdg hR.1 ?_ ?_
  · show 2 * 0 + _ + 12 ≤ _; omega
  · exact W.eq (g2 := F0 m (pc + 3) ls rest) rfl kk
theorem cA_of {k : Nat} {cA : ClassId} {ty : FieldType} (hK : KK g s) (hK2 : va_K g.1 vwCl (tyL g.2.1 ++ [(cA, ty)]) s) (h1 : (tyL g.2.1)[k]? = some (g.2.1 k, ty)) (h2 : ∀ U c1 c2, va_RA U c1 ty → va_RA U c2 ty → c1 = c2) : cA = g.2.1 k :=
  h2 s _ _ (hK2.2 8 _ rfl).2 (hK.2 k _ h1).2
theorem newI {n : Int32} {N : Nat} (C : Cx p s m args meth c A g own cc ret nL) (hP : va_P g.1 vwCl ws H) (hD : va_D A ws) (hS : va_S A s.heap H locs) (hA : ∀ q : Nat, s.heap.size ≤ q → A q) (ht : Cond.arrayClass .int ∈ TB) (hn : ¬ n < 0) (hN : n.toNatClampNeg = N) (hbytes : N ≤ 10000) (hcells : cells + 1 ≤ R.cells) (hslots : slots + N ≤ R.slots) (hdg : decode cc pc = .ok (.newarray .int, 2))
    (kk : ∀ (q : Nat) (H1 : Heap), va_P g.1 vwCl (ws ++ [(q, aI g N (fun _ => 0))]) H1 → va_D A (ws ++ [(q, aI g N (fun _ => 0))]) → va_S A s.heap H1 locs → W p l e R s m args below meth c H1 locs (cells + 1) (slots + N) Q (F0 m (pc + 2) ls (.ref q :: rest))) : W p l e R s m args below meth c H locs cells slots Q (F0 m pc ls (.int n :: rest)) := by
  obtain ⟨hx, hb, hr, hml, hown, hlk, hts, hK, hZo, hZ⟩ := C
  refine va_newa (atype := .int) (ty := .int) (a0 := (N, .inl (fun _ => 0))) hx hb (hts _ ht) rfl hK hP hD hS hA (fun _ => rfl) hn hN (by show N * 4 ≤ _; omega) hcells hslots hdg (fun q cA H1 hK2 h1 h2 h3 => ?_)
  have e1 := cA_of (k := 0) hK hK2 rfl (fun U c1 c2 a b => Option.some.inj (a.symm.trans b))
  subst e1
  exact kk q H1 h1 h2 h3
theorem newL {n : Int32} {N : Nat} (C : Cx p s m args meth c A g own cc ret nL) (hP : va_P g.1 vwCl ws H) (hD : va_D A ws) (hS : va_S A s.heap H locs) (hA : ∀ q : Nat, s.heap.size ≤ q → A q) (ht : Cond.arrayClass .long ∈ TB) (hn : ¬ n < 0) (hN : n.toNatClampNeg = N) (hbytes : N ≤ 10000) (hcells : cells + 1 ≤ R.cells) (hslots : slots + N ≤ R.slots) (hdg : decode cc pc = .ok (.newarray .long, 2))
    (kk : ∀ (q : Nat) (H1 : Heap), va_P g.1 vwCl (ws ++ [(q, aL g N (fun _ => 0))]) H1 → va_D A (ws ++ [(q, aL g N (fun _ => 0))]) → va_S A s.heap H1 locs → W p l e R s m args below meth c H1 locs (cells + 1) (slots + N) Q (F0 m (pc + 2) ls (.ref q :: rest))) : W p l e R s m args below meth c H locs cells slots Q (F0 m pc ls (.int n :: rest)) := by
  obtain ⟨hx, hb, hr, hml, hown, hlk, hts, hK, hZo, hZ⟩ := C
  refine va_newa (atype := .long) (ty := .long) (a0 := (N, .inr (.inl (fun _ => 0)))) hx hb (hts _ ht) rfl hK hP hD hS hA (fun _ => rfl) hn hN (by show N * 8 ≤ _; omega) hcells hslots hdg (fun q cA H1 hK2 h1 h2 h3 => ?_)
  have e1 := cA_of (k := 1) hK hK2 rfl (fun U c1 c2 a b => Option.some.inj (a.symm.trans b))
  subst e1
  exact kk q H1 h1 h2 h3
theorem newB {n : Int32} {N : Nat} (C : Cx p s m args meth c A g own cc ret nL) (hP : va_P g.1 vwCl ws H) (hD : va_D A ws) (hS : va_S A s.heap H locs) (hA : ∀ q : Nat, s.heap.size ≤ q → A q) (ht : Cond.arrayClass .byte ∈ TB) (hn : ¬ n < 0) (hN : n.toNatClampNeg = N) (hbytes : N ≤ 10000) (hcells : cells + 1 ≤ R.cells) (hslots : slots + N ≤ R.slots) (hdg : decode cc pc = .ok (.newarray .byte, 2))
    (kk : ∀ (q : Nat) (H1 : Heap), va_P g.1 vwCl (ws ++ [(q, aB g N (fun _ => 0))]) H1 → va_D A (ws ++ [(q, aB g N (fun _ => 0))]) → va_S A s.heap H1 locs → W p l e R s m args below meth c H1 locs (cells + 1) (slots + N) Q (F0 m (pc + 2) ls (.ref q :: rest))) : W p l e R s m args below meth c H locs cells slots Q (F0 m pc ls (.int n :: rest)) := by
  obtain ⟨hx, hb, hr, hml, hown, hlk, hts, hK, hZo, hZ⟩ := C
  refine va_newa (atype := .byte) (ty := .byte) (a0 := (N, .inl (fun _ => 0))) hx hb (hts _ ht) rfl hK hP hD hS hA (fun _ => rfl) hn hN (by show N * 1 ≤ _; omega) hcells hslots hdg (fun q cA H1 hK2 h1 h2 h3 => ?_)
  have e1 := cA_of (k := 2) hK hK2 rfl (fun U c1 c2 a b => Option.some.inj (a.symm.trans b))
  subst e1
  exact kk q H1 h1 h2 h3
theorem newZ {n : Int32} {N : Nat} (C : Cx p s m args meth c A g own cc ret nL) (hP : va_P g.1 vwCl ws H) (hD : va_D A ws) (hS : va_S A s.heap H locs) (hA : ∀ q : Nat, s.heap.size ≤ q → A q) (ht : Cond.arrayClass .boolean ∈ TB) (hn : ¬ n < 0) (hN : n.toNatClampNeg = N) (hbytes : N ≤ 10000) (hcells : cells + 1 ≤ R.cells) (hslots : slots + N ≤ R.slots) (hdg : decode cc pc = .ok (.newarray .boolean, 2))
    (kk : ∀ (q : Nat) (H1 : Heap), va_P g.1 vwCl (ws ++ [(q, aZ g N (fun _ => 0))]) H1 → va_D A (ws ++ [(q, aZ g N (fun _ => 0))]) → va_S A s.heap H1 locs → W p l e R s m args below meth c H1 locs (cells + 1) (slots + N) Q (F0 m (pc + 2) ls (.ref q :: rest))) : W p l e R s m args below meth c H locs cells slots Q (F0 m pc ls (.int n :: rest)) := by
  obtain ⟨hx, hb, hr, hml, hown, hlk, hts, hK, hZo, hZ⟩ := C
  refine va_newa (atype := .boolean) (ty := .boolean) (a0 := (N, .inl (fun _ => 0))) hx hb (hts _ ht) rfl hK hP hD hS hA (fun _ => rfl) hn hN (by show N * 1 ≤ _; omega) hcells hslots hdg (fun q cA H1 hK2 h1 h2 h3 => ?_)
  have e1 := cA_of (k := 3) hK hK2 rfl (fun U c1 c2 a b => Option.some.inj (a.symm.trans b))
  subst e1
  exact kk q H1 h1 h2 h3
/-- an array of references -/
theorem newQ {n : Int32} {N index k : Nat} {Cn : String} (C : Cx p s m args meth c A g own cc ret nL) (hP : va_P g.1 vwCl ws H) (hD : va_D A ws) (hS : va_S A s.heap H locs) (hA : ∀ q : Nat, s.heap.size ≤ q → A q) (hl : Cond.classLink own index Cn ∈ TB) (ho : va_AO Cn s) (hk : (tyL g.2.1)[k]? = some (g.2.1 k, .object Cn)) (hn : ¬ n < 0) (hN : n.toNatClampNeg = N) (hbytes : N ≤ 10000) (hcells : cells + 1 ≤ R.cells) (hslots : slots + N ≤ R.slots) (hdg : decode cc pc = .ok (.anewarray index, 3))
    (kk : ∀ (q : Nat) (H1 : Heap), va_P g.1 vwCl (ws ++ [(q, aR g k N (fun _ => none))]) H1 → va_D A (ws ++ [(q, aR g k N (fun _ => none))]) → va_S A s.heap H1 locs → W p l e R s m args below meth c H1 locs (cells + 1) (slots + N) Q (F0 m (pc + 3) ls (.ref q :: rest))) : W p l e R s m args below meth c H locs cells slots Q (F0 m pc ls (.int n :: rest)) := by
  obtain ⟨hx, hb, hr, hml, hown, hlk, hts, hK, hZo, hZ⟩ := C
  refine va_newq (C := Cn) hx hb hown (hts _ hl) ho hK hP hD hS hA hn hN (by omega) hcells hslots hdg (fun q cA H1 hK2 h1 h2 h3 => ?_)
  have e1 := cA_of (k := k) hK hK2 hk (fun U c1 c2 a b => by
    obtain ⟨_, _, _, _, _, a4⟩ := a
    obtain ⟨_, _, _, _, _, b4⟩ := b
    exact Option.some.inj (a4.symm.trans b4))
  subst e1
  exact kk q H1 h1 h2 h3
/-- an object -/
theorem newO {Cn : String} {T : u_T} {N ci index : Nat} {ty : Nat → FieldType} {fs : List Value} (C : Cx p s m args meth c A g own cc ret nL) (fk : FKt ci Cn T N ty) (hP : va_P g.1 vwCl ws H) (hD : va_D A ws) (hS : va_S A s.heap H locs) (hA : ∀ q : Nat, s.heap.size ≤ q → A q) (hl : Cond.classLink own index Cn ∈ TB) (hi : Cond.instantiable Cn N ∈ TB) (hini : Cond.initialized Cn ∈ TB) (hfs : ∀ j, j < N → defaultValue (ty j) = vp_V fs j) (hcells : cells + 1 ≤ R.cells) (hslots : slots + N ≤ R.slots) (hdg : decode cc pc = .ok (.new index, 3))
    (kk : ∀ (q : Nat) (H1 : Heap), va_P g.1 vwCl (ws ++ [(q, .inr (ci, fs))]) H1 → va_D A (ws ++ [(q, .inr (ci, fs))]) → va_S A s.heap H1 locs → W p l e R s m args below meth c H1 locs (cells + 1) (slots + N) Q (F0 m (pc + 3) ls (.ref q :: rest))) : W p l e R s m args below meth c H locs cells slots Q (F0 m pc ls rest) := by
  obtain ⟨hx, hb, hr, hml, hown, hlk, hts, hK, hZo, hZ⟩ := C
  obtain ⟨f1, f2, f3, f4⟩ := fk
  exact va_new hx hb hts f2 ty f3 hown (hts _ hl) (hts _ hi) (hts _ hini) hK hP hD hS hA f1 hfs hcells hslots hdg kk
/-- a final field of a kind of reference, in the constructor -/
theorem pfF {ref Cn n d : String} {index a ci N : Nat} {T : u_T} {ty : Nat → FieldType} {t : FieldType} {fs : List Value} {v : Value} (C : Cx p s m args meth c A g own cc ret nL) (hin : meth.name = "<init>") (hP : va_P g.1 vwCl ws H) (hD : va_D A ws) (hS : va_S A s.heap H locs) (q0 k : Nat) (fk : FKt ci Cn T N ty) (he : ws[q0]? = some (a, .inr (ci, fs))) (hk : k < N) (hT : T k = (ref, n, d, true)) (hro : ref = own) (q : Cond.fieldLink own index ref n d ∈ TB) (hty : ty k = t) (hn : narrow t v = v) (hfit : fits t v = true) (hl : k < fs.length) (hdg : decode cc pc = .ok (.putfield index, 3))
    (kk : ∀ (H1 : Heap) (locs1 : List Loc), va_P g.1 vwCl (ws.set q0 (a, .inr (ci, fs.set k v))) H1 → va_D A (ws.set q0 (a, .inr (ci, fs.set k v))) → va_S A s.heap H1 locs1 → W p l e R s m args below meth c H1 locs1 cells slots Q (F0 m (pc + 3) ls rest)) : W p l e R s m args below meth c H locs cells slots Q (F0 m pc ls (v :: .ref a :: rest)) := by
  obtain ⟨hx, hb, hr, hml, hown, hlk, hts, hK, hZo, hZ⟩ := C
  obtain ⟨f1, f2, f3, f4⟩ := fk
  refine va_putF (D := g.1) (ty := t) (ref := ref) hx hb hts f2 ty f3 f4 hown hK hP hD hS q0 he f1 k hk ?_ ?_ ?_ hin ?_ ?_ hn hfit hl hdg kk
  · rw [hT]; exact hts _ q
  · rw [hT]; exact fun _ h => h
  · rw [hT]
  · rw [hT]; exact hro
  · rw [f3 k hk, hty]
/-- a reference to an object of the world, laid into an array of references -/
theorem stQ {q0 qk k ci n a v : Nat} {r : vw_C} {vs : List Value} {f : Nat → Option Nat} {i : Int32} (C : Cx p s m args meth c A g own cc ret nL) (hP : va_P g.1 vwCl ws H) (hD : va_D A ws) (hS : va_S A s.heap H locs) (ha : ws[q0]? = some (a, aR g k n f)) (ht : (tyL g.2.1)[k]? = some (g.2.1 k, .object r.1)) (hv : ws[qk]? = some (v, .inr (ci, vs))) (hc : vwCl[ci]? = some r) (hin : vp_in i n) (hdg : decode cc pc = .ok (.aastore, 1))
    (kk : ∀ (H1 : Heap) (locs1 : List Loc), va_P g.1 vwCl (ws.set q0 (a, aR g k n (va_up f i.toNatClampNeg (some v)))) H1 → va_D A (ws.set q0 (a, aR g k n (va_up f i.toNatClampNeg (some v)))) → va_S A s.heap H1 locs1 → W p l e R s m args below meth c H1 locs1 cells slots Q (F0 m (pc + 1) ls rest)) : W p l e R s m args below meth c H locs cells slots Q (F0 m pc ls (.ref v :: .int i :: .ref a :: rest)) := by
  obtain ⟨hx, hb, hr, hml, hown, hlk, hts, hK, hZo, hZ⟩ := C
  exact va_astq hx hb hK hP hD hS q0 k qk ci ha ht hv hc hin hdg kk
end
end TYA
