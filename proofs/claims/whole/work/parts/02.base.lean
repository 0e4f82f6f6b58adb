/-! ===== the base: contexts, contracts, calls ===== -/
abbrev IV : Type := Nat → Int32
abbrev LV : Type := Nat → Int64
abbrev ZP : Type := (Nat → Prop) → State → Heap → Prop
abbrev GX : Type := va_G × (Nat → ClassId) × ZP × (Nat → Nat)
theorem TBgood : ∀ w ∈ TB, (w.onTables && w.keeps) = true ∨ ∃ ty, w = .arrayClass ty := fun w hw => good_of_word (List.mem_filter.mp hw).2
abbrev wsY (y : MethodName) (bytes : ByteArray) (maxL : Nat) (ret : Option FieldType) : List Cond := Cond.code y bytes maxL ret :: TB
abbrev tyL (ay : Nat → ClassId) : List (ClassId × FieldType) := [(ay 0, .int), (ay 1, .long), (ay 2, .byte), (ay 3, .boolean), (ay 4, .object "DecadeBridge$Bench"), (ay 5, .object "DecadeBridge$Result"), (ay 6, .object "java/lang/String"), (ay 7, .double)]
abbrev KK (g : GX) (U : State) : Prop := va_K g.1 vwCl (tyL g.2.1) U
def sLen : List Nat := [3, 5, 7, 4, 5, 6, 8, 4, 4, 5, 3, 4, 5, 4, 4, 7, 6, 6, 6, 4]
def sByt : List (List Int32) := [[98, 111, 120], [114, 97, 116, 105, 111], [117, 110, 107, 110, 111, 119, 110], [119, 97, 114, 109], [108, 101, 97, 100, 115], [115, 117, 112, 112, 108, 121], [100, 101, 116, 101, 99, 116, 111, 114], [115, 101, 101, 100], [97, 114, 109, 115], [118, 111, 108, 116, 115], [115, 101, 116], [116, 117, 114, 110], [119, 105, 114, 101, 115], [114, 101, 115, 116], [114, 101, 97, 100], [98, 97, 108, 97, 110, 99, 101], [114, 101, 112, 101, 97, 116], [117, 110, 108, 101, 115, 115], [116, 117, 114, 110, 101, 100], [110, 117, 108, 108]]
def sTxt : List String := ["box", "ratio", "unknown", "warm", "leads", "supply", "detector", "seed", "arms", "volts", "set", "turn", "wires", "rest", "read", "balance", "repeat", "unless", "turned", "null"]
def sRefs : List (String × Nat × Nat) := [("DecadeBridge$SetupReader", 50, 0), ("DecadeBridge$SetupReader", 59, 1), ("DecadeBridge$SetupReader", 64, 2), ("DecadeBridge$SetupReader", 77, 3), ("DecadeBridge$SetupReader", 82, 4), ("DecadeBridge$SetupReader", 87, 5), ("DecadeBridge$SetupReader", 96, 6), ("DecadeBridge$SetupReader", 101, 7), ("DecadeBridge$Protocol", 92, 8), ("DecadeBridge$Protocol", 94, 9), ("DecadeBridge$Protocol", 96, 10), ("DecadeBridge$Protocol", 98, 11), ("DecadeBridge$Protocol", 100, 12), ("DecadeBridge$Protocol", 102, 13), ("DecadeBridge$Protocol", 104, 14), ("DecadeBridge$Protocol", 106, 15), ("DecadeBridge$Protocol", 108, 16), ("DecadeBridge$Protocol", 110, 17), ("DecadeBridge$Protocol", 116, 18), ("DecadeBridge$Protocol", 118, 19), ("DecadeBridgeModel", 45, 8), ("DecadeBridgeModel", 47, 9), ("DecadeBridgeModel", 49, 10), ("DecadeBridgeModel", 51, 11), ("DecadeBridgeModel", 53, 12), ("DecadeBridgeModel", 55, 13), ("DecadeBridgeModel", 57, 14), ("DecadeBridgeModel", 59, 15), ("DecadeBridgeModel", 61, 16), ("DecadeBridgeModel", 63, 17), ("DecadeBridgeModel", 346, 0), ("DecadeBridgeModel", 363, 1), ("DecadeBridgeModel", 348, 2), ("DecadeBridgeModel", 370, 3), ("DecadeBridgeModel", 374, 4), ("DecadeBridgeModel", 379, 5), ("DecadeBridgeModel", 384, 6), ("DecadeBridgeModel", 389, 7), ("DecadeBridgeModel", 517, 19), ("DecadeBridgeModel", 506, 18)]
def nomF : IV := fun j => if j = 0 then 1000 else if j = 1 then 10000 else if j = 2 then 100000 else if j = 3 then 1000000 else 10000000
/-- what the start says of statics, texts and exceptions, as a fact that lasts -/
def ZOk (g : GX) : Prop := (∀ (A : Nat → Prop) (u U : State) (H : Heap), u.WarmedH U.vm → g.2.2.1 A u H → g.2.2.1 A U H) ∧ (∀ (A : Nat → Prop) (u U : State) (H : Heap), U.vm = u.vm → g.2.2.1 A u H → g.2.2.1 A U H) ∧ (∀ (A : Nat → Prop) (U : State) (H H1 : Heap), g.2.2.1 A U H → (∀ a : Nat, a < H.size → ¬ A a → H1[a]? = H[a]?) → g.2.2.1 A U H1) ∧ (∀ (A B : Nat → Prop) (U : State) (H : Heap), g.2.2.1 A U H → (∀ q, B q → A q) → g.2.2.1 B U H)
  ∧ (∀ (A : Nat → Prop) (U : State) (H : Heap), g.2.2.1 A U H → va_Z "DecadeBridge$Parts" "NOMINALS" "[I" (.ref (g.2.2.2 0)) A U H ∧ va_T .int (g.2.2.2 0) 5 (fun j => .int (nomF j)) A U H)
  ∧ (∀ (A : Nat → Prop) (U : State) (H : Heap), g.2.2.1 A U H → vk_S 20 sLen sByt (fun n => g.2.2.2 (n + 1)) (fun n => g.2.2.2 (n + 31)) A U H)
  ∧ (∀ (A : Nat → Prop) (U : State) (H : Heap), g.2.2.1 A U H → va_Z "java/lang/String" "COMPACT_STRINGS" "Z" (.int 1) A U H)
  ∧ (∀ (A : Nat → Prop) (U : State) (H : Heap), g.2.2.1 A U H → ∀ q ∈ sRefs, vk_R q.1 q.2.1 (sTxt.getD q.2.2 "") (g.2.2.2 (q.2.2 + 1)) U)
  ∧ (∀ (A : Nat → Prop) (U : State) (H : Heap), g.2.2.1 A U H → vx_Zq Bundle.tN "UNASSIGNED_STACK" Bundle.steD A U H ∧ vx_Zq Bundle.tN "SUPPRESSED_SENTINEL" Bundle.listD A U H)
  ∧ (∀ (A : Nat → Prop) (U : State) (H : Heap), g.2.2.1 A U H → va_Zq "jdk/internal/util/Preconditions" "SIOOBE_FORMATTER" "Ljava/util/function/BiFunction;" A U H)
def inW (ws : va_W) : Nat → Prop := fun q => ∃ (k : Nat) (e : va_E), ws[k]? = some (q, e)
def CP (g : GX) (av : List Value) (ws : va_W) : Array Value → State → Prop := va_Pc av (fun U => va_P g.1 vwCl ws U.heap ∧ KK g U ∧ va_D (fun _ => True) ws ∧ ZOk g ∧ g.2.2.1 (inW ws) U U.heap)
def CQ {α : Type} (g : GX) (A : Nat → Prop) (vf : α → Option Value) (wf : α → va_W) (z : α) : Array Value → State → Outcome → State → Prop := fun _ st oc t => oc = .returned (vf z) ∧ va_P g.1 vwCl (wf z) t.heap ∧ va_F A st t
def CI0 (g : GX) (ws : va_W) (z : Int32) : Array Value → State → Outcome → State → Prop := CQ g (inW ws) (fun x : Int32 => some (.int x)) (fun _ => ws) z
def CI {β : Type} (g : GX) (ws : va_W) (wf : β → va_W) (z : Int32 × β) : Array Value → State → Outcome → State → Prop := CQ g (inW ws) (fun x : Int32 × β => some (.int x.1)) (fun x => wf x.2) z
def CL0 (g : GX) (ws : va_W) (z : Int64) : Array Value → State → Outcome → State → Prop := CQ g (inW ws) (fun x : Int64 => some (.long x)) (fun _ => ws) z
def CL {β : Type} (g : GX) (ws : va_W) (wf : β → va_W) (z : Int64 × β) : Array Value → State → Outcome → State → Prop := CQ g (inW ws) (fun x : Int64 × β => some (.long x.1)) (fun x => wf x.2) z
def CR0 (g : GX) (ws : va_W) (z : Option Nat) : Array Value → State → Outcome → State → Prop := CQ g (inW ws) (fun x : Option Nat => some (va_rf x)) (fun _ => ws) z
def CR {β : Type} (g : GX) (ws : va_W) (wf : β → va_W) (z : Option Nat × β) : Array Value → State → Outcome → State → Prop := CQ g (inW ws) (fun x : Option Nat × β => some (va_rf x.1)) (fun x => wf x.2) z
def CD0 (g : GX) (ws : va_W) (z : UInt64) : Array Value → State → Outcome → State → Prop := CQ g (inW ws) (fun x : UInt64 => some (.double x)) (fun _ => ws) z
def CD {β : Type} (g : GX) (ws : va_W) (wf : β → va_W) (z : UInt64 × β) : Array Value → State → Outcome → State → Prop := CQ g (inW ws) (fun x : UInt64 × β => some (.double x.1)) (fun x => wf x.2) z
def CF0 (g : GX) (ws : va_W) (z : UInt32) : Array Value → State → Outcome → State → Prop := CQ g (inW ws) (fun x : UInt32 => some (.float x)) (fun _ => ws) z
def CF {β : Type} (g : GX) (ws : va_W) (wf : β → va_W) (z : UInt32 × β) : Array Value → State → Outcome → State → Prop := CQ g (inW ws) (fun x : UInt32 × β => some (.float x.1)) (fun x => wf x.2) z
def CS0 (g : GX) (ws : va_W) (z : Nat) : Array Value → State → Outcome → State → Prop := CQ g (inW ws) (fun n : Nat => some (.ref (g.2.2.2 (n + 1)))) (fun _ => ws) z
def CV {β : Type} (g : GX) (ws : va_W) (wf : β → va_W) (z : β) : Array Value → State → Outcome → State → Prop := CQ g (inW ws) (fun _ : β => none) wf z
theorem CP_blind (g : GX) (av : List Value) (ws : va_W) : FrameBlind (CP g av ws) := by
  intro a U gg mk h
  obtain ⟨h0, h1, h2, h3, h4, h5⟩ := h
  exact ⟨h0, h1, va_K.moved (u := U) (U := U.calling gg mk a) (Vm.Alike.refl U.vm) h2, h3, h4, h4.2.1 _ U (U.calling gg mk a) _ rfl h5⟩
/-- what a method's own walk stands on -/
def Cx (p : Program) (s : State) (m : MethodId) (args : Array Value) (meth : Method) (c : Code) (A : Nat → Prop) (g : GX) (own : String) (cc : ByteArray) (ret : Option FieldType) (nL : Nat) : Prop :=
  p.tables.exec = Jvm.exec ∧ c.code = cc ∧ meth.sig.returnType = ret ∧ c.maxLocals = nL ∧ s.vm.findClass own = some m.cls ∧ meth.locks = false ∧ (∀ w ∈ TB, w.before args s = true) ∧ KK g s ∧ ZOk g ∧ g.2.2.1 A s s.heap
/-- a method's words, by the tables -/
def MF (y : MethodName) (bytes : ByteArray) (maxL : Nat) (ret : Option FieldType) (n : Nat) : Prop :=
  Cond.code y bytes maxL ret ∈ TB ∧ Cond.initialized y.cls ∈ TB ∧ (y.cls ≠ "java/lang/invoke/MethodHandle" ∧ y.cls ≠ "java/lang/invoke/VarHandle" ∧ (parseMethodDescriptor y.desc).map (fun d => d.parameters.length) = some n)
def MFV (y : MethodName) (bytes : ByteArray) (maxL : Nat) (ret : Option FieldType) (n : Nat) : Prop :=
  MF y bytes maxL ret n ∧ Cond.instanceMethod y ∈ TB ∧ Cond.selects y.cls y y ∈ TB
def MFS (y : MethodName) (bytes : ByteArray) (maxL : Nat) (ret : Option FieldType) (n : Nat) : Prop :=
  MF y bytes maxL ret n ∧ Cond.static y ∈ TB
theorem mkCB {R rm : Room} {s : State} {args : Array Value} {own : String} {index : Nat} {y : MethodName} {bytes : ByteArray} {maxL n : Nat} {ret : Option FieldType} (hT : ∀ w ∈ TB, w.before args s = true) (mf : MF y bytes maxL ret n) (hl : Cond.methodLink own index y ∈ TB)
    (hc0 : rm.cells = 0) (hs0 : rm.slots = 0) (hR : rm.frames + 1 ≤ R.frames ∧ 8 + (maxL + 11) + rm.locals ≤ R.locals) : CallB R s args own index y bytes maxL ret (wsY y bytes maxL ret) rm 0 0 n := by
  obtain ⟨h1, h2, h3⟩ := mf
  refine callB_of n hT (ws := wsY y bytes maxL ret) (fun w hw => ?_) rfl hc0 hs0 (hT _ h2) (hT _ hl) h3 hR
  rcases List.mem_cons.mp hw with rfl | hw
  · exact ⟨h1, TBgood _ h1⟩
  · exact ⟨hw, TBgood _ hw⟩
def splice (ws : va_W) : List Nat → va_W → va_W
  | i :: is, q :: w1 => splice (ws.set i q) is w1
  | _, _ => ws
theorem splice_map (w1 : va_W) : ∀ (is : List Nat) (ws : va_W), (∀ (j i : Nat), is[j]? = some i → ∀ q, w1[j]? = some q → ∃ q0, ws[i]? = some q0 ∧ q0.1 = q.1) → (splice ws is w1).map Prod.fst = ws.map Prod.fst := by
  induction w1 with
  | nil => intro is ws _; cases is <;> rfl
  | cons q w1 ih =>
    intro is ws h
    cases is with
    | nil => rfl
    | cons i is =>
      obtain ⟨q0, h0, h1⟩ := h 0 i rfl q rfl
      have hm : (ws.set i q).map Prod.fst = ws.map Prod.fst := by
        rw [List.map_set]
        apply List.ext_getElem?
        intro k
        by_cases hk : i = k
        · subst hk
          have hl := (List.getElem?_eq_some_iff.mp h0).1
          rw [List.getElem?_set_self (by simpa using hl), List.getElem?_map, h0]
          exact congrArg some h1.symm
        · rw [List.getElem?_set_ne hk]
      show (splice (ws.set i q) is w1).map Prod.fst = _
      rw [ih is (ws.set i q) ?_, hm]
      intro j k hk q2 hq2
      obtain ⟨q3, h3, h4⟩ := h (j + 1) k hk q2 hq2
      have h5 : ((ws.set i q).map Prod.fst)[k]? = some q3.1 := by rw [hm, List.getElem?_map, h3]; rfl
      rw [List.getElem?_map] at h5
      cases h6 : (ws.set i q)[k]? with
      | none => rw [h6] at h5; cases h5
      | some q4 => rw [h6] at h5; exact ⟨q4, rfl, (Option.some.inj h5).trans h4⟩
theorem splice_out : ∀ (is : List Nat) (w1 ws : va_W) (k : Nat), k ∉ is → (splice ws is w1)[k]? = ws[k]? := by
  intro is
  induction is with
  | nil => intro w1 ws k _; cases w1 <;> rfl
  | cons i is ih =>
    intro w1 ws k hk
    cases w1 with
    | nil => rfl
    | cons q w1 =>
      show (splice (ws.set i q) is w1)[k]? = _
      rw [ih w1 _ k (fun h => hk (List.mem_cons_of_mem _ h)), List.getElem?_set_ne (fun h => hk (by rw [h]; exact List.mem_cons_self))]
theorem splice_in : ∀ (is : List Nat) (w1 ws : va_W) (j k : Nat) (q : Nat × va_E), va_nd is = true → is[j]? = some k → w1[j]? = some q → k < ws.length → (splice ws is w1)[k]? = some q := by
  intro is
  induction is with
  | nil => intro w1 ws j k q _ h; simp at h
  | cons i is ih =>
    intro w1 ws j k q hn hj hw hk
    simp only [va_nd, Bool.and_eq_true, decide_eq_true_eq] at hn
    cases w1 with
    | nil => simp at hw
    | cons q1 w1 =>
      show (splice (ws.set i q1) is w1)[k]? = _
      cases j with
      | zero =>
        cases hj; cases hw
        rw [splice_out _ _ _ _ hn.1, List.getElem?_set_self hk]
      | succ j => exact ih w1 (ws.set i q1) j k q hn.2 hj hw (by rw [List.length_set]; exact hk)
theorem D_of_map {A : Nat → Prop} {ws ws' : va_W} (h : ws'.map Prod.fst = ws.map Prod.fst) (hD : va_D A ws) : va_D A ws' := by
  have key : ∀ (k : Nat) (q : Nat × va_E), ws'[k]? = some q → ∃ q0, ws[k]? = some q0 ∧ q0.1 = q.1 := by
    intro k q hk
    have h5 : (ws.map Prod.fst)[k]? = some q.1 := by rw [← h, List.getElem?_map, hk]; rfl
    rw [List.getElem?_map] at h5
    cases h6 : ws[k]? with
    | none => rw [h6] at h5; cases h5
    | some q4 => rw [h6] at h5; exact ⟨q4, rfl, Option.some.inj h5⟩
  refine ⟨fun i j x y hi hj hxy => ?_, fun k q hk => ?_⟩
  · obtain ⟨x0, h1, h2⟩ := key i x hi
    obtain ⟨y0, h3, h4⟩ := key j y hj
    exact hD.1 i j x0 y0 h1 h3 (h2.trans (hxy.trans h4.symm))
  · obtain ⟨q0, h1, h2⟩ := key k q hk
    rw [← h2]
    exact hD.2 k q0 h1
theorem inW_map {ws ws' : va_W} (h : ws'.map Prod.fst = ws.map Prod.fst) {q : Nat} (hq : inW ws' q) : inW ws q := by
  obtain ⟨k, e, hk⟩ := hq
  have h5 : (ws.map Prod.fst)[k]? = some q := by rw [← h, List.getElem?_map, hk]; rfl
  rw [List.getElem?_map] at h5
  cases h6 : ws[k]? with
  | none => rw [h6] at h5; cases h5
  | some q4 => rw [h6] at h5; exact ⟨k, q4.2, by rw [h6]; exact congrArg some (Prod.ext (Option.some.inj h5) rfl)⟩
theorem sub_at {ws wc : va_W} {is : List Nat} (hC : is.map (fun i => ws[i]?) = wc.map some) {k : Nat} {q : Nat × va_E} (hk : wc[k]? = some q) : ∃ i, is[k]? = some i ∧ ws[i]? = some q := by
  have h1 : (is.map (fun i => ws[i]?))[k]? = some (some q) := by rw [hC, List.getElem?_map, hk]; rfl
  rw [List.getElem?_map] at h1
  cases hi : is[k]? with
  | none => rw [hi] at h1; cases h1
  | some i => rw [hi] at h1; exact ⟨i, rfl, Option.some.inj h1⟩
theorem sub_at' {ws wc : va_W} {is : List Nat} (hC : is.map (fun i => ws[i]?) = wc.map some) {k i : Nat} (hk : is[k]? = some i) : ∃ q, wc[k]? = some q ∧ ws[i]? = some q := by
  have h1 : (wc.map some)[k]? = some (ws[i]?) := by rw [← hC, List.getElem?_map, hk]; rfl
  rw [List.getElem?_map] at h1
  cases hq : wc[k]? with
  | none => rw [hq] at h1; cases h1
  | some q => rw [hq] at h1; exact ⟨q, rfl, (Option.some.inj h1).symm⟩
section BC
variable {p : Program} {l : Launch} {e : Env} {R : Room} {s : State} {m : MethodId} {args : Array Value} {below : List Frame} {meth : Method} {c : Code} {H : Heap} {locs : List Loc} {cells slots : Nat} {Q : State → Prop} {A : Nat → Prop} {g : GX} {pc : Nat} {ls : Array Slot} {rest st0 : List Value}
theorem call_gen {α : Type} {vf : α → Option Value} {wf : α → va_W} {z : α} {wc ws : va_W} {av : Array Value} (is : List Nat)
    (hr : va_Run p l e R s m args below meth c H locs cells slots 0 0 (F0 m pc ls st0) rest (CQ g (inW wc) vf wf z av) (inW wc))
    (hC : is.map (fun i => ws[i]?) = wc.map some) (hn : va_nd is = true) (hP : va_P g.1 vwCl ws H) (hD : va_D A ws) (hS : va_S A s.heap H locs) (had : (wf z).map Prod.fst = wc.map Prod.fst)
    (kk : ∀ (H1 : Heap) (locs1 : List Loc), va_P g.1 vwCl (splice ws is (wf z)) H1 → va_D A (splice ws is (wf z)) → va_S A s.heap H1 locs1 → W p l e R s m args below meth c H1 locs1 cells slots Q (F0 m (pc + 3) ls ((vf z).toList ++ rest))) : W p l e R s m args below meth c H locs cells slots Q (F0 m pc ls st0) := by
  intro T hT X
  obtain ⟨v, st₀, t, T', L, h0, X', hL, e1, e2, ⟨hv, hb, hz, hk⟩, st⟩ := hr T hT X
  cases hv
  rw [h0] at hz hk
  have hin : ∀ q, inW wc q → A q := fun q ⟨k, ee, hk⟩ => by
    obtain ⟨i, -, h2⟩ := sub_at hC hk
    exact hD.2 i _ h2
  have hadr : ∀ (j : Nat) (q : Nat × va_E), (wf z)[j]? = some q → ∃ q0, wc[j]? = some q0 ∧ q0.1 = q.1 := by
    intro j q hj
    have h5 : (wc.map Prod.fst)[j]? = some q.1 := by rw [← had, List.getElem?_map, hj]; rfl
    rw [List.getElem?_map] at h5
    cases h6 : wc[j]? with
    | none => rw [h6] at h5; cases h5
    | some q4 => rw [h6] at h5; exact ⟨q4, rfl, Option.some.inj h5⟩
  have hm : (splice ws is (wf z)).map Prod.fst = ws.map Prod.fst := by
    refine splice_map _ is ws fun j i hj q hq => ?_
    obtain ⟨q0, g1, g2⟩ := hadr j q hq
    obtain ⟨i', g3, g4⟩ := sub_at hC g1
    rw [hj] at g3
    cases g3
    exact ⟨q0, g4, g2⟩
  have hlen : (wf z).length = wc.length := by have := congrArg List.length had; simpa using this
  have hP1 : va_P g.1 vwCl (splice ws is (wf z)) t.heap := by
    intro k q hq
    by_cases hki : k ∈ is
    · obtain ⟨j, hj⟩ := List.getElem?_of_mem hki
      obtain ⟨q0, g1, g2⟩ := sub_at' hC hj
      have hkl : k < ws.length := (List.getElem?_eq_some_iff.mp g2).1
      have hjl : j < (wf z).length := by rw [hlen]; exact (List.getElem?_eq_some_iff.mp g1).1
      have hwj : (wf z)[j]? = some (wf z)[j] := List.getElem?_eq_getElem hjl
      rw [splice_in is (wf z) ws j k _ hn hj hwj hkl] at hq
      cases hq
      exact hb j _ hwj
    · rw [splice_out _ _ _ _ hki] at hq
      have hl := (hP k q hq).lt
      refine (hP k q hq).kept (hk q.1 hl fun ⟨k2, ee, h⟩ => ?_)
      obtain ⟨i, h3, h4⟩ := sub_at hC h
      have := hD.1 k i q (q.1, ee) hq h4 rfl
      exact hki (by rw [this]; exact List.mem_of_getElem? h3)
  obtain ⟨t2, a1, b1⟩ := kk T'.heap (locs ++ L) (by rw [e1]; exact hP1) (D_of_map hm hD)
    ⟨Nat.le_trans hS.1 (by rw [e1]; exact hz), fun q h1 h2 => by rw [e1, hk q (Nat.lt_of_lt_of_le h1 hS.1) (fun z => h2 (hin q z))]; exact hS.2.1 q h1 h2, fun q hq => by
      rcases List.mem_append.mp hq with h | h
      · exact hS.2.2 q h
      · exact hin _ (hL q h)⟩ T' rfl X'
  exact ⟨t2, st t2 a1, b1⟩
theorem pre_gen {wc ws : va_W} {av : List Value} {is : List Nat} {own : String} {cc : ByteArray} {retM : Option FieldType} {nL : Nat} (C : Cx p s m args meth c A g own cc retM nL)
    (hC : is.map (fun i => ws[i]?) = wc.map some) (hn : va_nd is = true) (hP : va_P g.1 vwCl ws H) (hD : va_D A ws) (hS : va_S A s.heap H locs) : ∀ U : State, U.heap = H → s.WarmedH U.vm → CP g av wc av.toArray U := by
  obtain ⟨-, -, -, -, -, -, -, hK, hZo, hZ⟩ := C
  intro U hU hW
  have hin : ∀ q, inW wc q → A q := fun q ⟨k, ee, hk⟩ => by
    obtain ⟨i, -, h2⟩ := sub_at hC hk
    exact hD.2 i _ h2
  refine ⟨rfl, ?_, va_K.moved hW.alike hK, ?_, hZo, ?_⟩
  · rw [hU]
    intro k q hk
    obtain ⟨i, -, h2⟩ := sub_at hC hk
    exact hP i q h2
  · exact (hD.sub is hn hC).weaken (fun _ _ _ _ => trivial)
  · rw [hU]
    exact hZo.2.2.2.1 _ _ _ _ (hZo.2.2.1 _ _ _ _ (hZo.1 _ _ _ _ hW hZ) hS.2.1) hin
/-- the callee's part of the caller's cells -/
def SubW (g : GX) (A : Nat → Prop) (s : State) (ws wc : va_W) (is : List Nat) (H : Heap) (locs : List Loc) : Prop := is.map (fun i => ws[i]?) = wc.map some ∧ va_nd is = true ∧ va_P g.1 vwCl ws H ∧ va_D A ws ∧ va_S A s.heap H locs
theorem range_map (ws : va_W) : (List.range ws.length).map (fun i => ws[i]?) = ws.map some := by
  apply List.ext_getElem?
  intro i
  by_cases h : i < ws.length
  · simp [h]
  · simp [h]
theorem nd_iff : ∀ l : List Nat, va_nd l = true ↔ l.Nodup
  | [] => by simp [va_nd]
  | a :: l => by simp [va_nd, nd_iff l, List.nodup_cons]
theorem nd_range (n : Nat) : va_nd (List.range n) = true := (nd_iff _).mpr List.nodup_range
theorem splice_len : ∀ (is : List Nat) (w1 ws : va_W), (splice ws is w1).length = ws.length := by
  intro is
  induction is with
  | nil => intro w1 ws; cases w1 <;> rfl
  | cons i is ih =>
    intro w1 ws
    cases w1 with
    | nil => rfl
    | cons q w1 => show (splice (ws.set i q) is w1).length = _; rw [ih, List.length_set]
theorem splice_full {ws w1 : va_W} (h : w1.map Prod.fst = ws.map Prod.fst) : splice ws (List.range ws.length) w1 = w1 := by
  have hl : w1.length = ws.length := by have := congrArg List.length h; simpa using this
  have hlen := splice_len (List.range ws.length) w1 ws
  apply List.ext_getElem?
  intro i
  by_cases hi : i < ws.length
  · have hw : w1[i]? = some w1[i] := List.getElem?_eq_getElem (by omega)
    rw [hw]
    exact splice_in _ w1 ws i i _ (nd_range _) (by simp [hi]) hw hi
  · rw [List.getElem?_eq_none (by omega), List.getElem?_eq_none (by omega)]
theorem splice_id : ∀ (is : List Nat) (ws wc : va_W), is.map (fun i => ws[i]?) = wc.map some → splice ws is wc = ws := by
  intro is
  induction is with
  | nil => intro ws wc _; cases wc <;> rfl
  | cons i is ih =>
    intro ws wc h
    cases wc with
    | nil => rfl
    | cons q wc =>
      simp only [List.map_cons, List.cons.injEq] at h
      obtain ⟨h1, h2⟩ := h
      have hset : ws.set i q = ws := by
        apply List.ext_getElem?
        intro k
        by_cases hk : i = k
        · subst hk
          rw [List.getElem?_set_self (List.getElem?_eq_some_iff.mp h1).1, h1]
        · rw [List.getElem?_set_ne hk]
      show splice (ws.set i q) is wc = ws
      rw [hset]
      exact ih ws wc h2
theorem subF {ws : va_W} (hP : va_P g.1 vwCl ws H) (hD : va_D A ws) (hS : va_S A s.heap H locs) : SubW g A s ws ws (List.range ws.length) H locs := ⟨range_map ws, nd_range _, hP, hD, hS⟩
/-- a call of an instance method -/
theorem run_v {Qc : Array Value → State → Outcome → State → Prop} {wc ws : va_W} {rm : Room} {y : MethodName} {bytes cc : ByteArray} {maxL nL n index b : Nat} {ret retM : Option FieldType} {own : String} {As : List Value} {lv : List (Nat × Value)} {fs : List Value} {ci : Nat} {T : u_T} {N : Nat} {is : List Nat}
    (C : Cx p s m args meth c A g own cc retM nL) (mf : MFV y bytes maxL ret n) (hl : Cond.methodLink own index y ∈ TB)
    (hM : Met l y (wsY y bytes maxL ret) rm (CP g (.ref b :: As) wc) Qc 0 0 (inW wc))
    (hc0 : rm.cells = 0) (hs0 : rm.slots = 0) (hR : rm.frames + 1 ≤ R.frames ∧ 8 + (maxL + 11) + rm.locals ≤ R.locals) (hf : cells + 0 ≤ R.cells ∧ slots + 0 ≤ R.slots)
    (hB : SubW g A s ws wc is H locs) (hrec : wc[0]? = some (b, .inr (ci, fs))) (hcl : vwCl[ci]? = some (y.cls, T, N)) (hlv : lv_has ls nL lv) (hAs : As.length = n) (hst : st0 = As.reverse ++ .ref b :: rest) (hcat : (rest.map fun v => v.category).sum ≤ 8) (hdg : decode cc pc = .ok (.invokevirtual index, 3)) :
    va_Run p l e R s m args below meth c H locs cells slots 0 0 (F0 m pc ls st0) rest (Qc (Value.ref b :: As).toArray) (inW wc) := by
  obtain ⟨hx, hb, hr, hml, hown, hlk, hts, hK, hZo, hZ⟩ := id C
  obtain ⟨mf1, mf2, mf3⟩ := mf
  obtain ⟨hC, hn, hP, hD, hS⟩ := hB
  have hPc : va_P g.1 vwCl wc H := fun k q hk => by
    obtain ⟨i, -, h2⟩ := sub_at hC hk
    exact hP i q h2
  exact va_runV (As := As) (rest := rest) (b := b) (n := n) (ret := ret) (maxL := maxL) (bytes := bytes) ⟨hx, hb, hml, hown, hts⟩ hM ⟨mkCB hts mf1 hl hc0 hs0 hR, hts _ mf2, hts _ mf3⟩ ⟨CP_blind _ _ _, va_recv hK hPc hcl hrec, pre_gen C hC hn hP hD hS⟩ rfl hAs hlv.1 hst (lv_room hcat) hdg hf
/-- a call of an instance method on what isn't among the cells -/
theorem run_q {Qc : Array Value → State → Outcome → State → Prop} {wc ws : va_W} {rm : Room} {y : MethodName} {bytes cc : ByteArray} {maxL nL n index b : Nat} {ret retM : Option FieldType} {own : String} {As : List Value} {lv : List (Nat × Value)} {is : List Nat}
    (C : Cx p s m args meth c A g own cc retM nL) (mf : MFV y bytes maxL ret n) (hl : Cond.methodLink own index y ∈ TB)
    (hM : Met l y (wsY y bytes maxL ret) rm (CP g (.ref b :: As) wc) Qc 0 0 (inW wc))
    (hc0 : rm.cells = 0) (hs0 : rm.slots = 0) (hR : rm.frames + 1 ≤ R.frames ∧ 8 + (maxL + 11) + rm.locals ≤ R.locals) (hf : cells + 0 ≤ R.cells ∧ slots + 0 ≤ R.slots)
    (hB : SubW g A s ws wc is H locs) (hrec : ∃ cell : Cell, H[b]? = some cell ∧ cell.vm.isStatics = false ∧ s.vm.findClass y.cls = some cell.cls) (hlv : lv_has ls nL lv) (hAs : As.length = n) (hst : st0 = As.reverse ++ .ref b :: rest) (hcat : (rest.map fun v => v.category).sum ≤ 8) (hdg : decode cc pc = .ok (.invokevirtual index, 3)) :
    va_Run p l e R s m args below meth c H locs cells slots 0 0 (F0 m pc ls st0) rest (Qc (Value.ref b :: As).toArray) (inW wc) := by
  obtain ⟨hx, hb, hr, hml, hown, hlk, hts, hK, hZo, hZ⟩ := id C
  obtain ⟨mf1, mf2, mf3⟩ := mf
  obtain ⟨hC, hn, hP, hD, hS⟩ := hB
  exact va_runV (As := As) (rest := rest) (b := b) (n := n) (ret := ret) (maxL := maxL) (bytes := bytes) ⟨hx, hb, hml, hown, hts⟩ hM ⟨mkCB hts mf1 hl hc0 hs0 hR, hts _ mf2, hts _ mf3⟩ ⟨CP_blind _ _ _, hrec, pre_gen C hC hn hP hD hS⟩ rfl hAs hlv.1 hst (lv_room hcat) hdg hf
/-- a call of a static method -/
theorem run_s {Qc : Array Value → State → Outcome → State → Prop} {wc ws : va_W} {rm : Room} {y : MethodName} {bytes cc : ByteArray} {maxL nL n index : Nat} {ret retM : Option FieldType} {own : String} {As : List Value} {lv : List (Nat × Value)} {is : List Nat}
    (C : Cx p s m args meth c A g own cc retM nL) (mf : MFS y bytes maxL ret n) (hl : Cond.methodLink own index y ∈ TB)
    (hM : Met l y (wsY y bytes maxL ret) rm (CP g As wc) Qc 0 0 (inW wc))
    (hc0 : rm.cells = 0) (hs0 : rm.slots = 0) (hR : rm.frames + 1 ≤ R.frames ∧ 8 + (maxL + 11) + rm.locals ≤ R.locals) (hf : cells + 0 ≤ R.cells ∧ slots + 0 ≤ R.slots)
    (hB : SubW g A s ws wc is H locs) (hlv : lv_has ls nL lv) (hAs : As.length = n) (hst : st0 = As.reverse ++ rest) (hcat : (rest.map fun v => v.category).sum ≤ 8) (hdg : decode cc pc = .ok (.invokestatic index, 3)) :
    va_Run p l e R s m args below meth c H locs cells slots 0 0 (F0 m pc ls st0) rest (Qc As.toArray) (inW wc) := by
  obtain ⟨hx, hb, hr, hml, hown, hlk, hts, hK, hZo, hZ⟩ := id C
  obtain ⟨mf1, mf2⟩ := mf
  obtain ⟨hC, hn, hP, hD, hS⟩ := hB
  exact va_runS (As := As) (rest := rest) (n := n) (ret := ret) (maxL := maxL) (bytes := bytes) ⟨hx, hb, hml, hown, hts⟩ hM ⟨mkCB hts mf1 hl hc0 hs0 hR, hts _ mf2⟩ ⟨CP_blind _ _ _, pre_gen C hC hn hP hD hS⟩ rfl hAs hlv.1 hst (lv_room hcat) hdg hf
/-- behind a call: an answer alone -/
theorem cg0 {α : Type} {vf : α → Option Value} {z : α} {wc ws : va_W} {av : Array Value} {is : List Nat}
    (hB : SubW g A s ws wc is H locs) (hr : va_Run p l e R s m args below meth c H locs cells slots 0 0 (F0 m pc ls st0) rest (CQ g (inW wc) vf (fun _ => wc) z av) (inW wc))
    (kk : ∀ (H1 : Heap) (locs1 : List Loc), va_P g.1 vwCl ws H1 → va_S A s.heap H1 locs1 → W p l e R s m args below meth c H1 locs1 cells slots Q (F0 m (pc + 3) ls ((vf z).toList ++ rest))) : W p l e R s m args below meth c H locs cells slots Q (F0 m pc ls st0) := by
  obtain ⟨hC, hn, hP, hD, hS⟩ := hB
  refine call_gen is hr hC hn hP hD hS rfl (fun H1 locs1 h1 h2 h3 => kk H1 locs1 ?_ h3)
  rw [splice_id is ws wc hC] at h1
  exact h1
/-- behind a call: the callee's cells have changed -/
theorem cg1 {α : Type} {vf : α → Option Value} {wf : α → va_W} {z : α} {wc ws : va_W} {av : Array Value} {is : List Nat}
    (hB : SubW g A s ws wc is H locs) (hr : va_Run p l e R s m args below meth c H locs cells slots 0 0 (F0 m pc ls st0) rest (CQ g (inW wc) vf wf z av) (inW wc)) (had : (wf z).map Prod.fst = wc.map Prod.fst)
    (kk : ∀ (H1 : Heap) (locs1 : List Loc), va_P g.1 vwCl (splice ws is (wf z)) H1 → va_D A (splice ws is (wf z)) → va_S A s.heap H1 locs1 → W p l e R s m args below meth c H1 locs1 cells slots Q (F0 m (pc + 3) ls ((vf z).toList ++ rest))) : W p l e R s m args below meth c H locs cells slots Q (F0 m pc ls st0) := by
  obtain ⟨hC, hn, hP, hD, hS⟩ := hB
  exact call_gen is hr hC hn hP hD hS had kk
/-- the same, where the callee's cells are all of the caller's -/
theorem cgF {α : Type} {vf : α → Option Value} {wf : α → va_W} {z : α} {ws : va_W} {av : Array Value}
    (hB : SubW g A s ws ws (List.range ws.length) H locs) (hr : va_Run p l e R s m args below meth c H locs cells slots 0 0 (F0 m pc ls st0) rest (CQ g (inW ws) vf wf z av) (inW ws)) (had : (wf z).map Prod.fst = ws.map Prod.fst)
    (kk : ∀ (H1 : Heap) (locs1 : List Loc), va_P g.1 vwCl (wf z) H1 → va_D A (wf z) → va_S A s.heap H1 locs1 → W p l e R s m args below meth c H1 locs1 cells slots Q (F0 m (pc + 3) ls ((vf z).toList ++ rest))) : W p l e R s m args below meth c H locs cells slots Q (F0 m pc ls st0) := by
  refine cg1 hB hr had (fun H1 locs1 h1 h2 h3 => kk H1 locs1 ?_ ?_ h3)
  · rw [splice_full had] at h1; exact h1
  · rw [splice_full had] at h2; exact h2
theorem goI0 {z : Int32} {wc ws : va_W} {av : Array Value} {is : List Nat} (hB : SubW g A s ws wc is H locs) (hr : va_Run p l e R s m args below meth c H locs cells slots 0 0 (F0 m pc ls st0) rest (CI0 g wc z av) (inW wc))
    (kk : ∀ (r : Int32), r = z → ∀ (H1 : Heap) (locs1 : List Loc), va_P g.1 vwCl ws H1 → va_S A s.heap H1 locs1 → W p l e R s m args below meth c H1 locs1 cells slots Q (F0 m (pc + 3) ls (.int r :: rest))) : W p l e R s m args below meth c H locs cells slots Q (F0 m pc ls st0) := cg0 hB hr (fun H1 locs1 h1 h2 => kk z rfl H1 locs1 h1 h2)
theorem goI1 {β : Type} {wf : β → va_W} {z : Int32 × β} {wc ws : va_W} {av : Array Value} {is : List Nat} (hB : SubW g A s ws wc is H locs) (hr : va_Run p l e R s m args below meth c H locs cells slots 0 0 (F0 m pc ls st0) rest (CI g wc wf z av) (inW wc)) (had : ∀ u : β, (wf u).map Prod.fst = wc.map Prod.fst)
    (kk : ∀ (r : Int32 × β), r = z → ∀ (H1 : Heap) (locs1 : List Loc), va_P g.1 vwCl (splice ws is (wf r.2)) H1 → va_D A (splice ws is (wf r.2)) → va_S A s.heap H1 locs1 → W p l e R s m args below meth c H1 locs1 cells slots Q (F0 m (pc + 3) ls (.int r.1 :: rest))) : W p l e R s m args below meth c H locs cells slots Q (F0 m pc ls st0) := cg1 hB hr (had _) (fun H1 locs1 h1 h2 h3 => kk z rfl H1 locs1 h1 h2 h3)
theorem goIF {β : Type} {wf : β → va_W} {z : Int32 × β} {ws : va_W} {av : Array Value} (hB : SubW g A s ws ws (List.range ws.length) H locs) (hr : va_Run p l e R s m args below meth c H locs cells slots 0 0 (F0 m pc ls st0) rest (CI g ws wf z av) (inW ws)) (had : ∀ u : β, (wf u).map Prod.fst = ws.map Prod.fst)
    (kk : ∀ (r : Int32 × β), r = z → ∀ (H1 : Heap) (locs1 : List Loc), va_P g.1 vwCl (wf r.2) H1 → va_D A (wf r.2) → va_S A s.heap H1 locs1 → W p l e R s m args below meth c H1 locs1 cells slots Q (F0 m (pc + 3) ls (.int r.1 :: rest))) : W p l e R s m args below meth c H locs cells slots Q (F0 m pc ls st0) := cgF hB hr (had _) (fun H1 locs1 h1 h2 h3 => kk z rfl H1 locs1 h1 h2 h3)
theorem goL0 {z : Int64} {wc ws : va_W} {av : Array Value} {is : List Nat} (hB : SubW g A s ws wc is H locs) (hr : va_Run p l e R s m args below meth c H locs cells slots 0 0 (F0 m pc ls st0) rest (CL0 g wc z av) (inW wc))
    (kk : ∀ (r : Int64), r = z → ∀ (H1 : Heap) (locs1 : List Loc), va_P g.1 vwCl ws H1 → va_S A s.heap H1 locs1 → W p l e R s m args below meth c H1 locs1 cells slots Q (F0 m (pc + 3) ls (.long r :: rest))) : W p l e R s m args below meth c H locs cells slots Q (F0 m pc ls st0) := cg0 hB hr (fun H1 locs1 h1 h2 => kk z rfl H1 locs1 h1 h2)
theorem goL1 {β : Type} {wf : β → va_W} {z : Int64 × β} {wc ws : va_W} {av : Array Value} {is : List Nat} (hB : SubW g A s ws wc is H locs) (hr : va_Run p l e R s m args below meth c H locs cells slots 0 0 (F0 m pc ls st0) rest (CL g wc wf z av) (inW wc)) (had : ∀ u : β, (wf u).map Prod.fst = wc.map Prod.fst)
    (kk : ∀ (r : Int64 × β), r = z → ∀ (H1 : Heap) (locs1 : List Loc), va_P g.1 vwCl (splice ws is (wf r.2)) H1 → va_D A (splice ws is (wf r.2)) → va_S A s.heap H1 locs1 → W p l e R s m args below meth c H1 locs1 cells slots Q (F0 m (pc + 3) ls (.long r.1 :: rest))) : W p l e R s m args below meth c H locs cells slots Q (F0 m pc ls st0) := cg1 hB hr (had _) (fun H1 locs1 h1 h2 h3 => kk z rfl H1 locs1 h1 h2 h3)
theorem goLF {β : Type} {wf : β → va_W} {z : Int64 × β} {ws : va_W} {av : Array Value} (hB : SubW g A s ws ws (List.range ws.length) H locs) (hr : va_Run p l e R s m args below meth c H locs cells slots 0 0 (F0 m pc ls st0) rest (CL g ws wf z av) (inW ws)) (had : ∀ u : β, (wf u).map Prod.fst = ws.map Prod.fst)
    (kk : ∀ (r : Int64 × β), r = z → ∀ (H1 : Heap) (locs1 : List Loc), va_P g.1 vwCl (wf r.2) H1 → va_D A (wf r.2) → va_S A s.heap H1 locs1 → W p l e R s m args below meth c H1 locs1 cells slots Q (F0 m (pc + 3) ls (.long r.1 :: rest))) : W p l e R s m args below meth c H locs cells slots Q (F0 m pc ls st0) := cgF hB hr (had _) (fun H1 locs1 h1 h2 h3 => kk z rfl H1 locs1 h1 h2 h3)
theorem goR0 {z : Option Nat} {wc ws : va_W} {av : Array Value} {is : List Nat} (hB : SubW g A s ws wc is H locs) (hr : va_Run p l e R s m args below meth c H locs cells slots 0 0 (F0 m pc ls st0) rest (CR0 g wc z av) (inW wc))
    (kk : ∀ (r : Option Nat), r = z → ∀ (H1 : Heap) (locs1 : List Loc), va_P g.1 vwCl ws H1 → va_S A s.heap H1 locs1 → W p l e R s m args below meth c H1 locs1 cells slots Q (F0 m (pc + 3) ls (va_rf r :: rest))) : W p l e R s m args below meth c H locs cells slots Q (F0 m pc ls st0) := cg0 hB hr (fun H1 locs1 h1 h2 => kk z rfl H1 locs1 h1 h2)
theorem goR1 {β : Type} {wf : β → va_W} {z : Option Nat × β} {wc ws : va_W} {av : Array Value} {is : List Nat} (hB : SubW g A s ws wc is H locs) (hr : va_Run p l e R s m args below meth c H locs cells slots 0 0 (F0 m pc ls st0) rest (CR g wc wf z av) (inW wc)) (had : ∀ u : β, (wf u).map Prod.fst = wc.map Prod.fst)
    (kk : ∀ (r : Option Nat × β), r = z → ∀ (H1 : Heap) (locs1 : List Loc), va_P g.1 vwCl (splice ws is (wf r.2)) H1 → va_D A (splice ws is (wf r.2)) → va_S A s.heap H1 locs1 → W p l e R s m args below meth c H1 locs1 cells slots Q (F0 m (pc + 3) ls (va_rf r.1 :: rest))) : W p l e R s m args below meth c H locs cells slots Q (F0 m pc ls st0) := cg1 hB hr (had _) (fun H1 locs1 h1 h2 h3 => kk z rfl H1 locs1 h1 h2 h3)
theorem goRF {β : Type} {wf : β → va_W} {z : Option Nat × β} {ws : va_W} {av : Array Value} (hB : SubW g A s ws ws (List.range ws.length) H locs) (hr : va_Run p l e R s m args below meth c H locs cells slots 0 0 (F0 m pc ls st0) rest (CR g ws wf z av) (inW ws)) (had : ∀ u : β, (wf u).map Prod.fst = ws.map Prod.fst)
    (kk : ∀ (r : Option Nat × β), r = z → ∀ (H1 : Heap) (locs1 : List Loc), va_P g.1 vwCl (wf r.2) H1 → va_D A (wf r.2) → va_S A s.heap H1 locs1 → W p l e R s m args below meth c H1 locs1 cells slots Q (F0 m (pc + 3) ls (va_rf r.1 :: rest))) : W p l e R s m args below meth c H locs cells slots Q (F0 m pc ls st0) := cgF hB hr (had _) (fun H1 locs1 h1 h2 h3 => kk z rfl H1 locs1 h1 h2 h3)
theorem goD0 {z : UInt64} {wc ws : va_W} {av : Array Value} {is : List Nat} (hB : SubW g A s ws wc is H locs) (hr : va_Run p l e R s m args below meth c H locs cells slots 0 0 (F0 m pc ls st0) rest (CD0 g wc z av) (inW wc))
    (kk : ∀ (r : UInt64), r = z → ∀ (H1 : Heap) (locs1 : List Loc), va_P g.1 vwCl ws H1 → va_S A s.heap H1 locs1 → W p l e R s m args below meth c H1 locs1 cells slots Q (F0 m (pc + 3) ls (.double r :: rest))) : W p l e R s m args below meth c H locs cells slots Q (F0 m pc ls st0) := cg0 hB hr (fun H1 locs1 h1 h2 => kk z rfl H1 locs1 h1 h2)
theorem goD1 {β : Type} {wf : β → va_W} {z : UInt64 × β} {wc ws : va_W} {av : Array Value} {is : List Nat} (hB : SubW g A s ws wc is H locs) (hr : va_Run p l e R s m args below meth c H locs cells slots 0 0 (F0 m pc ls st0) rest (CD g wc wf z av) (inW wc)) (had : ∀ u : β, (wf u).map Prod.fst = wc.map Prod.fst)
    (kk : ∀ (r : UInt64 × β), r = z → ∀ (H1 : Heap) (locs1 : List Loc), va_P g.1 vwCl (splice ws is (wf r.2)) H1 → va_D A (splice ws is (wf r.2)) → va_S A s.heap H1 locs1 → W p l e R s m args below meth c H1 locs1 cells slots Q (F0 m (pc + 3) ls (.double r.1 :: rest))) : W p l e R s m args below meth c H locs cells slots Q (F0 m pc ls st0) := cg1 hB hr (had _) (fun H1 locs1 h1 h2 h3 => kk z rfl H1 locs1 h1 h2 h3)
theorem goDF {β : Type} {wf : β → va_W} {z : UInt64 × β} {ws : va_W} {av : Array Value} (hB : SubW g A s ws ws (List.range ws.length) H locs) (hr : va_Run p l e R s m args below meth c H locs cells slots 0 0 (F0 m pc ls st0) rest (CD g ws wf z av) (inW ws)) (had : ∀ u : β, (wf u).map Prod.fst = ws.map Prod.fst)
    (kk : ∀ (r : UInt64 × β), r = z → ∀ (H1 : Heap) (locs1 : List Loc), va_P g.1 vwCl (wf r.2) H1 → va_D A (wf r.2) → va_S A s.heap H1 locs1 → W p l e R s m args below meth c H1 locs1 cells slots Q (F0 m (pc + 3) ls (.double r.1 :: rest))) : W p l e R s m args below meth c H locs cells slots Q (F0 m pc ls st0) := cgF hB hr (had _) (fun H1 locs1 h1 h2 h3 => kk z rfl H1 locs1 h1 h2 h3)
theorem goF0 {z : UInt32} {wc ws : va_W} {av : Array Value} {is : List Nat} (hB : SubW g A s ws wc is H locs) (hr : va_Run p l e R s m args below meth c H locs cells slots 0 0 (F0 m pc ls st0) rest (CF0 g wc z av) (inW wc))
    (kk : ∀ (r : UInt32), r = z → ∀ (H1 : Heap) (locs1 : List Loc), va_P g.1 vwCl ws H1 → va_S A s.heap H1 locs1 → W p l e R s m args below meth c H1 locs1 cells slots Q (F0 m (pc + 3) ls (.float r :: rest))) : W p l e R s m args below meth c H locs cells slots Q (F0 m pc ls st0) := cg0 hB hr (fun H1 locs1 h1 h2 => kk z rfl H1 locs1 h1 h2)
theorem goF1 {β : Type} {wf : β → va_W} {z : UInt32 × β} {wc ws : va_W} {av : Array Value} {is : List Nat} (hB : SubW g A s ws wc is H locs) (hr : va_Run p l e R s m args below meth c H locs cells slots 0 0 (F0 m pc ls st0) rest (CF g wc wf z av) (inW wc)) (had : ∀ u : β, (wf u).map Prod.fst = wc.map Prod.fst)
    (kk : ∀ (r : UInt32 × β), r = z → ∀ (H1 : Heap) (locs1 : List Loc), va_P g.1 vwCl (splice ws is (wf r.2)) H1 → va_D A (splice ws is (wf r.2)) → va_S A s.heap H1 locs1 → W p l e R s m args below meth c H1 locs1 cells slots Q (F0 m (pc + 3) ls (.float r.1 :: rest))) : W p l e R s m args below meth c H locs cells slots Q (F0 m pc ls st0) := cg1 hB hr (had _) (fun H1 locs1 h1 h2 h3 => kk z rfl H1 locs1 h1 h2 h3)
theorem goFF {β : Type} {wf : β → va_W} {z : UInt32 × β} {ws : va_W} {av : Array Value} (hB : SubW g A s ws ws (List.range ws.length) H locs) (hr : va_Run p l e R s m args below meth c H locs cells slots 0 0 (F0 m pc ls st0) rest (CF g ws wf z av) (inW ws)) (had : ∀ u : β, (wf u).map Prod.fst = ws.map Prod.fst)
    (kk : ∀ (r : UInt32 × β), r = z → ∀ (H1 : Heap) (locs1 : List Loc), va_P g.1 vwCl (wf r.2) H1 → va_D A (wf r.2) → va_S A s.heap H1 locs1 → W p l e R s m args below meth c H1 locs1 cells slots Q (F0 m (pc + 3) ls (.float r.1 :: rest))) : W p l e R s m args below meth c H locs cells slots Q (F0 m pc ls st0) := cgF hB hr (had _) (fun H1 locs1 h1 h2 h3 => kk z rfl H1 locs1 h1 h2 h3)
theorem goS0 {z : Nat} {wc ws : va_W} {av : Array Value} {is : List Nat} (hB : SubW g A s ws wc is H locs) (hr : va_Run p l e R s m args below meth c H locs cells slots 0 0 (F0 m pc ls st0) rest (CS0 g wc z av) (inW wc))
    (kk : ∀ (r : Nat), r = z → ∀ (H1 : Heap) (locs1 : List Loc), va_P g.1 vwCl ws H1 → va_S A s.heap H1 locs1 → W p l e R s m args below meth c H1 locs1 cells slots Q (F0 m (pc + 3) ls (.ref (g.2.2.2 (r + 1)) :: rest))) : W p l e R s m args below meth c H locs cells slots Q (F0 m pc ls st0) := cg0 hB hr (fun H1 locs1 h1 h2 => kk z rfl H1 locs1 h1 h2)
theorem goV1 {β : Type} {wf : β → va_W} {z : β} {wc ws : va_W} {av : Array Value} {is : List Nat} (hB : SubW g A s ws wc is H locs) (hr : va_Run p l e R s m args below meth c H locs cells slots 0 0 (F0 m pc ls st0) rest (CV g wc wf z av) (inW wc)) (had : ∀ u : β, (wf u).map Prod.fst = wc.map Prod.fst)
    (kk : ∀ (r : β), r = z → ∀ (H1 : Heap) (locs1 : List Loc), va_P g.1 vwCl (splice ws is (wf r)) H1 → va_D A (splice ws is (wf r)) → va_S A s.heap H1 locs1 → W p l e R s m args below meth c H1 locs1 cells slots Q (F0 m (pc + 3) ls (rest))) : W p l e R s m args below meth c H locs cells slots Q (F0 m pc ls st0) := cg1 hB hr (had _) (fun H1 locs1 h1 h2 h3 => kk z rfl H1 locs1 h1 h2 h3)
theorem goVF {β : Type} {wf : β → va_W} {z : β} {ws : va_W} {av : Array Value} (hB : SubW g A s ws ws (List.range ws.length) H locs) (hr : va_Run p l e R s m args below meth c H locs cells slots 0 0 (F0 m pc ls st0) rest (CV g ws wf z av) (inW ws)) (had : ∀ u : β, (wf u).map Prod.fst = ws.map Prod.fst)
    (kk : ∀ (r : β), r = z → ∀ (H1 : Heap) (locs1 : List Loc), va_P g.1 vwCl (wf r) H1 → va_D A (wf r) → va_S A s.heap H1 locs1 → W p l e R s m args below meth c H1 locs1 cells slots Q (F0 m (pc + 3) ls (rest))) : W p l e R s m args below meth c H locs cells slots Q (F0 m pc ls st0) := cgF hB hr (had _) (fun H1 locs1 h1 h2 h3 => kk z rfl H1 locs1 h1 h2 h3)
theorem endI0 {z v : Int32} {ws : va_W} {own : String} {cc : ByteArray} {nL : Nat} (C : Cx p s m args meth c (inW ws) g own cc (some .int) nL) (hz : z = v) (hP : va_P g.1 vwCl ws H) (hS : va_S (inW ws) s.heap H locs) (hdg : decode cc pc = .ok (.ireturn, 1)) : W p l e R s m args below meth c H locs cells slots (MQ below (CI0 g ws z) args s cells slots (inW ws)) (F0 m pc ls [.int v]) := by
  obtain ⟨hx, hb, hr, hml, hown, hlk, hts, hK, hZo, hZ⟩ := C
  exact W.iret hx hb hr (fun t ht hW => ⟨by rw [hz], by rw [ht]; exact hP, hS.F ht⟩) hS.2.2 hdg hlk
theorem endI1 {β : Type} {z : Int32 × β} {v : Int32} {u : β} {wf : β → va_W} {ws : va_W} {own : String} {cc : ByteArray} {nL : Nat} (C : Cx p s m args meth c (inW ws) g own cc (some .int) nL) (hz : z = (v, u)) (hP : va_P g.1 vwCl (wf u) H) (hS : va_S (inW ws) s.heap H locs) (hdg : decode cc pc = .ok (.ireturn, 1)) : W p l e R s m args below meth c H locs cells slots (MQ below (CI g ws wf z) args s cells slots (inW ws)) (F0 m pc ls [.int v]) := by
  obtain ⟨hx, hb, hr, hml, hown, hlk, hts, hK, hZo, hZ⟩ := C
  exact W.iret hx hb hr (fun t ht hW => ⟨by rw [hz], by rw [ht, hz]; exact hP, hS.F ht⟩) hS.2.2 hdg hlk
theorem endZ0 {ty : FieldType} {z v : Int32} {ws : va_W} {own : String} {cc : ByteArray} {nL : Nat} (C : Cx p s m args meth c (inW ws) g own cc (some ty) nL) (hz : z = v) (hP : va_P g.1 vwCl ws H) (hS : va_S (inW ws) s.heap H locs) (hn : narrow ty (.int v) = .int v) (hdg : decode cc pc = .ok (.ireturn, 1)) : W p l e R s m args below meth c H locs cells slots (MQ below (CI0 g ws z) args s cells slots (inW ws)) (F0 m pc ls [.int v]) := by
  obtain ⟨hx, hb, hr, hml, hown, hlk, hts, hK, hZo, hZ⟩ := C
  exact W.zret hx hb hr hn (fun t ht hW => ⟨by rw [hz], by rw [ht]; exact hP, hS.F ht⟩) hS.2.2 hdg hlk
theorem endZ1 {ty : FieldType} {β : Type} {z : Int32 × β} {v : Int32} {u : β} {wf : β → va_W} {ws : va_W} {own : String} {cc : ByteArray} {nL : Nat} (C : Cx p s m args meth c (inW ws) g own cc (some ty) nL) (hz : z = (v, u)) (hP : va_P g.1 vwCl (wf u) H) (hS : va_S (inW ws) s.heap H locs) (hn : narrow ty (.int v) = .int v) (hdg : decode cc pc = .ok (.ireturn, 1)) : W p l e R s m args below meth c H locs cells slots (MQ below (CI g ws wf z) args s cells slots (inW ws)) (F0 m pc ls [.int v]) := by
  obtain ⟨hx, hb, hr, hml, hown, hlk, hts, hK, hZo, hZ⟩ := C
  exact W.zret hx hb hr hn (fun t ht hW => ⟨by rw [hz], by rw [ht, hz]; exact hP, hS.F ht⟩) hS.2.2 hdg hlk
theorem endL0 {z v : Int64} {ws : va_W} {own : String} {cc : ByteArray} {nL : Nat} (C : Cx p s m args meth c (inW ws) g own cc (some .long) nL) (hz : z = v) (hP : va_P g.1 vwCl ws H) (hS : va_S (inW ws) s.heap H locs) (hdg : decode cc pc = .ok (.lreturn, 1)) : W p l e R s m args below meth c H locs cells slots (MQ below (CL0 g ws z) args s cells slots (inW ws)) (F0 m pc ls [.long v]) := by
  obtain ⟨hx, hb, hr, hml, hown, hlk, hts, hK, hZo, hZ⟩ := C
  exact W.lret hx hb hr (fun t ht hW => ⟨by rw [hz], by rw [ht]; exact hP, hS.F ht⟩) hS.2.2 hdg hlk
theorem endL1 {β : Type} {z : Int64 × β} {v : Int64} {u : β} {wf : β → va_W} {ws : va_W} {own : String} {cc : ByteArray} {nL : Nat} (C : Cx p s m args meth c (inW ws) g own cc (some .long) nL) (hz : z = (v, u)) (hP : va_P g.1 vwCl (wf u) H) (hS : va_S (inW ws) s.heap H locs) (hdg : decode cc pc = .ok (.lreturn, 1)) : W p l e R s m args below meth c H locs cells slots (MQ below (CL g ws wf z) args s cells slots (inW ws)) (F0 m pc ls [.long v]) := by
  obtain ⟨hx, hb, hr, hml, hown, hlk, hts, hK, hZo, hZ⟩ := C
  exact W.lret hx hb hr (fun t ht hW => ⟨by rw [hz], by rw [ht, hz]; exact hP, hS.F ht⟩) hS.2.2 hdg hlk
theorem endF0 {z v : UInt32} {ws : va_W} {own : String} {cc : ByteArray} {nL : Nat} (C : Cx p s m args meth c (inW ws) g own cc (some .float) nL) (hz : z = v) (hP : va_P g.1 vwCl ws H) (hS : va_S (inW ws) s.heap H locs) (hdg : decode cc pc = .ok (.freturn, 1)) : W p l e R s m args below meth c H locs cells slots (MQ below (CF0 g ws z) args s cells slots (inW ws)) (F0 m pc ls [.float v]) := by
  obtain ⟨hx, hb, hr, hml, hown, hlk, hts, hK, hZo, hZ⟩ := C
  exact W.fret hx hb hr (fun t ht hW => ⟨by rw [hz], by rw [ht]; exact hP, hS.F ht⟩) hS.2.2 hdg hlk
theorem endF1 {β : Type} {z : UInt32 × β} {v : UInt32} {u : β} {wf : β → va_W} {ws : va_W} {own : String} {cc : ByteArray} {nL : Nat} (C : Cx p s m args meth c (inW ws) g own cc (some .float) nL) (hz : z = (v, u)) (hP : va_P g.1 vwCl (wf u) H) (hS : va_S (inW ws) s.heap H locs) (hdg : decode cc pc = .ok (.freturn, 1)) : W p l e R s m args below meth c H locs cells slots (MQ below (CF g ws wf z) args s cells slots (inW ws)) (F0 m pc ls [.float v]) := by
  obtain ⟨hx, hb, hr, hml, hown, hlk, hts, hK, hZo, hZ⟩ := C
  exact W.fret hx hb hr (fun t ht hW => ⟨by rw [hz], by rw [ht, hz]; exact hP, hS.F ht⟩) hS.2.2 hdg hlk
theorem endD0 {z v : UInt64} {ws : va_W} {own : String} {cc : ByteArray} {nL : Nat} (C : Cx p s m args meth c (inW ws) g own cc (some .double) nL) (hz : z = v) (hP : va_P g.1 vwCl ws H) (hS : va_S (inW ws) s.heap H locs) (hdg : decode cc pc = .ok (.dreturn, 1)) : W p l e R s m args below meth c H locs cells slots (MQ below (CD0 g ws z) args s cells slots (inW ws)) (F0 m pc ls [.double v]) := by
  obtain ⟨hx, hb, hr, hml, hown, hlk, hts, hK, hZo, hZ⟩ := C
  exact W.dret hx hb hr (fun t ht hW => ⟨by rw [hz], by rw [ht]; exact hP, hS.F ht⟩) hS.2.2 hdg hlk
theorem endD1 {β : Type} {z : UInt64 × β} {v : UInt64} {u : β} {wf : β → va_W} {ws : va_W} {own : String} {cc : ByteArray} {nL : Nat} (C : Cx p s m args meth c (inW ws) g own cc (some .double) nL) (hz : z = (v, u)) (hP : va_P g.1 vwCl (wf u) H) (hS : va_S (inW ws) s.heap H locs) (hdg : decode cc pc = .ok (.dreturn, 1)) : W p l e R s m args below meth c H locs cells slots (MQ below (CD g ws wf z) args s cells slots (inW ws)) (F0 m pc ls [.double v]) := by
  obtain ⟨hx, hb, hr, hml, hown, hlk, hts, hK, hZo, hZ⟩ := C
  exact W.dret hx hb hr (fun t ht hW => ⟨by rw [hz], by rw [ht, hz]; exact hP, hS.F ht⟩) hS.2.2 hdg hlk
theorem endS0 {z n : Nat} {rt : FieldType} {ws : va_W} {own : String} {cc : ByteArray} {nL : Nat} (C : Cx p s m args meth c (inW ws) g own cc (some rt) nL) (hrt : (∃ n, rt = .object n) ∨ ∃ t, rt = .array t) (hz : z = n) (hP : va_P g.1 vwCl ws H) (hS : va_S (inW ws) s.heap H locs) (hdg : decode cc pc = .ok (.areturn, 1)) : W p l e R s m args below meth c H locs cells slots (MQ below (CS0 g ws z) args s cells slots (inW ws)) (F0 m pc ls [.ref (g.2.2.2 (n + 1))]) := by
  obtain ⟨hx, hb, hr, hml, hown, hlk, hts, hK, hZo, hZ⟩ := C
  exact W.aret hx hb hr hrt (Or.inr ⟨_, rfl⟩) (fun t ht hW => ⟨by rw [hz], by rw [ht]; exact hP, hS.F ht⟩) hS.2.2 hdg hlk
theorem endV {β : Type} {z u : β} {wf : β → va_W} {ws : va_W} {own : String} {cc : ByteArray} {nL : Nat} (C : Cx p s m args meth c (inW ws) g own cc none nL) (hz : z = u) (hP : va_P g.1 vwCl (wf u) H) (hS : va_S (inW ws) s.heap H locs) (hdg : decode cc pc = .ok (.return_, 1)) : W p l e R s m args below meth c H locs cells slots (MQ below (CV g ws wf z) args s cells slots (inW ws)) (F0 m pc ls []) := by
  obtain ⟨hx, hb, hr, hml, hown, hlk, hts, hK, hZo, hZ⟩ := C
  exact W.vret hx hb hr (fun t ht hW => ⟨rfl, by rw [ht, hz]; exact hP, hS.F ht⟩) hS.2.2 hdg hlk
theorem lc_eq {x y : Int64} {off : Int} {tgt : Nat} {cc : ByteArray} (hx : p.tables.exec = Jvm.exec) (hb : c.code = cc) (d1 : decode cc pc = .ok (.lcmp, 1)) (d2 : decode cc (pc + 1) = .ok (.ifCond .eq off, 3)) (ht : ((pc + 1 : Nat) : Int) + off = (tgt : Int))
    (kt : x = y → W p l e R s m args below meth c H locs cells slots Q (F0 m tgt ls rest)) (kf : ¬ (x = y) → W p l e R s m args below meth c H locs cells slots Q (F0 m (pc + 4) ls rest)) : W p l e R s m args below meth c H locs cells slots Q (F0 m pc ls (.long y :: .long x :: rest)) :=
  W.lcmp hx hb d1 (lv_if_eq hx hb d2 ht (fun h => kt ((lg_cmp_eq x y).mp h)) (fun h => kf (fun q => h ((lg_cmp_eq x y).mpr q))))
theorem lc_lt {x y : Int64} {off : Int} {tgt : Nat} {cc : ByteArray} (hx : p.tables.exec = Jvm.exec) (hb : c.code = cc) (d1 : decode cc pc = .ok (.lcmp, 1)) (d2 : decode cc (pc + 1) = .ok (.ifCond .lt off, 3)) (ht : ((pc + 1 : Nat) : Int) + off = (tgt : Int))
    (kt : x < y → W p l e R s m args below meth c H locs cells slots Q (F0 m tgt ls rest)) (kf : ¬ (x < y) → W p l e R s m args below meth c H locs cells slots Q (F0 m (pc + 4) ls rest)) : W p l e R s m args below meth c H locs cells slots Q (F0 m pc ls (.long y :: .long x :: rest)) :=
  W.lcmp hx hb d1 (lv_if_lt hx hb d2 ht (fun h => kt ((lg_cmp_lt x y).mp h)) (fun h => kf (fun q => h ((lg_cmp_lt x y).mpr q))))
theorem lc_ge {x y : Int64} {off : Int} {tgt : Nat} {cc : ByteArray} (hx : p.tables.exec = Jvm.exec) (hb : c.code = cc) (d1 : decode cc pc = .ok (.lcmp, 1)) (d2 : decode cc (pc + 1) = .ok (.ifCond .ge off, 3)) (ht : ((pc + 1 : Nat) : Int) + off = (tgt : Int))
    (kt : y ≤ x → W p l e R s m args below meth c H locs cells slots Q (F0 m tgt ls rest)) (kf : ¬ (y ≤ x) → W p l e R s m args below meth c H locs cells slots Q (F0 m (pc + 4) ls rest)) : W p l e R s m args below meth c H locs cells slots Q (F0 m pc ls (.long y :: .long x :: rest)) :=
  W.lcmp hx hb d1 (lv_if_ge hx hb d2 ht (fun h => kt ((lg_cmp_ge x y).mp h)) (fun h => kf (fun q => h ((lg_cmp_ge x y).mpr q))))
theorem lc_gt {x y : Int64} {off : Int} {tgt : Nat} {cc : ByteArray} (hx : p.tables.exec = Jvm.exec) (hb : c.code = cc) (d1 : decode cc pc = .ok (.lcmp, 1)) (d2 : decode cc (pc + 1) = .ok (.ifCond .gt off, 3)) (ht : ((pc + 1 : Nat) : Int) + off = (tgt : Int))
    (kt : y < x → W p l e R s m args below meth c H locs cells slots Q (F0 m tgt ls rest)) (kf : ¬ (y < x) → W p l e R s m args below meth c H locs cells slots Q (F0 m (pc + 4) ls rest)) : W p l e R s m args below meth c H locs cells slots Q (F0 m pc ls (.long y :: .long x :: rest)) :=
  W.lcmp hx hb d1 (lv_if_gt hx hb d2 ht (fun h => kt ((lg_cmp_gt x y).mp h)) (fun h => kf (fun q => h ((lg_cmp_gt x y).mpr q))))
theorem lc_le {x y : Int64} {off : Int} {tgt : Nat} {cc : ByteArray} (hx : p.tables.exec = Jvm.exec) (hb : c.code = cc) (d1 : decode cc pc = .ok (.lcmp, 1)) (d2 : decode cc (pc + 1) = .ok (.ifCond .le off, 3)) (ht : ((pc + 1 : Nat) : Int) + off = (tgt : Int))
    (kt : x ≤ y → W p l e R s m args below meth c H locs cells slots Q (F0 m tgt ls rest)) (kf : ¬ (x ≤ y) → W p l e R s m args below meth c H locs cells slots Q (F0 m (pc + 4) ls rest)) : W p l e R s m args below meth c H locs cells slots Q (F0 m pc ls (.long y :: .long x :: rest)) :=
  W.lcmp hx hb d1 (lv_if_le hx hb d2 ht (fun h => kt ((lg_cmp_le x y).mp h)) (fun h => kf (fun q => h ((lg_cmp_le x y).mpr q))))
theorem lc_ne {x y : Int64} {off : Int} {tgt : Nat} {cc : ByteArray} (hx : p.tables.exec = Jvm.exec) (hb : c.code = cc) (d1 : decode cc pc = .ok (.lcmp, 1)) (d2 : decode cc (pc + 1) = .ok (.ifCond .ne off, 3)) (ht : ((pc + 1 : Nat) : Int) + off = (tgt : Int))
    (kt : ¬ x = y → W p l e R s m args below meth c H locs cells slots Q (F0 m tgt ls rest)) (kf : x = y → W p l e R s m args below meth c H locs cells slots Q (F0 m (pc + 4) ls rest)) : W p l e R s m args below meth c H locs cells slots Q (F0 m pc ls (.long y :: .long x :: rest)) :=
  W.lcmp hx hb d1 (lv_if_ne hx hb d2 ht (fun h => kt (fun q => h ((lg_cmp_eq x y).mpr q))) (fun h => kf ((lg_cmp_eq x y).mp h)))
theorem entryW {vs : List Value} {n : Nat} {lv : List (Nat × Value)} (hlv : lv_args 0 vs = lv) (hn : (lg_sl vs).length ≤ n) (k : ∀ ls : Array Slot, lv_has ls n lv → W p l e R s m args below meth c H locs cells slots Q (F0 m 0 ls [])) : W p l e R s m args below meth c H locs cells slots Q (entryFrame m vs.toArray n) := by
  rw [lg_entry_eq]
  have h := lv_entry vs (n := n) hn
  rw [hlv] at h
  exact k _ h
/-- an object's class, as the rows want it -/
def FKt (ci : Nat) (Cn : String) (T : u_T) (N : Nat) (ty : Nat → FieldType) : Prop := vwCl[ci]? = some (Cn, T, N) ∧ (∀ w ∈ u_ws Cn T N, w ∈ TB) ∧ (∀ k, k < N → parseFieldDescriptor (T k).2.2.1 = some (ty k)) ∧ (∀ a, a < N → ∀ b, b < N → a ≠ b → (T a).2.1 ≠ (T b).2.1)
theorem gf {own ref Cn n d : String} {cc : ByteArray} {retM : Option FieldType} {nL index a ci N : Nat} {fin : Bool} {T : u_T} {ty : Nat → FieldType} {fs : List Value} {v : Value} {ws : va_W} (C : Cx p s m args meth c A g own cc retM nL) (hP : va_P g.1 vwCl ws H) (q0 k : Nat) (fk : FKt ci Cn T N ty) (he : ws[q0]? = some (a, .inr (ci, fs))) (hk : k < N) (hT : T k = (ref, n, d, fin)) (q : Cond.fieldLink own index ref n d ∈ TB) (hv : fs[k]? = some v) (hdg : decode cc pc = .ok (.getfield index, 3))
    (kk : W p l e R s m args below meth c H locs cells slots Q (F0 m (pc + 3) ls (v :: rest))) : W p l e R s m args below meth c H locs cells slots Q (F0 m pc ls (.ref a :: rest)) := by
  obtain ⟨hx, hb, hr, hml, hown, hlk, hts, hK, hZo, hZ⟩ := C
  obtain ⟨f1, f2, f3, f4⟩ := fk
  refine va_get (D := g.1) (ref := ref) hx hb hts f2 hown hK hP q0 he f1 k hk ?_ ?_ hv hdg kk
  · rw [hT]; exact hts _ q
  · rw [hT]; exact fun _ h => h
theorem pfI {own ref Cn n d : String} {cc : ByteArray} {retM : Option FieldType} {nL index a ci N : Nat} {T : u_T} {ty : Nat → FieldType} {t : FieldType} {fs : List Value} {ff : IV → List Value} {o : IV} {x : Int32} {ws : va_W} (C : Cx p s m args meth c A g own cc retM nL) (hP : va_P g.1 vwCl ws H) (hD : va_D A ws) (hS : va_S A s.heap H locs) (q0 k : Nat) (fk : FKt ci Cn T N ty) (he : ws[q0]? = some (a, .inr (ci, fs))) (hk : k < N) (hT : T k = (ref, n, d, false)) (q : Cond.fieldLink own index ref n d ∈ TB) (hty : ty k = t) (hn : narrow t (.int x) = .int x) (hfit : fits t (.int x) = true) (hl : k < fs.length) (hset : fs.set k (.int x) = ff (upd o k x)) (hdg : decode cc pc = .ok (.putfield index, 3))
    (kk : ∀ o' : IV, o' = upd o k x → ∀ (H1 : Heap) (locs1 : List Loc), va_P g.1 vwCl (ws.set q0 (a, .inr (ci, ff o'))) H1 → va_D A (ws.set q0 (a, .inr (ci, ff o'))) → va_S A s.heap H1 locs1 → W p l e R s m args below meth c H1 locs1 cells slots Q (F0 m (pc + 3) ls rest)) : W p l e R s m args below meth c H locs cells slots Q (F0 m pc ls (.int x :: .ref a :: rest)) := by
  obtain ⟨hx, hb, hr, hml, hown, hlk, hts, hK, hZo, hZ⟩ := C
  obtain ⟨f1, f2, f3, f4⟩ := fk
  refine va_put (D := g.1) (ty := t) (ref := ref) hx hb hts f2 ty f3 f4 hown hK hP hD hS q0 he f1 k hk ?_ ?_ ?_ ?_ hn hfit hl hdg (fun H1 locs1 h1 h2 h3 => kk _ rfl H1 locs1 ?_ ?_ h3)
  · rw [hT]; exact hts _ q
  · rw [hT]; exact fun _ h => h
  · rw [hT]
  · rw [f3 k hk, hty]
  · rw [hset] at h1; exact h1
  · rw [hset] at h2; exact h2
theorem pfL {own ref Cn n d : String} {cc : ByteArray} {retM : Option FieldType} {nL index a ci N : Nat} {T : u_T} {ty : Nat → FieldType} {t : FieldType} {fs : List Value} {ff : LV → List Value} {o : LV} {x : Int64} {ws : va_W} (C : Cx p s m args meth c A g own cc retM nL) (hP : va_P g.1 vwCl ws H) (hD : va_D A ws) (hS : va_S A s.heap H locs) (q0 k : Nat) (fk : FKt ci Cn T N ty) (he : ws[q0]? = some (a, .inr (ci, fs))) (hk : k < N) (hT : T k = (ref, n, d, false)) (q : Cond.fieldLink own index ref n d ∈ TB) (hty : ty k = t) (hn : narrow t (.long x) = .long x) (hfit : fits t (.long x) = true) (hl : k < fs.length) (hset : fs.set k (.long x) = ff (vp_updL o k x)) (hdg : decode cc pc = .ok (.putfield index, 3))
    (kk : ∀ o' : LV, o' = vp_updL o k x → ∀ (H1 : Heap) (locs1 : List Loc), va_P g.1 vwCl (ws.set q0 (a, .inr (ci, ff o'))) H1 → va_D A (ws.set q0 (a, .inr (ci, ff o'))) → va_S A s.heap H1 locs1 → W p l e R s m args below meth c H1 locs1 cells slots Q (F0 m (pc + 3) ls rest)) : W p l e R s m args below meth c H locs cells slots Q (F0 m pc ls (.long x :: .ref a :: rest)) := by
  obtain ⟨hx, hb, hr, hml, hown, hlk, hts, hK, hZo, hZ⟩ := C
  obtain ⟨f1, f2, f3, f4⟩ := fk
  refine va_put (D := g.1) (ty := t) (ref := ref) hx hb hts f2 ty f3 f4 hown hK hP hD hS q0 he f1 k hk ?_ ?_ ?_ ?_ hn hfit hl hdg (fun H1 locs1 h1 h2 h3 => kk _ rfl H1 locs1 ?_ ?_ h3)
  · rw [hT]; exact hts _ q
  · rw [hT]; exact fun _ h => h
  · rw [hT]
  · rw [f3 k hk, hty]
  · rw [hset] at h1; exact h1
  · rw [hset] at h2; exact h2
/-- arrays -/
abbrev aI (g : GX) (n : Nat) (f : IV) : va_E := .inl (g.2.1 0, n, .inl f)
abbrev aL (g : GX) (n : Nat) (f : LV) : va_E := .inl (g.2.1 1, n, .inr (.inl f))
abbrev aB (g : GX) (n : Nat) (f : IV) : va_E := .inl (g.2.1 2, n, .inl f)
abbrev aZ (g : GX) (n : Nat) (f : IV) : va_E := .inl (g.2.1 3, n, .inl f)
abbrev aR (g : GX) (k n : Nat) (f : Nat → Option Nat) : va_E := .inl (g.2.1 k, n, .inr (.inr (.inr (.inr f))))
theorem ldI {own : String} {cc : ByteArray} {retM : Option FieldType} {nL a n k : Nat} {f : IV} {i : Int32} {ws : va_W} (C : Cx p s m args meth c A g own cc retM nL) (hP : va_P g.1 vwCl ws H) (q0 : Nat) (he : ws[q0]? = some (a, aI g n f)) (hin : vp_in i n) (hi : i.toNatClampNeg = k) (hdg : decode cc pc = .ok (.iaload, 1))
    (kk : W p l e R s m args below meth c H locs cells slots Q (F0 m (pc + 1) ls (.int (f k) :: rest))) : W p l e R s m args below meth c H locs cells slots Q (F0 m pc ls (.int i :: .ref a :: rest)) := by
  obtain ⟨hx, hb, hr, hml, hown, hlk, hts, hK, hZo, hZ⟩ := C
  subst hi
  exact va_iald hx hb hK hP q0 0 he rfl hin hdg kk
theorem ldL {own : String} {cc : ByteArray} {retM : Option FieldType} {nL a n k : Nat} {f : LV} {i : Int32} {ws : va_W} (C : Cx p s m args meth c A g own cc retM nL) (hP : va_P g.1 vwCl ws H) (q0 : Nat) (he : ws[q0]? = some (a, aL g n f)) (hin : vp_in i n) (hi : i.toNatClampNeg = k) (hdg : decode cc pc = .ok (.laload, 1))
    (kk : W p l e R s m args below meth c H locs cells slots Q (F0 m (pc + 1) ls (.long (f k) :: rest))) : W p l e R s m args below meth c H locs cells slots Q (F0 m pc ls (.int i :: .ref a :: rest)) := by
  obtain ⟨hx, hb, hr, hml, hown, hlk, hts, hK, hZo, hZ⟩ := C
  subst hi
  exact va_lald hx hb hK hP q0 1 he rfl hin hdg kk
theorem ldB {own : String} {cc : ByteArray} {retM : Option FieldType} {nL a n k : Nat} {f : IV} {i : Int32} {ws : va_W} (C : Cx p s m args meth c A g own cc retM nL) (hP : va_P g.1 vwCl ws H) (q0 : Nat) (he : ws[q0]? = some (a, aB g n f)) (hin : vp_in i n) (hi : i.toNatClampNeg = k) (hdg : decode cc pc = .ok (.baload, 1))
    (kk : W p l e R s m args below meth c H locs cells slots Q (F0 m (pc + 1) ls (.int (f k) :: rest))) : W p l e R s m args below meth c H locs cells slots Q (F0 m pc ls (.int i :: .ref a :: rest)) := by
  obtain ⟨hx, hb, hr, hml, hown, hlk, hts, hK, hZo, hZ⟩ := C
  subst hi
  exact va_bald hx hb hK hP q0 2 he rfl hin hdg kk
theorem ldZ {own : String} {cc : ByteArray} {retM : Option FieldType} {nL a n k : Nat} {f : IV} {i : Int32} {ws : va_W} (C : Cx p s m args meth c A g own cc retM nL) (hP : va_P g.1 vwCl ws H) (q0 : Nat) (he : ws[q0]? = some (a, aZ g n f)) (hin : vp_in i n) (hi : i.toNatClampNeg = k) (hdg : decode cc pc = .ok (.baload, 1))
    (kk : W p l e R s m args below meth c H locs cells slots Q (F0 m (pc + 1) ls (.int (f k) :: rest))) : W p l e R s m args below meth c H locs cells slots Q (F0 m pc ls (.int i :: .ref a :: rest)) := by
  obtain ⟨hx, hb, hr, hml, hown, hlk, hts, hK, hZo, hZ⟩ := C
  subst hi
  exact va_zald hx hb hK hP q0 3 he rfl hin hdg kk
theorem stI {own : String} {cc : ByteArray} {retM : Option FieldType} {nL a n k : Nat} {f : IV} {i : Int32} {x : Int32} {ws : va_W} (C : Cx p s m args meth c A g own cc retM nL) (hP : va_P g.1 vwCl ws H) (hD : va_D A ws) (hS : va_S A s.heap H locs) (q0 : Nat) (he : ws[q0]? = some (a, aI g n f)) (hin : vp_in i n) (hi : i.toNatClampNeg = k) (hdg : decode cc pc = .ok (.iastore, 1))
    (kk : ∀ f' : IV, f' = upd f k x → ∀ (H1 : Heap) (locs1 : List Loc), va_P g.1 vwCl (ws.set q0 (a, aI g n f')) H1 → va_D A (ws.set q0 (a, aI g n f')) → va_S A s.heap H1 locs1 → W p l e R s m args below meth c H1 locs1 cells slots Q (F0 m (pc + 1) ls rest)) : W p l e R s m args below meth c H locs cells slots Q (F0 m pc ls (.int x :: .int i :: .ref a :: rest)) := by
  obtain ⟨hx, hb, hr, hml, hown, hlk, hts, hK, hZo, hZ⟩ := C
  subst hi
  exact va_iast hx hb hK hP hD hS q0 0 he rfl hin hdg (kk _ rfl)
theorem stL {own : String} {cc : ByteArray} {retM : Option FieldType} {nL a n k : Nat} {f : LV} {i : Int32} {x : Int64} {ws : va_W} (C : Cx p s m args meth c A g own cc retM nL) (hP : va_P g.1 vwCl ws H) (hD : va_D A ws) (hS : va_S A s.heap H locs) (q0 : Nat) (he : ws[q0]? = some (a, aL g n f)) (hin : vp_in i n) (hi : i.toNatClampNeg = k) (hdg : decode cc pc = .ok (.lastore, 1))
    (kk : ∀ f' : LV, f' = vp_updL f k x → ∀ (H1 : Heap) (locs1 : List Loc), va_P g.1 vwCl (ws.set q0 (a, aL g n f')) H1 → va_D A (ws.set q0 (a, aL g n f')) → va_S A s.heap H1 locs1 → W p l e R s m args below meth c H1 locs1 cells slots Q (F0 m (pc + 1) ls rest)) : W p l e R s m args below meth c H locs cells slots Q (F0 m pc ls (.long x :: .int i :: .ref a :: rest)) := by
  obtain ⟨hx, hb, hr, hml, hown, hlk, hts, hK, hZo, hZ⟩ := C
  subst hi
  exact va_last hx hb hK hP hD hS q0 1 he rfl hin hdg (kk _ rfl)
theorem stB {own : String} {cc : ByteArray} {retM : Option FieldType} {nL a n k : Nat} {f : IV} {i : Int32} {x : Int32} {ws : va_W} (C : Cx p s m args meth c A g own cc retM nL) (hP : va_P g.1 vwCl ws H) (hD : va_D A ws) (hS : va_S A s.heap H locs) (q0 : Nat) (he : ws[q0]? = some (a, aB g n f)) (hin : vp_in i n) (hi : i.toNatClampNeg = k) (hdg : decode cc pc = .ok (.bastore, 1))
    (kk : ∀ f' : IV, f' = upd f k (vp_nar .byte x) → ∀ (H1 : Heap) (locs1 : List Loc), va_P g.1 vwCl (ws.set q0 (a, aB g n f')) H1 → va_D A (ws.set q0 (a, aB g n f')) → va_S A s.heap H1 locs1 → W p l e R s m args below meth c H1 locs1 cells slots Q (F0 m (pc + 1) ls rest)) : W p l e R s m args below meth c H locs cells slots Q (F0 m pc ls (.int x :: .int i :: .ref a :: rest)) := by
  obtain ⟨hx, hb, hr, hml, hown, hlk, hts, hK, hZo, hZ⟩ := C
  subst hi
  exact va_bast hx hb hK hP hD hS q0 2 he rfl hin hdg (kk _ rfl)
theorem stZ {own : String} {cc : ByteArray} {retM : Option FieldType} {nL a n k : Nat} {f : IV} {i : Int32} {x : Int32} {ws : va_W} (C : Cx p s m args meth c A g own cc retM nL) (hP : va_P g.1 vwCl ws H) (hD : va_D A ws) (hS : va_S A s.heap H locs) (q0 : Nat) (he : ws[q0]? = some (a, aZ g n f)) (hin : vp_in i n) (hi : i.toNatClampNeg = k) (hdg : decode cc pc = .ok (.bastore, 1))
    (kk : ∀ f' : IV, f' = upd f k (vp_nar .boolean x) → ∀ (H1 : Heap) (locs1 : List Loc), va_P g.1 vwCl (ws.set q0 (a, aZ g n f')) H1 → va_D A (ws.set q0 (a, aZ g n f')) → va_S A s.heap H1 locs1 → W p l e R s m args below meth c H1 locs1 cells slots Q (F0 m (pc + 1) ls rest)) : W p l e R s m args below meth c H locs cells slots Q (F0 m pc ls (.int x :: .int i :: .ref a :: rest)) := by
  obtain ⟨hx, hb, hr, hml, hown, hlk, hts, hK, hZo, hZ⟩ := C
  subst hi
  exact va_zast hx hb hK hP hD hS q0 3 he rfl hin hdg (kk _ rfl)
theorem alen {own : String} {cc : ByteArray} {retM : Option FieldType} {nL a t0 : Nat} {x : vp_A} {cA : ClassId} {ty : FieldType} {ws : va_W} {v : Int32} (C : Cx p s m args meth c A g own cc retM nL) (hP : va_P g.1 vwCl ws H) (q0 : Nat) (he : ws[q0]? = some (a, .inl (cA, x))) (ht : (tyL g.2.1)[t0]? = some (cA, ty)) (hv : Int32.ofNat x.1 = v) (hdg : decode cc pc = .ok (.arraylength, 1))
    (kk : W p l e R s m args below meth c H locs cells slots Q (F0 m (pc + 1) ls (.int v :: rest))) : W p l e R s m args below meth c H locs cells slots Q (F0 m pc ls (.ref a :: rest)) := by
  obtain ⟨hx, hb, hr, hml, hown, hlk, hts, hK, hZo, hZ⟩ := C
  exact va_alen hx hb hK hP q0 t0 he ht hv hdg kk
end BC
theorem vi {i : Int32} {n k : Nat} (h0 : ¬ i < 0) (h : i.toNatClampNeg = k) (hk : k < n) : vp_in i n := by
  subst h
  exact fun q => q.elim h0 (fun q => absurd hk (by omega))
def lett {α : Type} {β : Sort _} (e : α) (f : α → β) : β := f e
theorem lett_z {α β : Type} {z : β} {e v : α} {f : α → β} (hz : z = lett e f) (ev : v = e) : z = f v := by subst ev; exact hz
theorem lett_o {α : Type} {e v : α} {f : α → Prop} (ho : lett e f) (ev : v = e) : f v := by subst ev; exact ho
/-- a method's beginning -/
theorem enter {p : Program} {l : Launch} {e : Env} {s s₁ : State} {m : MethodId} {args : Array Value} {below : List Frame} {meth : Method} {c : Code} {g : GX} {y : MethodName} {bytes : ByteArray} {maxL : Nat} {ret : Option FieldType} {rm : Room} {av : List Value} {ws : va_W} (own : String) (ho : y.cls = own) (B : BodyLoose p l y (headSpec (wsY y bytes maxL ret) rm) bytes maxL ret e s m args below meth c s₁) (hml : c.maxLocals = maxL) (hv : CP g av ws args s) :
    args = av.toArray ∧ Cx p s m args meth c (inW ws) g own bytes ret maxL ∧ va_P g.1 vwCl ws s.heap ∧ va_D (inW ws) ws ∧ va_S (inW ws) s.heap s.heap [] := by
  obtain ⟨h0, h1, h2, h3, h4, h5⟩ := hv
  have hts := atoms_spec (ws := wsY y bytes maxL ret) B.pre
  refine ⟨h0, ⟨B.exec, B.bytes, B.returns, hml, by rw [← ho]; exact findClass_of_methodNamed B.named, B.notSynchronized, fun w hw => hts w (List.mem_cons_of_mem _ hw), h2, h4, h5⟩, h1, ⟨h3.1, fun k q hk => ⟨k, q.2, hk⟩⟩, va_S.rf⟩
def isB (x : Int32) : Prop := x = 0 ∨ x = 1
theorem isB_nar {x : Int32} (h : isB x) : narrow .boolean (.int x) = .int x := by rcases h with rfl | rfl <;> rfl
theorem isB_fit {x : Int32} (h : isB x) : fits .boolean (.int x) = true := by rcases h with rfl | rfl <;> rfl
noncomputable def big : Nat := Classical.choose (⟨1000000, rfl⟩ : ∃ n : Nat, n = 1000000)
theorem big_eq : big = 1000000 := Classical.choose_spec (⟨1000000, rfl⟩ : ∃ n : Nat, n = 1000000)
theorem tswL {x : Int32} {lo hi : Int} (n : Nat) (vs : List Int32) (hn : lo + (n : Int) = hi + 1) (hvs : (List.range n).all (fun k => vs.contains (Int32.ofInt (lo + (k : Int)))) = true) (h : ∀ v ∈ vs, ¬ x = v) : x.toInt < lo ∨ hi < x.toInt := by
  rcases Int.lt_or_le x.toInt lo with h1 | h1
  · exact Or.inl h1
  rcases Int.lt_or_le hi x.toInt with h2 | h2
  · exact Or.inr h2
  exfalso
  have hk : (x.toInt - lo).toNat < n := by omega
  have h3 := List.all_eq_true.mp hvs (x.toInt - lo).toNat (List.mem_range.mpr hk)
  have h4 : lo + ((x.toInt - lo).toNat : Int) = x.toInt := by omega
  rw [h4, Int32.ofInt_toInt] at h3
  exact h x (List.contains_iff_mem.mp h3) rfl
theorem lkne {x v : Int32} {k : Int} (h : ¬ x = v) (hv : v.toInt = k) : ¬ x.toInt = k := fun q => h (Int32.toInt_inj.mp (q.trans hv.symm))
theorem vlo {i : Int32} (h : ¬ i < 0) : 0 ≤ i := by
  rcases Int32.lt_or_le i 0 with q | q
  · exact absurd q h
  · exact q
theorem vhi {i n : Int32} (h : ¬ n ≤ i) : i < n := Int32.not_le.mp h
theorem vi2 {i m : Int32} {n : Nat} (h0 : 0 ≤ i) (h1 : i < m) (hm : m.toInt = (n : Int)) : vp_in i n := by
  refine vp_in_iff.mpr ⟨?_, ?_⟩
  · have := Int32.le_iff_toInt_le.mp h0; simpa using this
  · rw [← hm]; exact Int32.lt_iff_toInt_lt.mp h1
theorem zNom {g : GX} {A : Nat → Prop} {s : State} (hZo : ZOk g) (hZ : g.2.2.1 A s s.heap) : va_Z "DecadeBridge$Parts" "NOMINALS" "[I" (.ref (g.2.2.2 0)) A s s.heap ∧ va_T .int (g.2.2.2 0) 5 (fun j => .int (nomF j)) A s s.heap := hZo.2.2.2.2.1 _ _ _ hZ
theorem zStr {g : GX} {A : Nat → Prop} {s : State} (hZo : ZOk g) (hZ : g.2.2.1 A s s.heap) : vk_S 20 sLen sByt (fun n => g.2.2.2 (n + 1)) (fun n => g.2.2.2 (n + 31)) A s s.heap := hZo.2.2.2.2.2.1 _ _ _ hZ
theorem zCmp {g : GX} {A : Nat → Prop} {s : State} (hZo : ZOk g) (hZ : g.2.2.1 A s s.heap) : va_Z "java/lang/String" "COMPACT_STRINGS" "Z" (.int 1) A s s.heap := hZo.2.2.2.2.2.2.1 _ _ _ hZ
theorem zRef {g : GX} {A : Nat → Prop} {s : State} (hZo : ZOk g) (hZ : g.2.2.1 A s s.heap) (q : String × Nat × Nat) (hq : q ∈ sRefs) : vk_R q.1 q.2.1 (sTxt.getD q.2.2 "") (g.2.2.2 (q.2.2 + 1)) s := hZo.2.2.2.2.2.2.2.1 _ _ _ hZ q hq
theorem zExc {g : GX} {A : Nat → Prop} {s : State} (hZo : ZOk g) (hZ : g.2.2.1 A s s.heap) : vx_Zq Bundle.tN "UNASSIGNED_STACK" Bundle.steD A s s.heap ∧ vx_Zq Bundle.tN "SUPPRESSED_SENTINEL" Bundle.listD A s s.heap := hZo.2.2.2.2.2.2.2.2.1 _ _ _ hZ
theorem zSio {g : GX} {A : Nat → Prop} {s : State} (hZo : ZOk g) (hZ : g.2.2.1 A s s.heap) : va_Zq "jdk/internal/util/Preconditions" "SIOOBE_FORMATTER" "Ljava/util/function/BiFunction;" A s s.heap := hZo.2.2.2.2.2.2.2.2.2 _ _ _ hZ
theorem zRecv {g : GX} {A : Nat → Prop} {s : State} {H : Heap} {locs : List Loc} (hZo : ZOk g) (hZ : g.2.2.1 A s s.heap) {n : Nat} (hn : n < 20) (hS : va_S A s.heap H locs) : ∃ cell : Cell, H[g.2.2.2 (n + 1)]? = some cell ∧ cell.vm.isStatics = false ∧ s.vm.findClass "java/lang/String" = some cell.cls := vk_recv (adK := fun n => g.2.2.2 (n + 1)) (adV := fun n => g.2.2.2 (n + 31)) (i := n) (zStr hZo hZ) hn hS
