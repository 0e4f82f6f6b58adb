section TYB
variable {p : Program} {l : Launch} {e : Env} {R : Room} {s : State} {m : MethodId} {args : Array Value} {below : List Frame} {meth : Method} {c : Code} {H : Heap} {locs : List Loc} {cells slots : Nat} {Q : State → Prop} {g : GX} {pc : Nat} {ls : Array Slot} {rest st0 : List Value} {cc : ByteArray} {nL : Nat} {ret : Option FieldType} {ws w0 w1 : va_W} {lv : List (Nat × Value)} {A : Nat → Prop} {own : String}
/-! ===== calls in a constructor ===== -/
theorem mkCBN {rm : Room} {index : Nat} {y : MethodName} {bytes : ByteArray} {maxL n mc ms : Nat} (hT : ∀ w ∈ TB, w.before args s = true) (mf : MF y bytes maxL none n) (hl : Cond.methodLink own index y ∈ TB) (hi : Cond.instanceMethod y ∈ TB) (hy : y.name = "<init>")
    (hc0 : rm.cells = mc) (hs0 : rm.slots = ms) (hR : rm.frames + 1 ≤ R.frames ∧ 8 + (maxL + 11) + rm.locals ≤ R.locals) : CallB R s args own index y bytes maxL none (wsY y bytes maxL none) rm mc ms n ∧ y.name = "<init>" ∧ (Cond.instanceMethod y).before args s = true := by
  obtain ⟨h1, h2, h3⟩ := mf
  refine ⟨callB_of n hT (ws := wsY y bytes maxL none) (fun w hw => ?_) rfl hc0 hs0 (hT _ h2) (hT _ hl) h3 hR, hy, hT _ hi⟩
  rcases List.mem_cons.mp hw with rfl | hw
  · exact ⟨h1, TBgood _ h1⟩
  · exact ⟨hw, TBgood _ hw⟩
/-- a constructor's call: the world is the callee's part, then the rest -/
theorem ncore {mc ms : Nat} {av : Array Value} {wc r : va_W} {Post : va_W → Prop} (C : Cx p s m args meth c A g own cc ret nL) (hA : ∀ q : Nat, s.heap.size ≤ q → A q)
    (hr : va_Run p l e R s m args below meth c H locs cells slots mc ms (F0 m pc ls st0) rest (CQN g wc H.size Post av) (va_A wc H.size))
    (hP : va_P g.1 vwCl (wc ++ r) H) (hD : va_D A (wc ++ r)) (hS : va_S A s.heap H locs)
    (kk : ∀ (wn : va_W) (H1 : Heap) (locs1 : List Loc), Post wn → va_P g.1 vwCl (wn ++ r) H1 → va_D A (wn ++ r) → va_S A s.heap H1 locs1 → W p l e R s m args below meth c H1 locs1 (cells + mc) (slots + ms) Q (F0 m (pc + 3) ls rest)) : W p l e R s m args below meth c H locs cells slots Q (F0 m pc ls st0) := by
  have hDc : va_D A wc := ⟨fun i j p q hi hj => hD.1 i j p q (by rw [List.getElem?_append_left (List.getElem?_eq_some_iff.mp hi).1]; exact hi) (by rw [List.getElem?_append_left (List.getElem?_eq_some_iff.mp hj).1]; exact hj), fun k q hk => hD.2 k q (by rw [List.getElem?_append_left (List.getElem?_eq_some_iff.mp hk).1]; exact hk)⟩
  have hin : ∀ q, va_A wc H.size q → A q := fun q hq => by
    rcases hq with ⟨k, ee, hk⟩ | hq
    · exact hDc.2 k _ hk
    · exact hA q (Nat.le_trans hS.1 hq)
  intro T hT X
  obtain ⟨v, st₀, t, T', L, h0, X', hL, e1, e2, ⟨hv, ⟨wn, hpo, hb1, hd1⟩, hz, hk⟩, st⟩ := hr T hT X
  cases hv
  rw [h0] at hz hk
  have hP1 : va_P g.1 vwCl (wn ++ r) t.heap := by
    refine hb1.app (fun k q hq => ?_)
    have hq2 : (wc ++ r)[wc.length + k]? = some q := by rw [List.getElem?_append_right (by omega), Nat.add_sub_cancel_left]; exact hq
    have hl := (hP _ q hq2).lt
    refine (hP _ q hq2).kept (hk q.1 hl fun h => ?_)
    rcases h with ⟨k2, ee, h⟩ | h
    · have hk2 : k2 < wc.length := (List.getElem?_eq_some_iff.mp h).1
      have h4 : (wc ++ r)[k2]? = some (q.1, ee) := by rw [List.getElem?_append_left hk2]; exact h
      have := hD.1 _ k2 q (q.1, ee) hq2 h4 rfl
      omega
    · exact absurd hl (Nat.not_lt.mpr h)
  have hD1 : va_D A (wn ++ r) := by
    have rr : ∀ (k : Nat) (q : Nat × va_E), r[k]? = some q → (wc ++ r)[wc.length + k]? = some q := fun k q hq => by rw [List.getElem?_append_right (by omega), Nat.add_sub_cancel_left]; exact hq
    have cross : ∀ (i k : Nat) (p q : Nat × va_E), wn[i]? = some p → r[k]? = some q → p.1 = q.1 → False := fun i k p q hi hq hpq => by
      have hq2 := rr k q hq
      have hl := (hP _ q hq2).lt
      rcases hd1.2 i p hi with ⟨k2, ee, h⟩ | h
      · have hk2 : k2 < wc.length := (List.getElem?_eq_some_iff.mp h).1
        have h4 : (wc ++ r)[k2]? = some (p.1, ee) := by rw [List.getElem?_append_left hk2]; exact h
        have := hD.1 _ k2 q (p.1, ee) hq2 h4 hpq.symm
        omega
      · rw [hpq] at h; exact absurd hl (Nat.not_lt.mpr h)
    have spl : ∀ (i : Nat) (p : Nat × va_E), (wn ++ r)[i]? = some p → (i < wn.length ∧ wn[i]? = some p) ∨ (wn.length ≤ i ∧ r[i - wn.length]? = some p) := fun i p hi => by
      by_cases hl : i < wn.length
      · rw [List.getElem?_append_left hl] at hi; exact Or.inl ⟨hl, hi⟩
      · rw [List.getElem?_append_right (by omega)] at hi; exact Or.inr ⟨by omega, hi⟩
    refine ⟨fun i j p q hi hj hpq => ?_, fun k q hq => ?_⟩
    · rcases spl i p hi with ⟨a, ha⟩ | ⟨a, ha⟩
      · rcases spl j q hj with ⟨b, hb⟩ | ⟨b, hb⟩
        · exact hd1.1 i j p q ha hb hpq
        · exact (cross _ _ p q ha hb hpq).elim
      · rcases spl j q hj with ⟨b, hb⟩ | ⟨b, hb⟩
        · exact (cross _ _ q p hb ha hpq.symm).elim
        · have := hD.1 _ _ p q (rr _ _ ha) (rr _ _ hb) hpq
          omega
    · rcases spl k q hq with ⟨a, ha⟩ | ⟨a, ha⟩
      · exact hin _ (hd1.2 k q ha)
      · exact hD.2 _ q (rr _ _ ha)
  have hSn : va_S A s.heap T'.heap (locs ++ L) := ⟨Nat.le_trans hS.1 (by rw [e1]; exact hz), fun q h1 h2 => by rw [e1, hk q (Nat.lt_of_lt_of_le h1 hS.1) (fun z => h2 (hin q z))]; exact hS.2.1 q h1 h2, fun q hq => by
    rcases List.mem_append.mp hq with h | h
    · exact hS.2.2 q h
    · exact hin _ (hL q h)⟩
  obtain ⟨t2, a1, b1⟩ := kk wn T'.heap (locs ++ L) hpo (by rw [e1]; exact hP1) hD1 hSn T' rfl X'
  exact ⟨t2, st t2 a1, b1⟩
theorem ncall {rm : Room} {y : MethodName} {bytes : ByteArray} {maxL n index b mc ms : Nat} {As : List Value} {wc r : va_W} {Post : va_W → Prop} (C : Cx p s m args meth c A g own cc ret nL) (hAO : AOW s) (hA : ∀ q : Nat, s.heap.size ≤ q → A q) (mf : MF y bytes maxL none n) (hl : Cond.methodLink own index y ∈ TB) (hi : Cond.instanceMethod y ∈ TB) (hy : y.name = "<init>")
    (hM : ∀ sz, NMet l y bytes maxL rm g (.ref b :: As) wc sz Post mc ms) (hc0 : rm.cells = mc) (hs0 : rm.slots = ms) (hR : rm.frames + 1 ≤ R.frames ∧ 8 + (maxL + 11) + rm.locals ≤ R.locals) (hf : cells + mc ≤ R.cells ∧ slots + ms ≤ R.slots)
    (hP : va_P g.1 vwCl (wc ++ r) H) (hD : va_D A (wc ++ r)) (hS : va_S A s.heap H locs) (hlv : lv_has ls nL lv) (hAs : As.length = n) (hst : st0 = As.reverse ++ .ref b :: rest) (hcat : (rest.map fun v => v.category).sum ≤ 8) (hdg : decode cc pc = .ok (.invokespecial index, 3))
    (kk : ∀ (wn : va_W) (H1 : Heap) (locs1 : List Loc), Post wn → va_P g.1 vwCl (wn ++ r) H1 → va_D A (wn ++ r) → va_S A s.heap H1 locs1 → W p l e R s m args below meth c H1 locs1 (cells + mc) (slots + ms) Q (F0 m (pc + 3) ls rest)) : W p l e R s m args below meth c H locs cells slots Q (F0 m pc ls st0) := by
  obtain ⟨hx, hb, hrr, hml, hown, hlk, hts, hK, hZo, hZ⟩ := id C
  have hPc : va_P g.1 vwCl wc H := fun k q hk => hP k q (by rw [List.getElem?_append_left (List.getElem?_eq_some_iff.mp hk).1]; exact hk)
  have hDc : va_D A wc := ⟨fun i j p q hi hj => hD.1 i j p q (by rw [List.getElem?_append_left (List.getElem?_eq_some_iff.mp hi).1]; exact hi) (by rw [List.getElem?_append_left (List.getElem?_eq_some_iff.mp hj).1]; exact hj), fun k q hk => hD.2 k q (by rw [List.getElem?_append_left (List.getElem?_eq_some_iff.mp hk).1]; exact hk)⟩
  have hin : ∀ q, va_A wc H.size q → A q := fun q hq => by
    rcases hq with ⟨k, ee, hk⟩ | hq
    · exact hDc.2 k _ hk
    · exact hA q (Nat.le_trans hS.1 hq)
  have hpre : PreS s H (CPN g (.ref b :: As) wc H.size) (.ref b :: As) := ⟨CPN_blind _ _ _ _, fun U hU hW => ⟨rfl, by rw [hU], by rw [hU]; exact hPc, va_K.moved hW.alike hK, hDc.weaken (fun _ _ _ _ => trivial), hZo, by
    rw [hU]
    exact hZo.2.2.2.1 _ _ _ _ (hZo.2.2.1 _ _ _ _ (hZo.1 _ _ _ _ hW hZ) hS.2.1) hin, aow_moved hW hAO⟩⟩
  exact ncore C hA (va_runI (p := p) (l := l) (e := e) (R := R) (s := s) (below := below) (meth := meth) (H := H) (locs := locs) (cells := cells) (slots := slots) (g := F0 m pc ls st0) (As := As) (rest := rest) (b := b) (n := n) (maxL := maxL) (bytes := bytes) ⟨hx, hb, hml, hown, hts⟩ (hM H.size) (mkCBN hts mf hl hi hy hc0 hs0 hR) hpre rfl hAs hlv.1 hst (lv_room hcat) hdg hf) hP hD hS kk
theorem ncallN {rm : Room} {y : MethodName} {bytes : ByteArray} {maxL n index b mc ms : Nat} {As : List Value} {wc r : va_W} {Post : va_W → Prop} (C : Cx p s m args meth c A g own cc ret nL) (hAO : AOW s) (hA : ∀ q : Nat, s.heap.size ≤ q → A q) (mf : MF y bytes maxL none n) {host : String} (hl : va_Nw (.methodLinkNest own index y host) s) (hi : Cond.instanceMethod y ∈ TB) (hy : y.name = "<init>")
    (hM : ∀ sz, NMet l y bytes maxL rm g (.ref b :: As) wc sz Post mc ms) (hc0 : rm.cells = mc) (hs0 : rm.slots = ms) (hR : rm.frames + 1 ≤ R.frames ∧ 8 + (maxL + 11) + rm.locals ≤ R.locals) (hf : cells + mc ≤ R.cells ∧ slots + ms ≤ R.slots)
    (hP : va_P g.1 vwCl (wc ++ r) H) (hD : va_D A (wc ++ r)) (hS : va_S A s.heap H locs) (hlv : lv_has ls nL lv) (hAs : As.length = n) (hst : st0 = As.reverse ++ .ref b :: rest) (hcat : (rest.map fun v => v.category).sum ≤ 8) (hdg : decode cc pc = .ok (.invokespecial index, 3))
    (kk : ∀ (wn : va_W) (H1 : Heap) (locs1 : List Loc), Post wn → va_P g.1 vwCl (wn ++ r) H1 → va_D A (wn ++ r) → va_S A s.heap H1 locs1 → W p l e R s m args below meth c H1 locs1 (cells + mc) (slots + ms) Q (F0 m (pc + 3) ls rest)) : W p l e R s m args below meth c H locs cells slots Q (F0 m pc ls st0) := by
  obtain ⟨hx, hb, hrr, hml, hown, hlk, hts, hK, hZo, hZ⟩ := id C
  have hPc : va_P g.1 vwCl wc H := fun k q hk => hP k q (by rw [List.getElem?_append_left (List.getElem?_eq_some_iff.mp hk).1]; exact hk)
  have hDc : va_D A wc := ⟨fun i j p q hi hj => hD.1 i j p q (by rw [List.getElem?_append_left (List.getElem?_eq_some_iff.mp hi).1]; exact hi) (by rw [List.getElem?_append_left (List.getElem?_eq_some_iff.mp hj).1]; exact hj), fun k q hk => hD.2 k q (by rw [List.getElem?_append_left (List.getElem?_eq_some_iff.mp hk).1]; exact hk)⟩
  have hin : ∀ q, va_A wc H.size q → A q := fun q hq => by
    rcases hq with ⟨k, ee, hk⟩ | hq
    · exact hDc.2 k _ hk
    · exact hA q (Nat.le_trans hS.1 hq)
  have hpre : PreS s H (CPN g (.ref b :: As) wc H.size) (.ref b :: As) := ⟨CPN_blind _ _ _ _, fun U hU hW => ⟨rfl, by rw [hU], by rw [hU]; exact hPc, va_K.moved hW.alike hK, hDc.weaken (fun _ _ _ _ => trivial), hZo, by
    rw [hU]
    exact hZo.2.2.2.1 _ _ _ _ (hZo.2.2.1 _ _ _ _ (hZo.1 _ _ _ _ hW hZ) hS.2.1) hin, aow_moved hW hAO⟩⟩
  exact ncore C hA (va_runIN (p := p) (l := l) (e := e) (R := R) (s := s) (below := below) (meth := meth) (H := H) (locs := locs) (cells := cells) (slots := slots) (g := F0 m pc ls st0) (As := As) (rest := rest) (b := b) (n := n) (maxL := maxL) (bytes := bytes) (host := host) ⟨hx, hb, hml, hown, hts⟩ (hM H.size) ⟨va_cnB n hts (ws := wsY y bytes maxL none) (fun w hw => by
    rcases List.mem_cons.mp hw with rfl | hw
    · exact ⟨mf.1, TBgood _ mf.1⟩
    · exact ⟨hw, TBgood _ hw⟩) rfl hc0 hs0 hl (hts _ mf.2.1) mf.2.2 hR, hy, hts _ hi⟩ hpre rfl hAs hlv.1 hst (lv_room hcat) hdg hf) hP hD hS kk
/-- an ordinary call on the first cells of the world -/
theorem ocall {α : Type} {vf : α → Option Value} {wf : α → va_W} {z : α} {wx r : va_W} {rm : Room} {y : MethodName} {bytes : ByteArray} {maxL n index b : Nat} {ret' : Option FieldType} {As : List Value} {fs : List Value} {ci : Nat} {Tt : u_T} {N : Nat}
    (C : Cx p s m args meth c A g own cc ret nL) (mf : MFV y bytes maxL ret' n) (hl : Cond.methodLink own index y ∈ TB)
    (hM : Met l y (wsY y bytes maxL ret') rm (CP g (.ref b :: As) wx) (CQ g (inW wx) vf wf z) 0 0 (inW wx))
    (hc0 : rm.cells = 0) (hs0 : rm.slots = 0) (hR : rm.frames + 1 ≤ R.frames ∧ 8 + (maxL + 11) + rm.locals ≤ R.locals) (hf : cells + 0 ≤ R.cells ∧ slots + 0 ≤ R.slots)
    (hP : va_P g.1 vwCl (wx ++ r) H) (hD : va_D A (wx ++ r)) (hS : va_S A s.heap H locs) (had : (wf z).map Prod.fst = wx.map Prod.fst) (hrec : wx[0]? = some (b, .inr (ci, fs))) (hcl : vwCl[ci]? = some (y.cls, Tt, N)) (hlv : lv_has ls nL lv) (hAs : As.length = n) (hst : st0 = As.reverse ++ .ref b :: rest) (hcat : (rest.map fun v => v.category).sum ≤ 8) (hdg : decode cc pc = .ok (.invokevirtual index, 3))
    (kk : ∀ (H1 : Heap) (locs1 : List Loc), va_P g.1 vwCl (wf z ++ r) H1 → va_D A (wf z ++ r) → va_S A s.heap H1 locs1 → W p l e R s m args below meth c H1 locs1 cells slots Q (F0 m (pc + 3) ls ((vf z).toList ++ rest))) : W p l e R s m args below meth c H locs cells slots Q (F0 m pc ls st0) := by
  have hB := sub_app (g := g) hP hD hS
  refine cg1 hB (run_v C mf hl hM hc0 hs0 hR hf hB hrec hcl hlv hAs hst hcat hdg) had (fun H1 locs1 h1 h2 h3 => kk H1 locs1 ?_ ?_ h3)
  · rw [splice_apR (len_of had)] at h1; exact h1
  · rw [splice_apR (len_of had)] at h2; exact h2
theorem endN {Post : va_W → Prop} {sz : Nat} (hsz : sz = s.heap.size) (C : Cx p s m args meth c (va_A ws s.heap.size) g own cc none nL) (hpo : Post w1) (hP : va_P g.1 vwCl w1 H) (hD : va_D (va_A ws s.heap.size) w1) (hS : va_S (va_A ws s.heap.size) s.heap H locs) (hdg : decode cc pc = .ok (.return_, 1)) : W p l e R s m args below meth c H locs cells slots (MQ below (CQN g ws sz Post) args s cells slots (va_A ws sz)) (F0 m pc ls []) := by
  obtain ⟨hx, hb, hr, hml, hown, hlk, hts, hK, hZo, hZ⟩ := C
  subst hsz
  exact W.vret hx hb hr (fun t ht hW => ⟨rfl, ⟨w1, hpo, by rw [ht]; exact hP, hD⟩, hS.F ht⟩) hS.2.2 hdg hlk
/-- the world in another order -/
theorem va_perm {H : Heap} {w w' : va_W} (hp : w.Perm w') (hP : va_P g.1 vwCl w H) (hD : va_D A w) : va_P g.1 vwCl w' H ∧ va_D A w' := by
  have mem : ∀ q, q ∈ w' → ∃ k, w[k]? = some q := fun q hq => List.getElem?_of_mem (hp.mem_iff.mpr hq)
  have nd : (w.map Prod.fst).Nodup := by
    unfold List.Nodup
    rw [List.pairwise_iff_getElem]
    intro i j hi hj hij hne
    rw [List.getElem_map, List.getElem_map] at hne
    rw [List.length_map] at hi hj
    have := hD.1 i j _ _ (List.getElem?_eq_getElem hi) (List.getElem?_eq_getElem hj) hne
    omega
  have nd' : (w'.map Prod.fst).Nodup := (hp.map Prod.fst).nodup_iff.mp nd
  refine ⟨fun k q hk => ?_, fun i j p q hi hj hpq => ?_, fun k q hk => ?_⟩
  · obtain ⟨k', hk'⟩ := mem q (List.mem_of_getElem? hk)
    exact hP k' q hk'
  · unfold List.Nodup at nd'
    rw [List.pairwise_iff_getElem] at nd'
    obtain ⟨li, ei⟩ := List.getElem?_eq_some_iff.mp hi
    obtain ⟨lj, ej⟩ := List.getElem?_eq_some_iff.mp hj
    rcases Nat.lt_trichotomy i j with w9 | w9 | w9
    · exact absurd (by rw [List.getElem_map, List.getElem_map, ei, ej]; exact hpq) (nd' i j (by rw [List.length_map]; exact li) (by rw [List.length_map]; exact lj) w9)
    · exact w9
    · exact absurd (by rw [List.getElem_map, List.getElem_map, ei, ej]; exact hpq.symm) (nd' j i (by rw [List.length_map]; exact lj) (by rw [List.length_map]; exact li) w9)
  · obtain ⟨k', hk'⟩ := mem q (List.mem_of_getElem? hk)
    exact hD.2 k' q hk'
end TYB
