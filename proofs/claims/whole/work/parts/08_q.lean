section B5Q
variable {p : Program} {l : Launch} {e : Env} {R : Room} {s : State} {m : MethodId} {args : Array Value} {below : List Frame} {meth : Method} {c : Code} {H : Heap} {locs : List Loc} {cells slots : Nat} {Q : State → Prop} {A : Nat → Prop} {g : GX} {pc : Nat} {ls : Array Slot} {rest st0 : List Value}
theorem lv_aload_nQ {Rf : Nat → Nat} {o : Option Nat} {cc : ByteArray} (hexec : p.tables.exec = Jvm.exec) (hb : c.code = cc) {k : Fin 4} {i : Nat} (hdg : decode cc pc = .ok (.aload_n k, 1)) (hi : (k : Nat) = i) (hl : ls[i]? = some (.val (va_rf (Option.map Rf o))))
    (k : W p l e R s m args below meth c H locs cells slots Q (F0 m (pc + 1) ls (va_rf (Option.map Rf o) :: rest))) : W p l e R s m args below meth c H locs cells slots Q (F0 m pc ls (rest)) := by
  cases o with
  | none => exact lv_aload_nN hexec hb hdg hi hl k
  | some x => exact lv_aload_n hexec hb hdg hi hl k
theorem lv_aloadQ {Rf : Nat → Nat} {o : Option Nat} {cc : ByteArray} (hexec : p.tables.exec = Jvm.exec) (hb : c.code = cc) {i : Nat} (hdg : decode cc pc = .ok (.aload i, 2)) (hl : ls[i]? = some (.val (va_rf (Option.map Rf o))))
    (k : W p l e R s m args below meth c H locs cells slots Q (F0 m (pc + 2) ls (va_rf (Option.map Rf o) :: rest))) : W p l e R s m args below meth c H locs cells slots Q (F0 m pc ls (rest)) := by
  cases o with
  | none => exact lv_aloadN hexec hb hdg hl k
  | some x => exact lv_aload hexec hb hdg hl k
theorem lv_astore_nQ {Rf : Nat → Nat} {o : Option Nat} {cc : ByteArray} (hexec : p.tables.exec = Jvm.exec) (hb : c.code = cc) {k : Fin 4} {i nL : Nat} {lv lv' : List (Nat × Value)} (hdg : decode cc pc = .ok (.astore_n k, 1)) (hi : (k : Nat) = i) (h : lv_has ls nL lv) (hn : i < nL) (hl : (i, va_rf (Option.map Rf o)) :: lv.filter (fun q => !(q.1 == i) && !(q.1 + 1 == i && q.2.category == 2)) = lv')
    (kk : ∀ ls' : Array Slot, lv_has ls' nL lv' → W p l e R s m args below meth c H locs cells slots Q (F0 m (pc + 1) ls' (rest))) : W p l e R s m args below meth c H locs cells slots Q (F0 m pc ls (va_rf (Option.map Rf o) :: rest)) := by
  cases o with
  | none => exact lv_astore_nN hexec hb hdg hi h hn hl kk
  | some x => exact lv_astore_n hexec hb hdg hi h hn hl kk
theorem lv_astoreQ {Rf : Nat → Nat} {o : Option Nat} {cc : ByteArray} (hexec : p.tables.exec = Jvm.exec) (hb : c.code = cc) {i nL : Nat} {lv lv' : List (Nat × Value)} (hdg : decode cc pc = .ok (.astore i, 2)) (h : lv_has ls nL lv) (hn : i < nL) (hl : (i, va_rf (Option.map Rf o)) :: lv.filter (fun q => !(q.1 == i) && !(q.1 + 1 == i && q.2.category == 2)) = lv')
    (kk : ∀ ls' : Array Slot, lv_has ls' nL lv' → W p l e R s m args below meth c H locs cells slots Q (F0 m (pc + 2) ls' (rest))) : W p l e R s m args below meth c H locs cells slots Q (F0 m pc ls (va_rf (Option.map Rf o) :: rest)) := by
  cases o with
  | none => exact lv_astoreN hexec hb hdg h hn hl kk
  | some x => exact lv_astore hexec hb hdg h hn hl kk
end B5Q
/-! ===== rows of equal segments ===== -/
def flatF (seg : Nat → va_W) : Nat → Nat → va_W
  | _, 0 => []
  | s, c + 1 => seg s ++ flatF seg (s + 1) c
theorem flat_len {seg : Nat → va_W} {L : Nat} (hl : ∀ k, (seg k).length = L) : ∀ c s, (flatF seg s c).length = L * c
  | 0, _ => rfl
  | c + 1, s => by
    show (seg s ++ flatF seg (s + 1) c).length = _
    rw [List.length_append, hl, flat_len hl c, Nat.mul_succ, Nat.add_comm]
theorem flat_at {seg : Nat → va_W} {L : Nat} (hl : ∀ k, (seg k).length = L) : ∀ (c s m j : Nat) (post : va_W), m < c → j < L → (flatF seg s c ++ post)[L * m + j]? = (seg (s + m))[j]?
  | 0, _, m, _, _, h, _ => absurd h (by omega)
  | c + 1, s, 0, j, post, _, hj => by
    show ((seg s ++ flatF seg (s + 1) c) ++ post)[L * 0 + j]? = _
    rw [Nat.mul_zero, Nat.zero_add, List.append_assoc, List.getElem?_append_left (by rw [hl]; exact hj)]
    rfl
  | c + 1, s, m + 1, j, post, h, hj => by
    show ((seg s ++ flatF seg (s + 1) c) ++ post)[L * (m + 1) + j]? = _
    rw [List.append_assoc, List.getElem?_append_right (by rw [hl, Nat.mul_succ]; omega), hl, show L * (m + 1) + j - L = L * m + j by rw [Nat.mul_succ]; omega, flat_at hl c (s + 1) m j post (by omega) hj, show s + 1 + m = s + (m + 1) by omega]
theorem flat_out {seg seg' : Nat → va_W} {L : Nat} (hl : ∀ k, (seg k).length = L) (hl' : ∀ k, (seg' k).length = L) (n k : Nat) (h : ∀ j, j ≠ k → seg' j = seg j) (post : va_W) (i : Nat) (hi : ∀ j, j < L → i ≠ L * k + j) : (flatF seg' 0 n ++ post)[i]? = (flatF seg 0 n ++ post)[i]? := by
  by_cases h1 : i < L * n
  · have hL : 0 < L := by
      rcases Nat.eq_zero_or_pos L with q | q
      · rw [q, Nat.zero_mul] at h1; omega
      · exact q
    have h2 : L * (i / L) + i % L = i := Nat.div_add_mod i L
    have h3 : i % L < L := Nat.mod_lt _ hL
    have h4 : i / L < n := by rw [Nat.div_lt_iff_lt_mul hL, Nat.mul_comm]; exact h1
    rw [← h2, flat_at hl' n 0 _ _ post h4 h3, flat_at hl n 0 _ _ post h4 h3, Nat.zero_add, h]
    intro q
    rw [q] at h2
    exact hi _ h3 h2.symm
  · rw [List.getElem?_append_right (by rw [flat_len hl']; omega), List.getElem?_append_right (by rw [flat_len hl]; omega), flat_len hl', flat_len hl]
theorem seg_map {ws pre post : va_W} {seg : Nat → va_W} {L n off : Nat} (hl : ∀ k, (seg k).length = L) (hw : ws = pre ++ (flatF seg 0 n ++ post)) (ho : pre.length = off) {k : Nat} (hk : k < n) : ((List.range L).map (fun j => j + (off + L * k))).map (fun i => ws[i]?) = (seg k).map some := by
  subst hw; subst ho
  apply List.ext_getElem?
  intro j
  rw [List.map_map, List.getElem?_map, List.getElem?_map]
  by_cases hj : j < L
  · rw [List.getElem?_range hj]
    show some ((pre ++ (flatF seg 0 n ++ post))[j + (pre.length + L * k)]?) = _
    rw [List.getElem?_append_right (by omega), show j + (pre.length + L * k) - pre.length = L * k + j by omega, flat_at hl n 0 k j post hk hj, Nat.zero_add, List.getElem?_eq_getElem (by rw [hl]; exact hj)]
    rfl
  · rw [List.getElem?_eq_none (by rw [List.length_range]; omega), List.getElem?_eq_none (by rw [hl]; omega)]
    rfl
theorem seg_nd (L x : Nat) : va_nd ((List.range L).map (fun j => j + x)) = true := by
  rw [nd_iff, List.nodup_iff_pairwise_ne, List.pairwise_map]
  refine List.Pairwise.imp ?_ (List.nodup_iff_pairwise_ne.mp List.nodup_range)
  intro a b h q
  exact h (by omega)
theorem apr (a b : va_W) (i : Nat) (h : a.length ≤ i) : (a ++ b)[i]? = b[i - a.length]? := List.getElem?_append_right h
theorem seg_splice {ws pre post x : va_W} {seg seg' : Nat → va_W} {L n off : Nat} (hl : ∀ k, (seg k).length = L) (hl' : ∀ k, (seg' k).length = L) (hw : ws = pre ++ (flatF seg 0 n ++ post)) (ho : pre.length = off) {k : Nat} (hk : k < n) (hx : seg' k = x) (h : ∀ j, j ≠ k → seg' j = seg j) : splice ws ((List.range L).map (fun j => j + (off + L * k))) x = pre ++ (flatF seg' 0 n ++ post) := by
  subst hw; subst ho; subst hx
  apply List.ext_getElem?
  intro i
  by_cases hi : ∃ j, j < L ∧ i = pre.length + (L * k + j)
  · obtain ⟨j, hj, rfl⟩ := hi
    have e : (seg' k)[j]? = some ((seg' k)[j]'(by rw [hl']; exact hj)) := List.getElem?_eq_getElem _
    rw [apr pre _ _ (by omega), show pre.length + (L * k + j) - pre.length = L * k + j by omega, flat_at hl' n 0 k j post hk hj, Nat.zero_add, e]
    refine splice_in _ _ _ j (pre.length + (L * k + j)) _ (seg_nd _ _) ?_ e ?_
    · rw [List.getElem?_map, List.getElem?_range hj]
      show some (j + (pre.length + L * k)) = _
      exact congrArg some (by omega)
    · rw [List.length_append, List.length_append, flat_len hl]
      have : L * k + j < L * n := by
        have h1 : L * k + L ≤ L * n := by rw [← Nat.mul_succ]; exact Nat.mul_le_mul_left L hk
        omega
      omega
  · rw [splice_out]
    · by_cases h1 : i < pre.length
      · rw [List.getElem?_append_left h1, List.getElem?_append_left h1]
      · rw [apr pre _ i (by omega), apr pre _ i (by omega)]
        exact (flat_out hl hl' n k h post _ (fun j hj q => hi ⟨j, hj, by omega⟩)).symm
    · intro hm
      obtain ⟨j, hj, rfl⟩ := List.mem_map.mp hm
      exact hi ⟨j, List.mem_range.mp hj, by omega⟩
theorem splice_app : ∀ (i1 i2 : List Nat) (w1 w2 ws : va_W), i1.length = w1.length → splice ws (i1 ++ i2) (w1 ++ w2) = splice (splice ws i1 w1) i2 w2
  | [], _, [], _, _, _ => rfl
  | [], _, _ :: _, _, _, h => nomatch h
  | _ :: _, _, [], _, _, h => nomatch h
  | i :: i1, i2, q :: w1, w2, ws, h => splice_app i1 i2 w1 w2 (ws.set i q) (Nat.succ.inj h)
theorem flat_ext {seg seg' : Nat → va_W} (h : ∀ j, seg' j = seg j) : seg' = seg := funext h
theorem spq {ws ws' w1 wc : va_W} {is : List Nat} (hC : is.map (fun i => ws[i]?) = wc.map some) (hn : va_nd is = true) (isC : List Nat) (n : Nat) (h1 : is.map (fun i => ws'[i]?) = w1.map some) (h2 : isC.map (fun i => ws'[i]?) = isC.map (fun i => ws[i]?)) (h4 : (List.range n).all (fun i => is.contains i || isC.contains i) = true) (h5 : ws'.drop n = ws.drop n) : splice ws is w1 = ws' := by
  apply List.ext_getElem?
  intro i
  by_cases hi : i ∈ is
  · obtain ⟨j, hj⟩ := List.getElem?_of_mem hi
    obtain ⟨q, g1, g2⟩ := sub_at' h1 hj
    obtain ⟨q0, g3, g4⟩ := sub_at' hC hj
    rw [g2]
    exact splice_in is w1 ws j i q hn hj g1 (List.getElem?_eq_some_iff.mp g4).1
  · rw [splice_out _ _ _ _ hi]
    by_cases hlt : i < n
    · have h6 := List.all_eq_true.mp h4 i (List.mem_range.mpr hlt)
      have hc : i ∈ isC := by
        rcases Bool.or_eq_true _ _ ▸ h6 with q | q
        · exact absurd (List.contains_iff_mem.mp q) hi
        · exact List.contains_iff_mem.mp q
      obtain ⟨j, hj⟩ := List.getElem?_of_mem hc
      have h7 : (isC.map (fun i => ws'[i]?))[j]? = (isC.map (fun i => ws[i]?))[j]? := by rw [h2]
      rw [List.getElem?_map, List.getElem?_map, hj] at h7
      exact (Option.some.inj h7).symm
    · have h7 : (ws'.drop n)[i - n]? = (ws.drop n)[i - n]? := by rw [h5]
      rw [List.getElem?_drop, List.getElem?_drop, show n + (i - n) = i by omega] at h7
      exact h7.symm
