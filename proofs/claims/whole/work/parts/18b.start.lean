section TZH
/-! ===== the law, from its entry ===== -/
section
variable {p : Program} {l : Launch} {e : Env} {R : Room} {s : State} {m : MethodId} {args : Array Value} {below : List Frame} {meth : Method} {c : Code} {H : Heap} {locs : List Loc} {cells slots : Nat} {Q : State → Prop} {g : GX} {pc : Nat} {ls : Array Slot} {rest : List Value} {cc : ByteArray} {nL : Nat} {ret' : Option FieldType} {ws : va_W} {A : Nat → Prop} {own : String}
theorem newD {n : Int32} {N : Nat} (C : Cx p s m args meth c A g own cc ret' nL) (hP : va_P g.1 vwCl ws H) (hD : va_D A ws) (hS : va_S A s.heap H locs) (hA : ∀ q : Nat, s.heap.size ≤ q → A q) (ht : (Cond.arrayClass .double).before args s = true) (hn : ¬ n < 0) (hN : n.toNatClampNeg = N) (hbytes : N ≤ 10000) (hcells : cells + 1 ≤ R.cells) (hslots : slots + N ≤ R.slots) (hdg : decode cc pc = .ok (.newarray .double, 2))
    (kk : ∀ (q : Nat) (H1 : Heap), va_P g.1 vwCl (ws ++ [(q, aD g N (fun _ => 0))]) H1 → va_D A (ws ++ [(q, aD g N (fun _ => 0))]) → va_S A s.heap H1 locs → W p l e R s m args below meth c H1 locs (cells + 1) (slots + N) Q (F0 m (pc + 2) ls (.ref q :: rest))) : W p l e R s m args below meth c H locs cells slots Q (F0 m pc ls (.int n :: rest)) := by
  obtain ⟨hx, hb, hr, hml, hown, hlk, hts, hK, hZo, hZ⟩ := C
  refine va_newa (atype := .double) (ty := .double) (a0 := (N, .inr (.inr (.inr (.inl (fun _ => 0)))))) hx hb ht rfl hK hP hD hS hA (fun _ => rfl) hn hN (by show N * 8 ≤ _; omega) hcells hslots hdg (fun q cA H1 hK2 h1 h2 h3 => ?_)
  have e1 := cA_of (k := 7) hK hK2 rfl (fun U c1 c2 a b => Option.some.inj (a.symm.trans b))
  subst e1
  exact kk q H1 h1 h2 h3
end
theorem fl_off {l : Launch} (h : l.flags = flags0) : l.stackTraces = false := by
  unfold Launch.stackTraces
  rw [h]
  decide +kernel
theorem kc_La_8 : Cond.classLink "DecadeBridgeLaw" 8 "DecadeBridge" ∈ TB := tb_all (by decide +kernel) rfl
theorem kc_La_87 : Cond.classLink "DecadeBridgeLaw" 87 "DecadeBridgeModel" ∈ TB := tb_all (by decide +kernel) rfl
set_option maxRecDepth 100000 in
set_option maxHeartbeats 4000000 in
/-- YOUR PART: from the entry, for every script of at most 3072 ints, the law comes to its end with true -/
theorem whole_start {p : Program} {e : Env} {s : State} {m : MethodId} {below : List Frame} {meth : Method} {c : Code} (l : Launch) (hflags : l.flags = flags0) {b L : Nat} {xs : Nat → Int32} (hL : L ≤ 3072) (C0 : lw_At p s m meth c b L xs) : W p l e room_1 s m #[Value.ref b] below meth c s.heap [] 0 0 (lw_Z below #[Value.ref b] s) (entryFrame m ([Value.ref b] : List Value).toArray 10) := by
  obtain ⟨g, C, hXW, hAO⟩ := start_ok C0
  obtain ⟨-, -, hr, -, -, htl, hX, hbl, hlocks, -⟩ := C0
  obtain ⟨hx, hb, hrr, hml, hown, hlk, hts, hK, hZo, hZ⟩ := id C
  have hfl := fl_off hflags
  have hA : ∀ q : Nat, s.heap.size ≤ q → (fun q : Nat => s.heap.size ≤ q) q := fun _ h => h
  have hbA : ¬ (fun q : Nat => s.heap.size ≤ q) b := Nat.not_le.mpr hbl
  have hS : va_S (fun q : Nat => s.heap.size ≤ q) s.heap s.heap [] := va_S.rf
  have hP : va_P g.1 vwCl [] s.heap := fun k q h => by simp at h
  have hD : va_D (fun q : Nat => s.heap.size ≤ q) ([] : va_W) := ⟨fun i j p q h => by simp at h, fun k q h => by simp at h⟩
  refine entryW (lv := [(0, .ref b)]) rfl (Nat.le_of_ble_eq_true rfl) (fun ls hl => ?_)
  refine newO C fkDb hP hD hS hA kc_La_8 it_Db in_Db df_Db (Nat.le_of_ble_eq_true rfl) (Nat.le_of_ble_eq_true rfl) d_w_0 (fun q H hP hD hS => ?_)
  refine lv_dup hx hb d_w_3 rfl ?_
  obtain ⟨hP, hD⟩ : va_P g.1 vwCl ([(q, .inr (11, f0Db))] ++ []) H ∧ va_D (fun q : Nat => s.heap.size ≤ q) ([(q, .inr (11, f0Db))] ++ []) := ⟨hP, hD⟩
  refine ncall C hAO hA mf_Db_init qm_La_86 im_Db rfl (fun sz => n_Db l g q sz) rfl rfl ⟨Nat.le_of_ble_eq_true rfl, Nat.le_of_ble_eq_true rfl⟩ ⟨Nat.le_of_ble_eq_true rfl, Nat.le_of_ble_eq_true rfl⟩ hP hD hS hl rfl rfl (Nat.le_of_ble_eq_true rfl) d_w_4 (fun wn H locs ho hP hD hS => ?_)
  rw [List.append_nil] at hP hD
  refine lv_astore_n (lv' := [(1, .ref q), (0, .ref b)]) hx hb d_w_7 rfl hl (by decide) rfl (fun ls hl => ?_)
  refine newO C fkMo hP hD hS hA kc_La_87 it_Mo in_Mo df_Mo (Nat.le_of_ble_eq_true rfl) (Nat.le_of_ble_eq_true rfl) d_w_8 (fun mo H hP hD hS => ?_)
  refine lv_dup hx hb d_w_11 rfl ?_
  obtain ⟨hP, hD⟩ := va_perm (w' := [(mo, .inr (12, f0Mo))] ++ _) List.perm_append_comm hP hD
  refine ncall C hAO hA mf_Mo_init qm_La_89 im_Mo rfl (fun sz => n_Mo l g mo sz) rfl rfl ⟨Nat.le_of_ble_eq_true rfl, Nat.le_of_ble_eq_true rfl⟩ ⟨Nat.le_of_ble_eq_true rfl, Nat.le_of_ble_eq_true rfl⟩ hP hD hS hl rfl rfl (Nat.le_of_ble_eq_true rfl) d_w_12 (fun wm H locs hp hP hD hS => ?_)
  refine lv_astore_n (lv' := [(2, .ref mo), (1, .ref q), (0, .ref b)]) hx hb d_w_15 rfl hl (by decide) rfl (fun ls hl => ?_)
  refine lv_iconst (v := 1) hx hb d_w_16 (by decide) ?_
  refine newL C hP hD hS hA ac_L (by decide) rfl (by decide) (Nat.le_of_ble_eq_true rfl) (Nat.le_of_ble_eq_true rfl) d_w_17 (fun qo H hP hD hS => ?_)
  refine lv_astore_n (lv' := [(3, .ref qo), (2, .ref mo), (1, .ref q), (0, .ref b)]) hx hb d_w_19 rfl hl (by decide) rfl (fun ls hl => ?_)
  refine lv_iconst (v := 1) hx hb d_w_20 (by decide) ?_
  refine newD C hP hD hS hA (htl _ (List.mem_append_right _ (List.mem_of_getElem? (i := 2259) (by decide +kernel)))) (by decide) rfl (by decide) (Nat.le_of_ble_eq_true rfl) (Nat.le_of_ble_eq_true rfl) d_w_21 (fun qd H hP hD hS => ?_)
  refine lv_astore (lv' := [(4, .ref qd), (3, .ref qo), (2, .ref mo), (1, .ref q), (0, .ref b)]) hx hb d_w_23 hl (by decide) rfl (fun ls hl => ?_)
  refine lv_iconst (v := 0) hx hb d_w_25 (by decide) ?_
  refine lv_istore (lv' := [(5, .int 0), (4, .ref qd), (3, .ref qo), (2, .ref mo), (1, .ref q), (0, .ref b)]) hx hb d_w_26 hl (by decide) rfl (fun ls hl => ?_)
  have hw : (((wm ++ wn) ++ [(qo, aL g 1 (fun _ => 0))]) ++ [(qd, aD g 1 (fun _ => 0))]).Perm (LW g wn wm qo (fun _ => 0) qd (fun _ => 0)) := by
    rw [lw_eq, List.append_assoc, List.append_assoc]
    exact List.perm_append_comm
  obtain ⟨hP, hD⟩ := va_perm hw hP hD
  have hR : PRel g 0 q mo wn wm := by
    obtain ⟨aN, ua, qbp, qbk, rfl⟩ := ho
    obtain ⟨a, now, dr, rfl, h9⟩ := hp
    exact pr_mk (fresh_inv h9)
  refine W.widen (k := 325) (n := 9685) (Nat.le_of_ble_eq_true rfl) (Nat.le_of_ble_eq_true rfl) ?_
  refine law_loop (R := room_1) (cT := 1000) (sT := 20000) hfl C hXW hX hbl hbA hL ⟨Nat.le_of_ble_eq_true rfl, Nat.le_of_ble_eq_true rfl⟩ (Nat.le_of_ble_eq_true rfl) (Nat.le_of_ble_eq_true rfl) (fun H locs ls hS => ?_) 512 0 0 wn wm _ _ H locs ls 325 9685 (by omega) (by omega) ⟨by omega, by omega⟩ (by omega) (by omega) hR hl hP hD hS
  refine W.base ?_
  refine lv_iconst (v := 1) hx hb d_w_2245 (by decide) ?_
  refine va_forget (fun q hq => hS.2.2 q hq) ?_
  refine W.widen (k := 601024) (n := 7293034) (Nat.le_of_ble_eq_true rfl) (Nat.le_of_ble_eq_true rfl) ?_
  exact lw_ret (Drawn.sameBut.refl s.drawn lw_cs) hx hb hr hlocks d_w_2246
end TZH
