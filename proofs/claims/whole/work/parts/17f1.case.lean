section TZF1
section
variable {p : Program} {l : Launch} {e : Env} {R : Room} {s : State} {m : MethodId} {args : Array Value} {below : List Frame} {meth : Method} {c : Code} {H : Heap} {locs : List Loc} {cells slots : Nat} {Q : State → Prop} {g : GX} {ls : Array Slot} {A : Nat → Prop} {X M : va_W} {b q mo qo qd i L : Nat} {xs : Nat → Int32} {T : Int} {fo : LV} {fd : Nat → UInt64}
set_option maxRecDepth 100000 in
set_option maxHeartbeats 4000000 in
theorem case_0 (hfl : l.stackTraces = false) (C : Cx p s m args meth c A g "DecadeBridgeLaw" code ret 10) (hXW : XW s) (hX : va_X b L xs s s.heap) (hbl : b < s.heap.size) (hbA : ¬ A b) (hL : L ≤ 3072) (hi : i + 5 < L) (hT : 0 ≤ T ∧ T ≤ 200000000) (hR : PRel g T q mo X M) (hRm : 18 ≤ R.frames ∧ 746 ≤ R.locals) (hcs : cells + 1 ≤ R.cells ∧ slots + 6 ≤ R.slots) (hl : lv_has ls 10 [(5, .int (nI i)), (4, .ref qd), (3, .ref qo), (2, .ref mo), (1, .ref q), (0, .ref b)]) (hP : va_P g.1 vwCl (LW g X M qo fo qd fd) H) (hD : va_D A (LW g X M qo fo qd fd)) (hS : va_S A s.heap H locs) (kk : Cont p l e R s m args below meth c Q A g b q mo qo qd i T (cells + 1) (slots + 6)) : W p l e R s m args below meth c H locs cells slots Q (F0 m 256 ls []) := by
  obtain ⟨v, X', M', h1, h2, hd1, hd2, h5⟩ := s_feed (l := l) (p1 := xs (i + 1)) (p2 := xs (i + 2)) (p3 := xs (i + 3)) (p4 := xs (i + 4)) (p5 := xs (i + 5)) hT hR
  obtain ⟨fx, hx0⟩ := pr_x hR
  obtain ⟨fm, hm0⟩ := pr_m hR
  obtain ⟨hx, hb, hrr, hml, hown, hlk, hts, hK, hZo, hZ⟩ := id C
  refine lv_aload_n hx hb d_w_256 rfl (lv_at hl 4 rfl) ?_
  refine ldSc (k := 1) (kv := 1) C hX hbl hbA hS (lv_at hl 5 rfl) (lv_at hl 0 rfl) rfl (by omega) hL d_w_257 d_w_258 d_w_260 (by decide) d_w_261 d_w_262 ?_
  refine ldSc (k := 2) (kv := 2) C hX hbl hbA hS (lv_at hl 5 rfl) (lv_at hl 0 rfl) rfl (by omega) hL d_w_263 d_w_264 d_w_266 (by decide) d_w_267 d_w_268 ?_
  refine ldSc (k := 3) (kv := 3) C hX hbl hbA hS (lv_at hl 5 rfl) (lv_at hl 0 rfl) rfl (by omega) hL d_w_269 d_w_270 d_w_272 (by decide) d_w_273 d_w_274 ?_
  refine ldSc (k := 4) (kv := 4) C hX hbl hbA hS (lv_at hl 5 rfl) (lv_at hl 0 rfl) rfl (by omega) hL d_w_275 d_w_276 d_w_278 (by decide) d_w_279 d_w_280 ?_
  refine ldSc (k := 5) (kv := 5) C hX hbl hbA hS (lv_at hl 5 rfl) (lv_at hl 0 rfl) rfl (by omega) hL d_w_281 d_w_282 d_w_284 (by decide) d_w_285 d_w_286 ?_
  refine lX C mf_Db_feed qm_La_90 h1 rfl rfl ⟨Nat.le_trans (Nat.le_of_ble_eq_true rfl) hRm.1, Nat.le_trans (Nat.le_of_ble_eq_true rfl) hRm.2⟩ ⟨by omega, by omega⟩ hP hD hS hd1 hx0 rfl hl rfl rfl (Nat.le_of_ble_eq_true rfl) d_w_287 (fun H locs hP hD hS => ?_)
  show W p l e R s m args below meth c H locs cells slots Q (F0 m 290 ls [.int v])
  refine lv_aload_n hx hb d_w_290 rfl (lv_at hl 3 rfl) ?_
  refine ldSc (k := 1) (kv := 1) C hX hbl hbA hS (lv_at hl 5 rfl) (lv_at hl 0 rfl) rfl (by omega) hL d_w_291 d_w_292 d_w_294 (by decide) d_w_295 d_w_296 ?_
  refine ldSc (k := 2) (kv := 2) C hX hbl hbA hS (lv_at hl 5 rfl) (lv_at hl 0 rfl) rfl (by omega) hL d_w_297 d_w_298 d_w_300 (by decide) d_w_301 d_w_302 ?_
  refine ldSc (k := 3) (kv := 3) C hX hbl hbA hS (lv_at hl 5 rfl) (lv_at hl 0 rfl) rfl (by omega) hL d_w_303 d_w_304 d_w_306 (by decide) d_w_307 d_w_308 ?_
  refine ldSc (k := 4) (kv := 4) C hX hbl hbA hS (lv_at hl 5 rfl) (lv_at hl 0 rfl) rfl (by omega) hL d_w_309 d_w_310 d_w_312 (by decide) d_w_313 d_w_314 ?_
  refine ldSc (k := 5) (kv := 5) C hX hbl hbA hS (lv_at hl 5 rfl) (lv_at hl 0 rfl) rfl (by omega) hL d_w_315 d_w_316 d_w_318 (by decide) d_w_319 d_w_320 ?_
  refine lM C mf_Mo_feed qm_La_94 h2 rfl rfl ⟨Nat.le_trans (Nat.le_of_ble_eq_true rfl) hRm.1, Nat.le_trans (Nat.le_of_ble_eq_true rfl) hRm.2⟩ ⟨by omega, by omega⟩ hP hD hS hd2 hm0 rfl hl rfl rfl (Nat.le_of_ble_eq_true rfl) d_w_321 (fun H locs hP hD hS => ?_)
  show W p l e R s m args below meth c H locs cells slots Q (F0 m 324 ls [.int v, .int v])
  refine lv_icmp_eq (tgt := 2239) hx hb d_w_324 (by decide) (fun _ => ?_) (fun w => absurd rfl w)
  refine W.widen (k := cells + 1) (n := slots + 6) (by omega) (by omega) ?_
  exact kk X' M' fo fd H locs ls h5 hl hP hD hS
set_option maxRecDepth 100000 in
set_option maxHeartbeats 4000000 in
theorem case_1 (hfl : l.stackTraces = false) (C : Cx p s m args meth c A g "DecadeBridgeLaw" code ret 10) (hXW : XW s) (hX : va_X b L xs s s.heap) (hbl : b < s.heap.size) (hbA : ¬ A b) (hL : L ≤ 3072) (hi : i + 5 < L) (hT : 0 ≤ T ∧ T ≤ 200000000) (hR : PRel g T q mo X M) (hRm : 18 ≤ R.frames ∧ 746 ≤ R.locals) (hcs : cells + 1 ≤ R.cells ∧ slots + 6 ≤ R.slots) (hl : lv_has ls 10 [(5, .int (nI i)), (4, .ref qd), (3, .ref qo), (2, .ref mo), (1, .ref q), (0, .ref b)]) (hP : va_P g.1 vwCl (LW g X M qo fo qd fd) H) (hD : va_D A (LW g X M qo fo qd fd)) (hS : va_S A s.heap H locs) (kk : Cont p l e R s m args below meth c Q A g b q mo qo qd i T (cells + 1) (slots + 6)) : W p l e R s m args below meth c H locs cells slots Q (F0 m 329 ls []) := by
  obtain ⟨v, X', M', h1, h2, hd1, hd2, h5⟩ := s_load (l := l)  hT hR
  obtain ⟨fx, hx0⟩ := pr_x hR
  obtain ⟨fm, hm0⟩ := pr_m hR
  obtain ⟨hx, hb, hrr, hml, hown, hlk, hts, hK, hZo, hZ⟩ := id C
  refine lv_aload_n hx hb d_w_329 rfl (lv_at hl 4 rfl) ?_
  refine lX C mf_Db_load qm_La_95 h1 rfl rfl ⟨Nat.le_trans (Nat.le_of_ble_eq_true rfl) hRm.1, Nat.le_trans (Nat.le_of_ble_eq_true rfl) hRm.2⟩ ⟨by omega, by omega⟩ hP hD hS hd1 hx0 rfl hl rfl rfl (Nat.le_of_ble_eq_true rfl) d_w_330 (fun H locs hP hD hS => ?_)
  show W p l e R s m args below meth c H locs cells slots Q (F0 m 333 ls [.int v])
  refine lv_aload_n hx hb d_w_333 rfl (lv_at hl 3 rfl) ?_
  refine lM C mf_Mo_load qm_La_99 h2 rfl rfl ⟨Nat.le_trans (Nat.le_of_ble_eq_true rfl) hRm.1, Nat.le_trans (Nat.le_of_ble_eq_true rfl) hRm.2⟩ ⟨by omega, by omega⟩ hP hD hS hd2 hm0 rfl hl rfl rfl (Nat.le_of_ble_eq_true rfl) d_w_334 (fun H locs hP hD hS => ?_)
  show W p l e R s m args below meth c H locs cells slots Q (F0 m 337 ls [.int v, .int v])
  refine lv_icmp_eq (tgt := 2239) hx hb d_w_337 (by decide) (fun _ => ?_) (fun w => absurd rfl w)
  refine W.widen (k := cells + 1) (n := slots + 6) (by omega) (by omega) ?_
  exact kk X' M' fo fd H locs ls h5 hl hP hD hS
set_option maxRecDepth 100000 in
set_option maxHeartbeats 4000000 in
theorem case_2 (hfl : l.stackTraces = false) (C : Cx p s m args meth c A g "DecadeBridgeLaw" code ret 10) (hXW : XW s) (hX : va_X b L xs s s.heap) (hbl : b < s.heap.size) (hbA : ¬ A b) (hL : L ≤ 3072) (hi : i + 5 < L) (hT : 0 ≤ T ∧ T ≤ 200000000) (hR : PRel g T q mo X M) (hRm : 18 ≤ R.frames ∧ 746 ≤ R.locals) (hcs : cells + 1 ≤ R.cells ∧ slots + 6 ≤ R.slots) (hl : lv_has ls 10 [(5, .int (nI i)), (4, .ref qd), (3, .ref qo), (2, .ref mo), (1, .ref q), (0, .ref b)]) (hP : va_P g.1 vwCl (LW g X M qo fo qd fd) H) (hD : va_D A (LW g X M qo fo qd fd)) (hS : va_S A s.heap H locs) (kk : Cont p l e R s m args below meth c Q A g b q mo qo qd i T (cells + 1) (slots + 6)) : W p l e R s m args below meth c H locs cells slots Q (F0 m 342 ls []) := by
  obtain ⟨v, X', M', h1, h2, hd1, hd2, h5⟩ := s_run (l := l)  hT hR
  obtain ⟨fx, hx0⟩ := pr_x hR
  obtain ⟨fm, hm0⟩ := pr_m hR
  obtain ⟨hx, hb, hrr, hml, hown, hlk, hts, hK, hZo, hZ⟩ := id C
  refine lv_aload_n hx hb d_w_342 rfl (lv_at hl 4 rfl) ?_
  refine lX C mf_Db_run qm_La_100 h1 rfl rfl ⟨Nat.le_trans (Nat.le_of_ble_eq_true rfl) hRm.1, Nat.le_trans (Nat.le_of_ble_eq_true rfl) hRm.2⟩ ⟨by omega, by omega⟩ hP hD hS hd1 hx0 rfl hl rfl rfl (Nat.le_of_ble_eq_true rfl) d_w_343 (fun H locs hP hD hS => ?_)
  show W p l e R s m args below meth c H locs cells slots Q (F0 m 346 ls [.int v])
  refine lv_aload_n hx hb d_w_346 rfl (lv_at hl 3 rfl) ?_
  refine lM C mf_Mo_run qm_La_103 h2 rfl rfl ⟨Nat.le_trans (Nat.le_of_ble_eq_true rfl) hRm.1, Nat.le_trans (Nat.le_of_ble_eq_true rfl) hRm.2⟩ ⟨by omega, by omega⟩ hP hD hS hd2 hm0 rfl hl rfl rfl (Nat.le_of_ble_eq_true rfl) d_w_347 (fun H locs hP hD hS => ?_)
  show W p l e R s m args below meth c H locs cells slots Q (F0 m 350 ls [.int v, .int v])
  refine lv_icmp_eq (tgt := 2239) hx hb d_w_350 (by decide) (fun _ => ?_) (fun w => absurd rfl w)
  refine W.widen (k := cells + 1) (n := slots + 6) (by omega) (by omega) ?_
  exact kk X' M' fo fd H locs ls h5 hl hP hD hS
set_option maxRecDepth 100000 in
set_option maxHeartbeats 4000000 in
theorem case_3 (hfl : l.stackTraces = false) (C : Cx p s m args meth c A g "DecadeBridgeLaw" code ret 10) (hXW : XW s) (hX : va_X b L xs s s.heap) (hbl : b < s.heap.size) (hbA : ¬ A b) (hL : L ≤ 3072) (hi : i + 5 < L) (hT : 0 ≤ T ∧ T ≤ 200000000) (hR : PRel g T q mo X M) (hRm : 18 ≤ R.frames ∧ 746 ≤ R.locals) (hcs : cells + 1 ≤ R.cells ∧ slots + 6 ≤ R.slots) (hl : lv_has ls 10 [(5, .int (nI i)), (4, .ref qd), (3, .ref qo), (2, .ref mo), (1, .ref q), (0, .ref b)]) (hP : va_P g.1 vwCl (LW g X M qo fo qd fd) H) (hD : va_D A (LW g X M qo fo qd fd)) (hS : va_S A s.heap H locs) (kk : Cont p l e R s m args below meth c Q A g b q mo qo qd i T (cells + 1) (slots + 6)) : W p l e R s m args below meth c H locs cells slots Q (F0 m 355 ls []) := by
  obtain ⟨v, X', M', h1, h2, hd1, hd2, h5⟩ := s_errorPosition (l := l)  hT hR
  obtain ⟨fx, hx0⟩ := pr_x hR
  obtain ⟨fm, hm0⟩ := pr_m hR
  obtain ⟨hx, hb, hrr, hml, hown, hlk, hts, hK, hZo, hZ⟩ := id C
  refine lv_aload_n hx hb d_w_355 rfl (lv_at hl 4 rfl) ?_
  refine lX C mf_Db_errorPosition qm_La_104 h1 rfl rfl ⟨Nat.le_trans (Nat.le_of_ble_eq_true rfl) hRm.1, Nat.le_trans (Nat.le_of_ble_eq_true rfl) hRm.2⟩ ⟨by omega, by omega⟩ hP hD hS hd1 hx0 rfl hl rfl rfl (Nat.le_of_ble_eq_true rfl) d_w_356 (fun H locs hP hD hS => ?_)
  show W p l e R s m args below meth c H locs cells slots Q (F0 m 359 ls [.int v])
  refine lv_aload_n hx hb d_w_359 rfl (lv_at hl 3 rfl) ?_
  refine lM C mf_Mo_errorPosition qm_La_107 h2 rfl rfl ⟨Nat.le_trans (Nat.le_of_ble_eq_true rfl) hRm.1, Nat.le_trans (Nat.le_of_ble_eq_true rfl) hRm.2⟩ ⟨by omega, by omega⟩ hP hD hS hd2 hm0 rfl hl rfl rfl (Nat.le_of_ble_eq_true rfl) d_w_360 (fun H locs hP hD hS => ?_)
  show W p l e R s m args below meth c H locs cells slots Q (F0 m 363 ls [.int v, .int v])
  refine lv_icmp_eq (tgt := 2239) hx hb d_w_363 (by decide) (fun _ => ?_) (fun w => absurd rfl w)
  refine W.widen (k := cells + 1) (n := slots + 6) (by omega) (by omega) ?_
  exact kk X' M' fo fd H locs ls h5 hl hP hD hS
set_option maxRecDepth 100000 in
set_option maxHeartbeats 4000000 in
theorem case_4 (hfl : l.stackTraces = false) (C : Cx p s m args meth c A g "DecadeBridgeLaw" code ret 10) (hXW : XW s) (hX : va_X b L xs s s.heap) (hbl : b < s.heap.size) (hbA : ¬ A b) (hL : L ≤ 3072) (hi : i + 5 < L) (hT : 0 ≤ T ∧ T ≤ 200000000) (hR : PRel g T q mo X M) (hRm : 18 ≤ R.frames ∧ 746 ≤ R.locals) (hcs : cells + 1 ≤ R.cells ∧ slots + 6 ≤ R.slots) (hl : lv_has ls 10 [(5, .int (nI i)), (4, .ref qd), (3, .ref qo), (2, .ref mo), (1, .ref q), (0, .ref b)]) (hP : va_P g.1 vwCl (LW g X M qo fo qd fd) H) (hD : va_D A (LW g X M qo fo qd fd)) (hS : va_S A s.heap H locs) (kk : Cont p l e R s m args below meth c Q A g b q mo qo qd i T (cells + 1) (slots + 6)) : W p l e R s m args below meth c H locs cells slots Q (F0 m 368 ls []) := by
  obtain ⟨k, v, X', M', fo', h1, h2, h3, h4, hd1, hd2, h5⟩ := s_size (l := l) (qo := qo) (fo := fo) (p1 := xs (i + 1)) hfl hT hR
  obtain ⟨fm, hm0⟩ := pr_m hR
  obtain ⟨fm2, hm2⟩ := pr_m h5
  obtain ⟨hx, hb, hrr, hml, hown, hlk, hts, hK, hZo, hZ⟩ := id C
  refine lv_aload_n hx hb d_w_368 rfl (lv_at hl 4 rfl) ?_
  refine ldSc (k := 1) (kv := 1) C hX hbl hbA hS (lv_at hl 5 rfl) (lv_at hl 0 rfl) rfl (by omega) hL d_w_369 d_w_370 d_w_372 (by decide) d_w_373 d_w_374 ?_
  refine lv_aload_n hx hb d_w_375 rfl (lv_at hl 2 rfl) ?_
  refine lWo C hXW mfL_size qm_La_108 h1 ⟨Nat.le_trans (Nat.le_of_ble_eq_true rfl) hRm.1, Nat.le_trans (Nat.le_of_ble_eq_true rfl) hRm.2⟩ hcs hP hD hS hd1 hl rfl rfl (Nat.le_of_ble_eq_true rfl) d_w_376 (fun H locs hP hD hS => ?_)
  refine lv_istore (lv' := [(6, .int k), (5, .int (nI i)), (4, .ref qd), (3, .ref qo), (2, .ref mo), (1, .ref q), (0, .ref b)]) hx hb d_w_379 hl (by decide) rfl (fun ls hl => ?_)
  refine lv_aload_n hx hb d_w_381 rfl (lv_at hl 4 rfl) ?_
  refine ldSc (k := 1) (kv := 1) C hX hbl hbA hS (lv_at hl 6 rfl) (lv_at hl 1 rfl) rfl (by omega) hL d_w_382 d_w_383 d_w_385 (by decide) d_w_386 d_w_387 ?_
  refine lM C mf_Mo_size qm_La_113 h2 rfl rfl ⟨Nat.le_trans (Nat.le_of_ble_eq_true rfl) hRm.1, Nat.le_trans (Nat.le_of_ble_eq_true rfl) hRm.2⟩ ⟨by omega, by omega⟩ hP hD hS hd2 hm0 rfl hl rfl rfl (Nat.le_of_ble_eq_true rfl) d_w_388 (fun H locs hP hD hS => ?_)
  show W p l e R s m args below meth c H locs (cells + 1) (slots + 6) Q (F0 m 391 ls [.int v])
  refine lv_istore (lv' := [(7, .int v), (6, .int k), (5, .int (nI i)), (4, .ref qd), (3, .ref qo), (2, .ref mo), (1, .ref q), (0, .ref b)]) hx hb d_w_391 hl (by decide) rfl (fun ls hl => ?_)
  refine lv_aload_n hx hb d_w_393 rfl (lv_at hl 5 rfl) ?_
  refine lM C mf_Mo_thrown qm_La_114 h3 rfl rfl ⟨Nat.le_trans (Nat.le_of_ble_eq_true rfl) hRm.1, Nat.le_trans (Nat.le_of_ble_eq_true rfl) hRm.2⟩ ⟨by omega, by omega⟩ hP hD hS rfl hm2 rfl hl rfl rfl (Nat.le_of_ble_eq_true rfl) d_w_394 (fun H locs hP hD hS => ?_)
  show W p l e R s m args below meth c H locs (cells + 1) (slots + 6) Q (F0 m 397 ls [.int k])
  refine lv_iload hx hb d_w_397 (lv_at hl 1 rfl) ?_
  refine lv_icmp_eq (tgt := 404) hx hb d_w_399 (by decide) (fun _ => ?_) (fun w => absurd rfl w)
  refine lv_iload hx hb d_w_404 (lv_at hl 1 rfl) ?_
  refine lv_if_ne (tgt := 421) hx hb d_w_406 (by decide) (fun _ => ?_) (fun w0 => ?_)
  · refine lv_goto (tgt := 2239) hx hb d_w_421 (by decide) ?_
    exact kk X' M' fo' fd H locs ls h5 (lv_sub hl [2, 3, 4, 5, 6, 7] rfl) hP hD hS
  · have e0 := h4 w0
    refine lv_aload_n hx hb d_w_409 rfl (lv_at hl 4 rfl) ?_
    refine lv_iconst (v := 0) hx hb d_w_410 (by decide) ?_
    refine ldL (k := 0) C hP X'.length lw_o (vp_of (by decide) (by decide)) rfl d_w_411 ?_
    rw [e0]
    refine lv_iload hx hb d_w_412 (lv_at hl 0 rfl) ?_
    refine lv_i2l (v := v.toInt64) hx hb d_w_414 rfl ?_
    refine W.lcmp hx hb d_w_415 ?_
    rw [lg_cmp_self]
    refine lv_if_eq (tgt := 421) hx hb d_w_416 (by decide) (fun _ => ?_) (fun w => absurd rfl w)
    refine lv_goto (tgt := 2239) hx hb d_w_421 (by decide) ?_
    exact kk X' M' fo' fd H locs ls h5 (lv_sub hl [2, 3, 4, 5, 6, 7] rfl) hP hD hS
set_option maxRecDepth 100000 in
set_option maxHeartbeats 4000000 in
theorem case_5 (hfl : l.stackTraces = false) (C : Cx p s m args meth c A g "DecadeBridgeLaw" code ret 10) (hXW : XW s) (hX : va_X b L xs s s.heap) (hbl : b < s.heap.size) (hbA : ¬ A b) (hL : L ≤ 3072) (hi : i + 5 < L) (hT : 0 ≤ T ∧ T ≤ 200000000) (hR : PRel g T q mo X M) (hRm : 18 ≤ R.frames ∧ 746 ≤ R.locals) (hcs : cells + 1 ≤ R.cells ∧ slots + 6 ≤ R.slots) (hl : lv_has ls 10 [(5, .int (nI i)), (4, .ref qd), (3, .ref qo), (2, .ref mo), (1, .ref q), (0, .ref b)]) (hP : va_P g.1 vwCl (LW g X M qo fo qd fd) H) (hD : va_D A (LW g X M qo fo qd fd)) (hS : va_S A s.heap H locs) (kk : Cont p l e R s m args below meth c Q A g b q mo qo qd i T (cells + 1) (slots + 6)) : W p l e R s m args below meth c H locs cells slots Q (F0 m 424 ls []) := by
  obtain ⟨k, v, X', M', fo', h1, h2, h3, h4, hd1, hd2, h5⟩ := s_ratio (l := l) (qo := qo) (fo := fo) (p1 := xs (i + 1)) (p2 := xs (i + 2)) hfl hT hR
  obtain ⟨fm, hm0⟩ := pr_m hR
  obtain ⟨fm2, hm2⟩ := pr_m h5
  obtain ⟨hx, hb, hrr, hml, hown, hlk, hts, hK, hZo, hZ⟩ := id C
  refine lv_aload_n hx hb d_w_424 rfl (lv_at hl 4 rfl) ?_
  refine ldSc (k := 1) (kv := 1) C hX hbl hbA hS (lv_at hl 5 rfl) (lv_at hl 0 rfl) rfl (by omega) hL d_w_425 d_w_426 d_w_428 (by decide) d_w_429 d_w_430 ?_
  refine ldSc (k := 2) (kv := 2) C hX hbl hbA hS (lv_at hl 5 rfl) (lv_at hl 0 rfl) rfl (by omega) hL d_w_431 d_w_432 d_w_434 (by decide) d_w_435 d_w_436 ?_
  refine lv_aload_n hx hb d_w_437 rfl (lv_at hl 2 rfl) ?_
  refine lWo C hXW mfL_ratio qm_La_117 h1 ⟨Nat.le_trans (Nat.le_of_ble_eq_true rfl) hRm.1, Nat.le_trans (Nat.le_of_ble_eq_true rfl) hRm.2⟩ hcs hP hD hS hd1 hl rfl rfl (Nat.le_of_ble_eq_true rfl) d_w_438 (fun H locs hP hD hS => ?_)
  refine lv_istore (lv' := [(6, .int k), (5, .int (nI i)), (4, .ref qd), (3, .ref qo), (2, .ref mo), (1, .ref q), (0, .ref b)]) hx hb d_w_441 hl (by decide) rfl (fun ls hl => ?_)
  refine lv_aload_n hx hb d_w_443 rfl (lv_at hl 4 rfl) ?_
  refine ldSc (k := 1) (kv := 1) C hX hbl hbA hS (lv_at hl 6 rfl) (lv_at hl 1 rfl) rfl (by omega) hL d_w_444 d_w_445 d_w_447 (by decide) d_w_448 d_w_449 ?_
  refine ldSc (k := 2) (kv := 2) C hX hbl hbA hS (lv_at hl 6 rfl) (lv_at hl 1 rfl) rfl (by omega) hL d_w_450 d_w_451 d_w_453 (by decide) d_w_454 d_w_455 ?_
  refine lM C mf_Mo_ratio qm_La_120 h2 rfl rfl ⟨Nat.le_trans (Nat.le_of_ble_eq_true rfl) hRm.1, Nat.le_trans (Nat.le_of_ble_eq_true rfl) hRm.2⟩ ⟨by omega, by omega⟩ hP hD hS hd2 hm0 rfl hl rfl rfl (Nat.le_of_ble_eq_true rfl) d_w_456 (fun H locs hP hD hS => ?_)
  show W p l e R s m args below meth c H locs (cells + 1) (slots + 6) Q (F0 m 459 ls [.int v])
  refine lv_istore (lv' := [(7, .int v), (6, .int k), (5, .int (nI i)), (4, .ref qd), (3, .ref qo), (2, .ref mo), (1, .ref q), (0, .ref b)]) hx hb d_w_459 hl (by decide) rfl (fun ls hl => ?_)
  refine lv_aload_n hx hb d_w_461 rfl (lv_at hl 5 rfl) ?_
  refine lM C mf_Mo_thrown qm_La_114 h3 rfl rfl ⟨Nat.le_trans (Nat.le_of_ble_eq_true rfl) hRm.1, Nat.le_trans (Nat.le_of_ble_eq_true rfl) hRm.2⟩ ⟨by omega, by omega⟩ hP hD hS rfl hm2 rfl hl rfl rfl (Nat.le_of_ble_eq_true rfl) d_w_462 (fun H locs hP hD hS => ?_)
  show W p l e R s m args below meth c H locs (cells + 1) (slots + 6) Q (F0 m 465 ls [.int k])
  refine lv_iload hx hb d_w_465 (lv_at hl 1 rfl) ?_
  refine lv_icmp_eq (tgt := 472) hx hb d_w_467 (by decide) (fun _ => ?_) (fun w => absurd rfl w)
  refine lv_iload hx hb d_w_472 (lv_at hl 1 rfl) ?_
  refine lv_if_ne (tgt := 489) hx hb d_w_474 (by decide) (fun _ => ?_) (fun w0 => ?_)
  · refine lv_goto (tgt := 2239) hx hb d_w_489 (by decide) ?_
    exact kk X' M' fo' fd H locs ls h5 (lv_sub hl [2, 3, 4, 5, 6, 7] rfl) hP hD hS
  · have e0 := h4 w0
    refine lv_aload_n hx hb d_w_477 rfl (lv_at hl 4 rfl) ?_
    refine lv_iconst (v := 0) hx hb d_w_478 (by decide) ?_
    refine ldL (k := 0) C hP X'.length lw_o (vp_of (by decide) (by decide)) rfl d_w_479 ?_
    rw [e0]
    refine lv_iload hx hb d_w_480 (lv_at hl 0 rfl) ?_
    refine lv_i2l (v := v.toInt64) hx hb d_w_482 rfl ?_
    refine W.lcmp hx hb d_w_483 ?_
    rw [lg_cmp_self]
    refine lv_if_eq (tgt := 489) hx hb d_w_484 (by decide) (fun _ => ?_) (fun w => absurd rfl w)
    refine lv_goto (tgt := 2239) hx hb d_w_489 (by decide) ?_
    exact kk X' M' fo' fd H locs ls h5 (lv_sub hl [2, 3, 4, 5, 6, 7] rfl) hP hD hS
set_option maxRecDepth 100000 in
set_option maxHeartbeats 4000000 in
theorem case_6 (hfl : l.stackTraces = false) (C : Cx p s m args meth c A g "DecadeBridgeLaw" code ret 10) (hXW : XW s) (hX : va_X b L xs s s.heap) (hbl : b < s.heap.size) (hbA : ¬ A b) (hL : L ≤ 3072) (hi : i + 5 < L) (hT : 0 ≤ T ∧ T ≤ 200000000) (hR : PRel g T q mo X M) (hRm : 18 ≤ R.frames ∧ 746 ≤ R.locals) (hcs : cells + 1 ≤ R.cells ∧ slots + 6 ≤ R.slots) (hl : lv_has ls 10 [(5, .int (nI i)), (4, .ref qd), (3, .ref qo), (2, .ref mo), (1, .ref q), (0, .ref b)]) (hP : va_P g.1 vwCl (LW g X M qo fo qd fd) H) (hD : va_D A (LW g X M qo fo qd fd)) (hS : va_S A s.heap H locs) (kk : Cont p l e R s m args below meth c Q A g b q mo qo qd i T (cells + 1) (slots + 6)) : W p l e R s m args below meth c H locs cells slots Q (F0 m 492 ls []) := by
  obtain ⟨k, v, X', M', fo', h1, h2, h3, h4, hd1, hd2, h5⟩ := s_decade (l := l) (qo := qo) (fo := fo) (p1 := xs (i + 1)) (p2 := xs (i + 2)) hfl hT hR
  obtain ⟨fm, hm0⟩ := pr_m hR
  obtain ⟨fm2, hm2⟩ := pr_m h5
  obtain ⟨hx, hb, hrr, hml, hown, hlk, hts, hK, hZo, hZ⟩ := id C
  refine lv_aload_n hx hb d_w_492 rfl (lv_at hl 4 rfl) ?_
  refine ldSc (k := 1) (kv := 1) C hX hbl hbA hS (lv_at hl 5 rfl) (lv_at hl 0 rfl) rfl (by omega) hL d_w_493 d_w_494 d_w_496 (by decide) d_w_497 d_w_498 ?_
  refine ldSc (k := 2) (kv := 2) C hX hbl hbA hS (lv_at hl 5 rfl) (lv_at hl 0 rfl) rfl (by omega) hL d_w_499 d_w_500 d_w_502 (by decide) d_w_503 d_w_504 ?_
  refine lv_aload_n hx hb d_w_505 rfl (lv_at hl 2 rfl) ?_
  refine lWo C hXW mfL_decade qm_La_121 h1 ⟨Nat.le_trans (Nat.le_of_ble_eq_true rfl) hRm.1, Nat.le_trans (Nat.le_of_ble_eq_true rfl) hRm.2⟩ hcs hP hD hS hd1 hl rfl rfl (Nat.le_of_ble_eq_true rfl) d_w_506 (fun H locs hP hD hS => ?_)
  refine lv_istore (lv' := [(6, .int k), (5, .int (nI i)), (4, .ref qd), (3, .ref qo), (2, .ref mo), (1, .ref q), (0, .ref b)]) hx hb d_w_509 hl (by decide) rfl (fun ls hl => ?_)
  refine lv_aload_n hx hb d_w_511 rfl (lv_at hl 4 rfl) ?_
  refine ldSc (k := 1) (kv := 1) C hX hbl hbA hS (lv_at hl 6 rfl) (lv_at hl 1 rfl) rfl (by omega) hL d_w_512 d_w_513 d_w_515 (by decide) d_w_516 d_w_517 ?_
  refine ldSc (k := 2) (kv := 2) C hX hbl hbA hS (lv_at hl 6 rfl) (lv_at hl 1 rfl) rfl (by omega) hL d_w_518 d_w_519 d_w_521 (by decide) d_w_522 d_w_523 ?_
  refine lM C mf_Mo_decade qm_La_123 h2 rfl rfl ⟨Nat.le_trans (Nat.le_of_ble_eq_true rfl) hRm.1, Nat.le_trans (Nat.le_of_ble_eq_true rfl) hRm.2⟩ ⟨by omega, by omega⟩ hP hD hS hd2 hm0 rfl hl rfl rfl (Nat.le_of_ble_eq_true rfl) d_w_524 (fun H locs hP hD hS => ?_)
  show W p l e R s m args below meth c H locs (cells + 1) (slots + 6) Q (F0 m 527 ls [.int v])
  refine lv_istore (lv' := [(7, .int v), (6, .int k), (5, .int (nI i)), (4, .ref qd), (3, .ref qo), (2, .ref mo), (1, .ref q), (0, .ref b)]) hx hb d_w_527 hl (by decide) rfl (fun ls hl => ?_)
  refine lv_aload_n hx hb d_w_529 rfl (lv_at hl 5 rfl) ?_
  refine lM C mf_Mo_thrown qm_La_114 h3 rfl rfl ⟨Nat.le_trans (Nat.le_of_ble_eq_true rfl) hRm.1, Nat.le_trans (Nat.le_of_ble_eq_true rfl) hRm.2⟩ ⟨by omega, by omega⟩ hP hD hS rfl hm2 rfl hl rfl rfl (Nat.le_of_ble_eq_true rfl) d_w_530 (fun H locs hP hD hS => ?_)
  show W p l e R s m args below meth c H locs (cells + 1) (slots + 6) Q (F0 m 533 ls [.int k])
  refine lv_iload hx hb d_w_533 (lv_at hl 1 rfl) ?_
  refine lv_icmp_eq (tgt := 540) hx hb d_w_535 (by decide) (fun _ => ?_) (fun w => absurd rfl w)
  refine lv_iload hx hb d_w_540 (lv_at hl 1 rfl) ?_
  refine lv_if_ne (tgt := 557) hx hb d_w_542 (by decide) (fun _ => ?_) (fun w0 => ?_)
  · refine lv_goto (tgt := 2239) hx hb d_w_557 (by decide) ?_
    exact kk X' M' fo' fd H locs ls h5 (lv_sub hl [2, 3, 4, 5, 6, 7] rfl) hP hD hS
  · have e0 := h4 w0
    refine lv_aload_n hx hb d_w_545 rfl (lv_at hl 4 rfl) ?_
    refine lv_iconst (v := 0) hx hb d_w_546 (by decide) ?_
    refine ldL (k := 0) C hP X'.length lw_o (vp_of (by decide) (by decide)) rfl d_w_547 ?_
    rw [e0]
    refine lv_iload hx hb d_w_548 (lv_at hl 0 rfl) ?_
    refine lv_i2l (v := v.toInt64) hx hb d_w_550 rfl ?_
    refine W.lcmp hx hb d_w_551 ?_
    rw [lg_cmp_self]
    refine lv_if_eq (tgt := 557) hx hb d_w_552 (by decide) (fun _ => ?_) (fun w => absurd rfl w)
    refine lv_goto (tgt := 2239) hx hb d_w_557 (by decide) ?_
    exact kk X' M' fo' fd H locs ls h5 (lv_sub hl [2, 3, 4, 5, 6, 7] rfl) hP hD hS
end
end TZF1
