section TZF7
section
variable {p : Program} {l : Launch} {e : Env} {R : Room} {s : State} {m : MethodId} {args : Array Value} {below : List Frame} {meth : Method} {c : Code} {H : Heap} {locs : List Loc} {cells slots : Nat} {Q : State → Prop} {g : GX} {ls : Array Slot} {A : Nat → Prop} {X M : va_W} {b q mo qo qd i L : Nat} {xs : Nat → Int32} {T : Int} {fo : LV} {fd : Nat → UInt64}
set_option maxRecDepth 100000 in
set_option maxHeartbeats 4000000 in
theorem case_42 (hfl : l.stackTraces = false) (C : Cx p s m args meth c A g "DecadeBridgeLaw" code ret 10) (hXW : XW s) (hX : va_X b L xs s s.heap) (hbl : b < s.heap.size) (hbA : ¬ A b) (hL : L ≤ 3072) (hi : i + 5 < L) (hT : 0 ≤ T ∧ T ≤ 200000000) (hR : PRel g T q mo X M) (hRm : 18 ≤ R.frames ∧ 746 ≤ R.locals) (hcs : cells + 1 ≤ R.cells ∧ slots + 6 ≤ R.slots) (hl : lv_has ls 10 [(5, .int (nI i)), (4, .ref qd), (3, .ref qo), (2, .ref mo), (1, .ref q), (0, .ref b)]) (hP : va_P g.1 vwCl (LW g X M qo fo qd fd) H) (hD : va_D A (LW g X M qo fo qd fd)) (hS : va_S A s.heap H locs) (kk : Cont p l e R s m args below meth c Q A g b q mo qo qd i T (cells + 1) (slots + 6)) : W p l e R s m args below meth c H locs cells slots Q (F0 m 2022 ls []) := by
  obtain ⟨v, X', M', h1, h2, hd1, hd2, h5⟩ := s_read (l := l)  hT hR
  obtain ⟨fx, hx0⟩ := pr_x hR
  obtain ⟨fm, hm0⟩ := pr_m hR
  obtain ⟨hx, hb, hrr, hml, hown, hlk, hts, hK, hZo, hZ⟩ := id C
  refine lv_aload_n hx hb d_w_2022 rfl (lv_at hl 4 rfl) ?_
  refine lX C mf_Db_read qm_La_255 h1 rfl rfl ⟨Nat.le_trans (Nat.le_of_ble_eq_true rfl) hRm.1, Nat.le_trans (Nat.le_of_ble_eq_true rfl) hRm.2⟩ ⟨by omega, by omega⟩ hP hD hS hd1 hx0 rfl hl rfl rfl (Nat.le_of_ble_eq_true rfl) d_w_2023 (fun H locs hP hD hS => ?_)
  show W p l e R s m args below meth c H locs cells slots Q (F0 m 2026 ls [.int v])
  refine lv_aload_n hx hb d_w_2026 rfl (lv_at hl 3 rfl) ?_
  refine lM C mf_Mo_read qm_La_258 h2 rfl rfl ⟨Nat.le_trans (Nat.le_of_ble_eq_true rfl) hRm.1, Nat.le_trans (Nat.le_of_ble_eq_true rfl) hRm.2⟩ ⟨by omega, by omega⟩ hP hD hS hd2 hm0 rfl hl rfl rfl (Nat.le_of_ble_eq_true rfl) d_w_2027 (fun H locs hP hD hS => ?_)
  show W p l e R s m args below meth c H locs cells slots Q (F0 m 2030 ls [.int v, .int v])
  refine lv_icmp_eq (tgt := 2239) hx hb d_w_2030 (by decide) (fun _ => ?_) (fun w => absurd rfl w)
  refine W.widen (k := cells + 1) (n := slots + 6) (by omega) (by omega) ?_
  exact kk X' M' fo fd H locs ls h5 hl hP hD hS
set_option maxRecDepth 100000 in
set_option maxHeartbeats 4000000 in
theorem case_43 (hfl : l.stackTraces = false) (C : Cx p s m args meth c A g "DecadeBridgeLaw" code ret 10) (hXW : XW s) (hX : va_X b L xs s s.heap) (hbl : b < s.heap.size) (hbA : ¬ A b) (hL : L ≤ 3072) (hi : i + 5 < L) (hT : 0 ≤ T ∧ T ≤ 200000000) (hR : PRel g T q mo X M) (hRm : 18 ≤ R.frames ∧ 746 ≤ R.locals) (hcs : cells + 1 ≤ R.cells ∧ slots + 6 ≤ R.slots) (hl : lv_has ls 10 [(5, .int (nI i)), (4, .ref qd), (3, .ref qo), (2, .ref mo), (1, .ref q), (0, .ref b)]) (hP : va_P g.1 vwCl (LW g X M qo fo qd fd) H) (hD : va_D A (LW g X M qo fo qd fd)) (hS : va_S A s.heap H locs) (kk : Cont p l e R s m args below meth c Q A g b q mo qo qd i T (cells + 1) (slots + 6)) : W p l e R s m args below meth c H locs cells slots Q (F0 m 2035 ls []) := by
  obtain ⟨v, X', M', h1, h2, hd1, hd2, h5⟩ := s_balance (l := l) (p1 := bZ (xs (i + 1))) hT hR
  obtain ⟨fx, hx0⟩ := pr_x hR
  obtain ⟨fm, hm0⟩ := pr_m hR
  obtain ⟨hx, hb, hrr, hml, hown, hlk, hts, hK, hZo, hZ⟩ := id C
  refine lv_aload_n hx hb d_w_2035 rfl (lv_at hl 4 rfl) ?_
  refine ldSc (k := 1) (kv := 1) C hX hbl hbA hS (lv_at hl 5 rfl) (lv_at hl 0 rfl) rfl (by omega) hL d_w_2036 d_w_2037 d_w_2039 (by decide) d_w_2040 d_w_2041 ?_
  refine ldBo C d_w_2042 (by decide) d_w_2045 d_w_2046 (by decide) d_w_2049 ?_
  refine lX C mf_Db_balance qm_La_259 h1 rfl rfl ⟨Nat.le_trans (Nat.le_of_ble_eq_true rfl) hRm.1, Nat.le_trans (Nat.le_of_ble_eq_true rfl) hRm.2⟩ ⟨by omega, by omega⟩ hP hD hS hd1 hx0 rfl hl rfl rfl (Nat.le_of_ble_eq_true rfl) d_w_2050 (fun H locs hP hD hS => ?_)
  show W p l e R s m args below meth c H locs cells slots Q (F0 m 2053 ls [.int v])
  refine lv_aload_n hx hb d_w_2053 rfl (lv_at hl 3 rfl) ?_
  refine ldSc (k := 1) (kv := 1) C hX hbl hbA hS (lv_at hl 5 rfl) (lv_at hl 0 rfl) rfl (by omega) hL d_w_2054 d_w_2055 d_w_2057 (by decide) d_w_2058 d_w_2059 ?_
  refine ldBo C d_w_2060 (by decide) d_w_2063 d_w_2064 (by decide) d_w_2067 ?_
  refine lM C mf_Mo_balance qm_La_262 h2 rfl rfl ⟨Nat.le_trans (Nat.le_of_ble_eq_true rfl) hRm.1, Nat.le_trans (Nat.le_of_ble_eq_true rfl) hRm.2⟩ ⟨by omega, by omega⟩ hP hD hS hd2 hm0 rfl hl rfl rfl (Nat.le_of_ble_eq_true rfl) d_w_2068 (fun H locs hP hD hS => ?_)
  show W p l e R s m args below meth c H locs cells slots Q (F0 m 2071 ls [.int v, .int v])
  refine lv_icmp_eq (tgt := 2239) hx hb d_w_2071 (by decide) (fun _ => ?_) (fun w => absurd rfl w)
  refine W.widen (k := cells + 1) (n := slots + 6) (by omega) (by omega) ?_
  exact kk X' M' fo fd H locs ls h5 hl hP hD hS
set_option maxRecDepth 100000 in
set_option maxHeartbeats 4000000 in
theorem case_44 (hfl : l.stackTraces = false) (C : Cx p s m args meth c A g "DecadeBridgeLaw" code ret 10) (hXW : XW s) (hX : va_X b L xs s s.heap) (hbl : b < s.heap.size) (hbA : ¬ A b) (hL : L ≤ 3072) (hi : i + 5 < L) (hT : 0 ≤ T ∧ T ≤ 200000000) (hR : PRel g T q mo X M) (hRm : 18 ≤ R.frames ∧ 746 ≤ R.locals) (hcs : cells + 1 ≤ R.cells ∧ slots + 6 ≤ R.slots) (hl : lv_has ls 10 [(5, .int (nI i)), (4, .ref qd), (3, .ref qo), (2, .ref mo), (1, .ref q), (0, .ref b)]) (hP : va_P g.1 vwCl (LW g X M qo fo qd fd) H) (hD : va_D A (LW g X M qo fo qd fd)) (hS : va_S A s.heap H locs) (kk : Cont p l e R s m args below meth c Q A g b q mo qo qd i T (cells + 1) (slots + 6)) : W p l e R s m args below meth c H locs cells slots Q (F0 m 2076 ls []) := by
  obtain ⟨v, X', M', h1, h2, hd1, hd2, h5⟩ := s_report (l := l)  hT hR
  obtain ⟨fx, hx0⟩ := pr_x hR
  obtain ⟨fm, hm0⟩ := pr_m hR
  obtain ⟨hx, hb, hrr, hml, hown, hlk, hts, hK, hZo, hZ⟩ := id C
  refine lv_aload_n hx hb d_w_2076 rfl (lv_at hl 4 rfl) ?_
  refine lX C mf_Db_report qm_La_263 h1 rfl rfl ⟨Nat.le_trans (Nat.le_of_ble_eq_true rfl) hRm.1, Nat.le_trans (Nat.le_of_ble_eq_true rfl) hRm.2⟩ ⟨by omega, by omega⟩ hP hD hS hd1 hx0 rfl hl rfl rfl (Nat.le_of_ble_eq_true rfl) d_w_2077 (fun H locs hP hD hS => ?_)
  show W p l e R s m args below meth c H locs cells slots Q (F0 m 2080 ls [.int v])
  refine lv_aload_n hx hb d_w_2080 rfl (lv_at hl 3 rfl) ?_
  refine lM C mf_Mo_report qm_La_266 h2 rfl rfl ⟨Nat.le_trans (Nat.le_of_ble_eq_true rfl) hRm.1, Nat.le_trans (Nat.le_of_ble_eq_true rfl) hRm.2⟩ ⟨by omega, by omega⟩ hP hD hS hd2 hm0 rfl hl rfl rfl (Nat.le_of_ble_eq_true rfl) d_w_2081 (fun H locs hP hD hS => ?_)
  show W p l e R s m args below meth c H locs cells slots Q (F0 m 2084 ls [.int v, .int v])
  refine lv_icmp_eq (tgt := 2239) hx hb d_w_2084 (by decide) (fun _ => ?_) (fun w => absurd rfl w)
  refine W.widen (k := cells + 1) (n := slots + 6) (by omega) (by omega) ?_
  exact kk X' M' fo fd H locs ls h5 hl hP hD hS
set_option maxRecDepth 100000 in
set_option maxHeartbeats 4000000 in
theorem case_45 (hfl : l.stackTraces = false) (C : Cx p s m args meth c A g "DecadeBridgeLaw" code ret 10) (hXW : XW s) (hX : va_X b L xs s s.heap) (hbl : b < s.heap.size) (hbA : ¬ A b) (hL : L ≤ 3072) (hi : i + 5 < L) (hT : 0 ≤ T ∧ T ≤ 200000000) (hR : PRel g T q mo X M) (hRm : 18 ≤ R.frames ∧ 746 ≤ R.locals) (hcs : cells + 1 ≤ R.cells ∧ slots + 6 ≤ R.slots) (hl : lv_has ls 10 [(5, .int (nI i)), (4, .ref qd), (3, .ref qo), (2, .ref mo), (1, .ref q), (0, .ref b)]) (hP : va_P g.1 vwCl (LW g X M qo fo qd fd) H) (hD : va_D A (LW g X M qo fo qd fd)) (hS : va_S A s.heap H locs) (kk : Cont p l e R s m args below meth c Q A g b q mo qo qd i T (cells + 1) (slots + 6)) : W p l e R s m args below meth c H locs cells slots Q (F0 m 2089 ls []) := by
  obtain ⟨v, X', M', h1, h2, hd1, hd2, h5⟩ := s_reportByte (l := l) (p1 := xs (i + 1)) hT hR
  obtain ⟨fx, hx0⟩ := pr_x hR
  obtain ⟨fm, hm0⟩ := pr_m hR
  obtain ⟨hx, hb, hrr, hml, hown, hlk, hts, hK, hZo, hZ⟩ := id C
  refine lv_aload_n hx hb d_w_2089 rfl (lv_at hl 4 rfl) ?_
  refine ldSc (k := 1) (kv := 1) C hX hbl hbA hS (lv_at hl 5 rfl) (lv_at hl 0 rfl) rfl (by omega) hL d_w_2090 d_w_2091 d_w_2093 (by decide) d_w_2094 d_w_2095 ?_
  refine lX C mf_Db_reportByte qm_La_267 h1 rfl rfl ⟨Nat.le_trans (Nat.le_of_ble_eq_true rfl) hRm.1, Nat.le_trans (Nat.le_of_ble_eq_true rfl) hRm.2⟩ ⟨by omega, by omega⟩ hP hD hS hd1 hx0 rfl hl rfl rfl (Nat.le_of_ble_eq_true rfl) d_w_2096 (fun H locs hP hD hS => ?_)
  show W p l e R s m args below meth c H locs cells slots Q (F0 m 2099 ls [.int v])
  refine lv_aload_n hx hb d_w_2099 rfl (lv_at hl 3 rfl) ?_
  refine ldSc (k := 1) (kv := 1) C hX hbl hbA hS (lv_at hl 5 rfl) (lv_at hl 0 rfl) rfl (by omega) hL d_w_2100 d_w_2101 d_w_2103 (by decide) d_w_2104 d_w_2105 ?_
  refine lM C mf_Mo_reportByte qm_La_270 h2 rfl rfl ⟨Nat.le_trans (Nat.le_of_ble_eq_true rfl) hRm.1, Nat.le_trans (Nat.le_of_ble_eq_true rfl) hRm.2⟩ ⟨by omega, by omega⟩ hP hD hS hd2 hm0 rfl hl rfl rfl (Nat.le_of_ble_eq_true rfl) d_w_2106 (fun H locs hP hD hS => ?_)
  show W p l e R s m args below meth c H locs cells slots Q (F0 m 2109 ls [.int v, .int v])
  refine lv_icmp_eq (tgt := 2239) hx hb d_w_2109 (by decide) (fun _ => ?_) (fun w => absurd rfl w)
  refine W.widen (k := cells + 1) (n := slots + 6) (by omega) (by omega) ?_
  exact kk X' M' fo fd H locs ls h5 hl hP hD hS
set_option maxRecDepth 100000 in
set_option maxHeartbeats 4000000 in
theorem case_46 (hfl : l.stackTraces = false) (C : Cx p s m args meth c A g "DecadeBridgeLaw" code ret 10) (hXW : XW s) (hX : va_X b L xs s s.heap) (hbl : b < s.heap.size) (hbA : ¬ A b) (hL : L ≤ 3072) (hi : i + 5 < L) (hT : 0 ≤ T ∧ T ≤ 200000000) (hR : PRel g T q mo X M) (hRm : 18 ≤ R.frames ∧ 746 ≤ R.locals) (hcs : cells + 1 ≤ R.cells ∧ slots + 6 ≤ R.slots) (hl : lv_has ls 10 [(5, .int (nI i)), (4, .ref qd), (3, .ref qo), (2, .ref mo), (1, .ref q), (0, .ref b)]) (hP : va_P g.1 vwCl (LW g X M qo fo qd fd) H) (hD : va_D A (LW g X M qo fo qd fd)) (hS : va_S A s.heap H locs) (kk : Cont p l e R s m args below meth c Q A g b q mo qo qd i T (cells + 1) (slots + 6)) : W p l e R s m args below meth c H locs cells slots Q (F0 m 2114 ls []) := by
  obtain ⟨v, X', M', h1, h2, hd1, hd2, h5⟩ := s_undo (l := l)  hT hR
  obtain ⟨fx, hx0⟩ := pr_x hR
  obtain ⟨fm, hm0⟩ := pr_m hR
  obtain ⟨hx, hb, hrr, hml, hown, hlk, hts, hK, hZo, hZ⟩ := id C
  refine lv_aload_n hx hb d_w_2114 rfl (lv_at hl 4 rfl) ?_
  refine lX C mf_Db_undo qm_La_271 h1 rfl rfl ⟨Nat.le_trans (Nat.le_of_ble_eq_true rfl) hRm.1, Nat.le_trans (Nat.le_of_ble_eq_true rfl) hRm.2⟩ ⟨by omega, by omega⟩ hP hD hS hd1 hx0 rfl hl rfl rfl (Nat.le_of_ble_eq_true rfl) d_w_2115 (fun H locs hP hD hS => ?_)
  show W p l e R s m args below meth c H locs cells slots Q (F0 m 2118 ls [.int v])
  refine lv_aload_n hx hb d_w_2118 rfl (lv_at hl 3 rfl) ?_
  refine lM C mf_Mo_undo qm_La_274 h2 rfl rfl ⟨Nat.le_trans (Nat.le_of_ble_eq_true rfl) hRm.1, Nat.le_trans (Nat.le_of_ble_eq_true rfl) hRm.2⟩ ⟨by omega, by omega⟩ hP hD hS hd2 hm0 rfl hl rfl rfl (Nat.le_of_ble_eq_true rfl) d_w_2119 (fun H locs hP hD hS => ?_)
  show W p l e R s m args below meth c H locs cells slots Q (F0 m 2122 ls [.int v, .int v])
  refine lv_icmp_eq (tgt := 2239) hx hb d_w_2122 (by decide) (fun _ => ?_) (fun w => absurd rfl w)
  refine W.widen (k := cells + 1) (n := slots + 6) (by omega) (by omega) ?_
  exact kk X' M' fo fd H locs ls h5 hl hP hD hS
set_option maxRecDepth 100000 in
set_option maxHeartbeats 4000000 in
theorem case_47 (hfl : l.stackTraces = false) (C : Cx p s m args meth c A g "DecadeBridgeLaw" code ret 10) (hXW : XW s) (hX : va_X b L xs s s.heap) (hbl : b < s.heap.size) (hbA : ¬ A b) (hL : L ≤ 3072) (hi : i + 5 < L) (hT : 0 ≤ T ∧ T ≤ 200000000) (hR : PRel g T q mo X M) (hRm : 18 ≤ R.frames ∧ 746 ≤ R.locals) (hcs : cells + 1 ≤ R.cells ∧ slots + 6 ≤ R.slots) (hl : lv_has ls 10 [(5, .int (nI i)), (4, .ref qd), (3, .ref qo), (2, .ref mo), (1, .ref q), (0, .ref b)]) (hP : va_P g.1 vwCl (LW g X M qo fo qd fd) H) (hD : va_D A (LW g X M qo fo qd fd)) (hS : va_S A s.heap H locs) (kk : Cont p l e R s m args below meth c Q A g b q mo qo qd i T (cells + 1) (slots + 6)) : W p l e R s m args below meth c H locs cells slots Q (F0 m 2127 ls []) := by
  obtain ⟨k, v, X', M', fo', h1, h2, h3, h4, hd1, hd2, h5⟩ := s_save (l := l) (qo := qo) (fo := fo) (p1 := xs (i + 1)) hfl hT hR
  obtain ⟨fm, hm0⟩ := pr_m hR
  obtain ⟨fm2, hm2⟩ := pr_m h5
  obtain ⟨hx, hb, hrr, hml, hown, hlk, hts, hK, hZo, hZ⟩ := id C
  refine lv_aload_n hx hb d_w_2127 rfl (lv_at hl 4 rfl) ?_
  refine ldSc (k := 1) (kv := 1) C hX hbl hbA hS (lv_at hl 5 rfl) (lv_at hl 0 rfl) rfl (by omega) hL d_w_2128 d_w_2129 d_w_2131 (by decide) d_w_2132 d_w_2133 ?_
  refine lv_aload_n hx hb d_w_2134 rfl (lv_at hl 2 rfl) ?_
  refine lWo C hXW mfL_save qm_La_275 h1 ⟨Nat.le_trans (Nat.le_of_ble_eq_true rfl) hRm.1, Nat.le_trans (Nat.le_of_ble_eq_true rfl) hRm.2⟩ hcs hP hD hS hd1 hl rfl rfl (Nat.le_of_ble_eq_true rfl) d_w_2135 (fun H locs hP hD hS => ?_)
  refine lv_istore (lv' := [(6, .int k), (5, .int (nI i)), (4, .ref qd), (3, .ref qo), (2, .ref mo), (1, .ref q), (0, .ref b)]) hx hb d_w_2138 hl (by decide) rfl (fun ls hl => ?_)
  refine lv_aload_n hx hb d_w_2140 rfl (lv_at hl 4 rfl) ?_
  refine ldSc (k := 1) (kv := 1) C hX hbl hbA hS (lv_at hl 6 rfl) (lv_at hl 1 rfl) rfl (by omega) hL d_w_2141 d_w_2142 d_w_2144 (by decide) d_w_2145 d_w_2146 ?_
  refine lM C mf_Mo_save qm_La_277 h2 rfl rfl ⟨Nat.le_trans (Nat.le_of_ble_eq_true rfl) hRm.1, Nat.le_trans (Nat.le_of_ble_eq_true rfl) hRm.2⟩ ⟨by omega, by omega⟩ hP hD hS hd2 hm0 rfl hl rfl rfl (Nat.le_of_ble_eq_true rfl) d_w_2147 (fun H locs hP hD hS => ?_)
  show W p l e R s m args below meth c H locs (cells + 1) (slots + 6) Q (F0 m 2150 ls [.int v])
  refine lv_istore (lv' := [(7, .int v), (6, .int k), (5, .int (nI i)), (4, .ref qd), (3, .ref qo), (2, .ref mo), (1, .ref q), (0, .ref b)]) hx hb d_w_2150 hl (by decide) rfl (fun ls hl => ?_)
  refine lv_aload_n hx hb d_w_2152 rfl (lv_at hl 5 rfl) ?_
  refine lM C mf_Mo_thrown qm_La_114 h3 rfl rfl ⟨Nat.le_trans (Nat.le_of_ble_eq_true rfl) hRm.1, Nat.le_trans (Nat.le_of_ble_eq_true rfl) hRm.2⟩ ⟨by omega, by omega⟩ hP hD hS rfl hm2 rfl hl rfl rfl (Nat.le_of_ble_eq_true rfl) d_w_2153 (fun H locs hP hD hS => ?_)
  show W p l e R s m args below meth c H locs (cells + 1) (slots + 6) Q (F0 m 2156 ls [.int k])
  refine lv_iload hx hb d_w_2156 (lv_at hl 1 rfl) ?_
  refine lv_icmp_eq (tgt := 2163) hx hb d_w_2158 (by decide) (fun _ => ?_) (fun w => absurd rfl w)
  refine lv_iload hx hb d_w_2163 (lv_at hl 1 rfl) ?_
  refine lv_if_ne (tgt := 2180) hx hb d_w_2165 (by decide) (fun _ => ?_) (fun w0 => ?_)
  · refine lv_goto (tgt := 2239) hx hb d_w_2180 (by decide) ?_
    exact kk X' M' fo' fd H locs ls h5 (lv_sub hl [2, 3, 4, 5, 6, 7] rfl) hP hD hS
  · have e0 := h4 w0
    refine lv_aload_n hx hb d_w_2168 rfl (lv_at hl 4 rfl) ?_
    refine lv_iconst (v := 0) hx hb d_w_2169 (by decide) ?_
    refine ldL (k := 0) C hP X'.length lw_o (vp_of (by decide) (by decide)) rfl d_w_2170 ?_
    rw [e0]
    refine lv_iload hx hb d_w_2171 (lv_at hl 0 rfl) ?_
    refine lv_i2l (v := v.toInt64) hx hb d_w_2173 rfl ?_
    refine W.lcmp hx hb d_w_2174 ?_
    rw [lg_cmp_self]
    refine lv_if_eq (tgt := 2180) hx hb d_w_2175 (by decide) (fun _ => ?_) (fun w => absurd rfl w)
    refine lv_goto (tgt := 2239) hx hb d_w_2180 (by decide) ?_
    exact kk X' M' fo' fd H locs ls h5 (lv_sub hl [2, 3, 4, 5, 6, 7] rfl) hP hD hS
set_option maxRecDepth 100000 in
set_option maxHeartbeats 4000000 in
theorem case_48 (hfl : l.stackTraces = false) (C : Cx p s m args meth c A g "DecadeBridgeLaw" code ret 10) (hXW : XW s) (hX : va_X b L xs s s.heap) (hbl : b < s.heap.size) (hbA : ¬ A b) (hL : L ≤ 3072) (hi : i + 5 < L) (hT : 0 ≤ T ∧ T ≤ 200000000) (hR : PRel g T q mo X M) (hRm : 18 ≤ R.frames ∧ 746 ≤ R.locals) (hcs : cells + 1 ≤ R.cells ∧ slots + 6 ≤ R.slots) (hl : lv_has ls 10 [(5, .int (nI i)), (4, .ref qd), (3, .ref qo), (2, .ref mo), (1, .ref q), (0, .ref b)]) (hP : va_P g.1 vwCl (LW g X M qo fo qd fd) H) (hD : va_D A (LW g X M qo fo qd fd)) (hS : va_S A s.heap H locs) (kk : Cont p l e R s m args below meth c Q A g b q mo qo qd i T (cells + 1) (slots + 6)) : W p l e R s m args below meth c H locs cells slots Q (F0 m 2183 ls []) := by
  obtain ⟨k, v, X', M', fo', h1, h2, h3, h4, hd1, hd2, h5⟩ := s_restore (l := l) (qo := qo) (fo := fo) (p1 := xs (i + 1)) hfl hT hR
  obtain ⟨fm, hm0⟩ := pr_m hR
  obtain ⟨fm2, hm2⟩ := pr_m h5
  obtain ⟨hx, hb, hrr, hml, hown, hlk, hts, hK, hZo, hZ⟩ := id C
  refine lv_aload_n hx hb d_w_2183 rfl (lv_at hl 4 rfl) ?_
  refine ldSc (k := 1) (kv := 1) C hX hbl hbA hS (lv_at hl 5 rfl) (lv_at hl 0 rfl) rfl (by omega) hL d_w_2184 d_w_2185 d_w_2187 (by decide) d_w_2188 d_w_2189 ?_
  refine lv_aload_n hx hb d_w_2190 rfl (lv_at hl 2 rfl) ?_
  refine lWo C hXW mfL_restore qm_La_278 h1 ⟨Nat.le_trans (Nat.le_of_ble_eq_true rfl) hRm.1, Nat.le_trans (Nat.le_of_ble_eq_true rfl) hRm.2⟩ hcs hP hD hS hd1 hl rfl rfl (Nat.le_of_ble_eq_true rfl) d_w_2191 (fun H locs hP hD hS => ?_)
  refine lv_istore (lv' := [(6, .int k), (5, .int (nI i)), (4, .ref qd), (3, .ref qo), (2, .ref mo), (1, .ref q), (0, .ref b)]) hx hb d_w_2194 hl (by decide) rfl (fun ls hl => ?_)
  refine lv_aload_n hx hb d_w_2196 rfl (lv_at hl 4 rfl) ?_
  refine ldSc (k := 1) (kv := 1) C hX hbl hbA hS (lv_at hl 6 rfl) (lv_at hl 1 rfl) rfl (by omega) hL d_w_2197 d_w_2198 d_w_2200 (by decide) d_w_2201 d_w_2202 ?_
  refine lM C mf_Mo_restore qm_La_280 h2 rfl rfl ⟨Nat.le_trans (Nat.le_of_ble_eq_true rfl) hRm.1, Nat.le_trans (Nat.le_of_ble_eq_true rfl) hRm.2⟩ ⟨by omega, by omega⟩ hP hD hS hd2 hm0 rfl hl rfl rfl (Nat.le_of_ble_eq_true rfl) d_w_2203 (fun H locs hP hD hS => ?_)
  show W p l e R s m args below meth c H locs (cells + 1) (slots + 6) Q (F0 m 2206 ls [.int v])
  refine lv_istore (lv' := [(7, .int v), (6, .int k), (5, .int (nI i)), (4, .ref qd), (3, .ref qo), (2, .ref mo), (1, .ref q), (0, .ref b)]) hx hb d_w_2206 hl (by decide) rfl (fun ls hl => ?_)
  refine lv_aload_n hx hb d_w_2208 rfl (lv_at hl 5 rfl) ?_
  refine lM C mf_Mo_thrown qm_La_114 h3 rfl rfl ⟨Nat.le_trans (Nat.le_of_ble_eq_true rfl) hRm.1, Nat.le_trans (Nat.le_of_ble_eq_true rfl) hRm.2⟩ ⟨by omega, by omega⟩ hP hD hS rfl hm2 rfl hl rfl rfl (Nat.le_of_ble_eq_true rfl) d_w_2209 (fun H locs hP hD hS => ?_)
  show W p l e R s m args below meth c H locs (cells + 1) (slots + 6) Q (F0 m 2212 ls [.int k])
  refine lv_iload hx hb d_w_2212 (lv_at hl 1 rfl) ?_
  refine lv_icmp_eq (tgt := 2219) hx hb d_w_2214 (by decide) (fun _ => ?_) (fun w => absurd rfl w)
  refine lv_iload hx hb d_w_2219 (lv_at hl 1 rfl) ?_
  refine lv_if_ne (tgt := 2236) hx hb d_w_2221 (by decide) (fun _ => ?_) (fun w0 => ?_)
  · refine lv_goto (tgt := 2239) hx hb d_w_2236 (by decide) ?_
    exact kk X' M' fo' fd H locs ls h5 (lv_sub hl [2, 3, 4, 5, 6, 7] rfl) hP hD hS
  · have e0 := h4 w0
    refine lv_aload_n hx hb d_w_2224 rfl (lv_at hl 4 rfl) ?_
    refine lv_iconst (v := 0) hx hb d_w_2225 (by decide) ?_
    refine ldL (k := 0) C hP X'.length lw_o (vp_of (by decide) (by decide)) rfl d_w_2226 ?_
    rw [e0]
    refine lv_iload hx hb d_w_2227 (lv_at hl 0 rfl) ?_
    refine lv_i2l (v := v.toInt64) hx hb d_w_2229 rfl ?_
    refine W.lcmp hx hb d_w_2230 ?_
    rw [lg_cmp_self]
    refine lv_if_eq (tgt := 2236) hx hb d_w_2231 (by decide) (fun _ => ?_) (fun w => absurd rfl w)
    refine lv_goto (tgt := 2239) hx hb d_w_2236 (by decide) ?_
    exact kk X' M' fo' fd H locs ls h5 (lv_sub hl [2, 3, 4, 5, 6, 7] rfl) hP hD hS
end
end TZF7
