section TZF3
section
variable {p : Program} {l : Launch} {e : Env} {R : Room} {s : State} {m : MethodId} {args : Array Value} {below : List Frame} {meth : Method} {c : Code} {H : Heap} {locs : List Loc} {cells slots : Nat} {Q : State → Prop} {g : GX} {ls : Array Slot} {A : Nat → Prop} {X M : va_W} {b q mo qo qd i L : Nat} {xs : Nat → Int32} {T : Int} {fo : LV} {fd : Nat → UInt64}
set_option maxRecDepth 100000 in
set_option maxHeartbeats 4000000 in
theorem case_14 (hfl : l.stackTraces = false) (C : Cx p s m args meth c A g "DecadeBridgeLaw" code ret 10) (hXW : XW s) (hX : va_X b L xs s s.heap) (hbl : b < s.heap.size) (hbA : ¬ A b) (hL : L ≤ 3072) (hi : i + 5 < L) (hT : 0 ≤ T ∧ T ≤ 200000000) (hR : PRel g T q mo X M) (hRm : 18 ≤ R.frames ∧ 746 ≤ R.locals) (hcs : cells + 1 ≤ R.cells ∧ slots + 6 ≤ R.slots) (hl : lv_has ls 10 [(5, .int (nI i)), (4, .ref qd), (3, .ref qo), (2, .ref mo), (1, .ref q), (0, .ref b)]) (hP : va_P g.1 vwCl (LW g X M qo fo qd fd) H) (hD : va_D A (LW g X M qo fo qd fd)) (hS : va_S A s.heap H locs) (kk : Cont p l e R s m args below meth c Q A g b q mo qo qd i T (cells + 1) (slots + 6)) : W p l e R s m args below meth c H locs cells slots Q (F0 m 867 ls []) := by
  obtain ⟨v, X', M', h1, h2, hd1, hd2, h5⟩ := s_whyNot (l := l)  hT hR
  obtain ⟨fx, hx0⟩ := pr_x hR
  obtain ⟨fm, hm0⟩ := pr_m hR
  obtain ⟨hx, hb, hrr, hml, hown, hlk, hts, hK, hZo, hZ⟩ := id C
  refine lv_aload_n hx hb d_w_867 rfl (lv_at hl 4 rfl) ?_
  refine lX C mf_Db_whyNot qm_La_153 h1 rfl rfl ⟨Nat.le_trans (Nat.le_of_ble_eq_true rfl) hRm.1, Nat.le_trans (Nat.le_of_ble_eq_true rfl) hRm.2⟩ ⟨by omega, by omega⟩ hP hD hS hd1 hx0 rfl hl rfl rfl (Nat.le_of_ble_eq_true rfl) d_w_868 (fun H locs hP hD hS => ?_)
  show W p l e R s m args below meth c H locs cells slots Q (F0 m 871 ls [.int v])
  refine lv_aload_n hx hb d_w_871 rfl (lv_at hl 3 rfl) ?_
  refine lM C mf_Mo_whyNot qm_La_156 h2 rfl rfl ⟨Nat.le_trans (Nat.le_of_ble_eq_true rfl) hRm.1, Nat.le_trans (Nat.le_of_ble_eq_true rfl) hRm.2⟩ ⟨by omega, by omega⟩ hP hD hS hd2 hm0 rfl hl rfl rfl (Nat.le_of_ble_eq_true rfl) d_w_872 (fun H locs hP hD hS => ?_)
  show W p l e R s m args below meth c H locs cells slots Q (F0 m 875 ls [.int v, .int v])
  refine lv_icmp_eq (tgt := 2239) hx hb d_w_875 (by decide) (fun _ => ?_) (fun w => absurd rfl w)
  refine W.widen (k := cells + 1) (n := slots + 6) (by omega) (by omega) ?_
  exact kk X' M' fo fd H locs ls h5 hl hP hD hS
set_option maxRecDepth 100000 in
set_option maxHeartbeats 4000000 in
theorem case_15 (hfl : l.stackTraces = false) (C : Cx p s m args meth c A g "DecadeBridgeLaw" code ret 10) (hXW : XW s) (hX : va_X b L xs s s.heap) (hbl : b < s.heap.size) (hbA : ¬ A b) (hL : L ≤ 3072) (hi : i + 5 < L) (hT : 0 ≤ T ∧ T ≤ 200000000) (hR : PRel g T q mo X M) (hRm : 18 ≤ R.frames ∧ 746 ≤ R.locals) (hcs : cells + 1 ≤ R.cells ∧ slots + 6 ≤ R.slots) (hl : lv_has ls 10 [(5, .int (nI i)), (4, .ref qd), (3, .ref qo), (2, .ref mo), (1, .ref q), (0, .ref b)]) (hP : va_P g.1 vwCl (LW g X M qo fo qd fd) H) (hD : va_D A (LW g X M qo fo qd fd)) (hS : va_S A s.heap H locs) (kk : Cont p l e R s m args below meth c Q A g b q mo qo qd i T (cells + 1) (slots + 6)) : W p l e R s m args below meth c H locs cells slots Q (F0 m 880 ls []) := by
  obtain ⟨v, X', M', h1, h2, hd1, hd2, h5⟩ := s_energy (l := l)  hT hR
  obtain ⟨fx, hx0⟩ := pr_x hR
  obtain ⟨fm, hm0⟩ := pr_m hR
  obtain ⟨hx, hb, hrr, hml, hown, hlk, hts, hK, hZo, hZ⟩ := id C
  refine lv_aload_n hx hb d_w_880 rfl (lv_at hl 4 rfl) ?_
  refine lX C mf_Db_energy qm_La_157 h1 rfl rfl ⟨Nat.le_trans (Nat.le_of_ble_eq_true rfl) hRm.1, Nat.le_trans (Nat.le_of_ble_eq_true rfl) hRm.2⟩ ⟨by omega, by omega⟩ hP hD hS hd1 hx0 rfl hl rfl rfl (Nat.le_of_ble_eq_true rfl) d_w_881 (fun H locs hP hD hS => ?_)
  show W p l e R s m args below meth c H locs cells slots Q (F0 m 884 ls [.long v])
  refine lv_aload_n hx hb d_w_884 rfl (lv_at hl 3 rfl) ?_
  refine lM C mf_Mo_energy qm_La_160 h2 rfl rfl ⟨Nat.le_trans (Nat.le_of_ble_eq_true rfl) hRm.1, Nat.le_trans (Nat.le_of_ble_eq_true rfl) hRm.2⟩ ⟨by omega, by omega⟩ hP hD hS hd2 hm0 rfl hl rfl rfl (Nat.le_of_ble_eq_true rfl) d_w_885 (fun H locs hP hD hS => ?_)
  show W p l e R s m args below meth c H locs cells slots Q (F0 m 888 ls [.long v, .long v])
  refine W.lcmp hx hb d_w_888 ?_
  rw [lg_cmp_self]
  refine lv_if_eq (tgt := 2239) hx hb d_w_889 (by decide) (fun _ => ?_) (fun w => absurd rfl w)
  refine W.widen (k := cells + 1) (n := slots + 6) (by omega) (by omega) ?_
  exact kk X' M' fo fd H locs ls h5 hl hP hD hS
set_option maxRecDepth 100000 in
set_option maxHeartbeats 4000000 in
theorem case_16 (hfl : l.stackTraces = false) (C : Cx p s m args meth c A g "DecadeBridgeLaw" code ret 10) (hXW : XW s) (hX : va_X b L xs s s.heap) (hbl : b < s.heap.size) (hbA : ¬ A b) (hL : L ≤ 3072) (hi : i + 5 < L) (hT : 0 ≤ T ∧ T ≤ 200000000) (hR : PRel g T q mo X M) (hRm : 18 ≤ R.frames ∧ 746 ≤ R.locals) (hcs : cells + 1 ≤ R.cells ∧ slots + 6 ≤ R.slots) (hl : lv_has ls 10 [(5, .int (nI i)), (4, .ref qd), (3, .ref qo), (2, .ref mo), (1, .ref q), (0, .ref b)]) (hP : va_P g.1 vwCl (LW g X M qo fo qd fd) H) (hD : va_D A (LW g X M qo fo qd fd)) (hS : va_S A s.heap H locs) (kk : Cont p l e R s m args below meth c Q A g b q mo qo qd i T (cells + 1) (slots + 6)) : W p l e R s m args below meth c H locs cells slots Q (F0 m 894 ls []) := by
  obtain ⟨v, X', M', h1, h2, hd1, hd2, h5⟩ := s_reading (l := l) (p1 := xs (i + 1)) hT hR
  obtain ⟨fx, hx0⟩ := pr_x hR
  obtain ⟨fm, hm0⟩ := pr_m hR
  obtain ⟨hx, hb, hrr, hml, hown, hlk, hts, hK, hZo, hZ⟩ := id C
  refine lv_aload_n hx hb d_w_894 rfl (lv_at hl 4 rfl) ?_
  refine ldSc (k := 1) (kv := 1) C hX hbl hbA hS (lv_at hl 5 rfl) (lv_at hl 0 rfl) rfl (by omega) hL d_w_895 d_w_896 d_w_898 (by decide) d_w_899 d_w_900 ?_
  refine lX C mf_Db_reading qm_La_161 h1 rfl rfl ⟨Nat.le_trans (Nat.le_of_ble_eq_true rfl) hRm.1, Nat.le_trans (Nat.le_of_ble_eq_true rfl) hRm.2⟩ ⟨by omega, by omega⟩ hP hD hS hd1 hx0 rfl hl rfl rfl (Nat.le_of_ble_eq_true rfl) d_w_901 (fun H locs hP hD hS => ?_)
  show W p l e R s m args below meth c H locs cells slots Q (F0 m 904 ls [.int v])
  refine lv_aload_n hx hb d_w_904 rfl (lv_at hl 3 rfl) ?_
  refine ldSc (k := 1) (kv := 1) C hX hbl hbA hS (lv_at hl 5 rfl) (lv_at hl 0 rfl) rfl (by omega) hL d_w_905 d_w_906 d_w_908 (by decide) d_w_909 d_w_910 ?_
  refine lM C mf_Mo_reading qm_La_164 h2 rfl rfl ⟨Nat.le_trans (Nat.le_of_ble_eq_true rfl) hRm.1, Nat.le_trans (Nat.le_of_ble_eq_true rfl) hRm.2⟩ ⟨by omega, by omega⟩ hP hD hS hd2 hm0 rfl hl rfl rfl (Nat.le_of_ble_eq_true rfl) d_w_911 (fun H locs hP hD hS => ?_)
  show W p l e R s m args below meth c H locs cells slots Q (F0 m 914 ls [.int v, .int v])
  refine lv_icmp_eq (tgt := 2239) hx hb d_w_914 (by decide) (fun _ => ?_) (fun w => absurd rfl w)
  refine W.widen (k := cells + 1) (n := slots + 6) (by omega) (by omega) ?_
  exact kk X' M' fo fd H locs ls h5 hl hP hD hS
set_option maxRecDepth 100000 in
set_option maxHeartbeats 4000000 in
theorem case_17 (hfl : l.stackTraces = false) (C : Cx p s m args meth c A g "DecadeBridgeLaw" code ret 10) (hXW : XW s) (hX : va_X b L xs s s.heap) (hbl : b < s.heap.size) (hbA : ¬ A b) (hL : L ≤ 3072) (hi : i + 5 < L) (hT : 0 ≤ T ∧ T ≤ 200000000) (hR : PRel g T q mo X M) (hRm : 18 ≤ R.frames ∧ 746 ≤ R.locals) (hcs : cells + 1 ≤ R.cells ∧ slots + 6 ≤ R.slots) (hl : lv_has ls 10 [(5, .int (nI i)), (4, .ref qd), (3, .ref qo), (2, .ref mo), (1, .ref q), (0, .ref b)]) (hP : va_P g.1 vwCl (LW g X M qo fo qd fd) H) (hD : va_D A (LW g X M qo fo qd fd)) (hS : va_S A s.heap H locs) (kk : Cont p l e R s m args below meth c Q A g b q mo qo qd i T (cells + 1) (slots + 6)) : W p l e R s m args below meth c H locs cells slots Q (F0 m 919 ls []) := by
  obtain ⟨v, X', M', h1, h2, hd1, hd2, h5⟩ := s_meanReading (l := l)  hT hR
  obtain ⟨fx, hx0⟩ := pr_x hR
  obtain ⟨fm, hm0⟩ := pr_m hR
  obtain ⟨hx, hb, hrr, hml, hown, hlk, hts, hK, hZo, hZ⟩ := id C
  refine lv_aload_n hx hb d_w_919 rfl (lv_at hl 4 rfl) ?_
  refine lX C mf_Db_meanReading qm_La_165 h1 rfl rfl ⟨Nat.le_trans (Nat.le_of_ble_eq_true rfl) hRm.1, Nat.le_trans (Nat.le_of_ble_eq_true rfl) hRm.2⟩ ⟨by omega, by omega⟩ hP hD hS hd1 hx0 rfl hl rfl rfl (Nat.le_of_ble_eq_true rfl) d_w_920 (fun H locs hP hD hS => ?_)
  show W p l e R s m args below meth c H locs cells slots Q (F0 m 923 ls [.double v])
  refine lv_dstore (lv' := [(6, .double v), (5, .int (nI i)), (4, .ref qd), (3, .ref qo), (2, .ref mo), (1, .ref q), (0, .ref b)]) hx hb d_w_923 hl (by decide) rfl (fun ls hl => ?_)
  refine lv_aload_n hx hb d_w_925 rfl (lv_at hl 4 rfl) ?_
  refine lM C mf_Mo_meanReading qm_La_169 h2 rfl rfl ⟨Nat.le_trans (Nat.le_of_ble_eq_true rfl) hRm.1, Nat.le_trans (Nat.le_of_ble_eq_true rfl) hRm.2⟩ ⟨by omega, by omega⟩ hP hD hS hd2 hm0 rfl hl rfl rfl (Nat.le_of_ble_eq_true rfl) d_w_926 (fun H locs hP hD hS => ?_)
  show W p l e R s m args below meth c H locs cells slots Q (F0 m 929 ls [.double v])
  refine lv_dstore (lv' := [(8, .double v), (6, .double v), (5, .int (nI i)), (4, .ref qd), (3, .ref qo), (2, .ref mo), (1, .ref q), (0, .ref b)]) hx hb d_w_929 hl (by decide) rfl (fun ls hl => ?_)
  refine lv_dload hx hb d_w_931 (lv_at hl 1 rfl) ?_
  refine lv_dload hx hb d_w_933 (lv_at hl 0 rfl) ?_
  refine lv_dcmp hx hb d_w_935 ?_
  obtain ⟨z, hz⟩ : ∃ z, z = Op.cmpValue (FP.dcmp v v) CmpOp.l := ⟨_, rfl⟩
  rw [← hz]
  refine lv_if_eq (tgt := 957) hx hb d_w_936 (by decide) (fun _ => ?_) (fun w1 => ?_)
  · refine lv_goto (tgt := 2239) hx hb d_w_957 (by decide) ?_
    refine W.widen (k := cells + 1) (n := slots + 6) (by omega) (by omega) ?_
    exact kk X' M' fo fd H locs ls h5 (lv_sub hl [2, 3, 4, 5, 6, 7] rfl) hP hD hS
  · refine lv_dload hx hb d_w_939 (lv_at hl 1 rfl) ?_
    refine lv_dload hx hb d_w_941 (lv_at hl 1 rfl) ?_
    refine lv_dcmp hx hb d_w_943 ?_
    rw [← hz]
    refine lv_if_eq (tgt := 955) hx hb d_w_944 (by decide) (fun w => absurd w w1) (fun _ => ?_)
    refine lv_dload hx hb d_w_947 (lv_at hl 0 rfl) ?_
    refine lv_dload hx hb d_w_949 (lv_at hl 0 rfl) ?_
    refine lv_dcmp hx hb d_w_951 ?_
    rw [← hz]
    refine lv_if_ne (tgt := 957) hx hb d_w_952 (by decide) (fun _ => ?_) (fun w => absurd w w1)
    refine lv_goto (tgt := 2239) hx hb d_w_957 (by decide) ?_
    refine W.widen (k := cells + 1) (n := slots + 6) (by omega) (by omega) ?_
    exact kk X' M' fo fd H locs ls h5 (lv_sub hl [2, 3, 4, 5, 6, 7] rfl) hP hD hS
set_option maxRecDepth 100000 in
set_option maxHeartbeats 4000000 in
theorem case_18 (hfl : l.stackTraces = false) (C : Cx p s m args meth c A g "DecadeBridgeLaw" code ret 10) (hXW : XW s) (hX : va_X b L xs s s.heap) (hbl : b < s.heap.size) (hbA : ¬ A b) (hL : L ≤ 3072) (hi : i + 5 < L) (hT : 0 ≤ T ∧ T ≤ 200000000) (hR : PRel g T q mo X M) (hRm : 18 ≤ R.frames ∧ 746 ≤ R.locals) (hcs : cells + 1 ≤ R.cells ∧ slots + 6 ≤ R.slots) (hl : lv_has ls 10 [(5, .int (nI i)), (4, .ref qd), (3, .ref qo), (2, .ref mo), (1, .ref q), (0, .ref b)]) (hP : va_P g.1 vwCl (LW g X M qo fo qd fd) H) (hD : va_D A (LW g X M qo fo qd fd)) (hS : va_S A s.heap H locs) (kk : Cont p l e R s m args below meth c Q A g b q mo qo qd i T (cells + 1) (slots + 6)) : W p l e R s m args below meth c H locs cells slots Q (F0 m 960 ls []) := by
  obtain ⟨v, X', M', h1, h2, hd1, hd2, h5, h6⟩ := s_spread (l := l)  hT hR
  obtain ⟨fx, hx0⟩ := pr_x hR
  obtain ⟨fm, hm0⟩ := pr_m hR
  obtain ⟨hx, hb, hrr, hml, hown, hlk, hts, hK, hZo, hZ⟩ := id C
  refine lv_aload_n hx hb d_w_960 rfl (lv_at hl 4 rfl) ?_
  refine lX C mf_Db_spread qm_La_170 h1 rfl rfl ⟨Nat.le_trans (Nat.le_of_ble_eq_true rfl) hRm.1, Nat.le_trans (Nat.le_of_ble_eq_true rfl) hRm.2⟩ ⟨by omega, by omega⟩ hP hD hS hd1 hx0 rfl hl rfl rfl (Nat.le_of_ble_eq_true rfl) d_w_961 (fun H locs hP hD hS => ?_)
  show W p l e R s m args below meth c H locs cells slots Q (F0 m 964 ls [.float v])
  refine lv_f2d hx hb d_w_964 h6 ?_
  refine lv_dstore (lv' := [(6, .double (FP.f2d v)), (5, .int (nI i)), (4, .ref qd), (3, .ref qo), (2, .ref mo), (1, .ref q), (0, .ref b)]) hx hb d_w_965 hl (by decide) rfl (fun ls hl => ?_)
  refine lv_aload_n hx hb d_w_967 rfl (lv_at hl 4 rfl) ?_
  refine lM C mf_Mo_spread qm_La_174 h2 rfl rfl ⟨Nat.le_trans (Nat.le_of_ble_eq_true rfl) hRm.1, Nat.le_trans (Nat.le_of_ble_eq_true rfl) hRm.2⟩ ⟨by omega, by omega⟩ hP hD hS hd2 hm0 rfl hl rfl rfl (Nat.le_of_ble_eq_true rfl) d_w_968 (fun H locs hP hD hS => ?_)
  show W p l e R s m args below meth c H locs cells slots Q (F0 m 971 ls [.float v])
  refine lv_f2d hx hb d_w_971 h6 ?_
  refine lv_dstore (lv' := [(8, .double (FP.f2d v)), (6, .double (FP.f2d v)), (5, .int (nI i)), (4, .ref qd), (3, .ref qo), (2, .ref mo), (1, .ref q), (0, .ref b)]) hx hb d_w_972 hl (by decide) rfl (fun ls hl => ?_)
  refine lv_dload hx hb d_w_974 (lv_at hl 1 rfl) ?_
  refine lv_dload hx hb d_w_976 (lv_at hl 0 rfl) ?_
  refine lv_dcmp hx hb d_w_978 ?_
  obtain ⟨z, hz⟩ : ∃ z, z = Op.cmpValue (FP.dcmp (FP.f2d v) (FP.f2d v)) CmpOp.l := ⟨_, rfl⟩
  rw [← hz]
  refine lv_if_eq (tgt := 1000) hx hb d_w_979 (by decide) (fun _ => ?_) (fun w1 => ?_)
  · refine lv_goto (tgt := 2239) hx hb d_w_1000 (by decide) ?_
    refine W.widen (k := cells + 1) (n := slots + 6) (by omega) (by omega) ?_
    exact kk X' M' fo fd H locs ls h5 (lv_sub hl [2, 3, 4, 5, 6, 7] rfl) hP hD hS
  · refine lv_dload hx hb d_w_982 (lv_at hl 1 rfl) ?_
    refine lv_dload hx hb d_w_984 (lv_at hl 1 rfl) ?_
    refine lv_dcmp hx hb d_w_986 ?_
    rw [← hz]
    refine lv_if_eq (tgt := 998) hx hb d_w_987 (by decide) (fun w => absurd w w1) (fun _ => ?_)
    refine lv_dload hx hb d_w_990 (lv_at hl 0 rfl) ?_
    refine lv_dload hx hb d_w_992 (lv_at hl 0 rfl) ?_
    refine lv_dcmp hx hb d_w_994 ?_
    rw [← hz]
    refine lv_if_ne (tgt := 1000) hx hb d_w_995 (by decide) (fun _ => ?_) (fun w => absurd w w1)
    refine lv_goto (tgt := 2239) hx hb d_w_1000 (by decide) ?_
    refine W.widen (k := cells + 1) (n := slots + 6) (by omega) (by omega) ?_
    exact kk X' M' fo fd H locs ls h5 (lv_sub hl [2, 3, 4, 5, 6, 7] rfl) hP hD hS
set_option maxRecDepth 100000 in
set_option maxHeartbeats 4000000 in
theorem case_19 (hfl : l.stackTraces = false) (C : Cx p s m args meth c A g "DecadeBridgeLaw" code ret 10) (hXW : XW s) (hX : va_X b L xs s s.heap) (hbl : b < s.heap.size) (hbA : ¬ A b) (hL : L ≤ 3072) (hi : i + 5 < L) (hT : 0 ≤ T ∧ T ≤ 200000000) (hR : PRel g T q mo X M) (hRm : 18 ≤ R.frames ∧ 746 ≤ R.locals) (hcs : cells + 1 ≤ R.cells ∧ slots + 6 ≤ R.slots) (hl : lv_has ls 10 [(5, .int (nI i)), (4, .ref qd), (3, .ref qo), (2, .ref mo), (1, .ref q), (0, .ref b)]) (hP : va_P g.1 vwCl (LW g X M qo fo qd fd) H) (hD : va_D A (LW g X M qo fo qd fd)) (hS : va_S A s.heap H locs) (kk : Cont p l e R s m args below meth c Q A g b q mo qo qd i T (cells + 1) (slots + 6)) : W p l e R s m args below meth c H locs cells slots Q (F0 m 1003 ls []) := by
  obtain ⟨k, v, X', M', fo', h1, h2, h3, h4, hd1, hd2, h5⟩ := s_result (l := l) (qo := qo) (fo := fo) (p1 := xs (i + 1)) (p2 := xs (i + 2)) hfl hT hR
  obtain ⟨fm, hm0⟩ := pr_m hR
  obtain ⟨fm2, hm2⟩ := pr_m h5
  obtain ⟨hx, hb, hrr, hml, hown, hlk, hts, hK, hZo, hZ⟩ := id C
  refine lv_aload_n hx hb d_w_1003 rfl (lv_at hl 4 rfl) ?_
  refine ldSc (k := 1) (kv := 1) C hX hbl hbA hS (lv_at hl 5 rfl) (lv_at hl 0 rfl) rfl (by omega) hL d_w_1004 d_w_1005 d_w_1007 (by decide) d_w_1008 d_w_1009 ?_
  refine ldSc (k := 2) (kv := 2) C hX hbl hbA hS (lv_at hl 5 rfl) (lv_at hl 0 rfl) rfl (by omega) hL d_w_1010 d_w_1011 d_w_1013 (by decide) d_w_1014 d_w_1015 ?_
  refine lv_aload_n hx hb d_w_1016 rfl (lv_at hl 2 rfl) ?_
  refine lWo C hXW mfL_result qm_La_175 h1 ⟨Nat.le_trans (Nat.le_of_ble_eq_true rfl) hRm.1, Nat.le_trans (Nat.le_of_ble_eq_true rfl) hRm.2⟩ hcs hP hD hS hd1 hl rfl rfl (Nat.le_of_ble_eq_true rfl) d_w_1017 (fun H locs hP hD hS => ?_)
  refine lv_istore (lv' := [(6, .int k), (5, .int (nI i)), (4, .ref qd), (3, .ref qo), (2, .ref mo), (1, .ref q), (0, .ref b)]) hx hb d_w_1020 hl (by decide) rfl (fun ls hl => ?_)
  refine lv_aload_n hx hb d_w_1022 rfl (lv_at hl 4 rfl) ?_
  refine ldSc (k := 1) (kv := 1) C hX hbl hbA hS (lv_at hl 6 rfl) (lv_at hl 1 rfl) rfl (by omega) hL d_w_1023 d_w_1024 d_w_1026 (by decide) d_w_1027 d_w_1028 ?_
  refine ldSc (k := 2) (kv := 2) C hX hbl hbA hS (lv_at hl 6 rfl) (lv_at hl 1 rfl) rfl (by omega) hL d_w_1029 d_w_1030 d_w_1032 (by decide) d_w_1033 d_w_1034 ?_
  refine lM C mf_Mo_result qm_La_177 h2 rfl rfl ⟨Nat.le_trans (Nat.le_of_ble_eq_true rfl) hRm.1, Nat.le_trans (Nat.le_of_ble_eq_true rfl) hRm.2⟩ ⟨by omega, by omega⟩ hP hD hS hd2 hm0 rfl hl rfl rfl (Nat.le_of_ble_eq_true rfl) d_w_1035 (fun H locs hP hD hS => ?_)
  show W p l e R s m args below meth c H locs (cells + 1) (slots + 6) Q (F0 m 1038 ls [.int v])
  refine lv_istore (lv' := [(7, .int v), (6, .int k), (5, .int (nI i)), (4, .ref qd), (3, .ref qo), (2, .ref mo), (1, .ref q), (0, .ref b)]) hx hb d_w_1038 hl (by decide) rfl (fun ls hl => ?_)
  refine lv_aload_n hx hb d_w_1040 rfl (lv_at hl 5 rfl) ?_
  refine lM C mf_Mo_thrown qm_La_114 h3 rfl rfl ⟨Nat.le_trans (Nat.le_of_ble_eq_true rfl) hRm.1, Nat.le_trans (Nat.le_of_ble_eq_true rfl) hRm.2⟩ ⟨by omega, by omega⟩ hP hD hS rfl hm2 rfl hl rfl rfl (Nat.le_of_ble_eq_true rfl) d_w_1041 (fun H locs hP hD hS => ?_)
  show W p l e R s m args below meth c H locs (cells + 1) (slots + 6) Q (F0 m 1044 ls [.int k])
  refine lv_iload hx hb d_w_1044 (lv_at hl 1 rfl) ?_
  refine lv_icmp_eq (tgt := 1051) hx hb d_w_1046 (by decide) (fun _ => ?_) (fun w => absurd rfl w)
  refine lv_iload hx hb d_w_1051 (lv_at hl 1 rfl) ?_
  refine lv_if_ne (tgt := 1068) hx hb d_w_1053 (by decide) (fun _ => ?_) (fun w0 => ?_)
  · refine lv_goto (tgt := 2239) hx hb d_w_1068 (by decide) ?_
    exact kk X' M' fo' fd H locs ls h5 (lv_sub hl [2, 3, 4, 5, 6, 7] rfl) hP hD hS
  · have e0 := h4 w0
    refine lv_aload_n hx hb d_w_1056 rfl (lv_at hl 4 rfl) ?_
    refine lv_iconst (v := 0) hx hb d_w_1057 (by decide) ?_
    refine ldL (k := 0) C hP X'.length lw_o (vp_of (by decide) (by decide)) rfl d_w_1058 ?_
    rw [e0]
    refine lv_iload hx hb d_w_1059 (lv_at hl 0 rfl) ?_
    refine lv_i2l (v := v.toInt64) hx hb d_w_1061 rfl ?_
    refine W.lcmp hx hb d_w_1062 ?_
    rw [lg_cmp_self]
    refine lv_if_eq (tgt := 1068) hx hb d_w_1063 (by decide) (fun _ => ?_) (fun w => absurd rfl w)
    refine lv_goto (tgt := 2239) hx hb d_w_1068 (by decide) ?_
    exact kk X' M' fo' fd H locs ls h5 (lv_sub hl [2, 3, 4, 5, 6, 7] rfl) hP hD hS
set_option maxRecDepth 100000 in
set_option maxHeartbeats 4000000 in
theorem case_20 (hfl : l.stackTraces = false) (C : Cx p s m args meth c A g "DecadeBridgeLaw" code ret 10) (hXW : XW s) (hX : va_X b L xs s s.heap) (hbl : b < s.heap.size) (hbA : ¬ A b) (hL : L ≤ 3072) (hi : i + 5 < L) (hT : 0 ≤ T ∧ T ≤ 200000000) (hR : PRel g T q mo X M) (hRm : 18 ≤ R.frames ∧ 746 ≤ R.locals) (hcs : cells + 1 ≤ R.cells ∧ slots + 6 ≤ R.slots) (hl : lv_has ls 10 [(5, .int (nI i)), (4, .ref qd), (3, .ref qo), (2, .ref mo), (1, .ref q), (0, .ref b)]) (hP : va_P g.1 vwCl (LW g X M qo fo qd fd) H) (hD : va_D A (LW g X M qo fo qd fd)) (hS : va_S A s.heap H locs) (kk : Cont p l e R s m args below meth c Q A g b q mo qo qd i T (cells + 1) (slots + 6)) : W p l e R s m args below meth c H locs cells slots Q (F0 m 1071 ls []) := by
  obtain ⟨k, v, X', M', fo', h1, h2, h3, h4, hd1, hd2, h5⟩ := s_valueOf (l := l) (qo := qo) (fo := fo) (p1 := xs (i + 1)) (p2 := bZ (xs (i + 2))) hfl hT hR
  obtain ⟨fm, hm0⟩ := pr_m hR
  obtain ⟨fm2, hm2⟩ := pr_m h5
  obtain ⟨hx, hb, hrr, hml, hown, hlk, hts, hK, hZo, hZ⟩ := id C
  refine lv_aload_n hx hb d_w_1071 rfl (lv_at hl 4 rfl) ?_
  refine ldSc (k := 1) (kv := 1) C hX hbl hbA hS (lv_at hl 5 rfl) (lv_at hl 0 rfl) rfl (by omega) hL d_w_1072 d_w_1073 d_w_1075 (by decide) d_w_1076 d_w_1077 ?_
  refine ldSc (k := 2) (kv := 2) C hX hbl hbA hS (lv_at hl 5 rfl) (lv_at hl 0 rfl) rfl (by omega) hL d_w_1078 d_w_1079 d_w_1081 (by decide) d_w_1082 d_w_1083 ?_
  refine ldBo C d_w_1084 (by decide) d_w_1087 d_w_1088 (by decide) d_w_1091 ?_
  refine lv_aload_n hx hb d_w_1092 rfl (lv_at hl 2 rfl) ?_
  refine lWo C hXW mfL_valueOf qm_La_178 h1 ⟨Nat.le_trans (Nat.le_of_ble_eq_true rfl) hRm.1, Nat.le_trans (Nat.le_of_ble_eq_true rfl) hRm.2⟩ hcs hP hD hS hd1 hl rfl rfl (Nat.le_of_ble_eq_true rfl) d_w_1093 (fun H locs hP hD hS => ?_)
  refine lv_istore (lv' := [(6, .int k), (5, .int (nI i)), (4, .ref qd), (3, .ref qo), (2, .ref mo), (1, .ref q), (0, .ref b)]) hx hb d_w_1096 hl (by decide) rfl (fun ls hl => ?_)
  refine lv_aload_n hx hb d_w_1098 rfl (lv_at hl 4 rfl) ?_
  refine ldSc (k := 1) (kv := 1) C hX hbl hbA hS (lv_at hl 6 rfl) (lv_at hl 1 rfl) rfl (by omega) hL d_w_1099 d_w_1100 d_w_1102 (by decide) d_w_1103 d_w_1104 ?_
  refine ldSc (k := 2) (kv := 2) C hX hbl hbA hS (lv_at hl 6 rfl) (lv_at hl 1 rfl) rfl (by omega) hL d_w_1105 d_w_1106 d_w_1108 (by decide) d_w_1109 d_w_1110 ?_
  refine ldBo C d_w_1111 (by decide) d_w_1114 d_w_1115 (by decide) d_w_1118 ?_
  refine lM C mf_Mo_valueOf qm_La_181 h2 rfl rfl ⟨Nat.le_trans (Nat.le_of_ble_eq_true rfl) hRm.1, Nat.le_trans (Nat.le_of_ble_eq_true rfl) hRm.2⟩ ⟨by omega, by omega⟩ hP hD hS hd2 hm0 rfl hl rfl rfl (Nat.le_of_ble_eq_true rfl) d_w_1119 (fun H locs hP hD hS => ?_)
  show W p l e R s m args below meth c H locs (cells + 1) (slots + 6) Q (F0 m 1122 ls [.long v])
  refine lv_lstore (lv' := [(7, .long v), (6, .int k), (5, .int (nI i)), (4, .ref qd), (3, .ref qo), (2, .ref mo), (1, .ref q), (0, .ref b)]) hx hb d_w_1122 hl (by decide) rfl (fun ls hl => ?_)
  refine lv_aload_n hx hb d_w_1124 rfl (lv_at hl 5 rfl) ?_
  refine lM C mf_Mo_thrown qm_La_114 h3 rfl rfl ⟨Nat.le_trans (Nat.le_of_ble_eq_true rfl) hRm.1, Nat.le_trans (Nat.le_of_ble_eq_true rfl) hRm.2⟩ ⟨by omega, by omega⟩ hP hD hS rfl hm2 rfl hl rfl rfl (Nat.le_of_ble_eq_true rfl) d_w_1125 (fun H locs hP hD hS => ?_)
  show W p l e R s m args below meth c H locs (cells + 1) (slots + 6) Q (F0 m 1128 ls [.int k])
  refine lv_iload hx hb d_w_1128 (lv_at hl 1 rfl) ?_
  refine lv_icmp_eq (tgt := 1135) hx hb d_w_1130 (by decide) (fun _ => ?_) (fun w => absurd rfl w)
  refine lv_iload hx hb d_w_1135 (lv_at hl 1 rfl) ?_
  refine lv_if_ne (tgt := 1151) hx hb d_w_1137 (by decide) (fun _ => ?_) (fun w0 => ?_)
  · refine lv_goto (tgt := 2239) hx hb d_w_1151 (by decide) ?_
    exact kk X' M' fo' fd H locs ls h5 (lv_sub hl [2, 3, 4, 5, 6, 7] rfl) hP hD hS
  · have e0 := h4 w0
    refine lv_aload_n hx hb d_w_1140 rfl (lv_at hl 4 rfl) ?_
    refine lv_iconst (v := 0) hx hb d_w_1141 (by decide) ?_
    refine ldL (k := 0) C hP X'.length lw_o (vp_of (by decide) (by decide)) rfl d_w_1142 ?_
    rw [e0]
    refine lv_lload hx hb d_w_1143 (lv_at hl 0 rfl) ?_
    refine W.lcmp hx hb d_w_1145 ?_
    rw [lg_cmp_self]
    refine lv_if_eq (tgt := 1151) hx hb d_w_1146 (by decide) (fun _ => ?_) (fun w => absurd rfl w)
    refine lv_goto (tgt := 2239) hx hb d_w_1151 (by decide) ?_
    exact kk X' M' fo' fd H locs ls h5 (lv_sub hl [2, 3, 4, 5, 6, 7] rfl) hP hD hS
end
end TZF3
