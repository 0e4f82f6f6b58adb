section TZF2
section
variable {p : Program} {l : Launch} {e : Env} {R : Room} {s : State} {m : MethodId} {args : Array Value} {below : List Frame} {meth : Method} {c : Code} {H : Heap} {locs : List Loc} {cells slots : Nat} {Q : State → Prop} {g : GX} {ls : Array Slot} {A : Nat → Prop} {X M : va_W} {b q mo qo qd i L : Nat} {xs : Nat → Int32} {T : Int} {fo : LV} {fd : Nat → UInt64}
set_option maxRecDepth 100000 in
set_option maxHeartbeats 4000000 in
theorem case_7 (hfl : l.stackTraces = false) (C : Cx p s m args meth c A g "DecadeBridgeLaw" code ret 10) (hXW : XW s) (hX : va_X b L xs s s.heap) (hbl : b < s.heap.size) (hbA : ¬ A b) (hL : L ≤ 3072) (hi : i + 5 < L) (hT : 0 ≤ T ∧ T ≤ 200000000) (hR : PRel g T q mo X M) (hRm : 18 ≤ R.frames ∧ 746 ≤ R.locals) (hcs : cells + 1 ≤ R.cells ∧ slots + 6 ≤ R.slots) (hl : lv_has ls 10 [(5, .int (nI i)), (4, .ref qd), (3, .ref qo), (2, .ref mo), (1, .ref q), (0, .ref b)]) (hP : va_P g.1 vwCl (LW g X M qo fo qd fd) H) (hD : va_D A (LW g X M qo fo qd fd)) (hS : va_S A s.heap H locs) (kk : Cont p l e R s m args below meth c Q A g b q mo qo qd i T (cells + 1) (slots + 6)) : W p l e R s m args below meth c H locs cells slots Q (F0 m 560 ls []) := by
  obtain ⟨k, v, X', M', fo', h1, h2, h3, h4, hd1, hd2, h5⟩ := s_lead (l := l) (qo := qo) (fo := fo) (p1 := xs (i + 1)) hfl hT hR
  obtain ⟨fm, hm0⟩ := pr_m hR
  obtain ⟨fm2, hm2⟩ := pr_m h5
  obtain ⟨hx, hb, hrr, hml, hown, hlk, hts, hK, hZo, hZ⟩ := id C
  refine lv_aload_n hx hb d_w_560 rfl (lv_at hl 4 rfl) ?_
  refine ldSc (k := 1) (kv := 1) C hX hbl hbA hS (lv_at hl 5 rfl) (lv_at hl 0 rfl) rfl (by omega) hL d_w_561 d_w_562 d_w_564 (by decide) d_w_565 d_w_566 ?_
  refine lv_aload_n hx hb d_w_567 rfl (lv_at hl 2 rfl) ?_
  refine lWo C hXW mfL_lead qm_La_124 h1 ⟨Nat.le_trans (Nat.le_of_ble_eq_true rfl) hRm.1, Nat.le_trans (Nat.le_of_ble_eq_true rfl) hRm.2⟩ hcs hP hD hS hd1 hl rfl rfl (Nat.le_of_ble_eq_true rfl) d_w_568 (fun H locs hP hD hS => ?_)
  refine lv_istore (lv' := [(6, .int k), (5, .int (nI i)), (4, .ref qd), (3, .ref qo), (2, .ref mo), (1, .ref q), (0, .ref b)]) hx hb d_w_571 hl (by decide) rfl (fun ls hl => ?_)
  refine lv_aload_n hx hb d_w_573 rfl (lv_at hl 4 rfl) ?_
  refine ldSc (k := 1) (kv := 1) C hX hbl hbA hS (lv_at hl 6 rfl) (lv_at hl 1 rfl) rfl (by omega) hL d_w_574 d_w_575 d_w_577 (by decide) d_w_578 d_w_579 ?_
  refine lM C mf_Mo_lead qm_La_126 h2 rfl rfl ⟨Nat.le_trans (Nat.le_of_ble_eq_true rfl) hRm.1, Nat.le_trans (Nat.le_of_ble_eq_true rfl) hRm.2⟩ ⟨by omega, by omega⟩ hP hD hS hd2 hm0 rfl hl rfl rfl (Nat.le_of_ble_eq_true rfl) d_w_580 (fun H locs hP hD hS => ?_)
  show W p l e R s m args below meth c H locs (cells + 1) (slots + 6) Q (F0 m 583 ls [.int v])
  refine lv_istore (lv' := [(7, .int v), (6, .int k), (5, .int (nI i)), (4, .ref qd), (3, .ref qo), (2, .ref mo), (1, .ref q), (0, .ref b)]) hx hb d_w_583 hl (by decide) rfl (fun ls hl => ?_)
  refine lv_aload_n hx hb d_w_585 rfl (lv_at hl 5 rfl) ?_
  refine lM C mf_Mo_thrown qm_La_114 h3 rfl rfl ⟨Nat.le_trans (Nat.le_of_ble_eq_true rfl) hRm.1, Nat.le_trans (Nat.le_of_ble_eq_true rfl) hRm.2⟩ ⟨by omega, by omega⟩ hP hD hS rfl hm2 rfl hl rfl rfl (Nat.le_of_ble_eq_true rfl) d_w_586 (fun H locs hP hD hS => ?_)
  show W p l e R s m args below meth c H locs (cells + 1) (slots + 6) Q (F0 m 589 ls [.int k])
  refine lv_iload hx hb d_w_589 (lv_at hl 1 rfl) ?_
  refine lv_icmp_eq (tgt := 596) hx hb d_w_591 (by decide) (fun _ => ?_) (fun w => absurd rfl w)
  refine lv_iload hx hb d_w_596 (lv_at hl 1 rfl) ?_
  refine lv_if_ne (tgt := 613) hx hb d_w_598 (by decide) (fun _ => ?_) (fun w0 => ?_)
  · refine lv_goto (tgt := 2239) hx hb d_w_613 (by decide) ?_
    exact kk X' M' fo' fd H locs ls h5 (lv_sub hl [2, 3, 4, 5, 6, 7] rfl) hP hD hS
  · have e0 := h4 w0
    refine lv_aload_n hx hb d_w_601 rfl (lv_at hl 4 rfl) ?_
    refine lv_iconst (v := 0) hx hb d_w_602 (by decide) ?_
    refine ldL (k := 0) C hP X'.length lw_o (vp_of (by decide) (by decide)) rfl d_w_603 ?_
    rw [e0]
    refine lv_iload hx hb d_w_604 (lv_at hl 0 rfl) ?_
    refine lv_i2l (v := v.toInt64) hx hb d_w_606 rfl ?_
    refine W.lcmp hx hb d_w_607 ?_
    rw [lg_cmp_self]
    refine lv_if_eq (tgt := 613) hx hb d_w_608 (by decide) (fun _ => ?_) (fun w => absurd rfl w)
    refine lv_goto (tgt := 2239) hx hb d_w_613 (by decide) ?_
    exact kk X' M' fo' fd H locs ls h5 (lv_sub hl [2, 3, 4, 5, 6, 7] rfl) hP hD hS
set_option maxRecDepth 100000 in
set_option maxHeartbeats 4000000 in
theorem case_8 (hfl : l.stackTraces = false) (C : Cx p s m args meth c A g "DecadeBridgeLaw" code ret 10) (hXW : XW s) (hX : va_X b L xs s s.heap) (hbl : b < s.heap.size) (hbA : ¬ A b) (hL : L ≤ 3072) (hi : i + 5 < L) (hT : 0 ≤ T ∧ T ≤ 200000000) (hR : PRel g T q mo X M) (hRm : 18 ≤ R.frames ∧ 746 ≤ R.locals) (hcs : cells + 1 ≤ R.cells ∧ slots + 6 ≤ R.slots) (hl : lv_has ls 10 [(5, .int (nI i)), (4, .ref qd), (3, .ref qo), (2, .ref mo), (1, .ref q), (0, .ref b)]) (hP : va_P g.1 vwCl (LW g X M qo fo qd fd) H) (hD : va_D A (LW g X M qo fo qd fd)) (hS : va_S A s.heap H locs) (kk : Cont p l e R s m args below meth c Q A g b q mo qo qd i T (cells + 1) (slots + 6)) : W p l e R s m args below meth c H locs cells slots Q (F0 m 616 ls []) := by
  obtain ⟨k, v, X', M', fo', h1, h2, h3, h4, hd1, hd2, h5⟩ := s_part (l := l) (qo := qo) (fo := fo) (p1 := bZ (xs (i + 1))) (p2 := xs (i + 2)) hfl hT hR
  obtain ⟨fm, hm0⟩ := pr_m hR
  obtain ⟨fm2, hm2⟩ := pr_m h5
  obtain ⟨hx, hb, hrr, hml, hown, hlk, hts, hK, hZo, hZ⟩ := id C
  refine lv_aload_n hx hb d_w_616 rfl (lv_at hl 4 rfl) ?_
  refine ldSc (k := 1) (kv := 1) C hX hbl hbA hS (lv_at hl 5 rfl) (lv_at hl 0 rfl) rfl (by omega) hL d_w_617 d_w_618 d_w_620 (by decide) d_w_621 d_w_622 ?_
  refine ldBo C d_w_623 (by decide) d_w_626 d_w_627 (by decide) d_w_630 ?_
  refine ldSc (k := 2) (kv := 2) C hX hbl hbA hS (lv_at hl 5 rfl) (lv_at hl 0 rfl) rfl (by omega) hL d_w_631 d_w_632 d_w_634 (by decide) d_w_635 d_w_636 ?_
  refine lv_aload_n hx hb d_w_637 rfl (lv_at hl 2 rfl) ?_
  refine lWo C hXW mfL_part qm_La_127 h1 ⟨Nat.le_trans (Nat.le_of_ble_eq_true rfl) hRm.1, Nat.le_trans (Nat.le_of_ble_eq_true rfl) hRm.2⟩ hcs hP hD hS hd1 hl rfl rfl (Nat.le_of_ble_eq_true rfl) d_w_638 (fun H locs hP hD hS => ?_)
  refine lv_istore (lv' := [(6, .int k), (5, .int (nI i)), (4, .ref qd), (3, .ref qo), (2, .ref mo), (1, .ref q), (0, .ref b)]) hx hb d_w_641 hl (by decide) rfl (fun ls hl => ?_)
  refine lv_aload_n hx hb d_w_643 rfl (lv_at hl 4 rfl) ?_
  refine ldSc (k := 1) (kv := 1) C hX hbl hbA hS (lv_at hl 6 rfl) (lv_at hl 1 rfl) rfl (by omega) hL d_w_644 d_w_645 d_w_647 (by decide) d_w_648 d_w_649 ?_
  refine ldBo C d_w_650 (by decide) d_w_653 d_w_654 (by decide) d_w_657 ?_
  refine ldSc (k := 2) (kv := 2) C hX hbl hbA hS (lv_at hl 6 rfl) (lv_at hl 1 rfl) rfl (by omega) hL d_w_658 d_w_659 d_w_661 (by decide) d_w_662 d_w_663 ?_
  refine lM C mf_Mo_part qm_La_130 h2 rfl rfl ⟨Nat.le_trans (Nat.le_of_ble_eq_true rfl) hRm.1, Nat.le_trans (Nat.le_of_ble_eq_true rfl) hRm.2⟩ ⟨by omega, by omega⟩ hP hD hS hd2 hm0 rfl hl rfl rfl (Nat.le_of_ble_eq_true rfl) d_w_664 (fun H locs hP hD hS => ?_)
  show W p l e R s m args below meth c H locs (cells + 1) (slots + 6) Q (F0 m 667 ls [.int v])
  refine lv_istore (lv' := [(7, .int v), (6, .int k), (5, .int (nI i)), (4, .ref qd), (3, .ref qo), (2, .ref mo), (1, .ref q), (0, .ref b)]) hx hb d_w_667 hl (by decide) rfl (fun ls hl => ?_)
  refine lv_aload_n hx hb d_w_669 rfl (lv_at hl 5 rfl) ?_
  refine lM C mf_Mo_thrown qm_La_114 h3 rfl rfl ⟨Nat.le_trans (Nat.le_of_ble_eq_true rfl) hRm.1, Nat.le_trans (Nat.le_of_ble_eq_true rfl) hRm.2⟩ ⟨by omega, by omega⟩ hP hD hS rfl hm2 rfl hl rfl rfl (Nat.le_of_ble_eq_true rfl) d_w_670 (fun H locs hP hD hS => ?_)
  show W p l e R s m args below meth c H locs (cells + 1) (slots + 6) Q (F0 m 673 ls [.int k])
  refine lv_iload hx hb d_w_673 (lv_at hl 1 rfl) ?_
  refine lv_icmp_eq (tgt := 680) hx hb d_w_675 (by decide) (fun _ => ?_) (fun w => absurd rfl w)
  refine lv_iload hx hb d_w_680 (lv_at hl 1 rfl) ?_
  refine lv_if_ne (tgt := 697) hx hb d_w_682 (by decide) (fun _ => ?_) (fun w0 => ?_)
  · refine lv_goto (tgt := 2239) hx hb d_w_697 (by decide) ?_
    exact kk X' M' fo' fd H locs ls h5 (lv_sub hl [2, 3, 4, 5, 6, 7] rfl) hP hD hS
  · have e0 := h4 w0
    refine lv_aload_n hx hb d_w_685 rfl (lv_at hl 4 rfl) ?_
    refine lv_iconst (v := 0) hx hb d_w_686 (by decide) ?_
    refine ldL (k := 0) C hP X'.length lw_o (vp_of (by decide) (by decide)) rfl d_w_687 ?_
    rw [e0]
    refine lv_iload hx hb d_w_688 (lv_at hl 0 rfl) ?_
    refine lv_i2l (v := v.toInt64) hx hb d_w_690 rfl ?_
    refine W.lcmp hx hb d_w_691 ?_
    rw [lg_cmp_self]
    refine lv_if_eq (tgt := 697) hx hb d_w_692 (by decide) (fun _ => ?_) (fun w => absurd rfl w)
    refine lv_goto (tgt := 2239) hx hb d_w_697 (by decide) ?_
    exact kk X' M' fo' fd H locs ls h5 (lv_sub hl [2, 3, 4, 5, 6, 7] rfl) hP hD hS
set_option maxRecDepth 100000 in
set_option maxHeartbeats 4000000 in
theorem case_9 (hfl : l.stackTraces = false) (C : Cx p s m args meth c A g "DecadeBridgeLaw" code ret 10) (hXW : XW s) (hX : va_X b L xs s s.heap) (hbl : b < s.heap.size) (hbA : ¬ A b) (hL : L ≤ 3072) (hi : i + 5 < L) (hT : 0 ≤ T ∧ T ≤ 200000000) (hR : PRel g T q mo X M) (hRm : 18 ≤ R.frames ∧ 746 ≤ R.locals) (hcs : cells + 1 ≤ R.cells ∧ slots + 6 ≤ R.slots) (hl : lv_has ls 10 [(5, .int (nI i)), (4, .ref qd), (3, .ref qo), (2, .ref mo), (1, .ref q), (0, .ref b)]) (hP : va_P g.1 vwCl (LW g X M qo fo qd fd) H) (hD : va_D A (LW g X M qo fo qd fd)) (hS : va_S A s.heap H locs) (kk : Cont p l e R s m args below meth c Q A g b q mo qo qd i T (cells + 1) (slots + 6)) : W p l e R s m args below meth c H locs cells slots Q (F0 m 700 ls []) := by
  obtain ⟨k, v, X', M', fo', h1, h2, h3, h4, hd1, hd2, h5⟩ := s_coldOf (l := l) (qo := qo) (fo := fo) (p1 := xs (i + 1)) hfl hT hR
  obtain ⟨fm, hm0⟩ := pr_m hR
  obtain ⟨fm2, hm2⟩ := pr_m h5
  obtain ⟨hx, hb, hrr, hml, hown, hlk, hts, hK, hZo, hZ⟩ := id C
  refine lv_aload_n hx hb d_w_700 rfl (lv_at hl 4 rfl) ?_
  refine ldSc (k := 1) (kv := 1) C hX hbl hbA hS (lv_at hl 5 rfl) (lv_at hl 0 rfl) rfl (by omega) hL d_w_701 d_w_702 d_w_704 (by decide) d_w_705 d_w_706 ?_
  refine lv_aload_n hx hb d_w_707 rfl (lv_at hl 2 rfl) ?_
  refine lWo C hXW mfL_coldOf qm_La_131 h1 ⟨Nat.le_trans (Nat.le_of_ble_eq_true rfl) hRm.1, Nat.le_trans (Nat.le_of_ble_eq_true rfl) hRm.2⟩ hcs hP hD hS hd1 hl rfl rfl (Nat.le_of_ble_eq_true rfl) d_w_708 (fun H locs hP hD hS => ?_)
  refine lv_istore (lv' := [(6, .int k), (5, .int (nI i)), (4, .ref qd), (3, .ref qo), (2, .ref mo), (1, .ref q), (0, .ref b)]) hx hb d_w_711 hl (by decide) rfl (fun ls hl => ?_)
  refine lv_aload_n hx hb d_w_713 rfl (lv_at hl 4 rfl) ?_
  refine ldSc (k := 1) (kv := 1) C hX hbl hbA hS (lv_at hl 6 rfl) (lv_at hl 1 rfl) rfl (by omega) hL d_w_714 d_w_715 d_w_717 (by decide) d_w_718 d_w_719 ?_
  refine lM C mf_Mo_coldOf qm_La_133 h2 rfl rfl ⟨Nat.le_trans (Nat.le_of_ble_eq_true rfl) hRm.1, Nat.le_trans (Nat.le_of_ble_eq_true rfl) hRm.2⟩ ⟨by omega, by omega⟩ hP hD hS hd2 hm0 rfl hl rfl rfl (Nat.le_of_ble_eq_true rfl) d_w_720 (fun H locs hP hD hS => ?_)
  show W p l e R s m args below meth c H locs (cells + 1) (slots + 6) Q (F0 m 723 ls [.int v])
  refine lv_istore (lv' := [(7, .int v), (6, .int k), (5, .int (nI i)), (4, .ref qd), (3, .ref qo), (2, .ref mo), (1, .ref q), (0, .ref b)]) hx hb d_w_723 hl (by decide) rfl (fun ls hl => ?_)
  refine lv_aload_n hx hb d_w_725 rfl (lv_at hl 5 rfl) ?_
  refine lM C mf_Mo_thrown qm_La_114 h3 rfl rfl ⟨Nat.le_trans (Nat.le_of_ble_eq_true rfl) hRm.1, Nat.le_trans (Nat.le_of_ble_eq_true rfl) hRm.2⟩ ⟨by omega, by omega⟩ hP hD hS rfl hm2 rfl hl rfl rfl (Nat.le_of_ble_eq_true rfl) d_w_726 (fun H locs hP hD hS => ?_)
  show W p l e R s m args below meth c H locs (cells + 1) (slots + 6) Q (F0 m 729 ls [.int k])
  refine lv_iload hx hb d_w_729 (lv_at hl 1 rfl) ?_
  refine lv_icmp_eq (tgt := 736) hx hb d_w_731 (by decide) (fun _ => ?_) (fun w => absurd rfl w)
  refine lv_iload hx hb d_w_736 (lv_at hl 1 rfl) ?_
  refine lv_if_ne (tgt := 753) hx hb d_w_738 (by decide) (fun _ => ?_) (fun w0 => ?_)
  · refine lv_goto (tgt := 2239) hx hb d_w_753 (by decide) ?_
    exact kk X' M' fo' fd H locs ls h5 (lv_sub hl [2, 3, 4, 5, 6, 7] rfl) hP hD hS
  · have e0 := h4 w0
    refine lv_aload_n hx hb d_w_741 rfl (lv_at hl 4 rfl) ?_
    refine lv_iconst (v := 0) hx hb d_w_742 (by decide) ?_
    refine ldL (k := 0) C hP X'.length lw_o (vp_of (by decide) (by decide)) rfl d_w_743 ?_
    rw [e0]
    refine lv_iload hx hb d_w_744 (lv_at hl 0 rfl) ?_
    refine lv_i2l (v := v.toInt64) hx hb d_w_746 rfl ?_
    refine W.lcmp hx hb d_w_747 ?_
    rw [lg_cmp_self]
    refine lv_if_eq (tgt := 753) hx hb d_w_748 (by decide) (fun _ => ?_) (fun w => absurd rfl w)
    refine lv_goto (tgt := 2239) hx hb d_w_753 (by decide) ?_
    exact kk X' M' fo' fd H locs ls h5 (lv_sub hl [2, 3, 4, 5, 6, 7] rfl) hP hD hS
set_option maxRecDepth 100000 in
set_option maxHeartbeats 4000000 in
theorem case_10 (hfl : l.stackTraces = false) (C : Cx p s m args meth c A g "DecadeBridgeLaw" code ret 10) (hXW : XW s) (hX : va_X b L xs s s.heap) (hbl : b < s.heap.size) (hbA : ¬ A b) (hL : L ≤ 3072) (hi : i + 5 < L) (hT : 0 ≤ T ∧ T ≤ 200000000) (hR : PRel g T q mo X M) (hRm : 18 ≤ R.frames ∧ 746 ≤ R.locals) (hcs : cells + 1 ≤ R.cells ∧ slots + 6 ≤ R.slots) (hl : lv_has ls 10 [(5, .int (nI i)), (4, .ref qd), (3, .ref qo), (2, .ref mo), (1, .ref q), (0, .ref b)]) (hP : va_P g.1 vwCl (LW g X M qo fo qd fd) H) (hD : va_D A (LW g X M qo fo qd fd)) (hS : va_S A s.heap H locs) (kk : Cont p l e R s m args below meth c Q A g b q mo qo qd i T (cells + 1) (slots + 6)) : W p l e R s m args below meth c H locs cells slots Q (F0 m 756 ls []) := by
  obtain ⟨v, X', M', h1, h2, hd1, hd2, h5⟩ := s_share (l := l) (p1 := bZ (xs (i + 1))) hT hR
  obtain ⟨fx, hx0⟩ := pr_x hR
  obtain ⟨fm, hm0⟩ := pr_m hR
  obtain ⟨hx, hb, hrr, hml, hown, hlk, hts, hK, hZo, hZ⟩ := id C
  refine lv_aload_n hx hb d_w_756 rfl (lv_at hl 4 rfl) ?_
  refine ldSc (k := 1) (kv := 1) C hX hbl hbA hS (lv_at hl 5 rfl) (lv_at hl 0 rfl) rfl (by omega) hL d_w_757 d_w_758 d_w_760 (by decide) d_w_761 d_w_762 ?_
  refine ldBo C d_w_763 (by decide) d_w_766 d_w_767 (by decide) d_w_770 ?_
  refine lX C mf_Db_share qm_La_134 h1 rfl rfl ⟨Nat.le_trans (Nat.le_of_ble_eq_true rfl) hRm.1, Nat.le_trans (Nat.le_of_ble_eq_true rfl) hRm.2⟩ ⟨by omega, by omega⟩ hP hD hS hd1 hx0 rfl hl rfl rfl (Nat.le_of_ble_eq_true rfl) d_w_771 (fun H locs hP hD hS => ?_)
  show W p l e R s m args below meth c H locs cells slots Q (F0 m 774 ls [.int v])
  refine lv_aload_n hx hb d_w_774 rfl (lv_at hl 3 rfl) ?_
  refine ldSc (k := 1) (kv := 1) C hX hbl hbA hS (lv_at hl 5 rfl) (lv_at hl 0 rfl) rfl (by omega) hL d_w_775 d_w_776 d_w_778 (by decide) d_w_779 d_w_780 ?_
  refine ldBo C d_w_781 (by decide) d_w_784 d_w_785 (by decide) d_w_788 ?_
  refine lM C mf_Mo_share qm_La_138 h2 rfl rfl ⟨Nat.le_trans (Nat.le_of_ble_eq_true rfl) hRm.1, Nat.le_trans (Nat.le_of_ble_eq_true rfl) hRm.2⟩ ⟨by omega, by omega⟩ hP hD hS hd2 hm0 rfl hl rfl rfl (Nat.le_of_ble_eq_true rfl) d_w_789 (fun H locs hP hD hS => ?_)
  show W p l e R s m args below meth c H locs cells slots Q (F0 m 792 ls [.int v, .int v])
  refine lv_icmp_eq (tgt := 2239) hx hb d_w_792 (by decide) (fun _ => ?_) (fun w => absurd rfl w)
  refine W.widen (k := cells + 1) (n := slots + 6) (by omega) (by omega) ?_
  exact kk X' M' fo fd H locs ls h5 hl hP hD hS
set_option maxRecDepth 100000 in
set_option maxHeartbeats 4000000 in
theorem case_11 (hfl : l.stackTraces = false) (C : Cx p s m args meth c A g "DecadeBridgeLaw" code ret 10) (hXW : XW s) (hX : va_X b L xs s s.heap) (hbl : b < s.heap.size) (hbA : ¬ A b) (hL : L ≤ 3072) (hi : i + 5 < L) (hT : 0 ≤ T ∧ T ≤ 200000000) (hR : PRel g T q mo X M) (hRm : 18 ≤ R.frames ∧ 746 ≤ R.locals) (hcs : cells + 1 ≤ R.cells ∧ slots + 6 ≤ R.slots) (hl : lv_has ls 10 [(5, .int (nI i)), (4, .ref qd), (3, .ref qo), (2, .ref mo), (1, .ref q), (0, .ref b)]) (hP : va_P g.1 vwCl (LW g X M qo fo qd fd) H) (hD : va_D A (LW g X M qo fo qd fd)) (hS : va_S A s.heap H locs) (kk : Cont p l e R s m args below meth c Q A g b q mo qo qd i T (cells + 1) (slots + 6)) : W p l e R s m args below meth c H locs cells slots Q (F0 m 797 ls []) := by
  obtain ⟨v, X', M', h1, h2, hd1, hd2, h5⟩ := s_deflection (l := l)  hT hR
  obtain ⟨fx, hx0⟩ := pr_x hR
  obtain ⟨fm, hm0⟩ := pr_m hR
  obtain ⟨hx, hb, hrr, hml, hown, hlk, hts, hK, hZo, hZ⟩ := id C
  refine lv_aload_n hx hb d_w_797 rfl (lv_at hl 4 rfl) ?_
  refine lX C mf_Db_deflection qm_La_139 h1 rfl rfl ⟨Nat.le_trans (Nat.le_of_ble_eq_true rfl) hRm.1, Nat.le_trans (Nat.le_of_ble_eq_true rfl) hRm.2⟩ ⟨by omega, by omega⟩ hP hD hS hd1 hx0 rfl hl rfl rfl (Nat.le_of_ble_eq_true rfl) d_w_798 (fun H locs hP hD hS => ?_)
  show W p l e R s m args below meth c H locs cells slots Q (F0 m 801 ls [.long v])
  refine lv_aload_n hx hb d_w_801 rfl (lv_at hl 3 rfl) ?_
  refine lM C mf_Mo_deflection qm_La_143 h2 rfl rfl ⟨Nat.le_trans (Nat.le_of_ble_eq_true rfl) hRm.1, Nat.le_trans (Nat.le_of_ble_eq_true rfl) hRm.2⟩ ⟨by omega, by omega⟩ hP hD hS hd2 hm0 rfl hl rfl rfl (Nat.le_of_ble_eq_true rfl) d_w_802 (fun H locs hP hD hS => ?_)
  show W p l e R s m args below meth c H locs cells slots Q (F0 m 805 ls [.long v, .long v])
  refine W.lcmp hx hb d_w_805 ?_
  rw [lg_cmp_self]
  refine lv_if_eq (tgt := 2239) hx hb d_w_806 (by decide) (fun _ => ?_) (fun w => absurd rfl w)
  refine W.widen (k := cells + 1) (n := slots + 6) (by omega) (by omega) ?_
  exact kk X' M' fo fd H locs ls h5 hl hP hD hS
set_option maxRecDepth 100000 in
set_option maxHeartbeats 4000000 in
theorem case_12 (hfl : l.stackTraces = false) (C : Cx p s m args meth c A g "DecadeBridgeLaw" code ret 10) (hXW : XW s) (hX : va_X b L xs s s.heap) (hbl : b < s.heap.size) (hbA : ¬ A b) (hL : L ≤ 3072) (hi : i + 5 < L) (hT : 0 ≤ T ∧ T ≤ 200000000) (hR : PRel g T q mo X M) (hRm : 18 ≤ R.frames ∧ 746 ≤ R.locals) (hcs : cells + 1 ≤ R.cells ∧ slots + 6 ≤ R.slots) (hl : lv_has ls 10 [(5, .int (nI i)), (4, .ref qd), (3, .ref qo), (2, .ref mo), (1, .ref q), (0, .ref b)]) (hP : va_P g.1 vwCl (LW g X M qo fo qd fd) H) (hD : va_D A (LW g X M qo fo qd fd)) (hS : va_S A s.heap H locs) (kk : Cont p l e R s m args below meth c Q A g b q mo qo qd i T (cells + 1) (slots + 6)) : W p l e R s m args below meth c H locs cells slots Q (F0 m 811 ls []) := by
  obtain ⟨v, X', M', h1, h2, hd1, hd2, h5⟩ := s_current (l := l)  hT hR
  obtain ⟨fx, hx0⟩ := pr_x hR
  obtain ⟨fm, hm0⟩ := pr_m hR
  obtain ⟨hx, hb, hrr, hml, hown, hlk, hts, hK, hZo, hZ⟩ := id C
  refine lv_aload_n hx hb d_w_811 rfl (lv_at hl 4 rfl) ?_
  refine lX C mf_Db_current qm_La_144 h1 rfl rfl ⟨Nat.le_trans (Nat.le_of_ble_eq_true rfl) hRm.1, Nat.le_trans (Nat.le_of_ble_eq_true rfl) hRm.2⟩ ⟨by omega, by omega⟩ hP hD hS hd1 hx0 rfl hl rfl rfl (Nat.le_of_ble_eq_true rfl) d_w_812 (fun H locs hP hD hS => ?_)
  show W p l e R s m args below meth c H locs cells slots Q (F0 m 815 ls [.long v])
  refine lv_aload_n hx hb d_w_815 rfl (lv_at hl 3 rfl) ?_
  refine lM C mf_Mo_current qm_La_147 h2 rfl rfl ⟨Nat.le_trans (Nat.le_of_ble_eq_true rfl) hRm.1, Nat.le_trans (Nat.le_of_ble_eq_true rfl) hRm.2⟩ ⟨by omega, by omega⟩ hP hD hS hd2 hm0 rfl hl rfl rfl (Nat.le_of_ble_eq_true rfl) d_w_816 (fun H locs hP hD hS => ?_)
  show W p l e R s m args below meth c H locs cells slots Q (F0 m 819 ls [.long v, .long v])
  refine W.lcmp hx hb d_w_819 ?_
  rw [lg_cmp_self]
  refine lv_if_eq (tgt := 2239) hx hb d_w_820 (by decide) (fun _ => ?_) (fun w => absurd rfl w)
  refine W.widen (k := cells + 1) (n := slots + 6) (by omega) (by omega) ?_
  exact kk X' M' fo fd H locs ls h5 hl hP hD hS
set_option maxRecDepth 100000 in
set_option maxHeartbeats 4000000 in
theorem case_13 (hfl : l.stackTraces = false) (C : Cx p s m args meth c A g "DecadeBridgeLaw" code ret 10) (hXW : XW s) (hX : va_X b L xs s s.heap) (hbl : b < s.heap.size) (hbA : ¬ A b) (hL : L ≤ 3072) (hi : i + 5 < L) (hT : 0 ≤ T ∧ T ≤ 200000000) (hR : PRel g T q mo X M) (hRm : 18 ≤ R.frames ∧ 746 ≤ R.locals) (hcs : cells + 1 ≤ R.cells ∧ slots + 6 ≤ R.slots) (hl : lv_has ls 10 [(5, .int (nI i)), (4, .ref qd), (3, .ref qo), (2, .ref mo), (1, .ref q), (0, .ref b)]) (hP : va_P g.1 vwCl (LW g X M qo fo qd fd) H) (hD : va_D A (LW g X M qo fo qd fd)) (hS : va_S A s.heap H locs) (kk : Cont p l e R s m args below meth c Q A g b q mo qo qd i T (cells + 1) (slots + 6)) : W p l e R s m args below meth c H locs cells slots Q (F0 m 825 ls []) := by
  obtain ⟨v, X', M', h1, h2, hd1, hd2, h5⟩ := s_power (l := l) (p1 := bZ (xs (i + 1))) hT hR
  obtain ⟨fx, hx0⟩ := pr_x hR
  obtain ⟨fm, hm0⟩ := pr_m hR
  obtain ⟨hx, hb, hrr, hml, hown, hlk, hts, hK, hZo, hZ⟩ := id C
  refine lv_aload_n hx hb d_w_825 rfl (lv_at hl 4 rfl) ?_
  refine ldSc (k := 1) (kv := 1) C hX hbl hbA hS (lv_at hl 5 rfl) (lv_at hl 0 rfl) rfl (by omega) hL d_w_826 d_w_827 d_w_829 (by decide) d_w_830 d_w_831 ?_
  refine ldBo C d_w_832 (by decide) d_w_835 d_w_836 (by decide) d_w_839 ?_
  refine lX C mf_Db_power qm_La_148 h1 rfl rfl ⟨Nat.le_trans (Nat.le_of_ble_eq_true rfl) hRm.1, Nat.le_trans (Nat.le_of_ble_eq_true rfl) hRm.2⟩ ⟨by omega, by omega⟩ hP hD hS hd1 hx0 rfl hl rfl rfl (Nat.le_of_ble_eq_true rfl) d_w_840 (fun H locs hP hD hS => ?_)
  show W p l e R s m args below meth c H locs cells slots Q (F0 m 843 ls [.long v])
  refine lv_aload_n hx hb d_w_843 rfl (lv_at hl 3 rfl) ?_
  refine ldSc (k := 1) (kv := 1) C hX hbl hbA hS (lv_at hl 5 rfl) (lv_at hl 0 rfl) rfl (by omega) hL d_w_844 d_w_845 d_w_847 (by decide) d_w_848 d_w_849 ?_
  refine ldBo C d_w_850 (by decide) d_w_853 d_w_854 (by decide) d_w_857 ?_
  refine lM C mf_Mo_power qm_La_152 h2 rfl rfl ⟨Nat.le_trans (Nat.le_of_ble_eq_true rfl) hRm.1, Nat.le_trans (Nat.le_of_ble_eq_true rfl) hRm.2⟩ ⟨by omega, by omega⟩ hP hD hS hd2 hm0 rfl hl rfl rfl (Nat.le_of_ble_eq_true rfl) d_w_858 (fun H locs hP hD hS => ?_)
  show W p l e R s m args below meth c H locs cells slots Q (F0 m 861 ls [.long v, .long v])
  refine W.lcmp hx hb d_w_861 ?_
  rw [lg_cmp_self]
  refine lv_if_eq (tgt := 2239) hx hb d_w_862 (by decide) (fun _ => ?_) (fun w => absurd rfl w)
  refine W.widen (k := cells + 1) (n := slots + 6) (by omega) (by omega) ?_
  exact kk X' M' fo fd H locs ls h5 hl hP hD hS
end
end TZF2
