section TZF6
section
variable {p : Program} {l : Launch} {e : Env} {R : Room} {s : State} {m : MethodId} {args : Array Value} {below : List Frame} {meth : Method} {c : Code} {H : Heap} {locs : List Loc} {cells slots : Nat} {Q : State → Prop} {g : GX} {ls : Array Slot} {A : Nat → Prop} {X M : va_W} {b q mo qo qd i L : Nat} {xs : Nat → Int32} {T : Int} {fo : LV} {fd : Nat → UInt64}
set_option maxRecDepth 100000 in
set_option maxHeartbeats 4000000 in
theorem case_35 (hfl : l.stackTraces = false) (C : Cx p s m args meth c A g "DecadeBridgeLaw" code ret 10) (hXW : XW s) (hX : va_X b L xs s s.heap) (hbl : b < s.heap.size) (hbA : ¬ A b) (hL : L ≤ 3072) (hi : i + 5 < L) (hT : 0 ≤ T ∧ T ≤ 200000000) (hR : PRel g T q mo X M) (hRm : 18 ≤ R.frames ∧ 746 ≤ R.locals) (hcs : cells + 1 ≤ R.cells ∧ slots + 6 ≤ R.slots) (hl : lv_has ls 10 [(5, .int (nI i)), (4, .ref qd), (3, .ref qo), (2, .ref mo), (1, .ref q), (0, .ref b)]) (hP : va_P g.1 vwCl (LW g X M qo fo qd fd) H) (hD : va_D A (LW g X M qo fo qd fd)) (hS : va_S A s.heap H locs) (kk : Cont p l e R s m args below meth c Q A g b q mo qo qd i T (cells + 1) (slots + 6)) : W p l e R s m args below meth c H locs cells slots Q (F0 m 1649 ls []) := by
  obtain ⟨k, v, X', M', fo', h1, h2, h3, h4, hd1, hd2, h5⟩ := s_setArms (l := l) (qo := qo) (fo := fo) (p1 := xs (i + 1)) (p2 := xs (i + 2)) hfl hT hR
  obtain ⟨fm, hm0⟩ := pr_m hR
  obtain ⟨fm2, hm2⟩ := pr_m h5
  obtain ⟨hx, hb, hrr, hml, hown, hlk, hts, hK, hZo, hZ⟩ := id C
  refine lv_aload_n hx hb d_w_1649 rfl (lv_at hl 4 rfl) ?_
  refine ldSc (k := 1) (kv := 1) C hX hbl hbA hS (lv_at hl 5 rfl) (lv_at hl 0 rfl) rfl (by omega) hL d_w_1650 d_w_1651 d_w_1653 (by decide) d_w_1654 d_w_1655 ?_
  refine ldSc (k := 2) (kv := 2) C hX hbl hbA hS (lv_at hl 5 rfl) (lv_at hl 0 rfl) rfl (by omega) hL d_w_1656 d_w_1657 d_w_1659 (by decide) d_w_1660 d_w_1661 ?_
  refine lv_aload_n hx hb d_w_1662 rfl (lv_at hl 2 rfl) ?_
  refine lWo C hXW mfL_setArms qm_La_233 h1 ⟨Nat.le_trans (Nat.le_of_ble_eq_true rfl) hRm.1, Nat.le_trans (Nat.le_of_ble_eq_true rfl) hRm.2⟩ hcs hP hD hS hd1 hl rfl rfl (Nat.le_of_ble_eq_true rfl) d_w_1663 (fun H locs hP hD hS => ?_)
  refine lv_istore (lv' := [(6, .int k), (5, .int (nI i)), (4, .ref qd), (3, .ref qo), (2, .ref mo), (1, .ref q), (0, .ref b)]) hx hb d_w_1666 hl (by decide) rfl (fun ls hl => ?_)
  refine lv_aload_n hx hb d_w_1668 rfl (lv_at hl 4 rfl) ?_
  refine ldSc (k := 1) (kv := 1) C hX hbl hbA hS (lv_at hl 6 rfl) (lv_at hl 1 rfl) rfl (by omega) hL d_w_1669 d_w_1670 d_w_1672 (by decide) d_w_1673 d_w_1674 ?_
  refine ldSc (k := 2) (kv := 2) C hX hbl hbA hS (lv_at hl 6 rfl) (lv_at hl 1 rfl) rfl (by omega) hL d_w_1675 d_w_1676 d_w_1678 (by decide) d_w_1679 d_w_1680 ?_
  refine lM C mf_Mo_setArms qm_La_235 h2 rfl rfl ⟨Nat.le_trans (Nat.le_of_ble_eq_true rfl) hRm.1, Nat.le_trans (Nat.le_of_ble_eq_true rfl) hRm.2⟩ ⟨by omega, by omega⟩ hP hD hS hd2 hm0 rfl hl rfl rfl (Nat.le_of_ble_eq_true rfl) d_w_1681 (fun H locs hP hD hS => ?_)
  show W p l e R s m args below meth c H locs (cells + 1) (slots + 6) Q (F0 m 1684 ls [.int v])
  refine lv_istore (lv' := [(7, .int v), (6, .int k), (5, .int (nI i)), (4, .ref qd), (3, .ref qo), (2, .ref mo), (1, .ref q), (0, .ref b)]) hx hb d_w_1684 hl (by decide) rfl (fun ls hl => ?_)
  refine lv_aload_n hx hb d_w_1686 rfl (lv_at hl 5 rfl) ?_
  refine lM C mf_Mo_thrown qm_La_114 h3 rfl rfl ⟨Nat.le_trans (Nat.le_of_ble_eq_true rfl) hRm.1, Nat.le_trans (Nat.le_of_ble_eq_true rfl) hRm.2⟩ ⟨by omega, by omega⟩ hP hD hS rfl hm2 rfl hl rfl rfl (Nat.le_of_ble_eq_true rfl) d_w_1687 (fun H locs hP hD hS => ?_)
  show W p l e R s m args below meth c H locs (cells + 1) (slots + 6) Q (F0 m 1690 ls [.int k])
  refine lv_iload hx hb d_w_1690 (lv_at hl 1 rfl) ?_
  refine lv_icmp_eq (tgt := 1697) hx hb d_w_1692 (by decide) (fun _ => ?_) (fun w => absurd rfl w)
  refine lv_iload hx hb d_w_1697 (lv_at hl 1 rfl) ?_
  refine lv_if_ne (tgt := 1714) hx hb d_w_1699 (by decide) (fun _ => ?_) (fun w0 => ?_)
  · refine lv_goto (tgt := 2239) hx hb d_w_1714 (by decide) ?_
    exact kk X' M' fo' fd H locs ls h5 (lv_sub hl [2, 3, 4, 5, 6, 7] rfl) hP hD hS
  · have e0 := h4 w0
    refine lv_aload_n hx hb d_w_1702 rfl (lv_at hl 4 rfl) ?_
    refine lv_iconst (v := 0) hx hb d_w_1703 (by decide) ?_
    refine ldL (k := 0) C hP X'.length lw_o (vp_of (by decide) (by decide)) rfl d_w_1704 ?_
    rw [e0]
    refine lv_iload hx hb d_w_1705 (lv_at hl 0 rfl) ?_
    refine lv_i2l (v := v.toInt64) hx hb d_w_1707 rfl ?_
    refine W.lcmp hx hb d_w_1708 ?_
    rw [lg_cmp_self]
    refine lv_if_eq (tgt := 1714) hx hb d_w_1709 (by decide) (fun _ => ?_) (fun w => absurd rfl w)
    refine lv_goto (tgt := 2239) hx hb d_w_1714 (by decide) ?_
    exact kk X' M' fo' fd H locs ls h5 (lv_sub hl [2, 3, 4, 5, 6, 7] rfl) hP hD hS
set_option maxRecDepth 100000 in
set_option maxHeartbeats 4000000 in
theorem case_36 (hfl : l.stackTraces = false) (C : Cx p s m args meth c A g "DecadeBridgeLaw" code ret 10) (hXW : XW s) (hX : va_X b L xs s s.heap) (hbl : b < s.heap.size) (hbA : ¬ A b) (hL : L ≤ 3072) (hi : i + 5 < L) (hT : 0 ≤ T ∧ T ≤ 200000000) (hR : PRel g T q mo X M) (hRm : 18 ≤ R.frames ∧ 746 ≤ R.locals) (hcs : cells + 1 ≤ R.cells ∧ slots + 6 ≤ R.slots) (hl : lv_has ls 10 [(5, .int (nI i)), (4, .ref qd), (3, .ref qo), (2, .ref mo), (1, .ref q), (0, .ref b)]) (hP : va_P g.1 vwCl (LW g X M qo fo qd fd) H) (hD : va_D A (LW g X M qo fo qd fd)) (hS : va_S A s.heap H locs) (kk : Cont p l e R s m args below meth c Q A g b q mo qo qd i T (cells + 1) (slots + 6)) : W p l e R s m args below meth c H locs cells slots Q (F0 m 1717 ls []) := by
  obtain ⟨k, v, X', M', fo', h1, h2, h3, h4, hd1, hd2, h5⟩ := s_setVolts (l := l) (qo := qo) (fo := fo) (p1 := xs (i + 1)) hfl hT hR
  obtain ⟨fm, hm0⟩ := pr_m hR
  obtain ⟨fm2, hm2⟩ := pr_m h5
  obtain ⟨hx, hb, hrr, hml, hown, hlk, hts, hK, hZo, hZ⟩ := id C
  refine lv_aload_n hx hb d_w_1717 rfl (lv_at hl 4 rfl) ?_
  refine ldSc (k := 1) (kv := 1) C hX hbl hbA hS (lv_at hl 5 rfl) (lv_at hl 0 rfl) rfl (by omega) hL d_w_1718 d_w_1719 d_w_1721 (by decide) d_w_1722 d_w_1723 ?_
  refine lv_aload_n hx hb d_w_1724 rfl (lv_at hl 2 rfl) ?_
  refine lWo C hXW mfL_setVolts qm_La_236 h1 ⟨Nat.le_trans (Nat.le_of_ble_eq_true rfl) hRm.1, Nat.le_trans (Nat.le_of_ble_eq_true rfl) hRm.2⟩ hcs hP hD hS hd1 hl rfl rfl (Nat.le_of_ble_eq_true rfl) d_w_1725 (fun H locs hP hD hS => ?_)
  refine lv_istore (lv' := [(6, .int k), (5, .int (nI i)), (4, .ref qd), (3, .ref qo), (2, .ref mo), (1, .ref q), (0, .ref b)]) hx hb d_w_1728 hl (by decide) rfl (fun ls hl => ?_)
  refine lv_aload_n hx hb d_w_1730 rfl (lv_at hl 4 rfl) ?_
  refine ldSc (k := 1) (kv := 1) C hX hbl hbA hS (lv_at hl 6 rfl) (lv_at hl 1 rfl) rfl (by omega) hL d_w_1731 d_w_1732 d_w_1734 (by decide) d_w_1735 d_w_1736 ?_
  refine lM C mf_Mo_setVolts qm_La_238 h2 rfl rfl ⟨Nat.le_trans (Nat.le_of_ble_eq_true rfl) hRm.1, Nat.le_trans (Nat.le_of_ble_eq_true rfl) hRm.2⟩ ⟨by omega, by omega⟩ hP hD hS hd2 hm0 rfl hl rfl rfl (Nat.le_of_ble_eq_true rfl) d_w_1737 (fun H locs hP hD hS => ?_)
  show W p l e R s m args below meth c H locs (cells + 1) (slots + 6) Q (F0 m 1740 ls [.int v])
  refine lv_istore (lv' := [(7, .int v), (6, .int k), (5, .int (nI i)), (4, .ref qd), (3, .ref qo), (2, .ref mo), (1, .ref q), (0, .ref b)]) hx hb d_w_1740 hl (by decide) rfl (fun ls hl => ?_)
  refine lv_aload_n hx hb d_w_1742 rfl (lv_at hl 5 rfl) ?_
  refine lM C mf_Mo_thrown qm_La_114 h3 rfl rfl ⟨Nat.le_trans (Nat.le_of_ble_eq_true rfl) hRm.1, Nat.le_trans (Nat.le_of_ble_eq_true rfl) hRm.2⟩ ⟨by omega, by omega⟩ hP hD hS rfl hm2 rfl hl rfl rfl (Nat.le_of_ble_eq_true rfl) d_w_1743 (fun H locs hP hD hS => ?_)
  show W p l e R s m args below meth c H locs (cells + 1) (slots + 6) Q (F0 m 1746 ls [.int k])
  refine lv_iload hx hb d_w_1746 (lv_at hl 1 rfl) ?_
  refine lv_icmp_eq (tgt := 1753) hx hb d_w_1748 (by decide) (fun _ => ?_) (fun w => absurd rfl w)
  refine lv_iload hx hb d_w_1753 (lv_at hl 1 rfl) ?_
  refine lv_if_ne (tgt := 1770) hx hb d_w_1755 (by decide) (fun _ => ?_) (fun w0 => ?_)
  · refine lv_goto (tgt := 2239) hx hb d_w_1770 (by decide) ?_
    exact kk X' M' fo' fd H locs ls h5 (lv_sub hl [2, 3, 4, 5, 6, 7] rfl) hP hD hS
  · have e0 := h4 w0
    refine lv_aload_n hx hb d_w_1758 rfl (lv_at hl 4 rfl) ?_
    refine lv_iconst (v := 0) hx hb d_w_1759 (by decide) ?_
    refine ldL (k := 0) C hP X'.length lw_o (vp_of (by decide) (by decide)) rfl d_w_1760 ?_
    rw [e0]
    refine lv_iload hx hb d_w_1761 (lv_at hl 0 rfl) ?_
    refine lv_i2l (v := v.toInt64) hx hb d_w_1763 rfl ?_
    refine W.lcmp hx hb d_w_1764 ?_
    rw [lg_cmp_self]
    refine lv_if_eq (tgt := 1770) hx hb d_w_1765 (by decide) (fun _ => ?_) (fun w => absurd rfl w)
    refine lv_goto (tgt := 2239) hx hb d_w_1770 (by decide) ?_
    exact kk X' M' fo' fd H locs ls h5 (lv_sub hl [2, 3, 4, 5, 6, 7] rfl) hP hD hS
set_option maxRecDepth 100000 in
set_option maxHeartbeats 4000000 in
theorem case_37 (hfl : l.stackTraces = false) (C : Cx p s m args meth c A g "DecadeBridgeLaw" code ret 10) (hXW : XW s) (hX : va_X b L xs s s.heap) (hbl : b < s.heap.size) (hbA : ¬ A b) (hL : L ≤ 3072) (hi : i + 5 < L) (hT : 0 ≤ T ∧ T ≤ 200000000) (hR : PRel g T q mo X M) (hRm : 18 ≤ R.frames ∧ 746 ≤ R.locals) (hcs : cells + 1 ≤ R.cells ∧ slots + 6 ≤ R.slots) (hl : lv_has ls 10 [(5, .int (nI i)), (4, .ref qd), (3, .ref qo), (2, .ref mo), (1, .ref q), (0, .ref b)]) (hP : va_P g.1 vwCl (LW g X M qo fo qd fd) H) (hD : va_D A (LW g X M qo fo qd fd)) (hS : va_S A s.heap H locs) (kk : Cont p l e R s m args below meth c Q A g b q mo qo qd i T (cells + 1) (slots + 6)) : W p l e R s m args below meth c H locs cells slots Q (F0 m 1773 ls []) := by
  obtain ⟨k, v, X', M', fo', h1, h2, h3, h4, hd1, hd2, h5⟩ := s_setTo (l := l) (qo := qo) (fo := fo) (p1 := xs (i + 1)) hfl hT hR
  obtain ⟨fm, hm0⟩ := pr_m hR
  obtain ⟨fm2, hm2⟩ := pr_m h5
  obtain ⟨hx, hb, hrr, hml, hown, hlk, hts, hK, hZo, hZ⟩ := id C
  refine lv_aload_n hx hb d_w_1773 rfl (lv_at hl 4 rfl) ?_
  refine ldSc (k := 1) (kv := 1) C hX hbl hbA hS (lv_at hl 5 rfl) (lv_at hl 0 rfl) rfl (by omega) hL d_w_1774 d_w_1775 d_w_1777 (by decide) d_w_1778 d_w_1779 ?_
  refine lv_aload_n hx hb d_w_1780 rfl (lv_at hl 2 rfl) ?_
  refine lWo C hXW mfL_setTo qm_La_239 h1 ⟨Nat.le_trans (Nat.le_of_ble_eq_true rfl) hRm.1, Nat.le_trans (Nat.le_of_ble_eq_true rfl) hRm.2⟩ hcs hP hD hS hd1 hl rfl rfl (Nat.le_of_ble_eq_true rfl) d_w_1781 (fun H locs hP hD hS => ?_)
  refine lv_istore (lv' := [(6, .int k), (5, .int (nI i)), (4, .ref qd), (3, .ref qo), (2, .ref mo), (1, .ref q), (0, .ref b)]) hx hb d_w_1784 hl (by decide) rfl (fun ls hl => ?_)
  refine lv_aload_n hx hb d_w_1786 rfl (lv_at hl 4 rfl) ?_
  refine ldSc (k := 1) (kv := 1) C hX hbl hbA hS (lv_at hl 6 rfl) (lv_at hl 1 rfl) rfl (by omega) hL d_w_1787 d_w_1788 d_w_1790 (by decide) d_w_1791 d_w_1792 ?_
  refine lM C mf_Mo_setTo qm_La_241 h2 rfl rfl ⟨Nat.le_trans (Nat.le_of_ble_eq_true rfl) hRm.1, Nat.le_trans (Nat.le_of_ble_eq_true rfl) hRm.2⟩ ⟨by omega, by omega⟩ hP hD hS hd2 hm0 rfl hl rfl rfl (Nat.le_of_ble_eq_true rfl) d_w_1793 (fun H locs hP hD hS => ?_)
  show W p l e R s m args below meth c H locs (cells + 1) (slots + 6) Q (F0 m 1796 ls [.int v])
  refine lv_istore (lv' := [(7, .int v), (6, .int k), (5, .int (nI i)), (4, .ref qd), (3, .ref qo), (2, .ref mo), (1, .ref q), (0, .ref b)]) hx hb d_w_1796 hl (by decide) rfl (fun ls hl => ?_)
  refine lv_aload_n hx hb d_w_1798 rfl (lv_at hl 5 rfl) ?_
  refine lM C mf_Mo_thrown qm_La_114 h3 rfl rfl ⟨Nat.le_trans (Nat.le_of_ble_eq_true rfl) hRm.1, Nat.le_trans (Nat.le_of_ble_eq_true rfl) hRm.2⟩ ⟨by omega, by omega⟩ hP hD hS rfl hm2 rfl hl rfl rfl (Nat.le_of_ble_eq_true rfl) d_w_1799 (fun H locs hP hD hS => ?_)
  show W p l e R s m args below meth c H locs (cells + 1) (slots + 6) Q (F0 m 1802 ls [.int k])
  refine lv_iload hx hb d_w_1802 (lv_at hl 1 rfl) ?_
  refine lv_icmp_eq (tgt := 1809) hx hb d_w_1804 (by decide) (fun _ => ?_) (fun w => absurd rfl w)
  refine lv_iload hx hb d_w_1809 (lv_at hl 1 rfl) ?_
  refine lv_if_ne (tgt := 1826) hx hb d_w_1811 (by decide) (fun _ => ?_) (fun w0 => ?_)
  · refine lv_goto (tgt := 2239) hx hb d_w_1826 (by decide) ?_
    exact kk X' M' fo' fd H locs ls h5 (lv_sub hl [2, 3, 4, 5, 6, 7] rfl) hP hD hS
  · have e0 := h4 w0
    refine lv_aload_n hx hb d_w_1814 rfl (lv_at hl 4 rfl) ?_
    refine lv_iconst (v := 0) hx hb d_w_1815 (by decide) ?_
    refine ldL (k := 0) C hP X'.length lw_o (vp_of (by decide) (by decide)) rfl d_w_1816 ?_
    rw [e0]
    refine lv_iload hx hb d_w_1817 (lv_at hl 0 rfl) ?_
    refine lv_i2l (v := v.toInt64) hx hb d_w_1819 rfl ?_
    refine W.lcmp hx hb d_w_1820 ?_
    rw [lg_cmp_self]
    refine lv_if_eq (tgt := 1826) hx hb d_w_1821 (by decide) (fun _ => ?_) (fun w => absurd rfl w)
    refine lv_goto (tgt := 2239) hx hb d_w_1826 (by decide) ?_
    exact kk X' M' fo' fd H locs ls h5 (lv_sub hl [2, 3, 4, 5, 6, 7] rfl) hP hD hS
set_option maxRecDepth 100000 in
set_option maxHeartbeats 4000000 in
theorem case_38 (hfl : l.stackTraces = false) (C : Cx p s m args meth c A g "DecadeBridgeLaw" code ret 10) (hXW : XW s) (hX : va_X b L xs s s.heap) (hbl : b < s.heap.size) (hbA : ¬ A b) (hL : L ≤ 3072) (hi : i + 5 < L) (hT : 0 ≤ T ∧ T ≤ 200000000) (hR : PRel g T q mo X M) (hRm : 18 ≤ R.frames ∧ 746 ≤ R.locals) (hcs : cells + 1 ≤ R.cells ∧ slots + 6 ≤ R.slots) (hl : lv_has ls 10 [(5, .int (nI i)), (4, .ref qd), (3, .ref qo), (2, .ref mo), (1, .ref q), (0, .ref b)]) (hP : va_P g.1 vwCl (LW g X M qo fo qd fd) H) (hD : va_D A (LW g X M qo fo qd fd)) (hS : va_S A s.heap H locs) (kk : Cont p l e R s m args below meth c Q A g b q mo qo qd i T (cells + 1) (slots + 6)) : W p l e R s m args below meth c H locs cells slots Q (F0 m 1829 ls []) := by
  obtain ⟨k, v, X', M', fo', h1, h2, h3, h4, hd1, hd2, h5⟩ := s_setDigit (l := l) (qo := qo) (fo := fo) (p1 := xs (i + 1)) (p2 := xs (i + 2)) hfl hT hR
  obtain ⟨fm, hm0⟩ := pr_m hR
  obtain ⟨fm2, hm2⟩ := pr_m h5
  obtain ⟨hx, hb, hrr, hml, hown, hlk, hts, hK, hZo, hZ⟩ := id C
  refine lv_aload_n hx hb d_w_1829 rfl (lv_at hl 4 rfl) ?_
  refine ldSc (k := 1) (kv := 1) C hX hbl hbA hS (lv_at hl 5 rfl) (lv_at hl 0 rfl) rfl (by omega) hL d_w_1830 d_w_1831 d_w_1833 (by decide) d_w_1834 d_w_1835 ?_
  refine ldSc (k := 2) (kv := 2) C hX hbl hbA hS (lv_at hl 5 rfl) (lv_at hl 0 rfl) rfl (by omega) hL d_w_1836 d_w_1837 d_w_1839 (by decide) d_w_1840 d_w_1841 ?_
  refine lv_aload_n hx hb d_w_1842 rfl (lv_at hl 2 rfl) ?_
  refine lWo C hXW mfL_setDigit qm_La_242 h1 ⟨Nat.le_trans (Nat.le_of_ble_eq_true rfl) hRm.1, Nat.le_trans (Nat.le_of_ble_eq_true rfl) hRm.2⟩ hcs hP hD hS hd1 hl rfl rfl (Nat.le_of_ble_eq_true rfl) d_w_1843 (fun H locs hP hD hS => ?_)
  refine lv_istore (lv' := [(6, .int k), (5, .int (nI i)), (4, .ref qd), (3, .ref qo), (2, .ref mo), (1, .ref q), (0, .ref b)]) hx hb d_w_1846 hl (by decide) rfl (fun ls hl => ?_)
  refine lv_aload_n hx hb d_w_1848 rfl (lv_at hl 4 rfl) ?_
  refine ldSc (k := 1) (kv := 1) C hX hbl hbA hS (lv_at hl 6 rfl) (lv_at hl 1 rfl) rfl (by omega) hL d_w_1849 d_w_1850 d_w_1852 (by decide) d_w_1853 d_w_1854 ?_
  refine ldSc (k := 2) (kv := 2) C hX hbl hbA hS (lv_at hl 6 rfl) (lv_at hl 1 rfl) rfl (by omega) hL d_w_1855 d_w_1856 d_w_1858 (by decide) d_w_1859 d_w_1860 ?_
  refine lM C mf_Mo_setDigit qm_La_244 h2 rfl rfl ⟨Nat.le_trans (Nat.le_of_ble_eq_true rfl) hRm.1, Nat.le_trans (Nat.le_of_ble_eq_true rfl) hRm.2⟩ ⟨by omega, by omega⟩ hP hD hS hd2 hm0 rfl hl rfl rfl (Nat.le_of_ble_eq_true rfl) d_w_1861 (fun H locs hP hD hS => ?_)
  show W p l e R s m args below meth c H locs (cells + 1) (slots + 6) Q (F0 m 1864 ls [.int v])
  refine lv_istore (lv' := [(7, .int v), (6, .int k), (5, .int (nI i)), (4, .ref qd), (3, .ref qo), (2, .ref mo), (1, .ref q), (0, .ref b)]) hx hb d_w_1864 hl (by decide) rfl (fun ls hl => ?_)
  refine lv_aload_n hx hb d_w_1866 rfl (lv_at hl 5 rfl) ?_
  refine lM C mf_Mo_thrown qm_La_114 h3 rfl rfl ⟨Nat.le_trans (Nat.le_of_ble_eq_true rfl) hRm.1, Nat.le_trans (Nat.le_of_ble_eq_true rfl) hRm.2⟩ ⟨by omega, by omega⟩ hP hD hS rfl hm2 rfl hl rfl rfl (Nat.le_of_ble_eq_true rfl) d_w_1867 (fun H locs hP hD hS => ?_)
  show W p l e R s m args below meth c H locs (cells + 1) (slots + 6) Q (F0 m 1870 ls [.int k])
  refine lv_iload hx hb d_w_1870 (lv_at hl 1 rfl) ?_
  refine lv_icmp_eq (tgt := 1877) hx hb d_w_1872 (by decide) (fun _ => ?_) (fun w => absurd rfl w)
  refine lv_iload hx hb d_w_1877 (lv_at hl 1 rfl) ?_
  refine lv_if_ne (tgt := 1894) hx hb d_w_1879 (by decide) (fun _ => ?_) (fun w0 => ?_)
  · refine lv_goto (tgt := 2239) hx hb d_w_1894 (by decide) ?_
    exact kk X' M' fo' fd H locs ls h5 (lv_sub hl [2, 3, 4, 5, 6, 7] rfl) hP hD hS
  · have e0 := h4 w0
    refine lv_aload_n hx hb d_w_1882 rfl (lv_at hl 4 rfl) ?_
    refine lv_iconst (v := 0) hx hb d_w_1883 (by decide) ?_
    refine ldL (k := 0) C hP X'.length lw_o (vp_of (by decide) (by decide)) rfl d_w_1884 ?_
    rw [e0]
    refine lv_iload hx hb d_w_1885 (lv_at hl 0 rfl) ?_
    refine lv_i2l (v := v.toInt64) hx hb d_w_1887 rfl ?_
    refine W.lcmp hx hb d_w_1888 ?_
    rw [lg_cmp_self]
    refine lv_if_eq (tgt := 1894) hx hb d_w_1889 (by decide) (fun _ => ?_) (fun w => absurd rfl w)
    refine lv_goto (tgt := 2239) hx hb d_w_1894 (by decide) ?_
    exact kk X' M' fo' fd H locs ls h5 (lv_sub hl [2, 3, 4, 5, 6, 7] rfl) hP hD hS
set_option maxRecDepth 100000 in
set_option maxHeartbeats 4000000 in
theorem case_39 (hfl : l.stackTraces = false) (C : Cx p s m args meth c A g "DecadeBridgeLaw" code ret 10) (hXW : XW s) (hX : va_X b L xs s s.heap) (hbl : b < s.heap.size) (hbA : ¬ A b) (hL : L ≤ 3072) (hi : i + 5 < L) (hT : 0 ≤ T ∧ T ≤ 200000000) (hR : PRel g T q mo X M) (hRm : 18 ≤ R.frames ∧ 746 ≤ R.locals) (hcs : cells + 1 ≤ R.cells ∧ slots + 6 ≤ R.slots) (hl : lv_has ls 10 [(5, .int (nI i)), (4, .ref qd), (3, .ref qo), (2, .ref mo), (1, .ref q), (0, .ref b)]) (hP : va_P g.1 vwCl (LW g X M qo fo qd fd) H) (hD : va_D A (LW g X M qo fo qd fd)) (hS : va_S A s.heap H locs) (kk : Cont p l e R s m args below meth c Q A g b q mo qo qd i T (cells + 1) (slots + 6)) : W p l e R s m args below meth c H locs cells slots Q (F0 m 1897 ls []) := by
  obtain ⟨v, X', M', h1, h2, hd1, hd2, h5⟩ := s_turn (l := l)  hT hR
  obtain ⟨fx, hx0⟩ := pr_x hR
  obtain ⟨fm, hm0⟩ := pr_m hR
  obtain ⟨hx, hb, hrr, hml, hown, hlk, hts, hK, hZo, hZ⟩ := id C
  refine lv_aload_n hx hb d_w_1897 rfl (lv_at hl 4 rfl) ?_
  refine lX C mf_Db_turn qm_La_245 h1 rfl rfl ⟨Nat.le_trans (Nat.le_of_ble_eq_true rfl) hRm.1, Nat.le_trans (Nat.le_of_ble_eq_true rfl) hRm.2⟩ ⟨by omega, by omega⟩ hP hD hS hd1 hx0 rfl hl rfl rfl (Nat.le_of_ble_eq_true rfl) d_w_1898 (fun H locs hP hD hS => ?_)
  show W p l e R s m args below meth c H locs cells slots Q (F0 m 1901 ls [.int v])
  refine lv_aload_n hx hb d_w_1901 rfl (lv_at hl 3 rfl) ?_
  refine lM C mf_Mo_turn qm_La_248 h2 rfl rfl ⟨Nat.le_trans (Nat.le_of_ble_eq_true rfl) hRm.1, Nat.le_trans (Nat.le_of_ble_eq_true rfl) hRm.2⟩ ⟨by omega, by omega⟩ hP hD hS hd2 hm0 rfl hl rfl rfl (Nat.le_of_ble_eq_true rfl) d_w_1902 (fun H locs hP hD hS => ?_)
  show W p l e R s m args below meth c H locs cells slots Q (F0 m 1905 ls [.int v, .int v])
  refine lv_icmp_eq (tgt := 2239) hx hb d_w_1905 (by decide) (fun _ => ?_) (fun w => absurd rfl w)
  refine W.widen (k := cells + 1) (n := slots + 6) (by omega) (by omega) ?_
  exact kk X' M' fo fd H locs ls h5 hl hP hD hS
set_option maxRecDepth 100000 in
set_option maxHeartbeats 4000000 in
theorem case_40 (hfl : l.stackTraces = false) (C : Cx p s m args meth c A g "DecadeBridgeLaw" code ret 10) (hXW : XW s) (hX : va_X b L xs s s.heap) (hbl : b < s.heap.size) (hbA : ¬ A b) (hL : L ≤ 3072) (hi : i + 5 < L) (hT : 0 ≤ T ∧ T ≤ 200000000) (hR : PRel g T q mo X M) (hRm : 18 ≤ R.frames ∧ 746 ≤ R.locals) (hcs : cells + 1 ≤ R.cells ∧ slots + 6 ≤ R.slots) (hl : lv_has ls 10 [(5, .int (nI i)), (4, .ref qd), (3, .ref qo), (2, .ref mo), (1, .ref q), (0, .ref b)]) (hP : va_P g.1 vwCl (LW g X M qo fo qd fd) H) (hD : va_D A (LW g X M qo fo qd fd)) (hS : va_S A s.heap H locs) (kk : Cont p l e R s m args below meth c Q A g b q mo qo qd i T (cells + 1) (slots + 6)) : W p l e R s m args below meth c H locs cells slots Q (F0 m 1910 ls []) := by
  obtain ⟨k, v, X', M', fo', h1, h2, h3, h4, hd1, hd2, h5⟩ := s_connect (l := l) (qo := qo) (fo := fo) (p1 := xs (i + 1)) hfl hT hR
  obtain ⟨fm, hm0⟩ := pr_m hR
  obtain ⟨fm2, hm2⟩ := pr_m h5
  obtain ⟨hx, hb, hrr, hml, hown, hlk, hts, hK, hZo, hZ⟩ := id C
  refine lv_aload_n hx hb d_w_1910 rfl (lv_at hl 4 rfl) ?_
  refine ldSc (k := 1) (kv := 1) C hX hbl hbA hS (lv_at hl 5 rfl) (lv_at hl 0 rfl) rfl (by omega) hL d_w_1911 d_w_1912 d_w_1914 (by decide) d_w_1915 d_w_1916 ?_
  refine lv_aload_n hx hb d_w_1917 rfl (lv_at hl 2 rfl) ?_
  refine lWo C hXW mfL_connect qm_La_249 h1 ⟨Nat.le_trans (Nat.le_of_ble_eq_true rfl) hRm.1, Nat.le_trans (Nat.le_of_ble_eq_true rfl) hRm.2⟩ hcs hP hD hS hd1 hl rfl rfl (Nat.le_of_ble_eq_true rfl) d_w_1918 (fun H locs hP hD hS => ?_)
  refine lv_istore (lv' := [(6, .int k), (5, .int (nI i)), (4, .ref qd), (3, .ref qo), (2, .ref mo), (1, .ref q), (0, .ref b)]) hx hb d_w_1921 hl (by decide) rfl (fun ls hl => ?_)
  refine lv_aload_n hx hb d_w_1923 rfl (lv_at hl 4 rfl) ?_
  refine ldSc (k := 1) (kv := 1) C hX hbl hbA hS (lv_at hl 6 rfl) (lv_at hl 1 rfl) rfl (by omega) hL d_w_1924 d_w_1925 d_w_1927 (by decide) d_w_1928 d_w_1929 ?_
  refine lM C mf_Mo_connect qm_La_251 h2 rfl rfl ⟨Nat.le_trans (Nat.le_of_ble_eq_true rfl) hRm.1, Nat.le_trans (Nat.le_of_ble_eq_true rfl) hRm.2⟩ ⟨by omega, by omega⟩ hP hD hS hd2 hm0 rfl hl rfl rfl (Nat.le_of_ble_eq_true rfl) d_w_1930 (fun H locs hP hD hS => ?_)
  show W p l e R s m args below meth c H locs (cells + 1) (slots + 6) Q (F0 m 1933 ls [.int v])
  refine lv_istore (lv' := [(7, .int v), (6, .int k), (5, .int (nI i)), (4, .ref qd), (3, .ref qo), (2, .ref mo), (1, .ref q), (0, .ref b)]) hx hb d_w_1933 hl (by decide) rfl (fun ls hl => ?_)
  refine lv_aload_n hx hb d_w_1935 rfl (lv_at hl 5 rfl) ?_
  refine lM C mf_Mo_thrown qm_La_114 h3 rfl rfl ⟨Nat.le_trans (Nat.le_of_ble_eq_true rfl) hRm.1, Nat.le_trans (Nat.le_of_ble_eq_true rfl) hRm.2⟩ ⟨by omega, by omega⟩ hP hD hS rfl hm2 rfl hl rfl rfl (Nat.le_of_ble_eq_true rfl) d_w_1936 (fun H locs hP hD hS => ?_)
  show W p l e R s m args below meth c H locs (cells + 1) (slots + 6) Q (F0 m 1939 ls [.int k])
  refine lv_iload hx hb d_w_1939 (lv_at hl 1 rfl) ?_
  refine lv_icmp_eq (tgt := 1946) hx hb d_w_1941 (by decide) (fun _ => ?_) (fun w => absurd rfl w)
  refine lv_iload hx hb d_w_1946 (lv_at hl 1 rfl) ?_
  refine lv_if_ne (tgt := 1963) hx hb d_w_1948 (by decide) (fun _ => ?_) (fun w0 => ?_)
  · refine lv_goto (tgt := 2239) hx hb d_w_1963 (by decide) ?_
    exact kk X' M' fo' fd H locs ls h5 (lv_sub hl [2, 3, 4, 5, 6, 7] rfl) hP hD hS
  · have e0 := h4 w0
    refine lv_aload_n hx hb d_w_1951 rfl (lv_at hl 4 rfl) ?_
    refine lv_iconst (v := 0) hx hb d_w_1952 (by decide) ?_
    refine ldL (k := 0) C hP X'.length lw_o (vp_of (by decide) (by decide)) rfl d_w_1953 ?_
    rw [e0]
    refine lv_iload hx hb d_w_1954 (lv_at hl 0 rfl) ?_
    refine lv_i2l (v := v.toInt64) hx hb d_w_1956 rfl ?_
    refine W.lcmp hx hb d_w_1957 ?_
    rw [lg_cmp_self]
    refine lv_if_eq (tgt := 1963) hx hb d_w_1958 (by decide) (fun _ => ?_) (fun w => absurd rfl w)
    refine lv_goto (tgt := 2239) hx hb d_w_1963 (by decide) ?_
    exact kk X' M' fo' fd H locs ls h5 (lv_sub hl [2, 3, 4, 5, 6, 7] rfl) hP hD hS
set_option maxRecDepth 100000 in
set_option maxHeartbeats 4000000 in
theorem case_41 (hfl : l.stackTraces = false) (C : Cx p s m args meth c A g "DecadeBridgeLaw" code ret 10) (hXW : XW s) (hX : va_X b L xs s s.heap) (hbl : b < s.heap.size) (hbA : ¬ A b) (hL : L ≤ 3072) (hi : i + 5 < L) (hT : 0 ≤ T ∧ T ≤ 200000000) (hR : PRel g T q mo X M) (hRm : 18 ≤ R.frames ∧ 746 ≤ R.locals) (hcs : cells + 1 ≤ R.cells ∧ slots + 6 ≤ R.slots) (hl : lv_has ls 10 [(5, .int (nI i)), (4, .ref qd), (3, .ref qo), (2, .ref mo), (1, .ref q), (0, .ref b)]) (hP : va_P g.1 vwCl (LW g X M qo fo qd fd) H) (hD : va_D A (LW g X M qo fo qd fd)) (hS : va_S A s.heap H locs) (kk : Cont p l e R s m args below meth c Q A g b q mo qo qd i T (cells + 1) (slots + 6)) : W p l e R s m args below meth c H locs cells slots Q (F0 m 1966 ls []) := by
  obtain ⟨k, v, X', M', fo', h1, h2, h3, h4, hd1, hd2, h5⟩ := s_rest (l := l) (qo := qo) (fo := fo) (p1 := xs (i + 1)) hfl hT hR
  obtain ⟨fm, hm0⟩ := pr_m hR
  obtain ⟨fm2, hm2⟩ := pr_m h5
  obtain ⟨hx, hb, hrr, hml, hown, hlk, hts, hK, hZo, hZ⟩ := id C
  refine lv_aload_n hx hb d_w_1966 rfl (lv_at hl 4 rfl) ?_
  refine ldSc (k := 1) (kv := 1) C hX hbl hbA hS (lv_at hl 5 rfl) (lv_at hl 0 rfl) rfl (by omega) hL d_w_1967 d_w_1968 d_w_1970 (by decide) d_w_1971 d_w_1972 ?_
  refine lv_aload_n hx hb d_w_1973 rfl (lv_at hl 2 rfl) ?_
  refine lWo C hXW mfL_rest qm_La_252 h1 ⟨Nat.le_trans (Nat.le_of_ble_eq_true rfl) hRm.1, Nat.le_trans (Nat.le_of_ble_eq_true rfl) hRm.2⟩ hcs hP hD hS hd1 hl rfl rfl (Nat.le_of_ble_eq_true rfl) d_w_1974 (fun H locs hP hD hS => ?_)
  refine lv_istore (lv' := [(6, .int k), (5, .int (nI i)), (4, .ref qd), (3, .ref qo), (2, .ref mo), (1, .ref q), (0, .ref b)]) hx hb d_w_1977 hl (by decide) rfl (fun ls hl => ?_)
  refine lv_aload_n hx hb d_w_1979 rfl (lv_at hl 4 rfl) ?_
  refine ldSc (k := 1) (kv := 1) C hX hbl hbA hS (lv_at hl 6 rfl) (lv_at hl 1 rfl) rfl (by omega) hL d_w_1980 d_w_1981 d_w_1983 (by decide) d_w_1984 d_w_1985 ?_
  refine lM C mf_Mo_rest qm_La_254 h2 rfl rfl ⟨Nat.le_trans (Nat.le_of_ble_eq_true rfl) hRm.1, Nat.le_trans (Nat.le_of_ble_eq_true rfl) hRm.2⟩ ⟨by omega, by omega⟩ hP hD hS hd2 hm0 rfl hl rfl rfl (Nat.le_of_ble_eq_true rfl) d_w_1986 (fun H locs hP hD hS => ?_)
  show W p l e R s m args below meth c H locs (cells + 1) (slots + 6) Q (F0 m 1989 ls [.int v])
  refine lv_istore (lv' := [(7, .int v), (6, .int k), (5, .int (nI i)), (4, .ref qd), (3, .ref qo), (2, .ref mo), (1, .ref q), (0, .ref b)]) hx hb d_w_1989 hl (by decide) rfl (fun ls hl => ?_)
  refine lv_aload_n hx hb d_w_1991 rfl (lv_at hl 5 rfl) ?_
  refine lM C mf_Mo_thrown qm_La_114 h3 rfl rfl ⟨Nat.le_trans (Nat.le_of_ble_eq_true rfl) hRm.1, Nat.le_trans (Nat.le_of_ble_eq_true rfl) hRm.2⟩ ⟨by omega, by omega⟩ hP hD hS rfl hm2 rfl hl rfl rfl (Nat.le_of_ble_eq_true rfl) d_w_1992 (fun H locs hP hD hS => ?_)
  show W p l e R s m args below meth c H locs (cells + 1) (slots + 6) Q (F0 m 1995 ls [.int k])
  refine lv_iload hx hb d_w_1995 (lv_at hl 1 rfl) ?_
  refine lv_icmp_eq (tgt := 2002) hx hb d_w_1997 (by decide) (fun _ => ?_) (fun w => absurd rfl w)
  refine lv_iload hx hb d_w_2002 (lv_at hl 1 rfl) ?_
  refine lv_if_ne (tgt := 2019) hx hb d_w_2004 (by decide) (fun _ => ?_) (fun w0 => ?_)
  · refine lv_goto (tgt := 2239) hx hb d_w_2019 (by decide) ?_
    exact kk X' M' fo' fd H locs ls h5 (lv_sub hl [2, 3, 4, 5, 6, 7] rfl) hP hD hS
  · have e0 := h4 w0
    refine lv_aload_n hx hb d_w_2007 rfl (lv_at hl 4 rfl) ?_
    refine lv_iconst (v := 0) hx hb d_w_2008 (by decide) ?_
    refine ldL (k := 0) C hP X'.length lw_o (vp_of (by decide) (by decide)) rfl d_w_2009 ?_
    rw [e0]
    refine lv_iload hx hb d_w_2010 (lv_at hl 0 rfl) ?_
    refine lv_i2l (v := v.toInt64) hx hb d_w_2012 rfl ?_
    refine W.lcmp hx hb d_w_2013 ?_
    rw [lg_cmp_self]
    refine lv_if_eq (tgt := 2019) hx hb d_w_2014 (by decide) (fun _ => ?_) (fun w => absurd rfl w)
    refine lv_goto (tgt := 2239) hx hb d_w_2019 (by decide) ?_
    exact kk X' M' fo' fd H locs ls h5 (lv_sub hl [2, 3, 4, 5, 6, 7] rfl) hP hD hS
end
end TZF6
