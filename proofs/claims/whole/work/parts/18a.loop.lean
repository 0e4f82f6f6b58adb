section TZG
/-! ===== the law's loop ===== -/
section
variable {p : Program} {l : Launch} {e : Env} {R : Room} {s : State} {m : MethodId} {args : Array Value} {below : List Frame} {meth : Method} {c : Code} {H : Heap} {locs : List Loc} {cells slots : Nat} {Q : State → Prop} {g : GX} {ls : Array Slot} {A : Nat → Prop} {X M : va_W} {b q mo qo qd i L : Nat} {xs : Nat → Int32} {T : Int} {fo : LV} {fd : Nat → UInt64}

set_option maxRecDepth 100000 in
set_option maxHeartbeats 4000000 in
theorem law_switch (hfl : l.stackTraces = false) (C : Cx p s m args meth c A g "DecadeBridgeLaw" code ret 10) (hXW : XW s) (hX : va_X b L xs s s.heap) (hbl : b < s.heap.size) (hbA : ¬ A b) (hL : L ≤ 3072) (hi : i + 5 < L) (hT : 0 ≤ T ∧ T ≤ 200000000) (hR : PRel g T q mo X M) (hRm : 18 ≤ R.frames ∧ 746 ≤ R.locals) (hcs : cells + 1 ≤ R.cells ∧ slots + 6 ≤ R.slots) (hl : lv_has ls 10 [(5, .int (nI i)), (4, .ref qd), (3, .ref qo), (2, .ref mo), (1, .ref q), (0, .ref b)]) (hP : va_P g.1 vwCl (LW g X M qo fo qd fd) H) (hD : va_D A (LW g X M qo fo qd fd)) (hS : va_S A s.heap H locs) (kk : Cont p l e R s m args below meth c Q A g b q mo qo qd i T (cells + 1) (slots + 6)) (v : Int32) : W p l e R s m args below meth c H locs cells slots Q (F0 m 45 ls [.int v]) := by
  obtain ⟨hx, hb, hrr, hml, hown, hlk, hts, hK, hZo, hZ⟩ := id C
  by_cases h : v.toInt < 0 ∨ 48 < v.toInt
  · refine lv_tableOut (tgt := 2239) hx hb d_w_45 h (by decide) ?_
    refine W.widen (k := cells + 1) (n := slots + 6) (by omega) (by omega) ?_
    exact kk X M fo fd H locs ls (pr_T hR (by omega)) hl hP hD hS
  · obtain ⟨k, hk, rfl⟩ : ∃ k : Nat, k < 49 ∧ v = nI k := ⟨v.toInt.toNat, by omega, nzex (by omega)⟩
    match k, hk with
    | 0, _ =>
      refine lv_tableIn (off := 211) (tgt := 256) hx hb d_w_45 (by decide) (by decide) rfl (by decide) ?_
      exact case_0 hfl C hXW hX hbl hbA hL hi hT hR hRm hcs hl hP hD hS kk
    | 1, _ =>
      refine lv_tableIn (off := 284) (tgt := 329) hx hb d_w_45 (by decide) (by decide) rfl (by decide) ?_
      exact case_1 hfl C hXW hX hbl hbA hL hi hT hR hRm hcs hl hP hD hS kk
    | 2, _ =>
      refine lv_tableIn (off := 297) (tgt := 342) hx hb d_w_45 (by decide) (by decide) rfl (by decide) ?_
      exact case_2 hfl C hXW hX hbl hbA hL hi hT hR hRm hcs hl hP hD hS kk
    | 3, _ =>
      refine lv_tableIn (off := 310) (tgt := 355) hx hb d_w_45 (by decide) (by decide) rfl (by decide) ?_
      exact case_3 hfl C hXW hX hbl hbA hL hi hT hR hRm hcs hl hP hD hS kk
    | 4, _ =>
      refine lv_tableIn (off := 323) (tgt := 368) hx hb d_w_45 (by decide) (by decide) rfl (by decide) ?_
      exact case_4 hfl C hXW hX hbl hbA hL hi hT hR hRm hcs hl hP hD hS kk
    | 5, _ =>
      refine lv_tableIn (off := 379) (tgt := 424) hx hb d_w_45 (by decide) (by decide) rfl (by decide) ?_
      exact case_5 hfl C hXW hX hbl hbA hL hi hT hR hRm hcs hl hP hD hS kk
    | 6, _ =>
      refine lv_tableIn (off := 447) (tgt := 492) hx hb d_w_45 (by decide) (by decide) rfl (by decide) ?_
      exact case_6 hfl C hXW hX hbl hbA hL hi hT hR hRm hcs hl hP hD hS kk
    | 7, _ =>
      refine lv_tableIn (off := 515) (tgt := 560) hx hb d_w_45 (by decide) (by decide) rfl (by decide) ?_
      exact case_7 hfl C hXW hX hbl hbA hL hi hT hR hRm hcs hl hP hD hS kk
    | 8, _ =>
      refine lv_tableIn (off := 571) (tgt := 616) hx hb d_w_45 (by decide) (by decide) rfl (by decide) ?_
      exact case_8 hfl C hXW hX hbl hbA hL hi hT hR hRm hcs hl hP hD hS kk
    | 9, _ =>
      refine lv_tableIn (off := 655) (tgt := 700) hx hb d_w_45 (by decide) (by decide) rfl (by decide) ?_
      exact case_9 hfl C hXW hX hbl hbA hL hi hT hR hRm hcs hl hP hD hS kk
    | 10, _ =>
      refine lv_tableIn (off := 711) (tgt := 756) hx hb d_w_45 (by decide) (by decide) rfl (by decide) ?_
      exact case_10 hfl C hXW hX hbl hbA hL hi hT hR hRm hcs hl hP hD hS kk
    | 11, _ =>
      refine lv_tableIn (off := 752) (tgt := 797) hx hb d_w_45 (by decide) (by decide) rfl (by decide) ?_
      exact case_11 hfl C hXW hX hbl hbA hL hi hT hR hRm hcs hl hP hD hS kk
    | 12, _ =>
      refine lv_tableIn (off := 766) (tgt := 811) hx hb d_w_45 (by decide) (by decide) rfl (by decide) ?_
      exact case_12 hfl C hXW hX hbl hbA hL hi hT hR hRm hcs hl hP hD hS kk
    | 13, _ =>
      refine lv_tableIn (off := 780) (tgt := 825) hx hb d_w_45 (by decide) (by decide) rfl (by decide) ?_
      exact case_13 hfl C hXW hX hbl hbA hL hi hT hR hRm hcs hl hP hD hS kk
    | 14, _ =>
      refine lv_tableIn (off := 822) (tgt := 867) hx hb d_w_45 (by decide) (by decide) rfl (by decide) ?_
      exact case_14 hfl C hXW hX hbl hbA hL hi hT hR hRm hcs hl hP hD hS kk
    | 15, _ =>
      refine lv_tableIn (off := 835) (tgt := 880) hx hb d_w_45 (by decide) (by decide) rfl (by decide) ?_
      exact case_15 hfl C hXW hX hbl hbA hL hi hT hR hRm hcs hl hP hD hS kk
    | 16, _ =>
      refine lv_tableIn (off := 849) (tgt := 894) hx hb d_w_45 (by decide) (by decide) rfl (by decide) ?_
      exact case_16 hfl C hXW hX hbl hbA hL hi hT hR hRm hcs hl hP hD hS kk
    | 17, _ =>
      refine lv_tableIn (off := 874) (tgt := 919) hx hb d_w_45 (by decide) (by decide) rfl (by decide) ?_
      exact case_17 hfl C hXW hX hbl hbA hL hi hT hR hRm hcs hl hP hD hS kk
    | 18, _ =>
      refine lv_tableIn (off := 915) (tgt := 960) hx hb d_w_45 (by decide) (by decide) rfl (by decide) ?_
      exact case_18 hfl C hXW hX hbl hbA hL hi hT hR hRm hcs hl hP hD hS kk
    | 19, _ =>
      refine lv_tableIn (off := 958) (tgt := 1003) hx hb d_w_45 (by decide) (by decide) rfl (by decide) ?_
      exact case_19 hfl C hXW hX hbl hbA hL hi hT hR hRm hcs hl hP hD hS kk
    | 20, _ =>
      refine lv_tableIn (off := 1026) (tgt := 1071) hx hb d_w_45 (by decide) (by decide) rfl (by decide) ?_
      exact case_20 hfl C hXW hX hbl hbA hL hi hT hR hRm hcs hl hP hD hS kk
    | 21, _ =>
      refine lv_tableIn (off := 1109) (tgt := 1154) hx hb d_w_45 (by decide) (by decide) rfl (by decide) ?_
      exact case_21 hfl C hXW hX hbl hbA hL hi hT hR hRm hcs hl hP hD hS kk
    | 22, _ =>
      refine lv_tableIn (off := 1177) (tgt := 1222) hx hb d_w_45 (by decide) (by decide) rfl (by decide) ?_
      exact case_22 hfl C hXW hX hbl hbA hL hi hT hR hRm hcs hl hP hD hS kk
    | 23, _ =>
      refine lv_tableIn (off := 1254) (tgt := 1299) hx hb d_w_45 (by decide) (by decide) rfl (by decide) ?_
      exact case_23 hfl C hXW hX hbl hbA hL hi hT hR hRm hcs hl hP hD hS kk
    | 24, _ =>
      refine lv_tableIn (off := 1309) (tgt := 1354) hx hb d_w_45 (by decide) (by decide) rfl (by decide) ?_
      exact case_24 hfl C hXW hX hbl hbA hL hi hT hR hRm hcs hl hP hD hS kk
    | 25, _ =>
      refine lv_tableIn (off := 1322) (tgt := 1367) hx hb d_w_45 (by decide) (by decide) rfl (by decide) ?_
      exact case_25 hfl C hXW hX hbl hbA hL hi hT hR hRm hcs hl hP hD hS kk
    | 26, _ =>
      refine lv_tableIn (off := 1335) (tgt := 1380) hx hb d_w_45 (by decide) (by decide) rfl (by decide) ?_
      exact case_26 hfl C hXW hX hbl hbA hL hi hT hR hRm hcs hl hP hD hS kk
    | 27, _ =>
      refine lv_tableIn (off := 1348) (tgt := 1393) hx hb d_w_45 (by decide) (by decide) rfl (by decide) ?_
      exact case_27 hfl C hXW hX hbl hbA hL hi hT hR hRm hcs hl hP hD hS kk
    | 28, _ =>
      refine lv_tableIn (off := 1362) (tgt := 1407) hx hb d_w_45 (by decide) (by decide) rfl (by decide) ?_
      exact case_28 hfl C hXW hX hbl hbA hL hi hT hR hRm hcs hl hP hD hS kk
    | 29, _ =>
      refine lv_tableIn (off := 1375) (tgt := 1420) hx hb d_w_45 (by decide) (by decide) rfl (by decide) ?_
      exact case_29 hfl C hXW hX hbl hbA hL hi hT hR hRm hcs hl hP hD hS kk
    | 30, _ =>
      refine lv_tableIn (off := 1443) (tgt := 1488) hx hb d_w_45 (by decide) (by decide) rfl (by decide) ?_
      exact case_30 hfl C hXW hX hbl hbA hL hi hT hR hRm hcs hl hP hD hS kk
    | 31, _ =>
      refine lv_tableIn (off := 1456) (tgt := 1501) hx hb d_w_45 (by decide) (by decide) rfl (by decide) ?_
      exact case_31 hfl C hXW hX hbl hbA hL hi hT hR hRm hcs hl hP hD hS kk
    | 32, _ =>
      refine lv_tableIn (off := 1511) (tgt := 1556) hx hb d_w_45 (by decide) (by decide) rfl (by decide) ?_
      exact case_32 hfl C hXW hX hbl hbA hL hi hT hR hRm hcs hl hP hD hS kk
    | 33, _ =>
      refine lv_tableIn (off := 1578) (tgt := 1623) hx hb d_w_45 (by decide) (by decide) rfl (by decide) ?_
      exact case_33 hfl C hXW hX hbl hbA hL hi hT hR hRm hcs hl hP hD hS kk
    | 34, _ =>
      refine lv_tableIn (off := 1591) (tgt := 1636) hx hb d_w_45 (by decide) (by decide) rfl (by decide) ?_
      exact case_34 hfl C hXW hX hbl hbA hL hi hT hR hRm hcs hl hP hD hS kk
    | 35, _ =>
      refine lv_tableIn (off := 1604) (tgt := 1649) hx hb d_w_45 (by decide) (by decide) rfl (by decide) ?_
      exact case_35 hfl C hXW hX hbl hbA hL hi hT hR hRm hcs hl hP hD hS kk
    | 36, _ =>
      refine lv_tableIn (off := 1672) (tgt := 1717) hx hb d_w_45 (by decide) (by decide) rfl (by decide) ?_
      exact case_36 hfl C hXW hX hbl hbA hL hi hT hR hRm hcs hl hP hD hS kk
    | 37, _ =>
      refine lv_tableIn (off := 1728) (tgt := 1773) hx hb d_w_45 (by decide) (by decide) rfl (by decide) ?_
      exact case_37 hfl C hXW hX hbl hbA hL hi hT hR hRm hcs hl hP hD hS kk
    | 38, _ =>
      refine lv_tableIn (off := 1784) (tgt := 1829) hx hb d_w_45 (by decide) (by decide) rfl (by decide) ?_
      exact case_38 hfl C hXW hX hbl hbA hL hi hT hR hRm hcs hl hP hD hS kk
    | 39, _ =>
      refine lv_tableIn (off := 1852) (tgt := 1897) hx hb d_w_45 (by decide) (by decide) rfl (by decide) ?_
      exact case_39 hfl C hXW hX hbl hbA hL hi hT hR hRm hcs hl hP hD hS kk
    | 40, _ =>
      refine lv_tableIn (off := 1865) (tgt := 1910) hx hb d_w_45 (by decide) (by decide) rfl (by decide) ?_
      exact case_40 hfl C hXW hX hbl hbA hL hi hT hR hRm hcs hl hP hD hS kk
    | 41, _ =>
      refine lv_tableIn (off := 1921) (tgt := 1966) hx hb d_w_45 (by decide) (by decide) rfl (by decide) ?_
      exact case_41 hfl C hXW hX hbl hbA hL hi hT hR hRm hcs hl hP hD hS kk
    | 42, _ =>
      refine lv_tableIn (off := 1977) (tgt := 2022) hx hb d_w_45 (by decide) (by decide) rfl (by decide) ?_
      exact case_42 hfl C hXW hX hbl hbA hL hi hT hR hRm hcs hl hP hD hS kk
    | 43, _ =>
      refine lv_tableIn (off := 1990) (tgt := 2035) hx hb d_w_45 (by decide) (by decide) rfl (by decide) ?_
      exact case_43 hfl C hXW hX hbl hbA hL hi hT hR hRm hcs hl hP hD hS kk
    | 44, _ =>
      refine lv_tableIn (off := 2031) (tgt := 2076) hx hb d_w_45 (by decide) (by decide) rfl (by decide) ?_
      exact case_44 hfl C hXW hX hbl hbA hL hi hT hR hRm hcs hl hP hD hS kk
    | 45, _ =>
      refine lv_tableIn (off := 2044) (tgt := 2089) hx hb d_w_45 (by decide) (by decide) rfl (by decide) ?_
      exact case_45 hfl C hXW hX hbl hbA hL hi hT hR hRm hcs hl hP hD hS kk
    | 46, _ =>
      refine lv_tableIn (off := 2069) (tgt := 2114) hx hb d_w_45 (by decide) (by decide) rfl (by decide) ?_
      exact case_46 hfl C hXW hX hbl hbA hL hi hT hR hRm hcs hl hP hD hS kk
    | 47, _ =>
      refine lv_tableIn (off := 2082) (tgt := 2127) hx hb d_w_45 (by decide) (by decide) rfl (by decide) ?_
      exact case_47 hfl C hXW hX hbl hbA hL hi hT hR hRm hcs hl hP hD hS kk
    | 48, _ =>
      refine lv_tableIn (off := 2138) (tgt := 2183) hx hb d_w_45 (by decide) (by decide) rfl (by decide) ?_
      exact case_48 hfl C hXW hX hbl hbA hL hi hT hR hRm hcs hl hP hD hS kk
    | k + 49, hk => exact absurd hk (by omega)
set_option maxHeartbeats 4000000 in
theorem law_loop (hfl : l.stackTraces = false) (C : Cx p s m args meth c A g "DecadeBridgeLaw" code ret 10) (hXW : XW s) (hX : va_X b L xs s s.heap) (hbl : b < s.heap.size) (hbA : ¬ A b) (hL : L ≤ 3072) (hRm : 18 ≤ R.frames ∧ 746 ≤ R.locals) {cT sT : Nat} (hcT : cT ≤ R.cells) (hsT : sT ≤ R.slots)
    (kk : ∀ (H1 : Heap) (locs1 : List Loc) (ls1 : Array Slot), va_S A s.heap H1 locs1 → W p l e R s m args below meth c H1 locs1 cT sT Q (F0 m 2245 ls1 [])) :
    ∀ (n i : Nat) (T : Int) (X M : va_W) (fo : LV) (fd : Nat → UInt64) (H : Heap) (locs : List Loc) (ls : Array Slot) (cells slots : Nat), L < i + 6 * n + 6 → i ≤ 3072 → 0 ≤ T ∧ T + 9000 * n ≤ 200000000 → cells + n ≤ cT → slots + 6 * n ≤ sT → PRel g T q mo X M → lv_has ls 10 [(5, .int (nI i)), (4, .ref qd), (3, .ref qo), (2, .ref mo), (1, .ref q), (0, .ref b)] → va_P g.1 vwCl (LW g X M qo fo qd fd) H → va_D A (LW g X M qo fo qd fd) → va_S A s.heap H locs → W p l e R s m args below meth c H locs cells slots Q (F0 m 28 ls []) := by
  obtain ⟨hx, hb, hrr, hml, hown, hlk, hts, hK, hZo, hZ⟩ := id C
  intro n
  induction n with
  | zero =>
    intro i T X M fo fd H locs ls cells slots hi hi2 hT hc hs hR hl hP hD hS
    refine lv_iload hx hb d_w_28 (lv_at hl 0 rfl) ?_
    refine lv_aload_n hx hb d_w_30 rfl (lv_at hl 5 rfl) ?_
    refine va_slen hx hb hX hbl hbA hS d_w_31 ?_
    refine lv_bipush (v := 6) hx hb d_w_32 (by decide) ?_
    refine lv_isub hx hb d_w_34 ?_
    have eL : (Int32.ofNat L - 6).toInt = (L : Int) - 6 := by
      have h1 : (Int32.ofNat L).toInt = (L : Int) := nIz (by omega)
      rw [Kit.i32_sub (by rw [h1]; show -2147483648 ≤ (L : Int) - 6; omega) (by rw [h1]; show (L : Int) - 6 < 2147483648; omega), h1]
      rfl
    have e5 : (nI i).toInt = (i : Int) := nIz (by omega)
    refine lv_icmp_gt (tgt := 2245) hx hb d_w_35 (by decide) (fun c4 => ?_) (fun c4 => absurd (Int32.lt_iff_toInt_lt.mpr (by rw [eL, e5]; omega)) c4)
    refine W.widen (k := cT) (n := sT) (by omega) (by omega) ?_
    exact kk H locs ls hS
  | succ n ih =>
    intro i T X M fo fd H locs ls cells slots hi hi2 hT hc hs hR hl hP hD hS
    refine lv_iload hx hb d_w_28 (lv_at hl 0 rfl) ?_
    refine lv_aload_n hx hb d_w_30 rfl (lv_at hl 5 rfl) ?_
    refine va_slen hx hb hX hbl hbA hS d_w_31 ?_
    refine lv_bipush (v := 6) hx hb d_w_32 (by decide) ?_
    refine lv_isub hx hb d_w_34 ?_
    have eL : (Int32.ofNat L - 6).toInt = (L : Int) - 6 := by
      have h1 : (Int32.ofNat L).toInt = (L : Int) := nIz (by omega)
      rw [Kit.i32_sub (by rw [h1]; show -2147483648 ≤ (L : Int) - 6; omega) (by rw [h1]; show (L : Int) - 6 < 2147483648; omega), h1]
      rfl
    have e5 : (nI i).toInt = (i : Int) := nIz (by omega)
    refine lv_icmp_gt (tgt := 2245) hx hb d_w_35 (by decide) (fun c4 => ?_) (fun c4 => ?_)
    · refine W.widen (k := cT) (n := sT) (by omega) (by omega) ?_
      exact kk H locs ls hS
    · have hlt : i + 5 < L := by
        have := mt Int32.lt_iff_toInt_lt.mpr c4
        rw [eL, e5] at this
        omega
      refine lv_aload_n hx hb d_w_38 rfl (lv_at hl 5 rfl) ?_
      refine lv_iload hx hb d_w_39 (lv_at hl 0 rfl) ?_
      refine va_sld hx hb hX hbl hbA hS (vp_nI (by omega) (by omega)) d_w_41 ?_
      refine lv_bipush (v := 63) hx hb d_w_42 (by decide) ?_
      refine lv_iand hx hb d_w_44 ?_
      refine law_switch hfl C hXW hX hbl hbA hL hlt ⟨hT.1, by omega⟩ hR hRm ⟨by omega, by omega⟩ hl hP hD hS (fun X' M' fo' fd' H1 locs1 ls1 hR1 hl1 hP1 hD1 hS1 => ?_) _
      refine lv_iinc (v := nI (i + 6)) (lv' := [(5, .int (nI (i + 6))), (4, .ref qd), (3, .ref qo), (2, .ref mo), (1, .ref q), (0, .ref b)]) hx hb d_w_2239 hl1 (k := 0) rfl (nzadd i 6 (by omega)) (by decide) rfl (fun ls2 hl2 => ?_)
      refine lv_goto (tgt := 28) hx hb d_w_2242 (by decide) ?_
      exact ih (i + 6) (T + 9000) X' M' fo' fd' H1 locs1 ls2 (cells + 1) (slots + 6) (by omega) (by omega) ⟨by omega, by omega⟩ (by omega) (by omega) hR1 hl2 hP1 hD1 hS1
end
end TZG
