section TXD
/-! ===== the law's wrappers ===== -/
abbrev rm_La : Room := { frames := 8, cells := 1, slots := 6, locals := 180 }

theorem kLI_tb : Cond.classLink "DecadeBridgeLaw" 19 nIOB ∈ TB := tb_all (List.mem_of_getElem? (i := 1311) (by decide +kernel)) rfl
theorem kLA_tb : Cond.classLink "DecadeBridgeLaw" 13 nIAE ∈ TB := tb_all (List.mem_of_getElem? (i := 1237) (by decide +kernel)) rfl
theorem xcI : Cond.castable nIOB nIOB ∈ xws := by unfold xws; simp
theorem xcA : Cond.castable nIAE nIAE ∈ xws := by unfold xws; simp

theorem d_La_size_0 : decode b_La_size 0 = .ok (.aload_n 2, 1) := by decide +kernel
theorem d_La_size_1 : decode b_La_size 1 = .ok (.iconst 0, 1) := by decide +kernel
theorem d_La_size_2 : decode b_La_size 2 = .ok (.aload_n 0, 1) := by decide +kernel
theorem d_La_size_3 : decode b_La_size 3 = .ok (.iload_n 1, 1) := by decide +kernel
theorem d_La_size_4 : decode b_La_size 4 = .ok (.invokevirtual 7, 3) := by decide +kernel
theorem d_La_size_7 : decode b_La_size 7 = .ok (.i2l, 1) := by decide +kernel
theorem d_La_size_8 : decode b_La_size 8 = .ok (.lastore, 1) := by decide +kernel
theorem d_La_size_9 : decode b_La_size 9 = .ok (.goto 6, 3) := by decide +kernel
theorem d_La_size_12 : decode b_La_size 12 = .ok (.astore_n 3, 1) := by decide +kernel
theorem d_La_size_13 : decode b_La_size 13 = .ok (.iconst 1, 1) := by decide +kernel
theorem d_La_size_14 : decode b_La_size 14 = .ok (.ireturn, 1) := by decide +kernel
theorem d_La_size_15 : decode b_La_size 15 = .ok (.iconst 0, 1) := by decide +kernel
theorem d_La_size_16 : decode b_La_size 16 = .ok (.ireturn, 1) := by decide +kernel
theorem w_La_size (l : Launch) (g : GX) {α : Type} {vf : α → Option Value} {wf : α → va_W} {z : α} {wx : va_W} {qdb qo ci N : Nat} {Tt : u_T} {fs : List Value} {fo : LV} {p1 : Int32} {v : Int32} (hM : Met l y_Db_size (wsY y_Db_size b_Db_size 2 (some .int)) rm_Db_size (CP g [.ref qdb, .int p1] wx) (CQ g (inW wx) vf wf z) 0 0 (inW wx)) (hv : vf z = some (.int v)) (had : (wf z).map Prod.fst = wx.map Prod.fst) (hrec : wx[0]? = some (qdb, .inr (ci, fs))) (hcl : vwCl[ci]? = some ("DecadeBridge", Tt, N)) : WMet l y_La_size b_La_size 4 [(0, 9, 12, 13)] rm_La g [.ref qdb, .int p1, .ref qo] (wx ++ [(qo, aL g 1 fo)]) (wf z ++ [(qo, aL g 1 (vp_updL fo 0 v.toInt64))]) 0 := by
  refine ofWW rfl (fun p e s m args below meth c ha C hX htab hP hD hS => ?_)
  subst ha
  obtain ⟨hx, hb, hr, hml, hown, hlk, hts, hK, hZo, hZ⟩ := id C
  refine entryW (lv := [(0, .ref qdb), (1, .int p1), (2, .ref qo)]) rfl (Nat.le_of_ble_eq_true rfl) (fun ls hl => ?_)
  refine lv_aload_n hx hb d_La_size_0 rfl (lv_at hl 2 rfl) ?_
  refine lv_iconst (v := 0) hx hb d_La_size_1 (by decide) ?_
  refine lv_aload_n hx hb d_La_size_2 rfl (lv_at hl 0 rfl) ?_
  refine lv_iload_n hx hb d_La_size_3 rfl (lv_at hl 1 rfl) ?_
  refine wcall C mf_Db_size qm_La_7 hM rfl rfl ⟨Nat.le_of_ble_eq_true rfl, Nat.le_of_ble_eq_true rfl⟩ ⟨Nat.le_of_ble_eq_true rfl, Nat.le_of_ble_eq_true rfl⟩ hP hD hS had hrec hcl hl rfl rfl (Nat.le_of_ble_eq_true rfl) d_La_size_4 (fun H locs hP hD hS => ?_)
  rw [hv]
  refine lv_i2l (x := v) hx hb d_La_size_7 rfl ?_
  refine stOut C hP hD hS d_La_size_8 (fun H locs hP hD hS => ?_)
  refine lv_goto (tgt := 15) hx hb d_La_size_9 (by decide) ?_
  refine lv_iconst (v := 0) hx hb d_La_size_15 (by decide) ?_
  refine W.widen (k := 1) (n := 6) (Nat.le_of_ble_eq_true rfl) (Nat.le_of_ble_eq_true rfl) ?_
  exact endW C hP hS d_La_size_16

theorem x_La_size_1 (l : Launch) (g : GX) {wx : va_W} {qdb qo ci N : Nat} {Tt : u_T} {fs : List Value} {fo : LV} {p1 : Int32} {wx1 : va_W} (hM : TMet l y_Db_size b_Db_size 2 (some .int) rt_m g [.ref qdb, .int p1] wx wx1 nIAE) (had : wx1.map Prod.fst = wx.map Prod.fst) (hrec : wx[0]? = some (qdb, .inr (ci, fs))) (hcl : vwCl[ci]? = some ("DecadeBridge", Tt, N)) : WMet l y_La_size b_La_size 4 [(0, 9, 12, 13)] rm_La g [.ref qdb, .int p1, .ref qo] (wx ++ [(qo, aL g 1 fo)]) (wx1 ++ [(qo, aL g 1 fo)]) 1 := by
  refine ofWW rfl (fun p e s m args below meth c ha C hX htab hP hD hS => ?_)
  subst ha
  obtain ⟨hx, hb, hr, hml, hown, hlk, hts, hK, hZo, hZ⟩ := id C
  refine entryW (lv := [(0, .ref qdb), (1, .int p1), (2, .ref qo)]) rfl (Nat.le_of_ble_eq_true rfl) (fun ls hl => ?_)
  refine lv_aload_n hx hb d_La_size_0 rfl (lv_at hl 2 rfl) ?_
  refine lv_iconst (v := 0) hx hb d_La_size_1 (by decide) ?_
  refine lv_aload_n hx hb d_La_size_2 rfl (lv_at hl 0 rfl) ?_
  refine lv_iload_n hx hb d_La_size_3 rfl (lv_at hl 1 rfl) ?_
  refine wcatch C hX htab mf_Db_size qm_La_7 hM rfl rfl ⟨Nat.le_of_ble_eq_true rfl, Nat.le_of_ble_eq_true rfl⟩ ⟨Nat.le_of_ble_eq_true rfl, Nat.le_of_ble_eq_true rfl⟩ hP hD hS had hrec hcl hl rfl rfl (Nat.le_of_ble_eq_true rfl) d_La_size_4 [] ⟨0, 9, 12, 13⟩ [] rfl (fun z hz => nomatch hz) (by decide) (by decide) kLA_tb xcA (fun q H locs hP hD hS => ?_)
  refine lv_astore_n (lv' := [(3, .ref q), (0, .ref qdb), (1, .int p1), (2, .ref qo)]) hx hb d_La_size_12 rfl hl (by decide) rfl (fun ls hl => ?_)
  refine lv_iconst (v := 1) hx hb d_La_size_13 (by decide) ?_
  exact endW C hP hS d_La_size_14

theorem d_La_ratio_0 : decode b_La_ratio 0 = .ok (.aload_n 3, 1) := by decide +kernel
theorem d_La_ratio_1 : decode b_La_ratio 1 = .ok (.iconst 0, 1) := by decide +kernel
theorem d_La_ratio_2 : decode b_La_ratio 2 = .ok (.aload_n 0, 1) := by decide +kernel
theorem d_La_ratio_3 : decode b_La_ratio 3 = .ok (.iload_n 1, 1) := by decide +kernel
theorem d_La_ratio_4 : decode b_La_ratio 4 = .ok (.iload_n 2, 1) := by decide +kernel
theorem d_La_ratio_5 : decode b_La_ratio 5 = .ok (.invokevirtual 15, 3) := by decide +kernel
theorem d_La_ratio_8 : decode b_La_ratio 8 = .ok (.i2l, 1) := by decide +kernel
theorem d_La_ratio_9 : decode b_La_ratio 9 = .ok (.lastore, 1) := by decide +kernel
theorem d_La_ratio_10 : decode b_La_ratio 10 = .ok (.goto 11, 3) := by decide +kernel
theorem d_La_ratio_13 : decode b_La_ratio 13 = .ok (.astore 4, 2) := by decide +kernel
theorem d_La_ratio_15 : decode b_La_ratio 15 = .ok (.iconst 1, 1) := by decide +kernel
theorem d_La_ratio_16 : decode b_La_ratio 16 = .ok (.ireturn, 1) := by decide +kernel
theorem d_La_ratio_17 : decode b_La_ratio 17 = .ok (.astore 4, 2) := by decide +kernel
theorem d_La_ratio_19 : decode b_La_ratio 19 = .ok (.iconst 2, 1) := by decide +kernel
theorem d_La_ratio_20 : decode b_La_ratio 20 = .ok (.ireturn, 1) := by decide +kernel
theorem d_La_ratio_21 : decode b_La_ratio 21 = .ok (.iconst 0, 1) := by decide +kernel
theorem d_La_ratio_22 : decode b_La_ratio 22 = .ok (.ireturn, 1) := by decide +kernel
theorem w_La_ratio (l : Launch) (g : GX) {α : Type} {vf : α → Option Value} {wf : α → va_W} {z : α} {wx : va_W} {qdb qo ci N : Nat} {Tt : u_T} {fs : List Value} {fo : LV} {p1 p2 : Int32} {v : Int32} (hM : Met l y_Db_ratio (wsY y_Db_ratio b_Db_ratio 3 (some .int)) rm_Db_ratio (CP g [.ref qdb, .int p1, .int p2] wx) (CQ g (inW wx) vf wf z) 0 0 (inW wx)) (hv : vf z = some (.int v)) (had : (wf z).map Prod.fst = wx.map Prod.fst) (hrec : wx[0]? = some (qdb, .inr (ci, fs))) (hcl : vwCl[ci]? = some ("DecadeBridge", Tt, N)) : WMet l y_La_ratio b_La_ratio 5 [(0, 10, 13, 19), (0, 10, 17, 13)] rm_La g [.ref qdb, .int p1, .int p2, .ref qo] (wx ++ [(qo, aL g 1 fo)]) (wf z ++ [(qo, aL g 1 (vp_updL fo 0 v.toInt64))]) 0 := by
  refine ofWW rfl (fun p e s m args below meth c ha C hX htab hP hD hS => ?_)
  subst ha
  obtain ⟨hx, hb, hr, hml, hown, hlk, hts, hK, hZo, hZ⟩ := id C
  refine entryW (lv := [(0, .ref qdb), (1, .int p1), (2, .int p2), (3, .ref qo)]) rfl (Nat.le_of_ble_eq_true rfl) (fun ls hl => ?_)
  refine lv_aload_n hx hb d_La_ratio_0 rfl (lv_at hl 3 rfl) ?_
  refine lv_iconst (v := 0) hx hb d_La_ratio_1 (by decide) ?_
  refine lv_aload_n hx hb d_La_ratio_2 rfl (lv_at hl 0 rfl) ?_
  refine lv_iload_n hx hb d_La_ratio_3 rfl (lv_at hl 1 rfl) ?_
  refine lv_iload_n hx hb d_La_ratio_4 rfl (lv_at hl 2 rfl) ?_
  refine wcall C mf_Db_ratio qm_La_15 hM rfl rfl ⟨Nat.le_of_ble_eq_true rfl, Nat.le_of_ble_eq_true rfl⟩ ⟨Nat.le_of_ble_eq_true rfl, Nat.le_of_ble_eq_true rfl⟩ hP hD hS had hrec hcl hl rfl rfl (Nat.le_of_ble_eq_true rfl) d_La_ratio_5 (fun H locs hP hD hS => ?_)
  rw [hv]
  refine lv_i2l (x := v) hx hb d_La_ratio_8 rfl ?_
  refine stOut C hP hD hS d_La_ratio_9 (fun H locs hP hD hS => ?_)
  refine lv_goto (tgt := 21) hx hb d_La_ratio_10 (by decide) ?_
  refine lv_iconst (v := 0) hx hb d_La_ratio_21 (by decide) ?_
  refine W.widen (k := 1) (n := 6) (Nat.le_of_ble_eq_true rfl) (Nat.le_of_ble_eq_true rfl) ?_
  exact endW C hP hS d_La_ratio_22

theorem x_La_ratio_1 (l : Launch) (g : GX) {wx : va_W} {qdb qo ci N : Nat} {Tt : u_T} {fs : List Value} {fo : LV} {p1 p2 : Int32} {wx1 : va_W} (hM : TMet l y_Db_ratio b_Db_ratio 3 (some .int) rt_m g [.ref qdb, .int p1, .int p2] wx wx1 nIOB) (had : wx1.map Prod.fst = wx.map Prod.fst) (hrec : wx[0]? = some (qdb, .inr (ci, fs))) (hcl : vwCl[ci]? = some ("DecadeBridge", Tt, N)) : WMet l y_La_ratio b_La_ratio 5 [(0, 10, 13, 19), (0, 10, 17, 13)] rm_La g [.ref qdb, .int p1, .int p2, .ref qo] (wx ++ [(qo, aL g 1 fo)]) (wx1 ++ [(qo, aL g 1 fo)]) 1 := by
  refine ofWW rfl (fun p e s m args below meth c ha C hX htab hP hD hS => ?_)
  subst ha
  obtain ⟨hx, hb, hr, hml, hown, hlk, hts, hK, hZo, hZ⟩ := id C
  refine entryW (lv := [(0, .ref qdb), (1, .int p1), (2, .int p2), (3, .ref qo)]) rfl (Nat.le_of_ble_eq_true rfl) (fun ls hl => ?_)
  refine lv_aload_n hx hb d_La_ratio_0 rfl (lv_at hl 3 rfl) ?_
  refine lv_iconst (v := 0) hx hb d_La_ratio_1 (by decide) ?_
  refine lv_aload_n hx hb d_La_ratio_2 rfl (lv_at hl 0 rfl) ?_
  refine lv_iload_n hx hb d_La_ratio_3 rfl (lv_at hl 1 rfl) ?_
  refine lv_iload_n hx hb d_La_ratio_4 rfl (lv_at hl 2 rfl) ?_
  refine wcatch C hX htab mf_Db_ratio qm_La_15 hM rfl rfl ⟨Nat.le_of_ble_eq_true rfl, Nat.le_of_ble_eq_true rfl⟩ ⟨Nat.le_of_ble_eq_true rfl, Nat.le_of_ble_eq_true rfl⟩ hP hD hS had hrec hcl hl rfl rfl (Nat.le_of_ble_eq_true rfl) d_La_ratio_5 [] ⟨0, 10, 13, 19⟩ [⟨0, 10, 17, 13⟩] rfl (fun z hz => nomatch hz) (by decide) (by decide) kLI_tb xcI (fun q H locs hP hD hS => ?_)
  refine lv_astore (lv' := [(4, .ref q), (0, .ref qdb), (1, .int p1), (2, .int p2), (3, .ref qo)]) hx hb d_La_ratio_13 hl (by decide) rfl (fun ls hl => ?_)
  refine lv_iconst (v := 1) hx hb d_La_ratio_15 (by decide) ?_
  exact endW C hP hS d_La_ratio_16

theorem x_La_ratio_2 (l : Launch) (g : GX) {wx : va_W} {qdb qo ci N : Nat} {Tt : u_T} {fs : List Value} {fo : LV} {p1 p2 : Int32} {wx1 : va_W} (hM : TMet l y_Db_ratio b_Db_ratio 3 (some .int) rt_m g [.ref qdb, .int p1, .int p2] wx wx1 nIAE) (had : wx1.map Prod.fst = wx.map Prod.fst) (hrec : wx[0]? = some (qdb, .inr (ci, fs))) (hcl : vwCl[ci]? = some ("DecadeBridge", Tt, N)) : WMet l y_La_ratio b_La_ratio 5 [(0, 10, 13, 19), (0, 10, 17, 13)] rm_La g [.ref qdb, .int p1, .int p2, .ref qo] (wx ++ [(qo, aL g 1 fo)]) (wx1 ++ [(qo, aL g 1 fo)]) 2 := by
  refine ofWW rfl (fun p e s m args below meth c ha C hX htab hP hD hS => ?_)
  subst ha
  obtain ⟨hx, hb, hr, hml, hown, hlk, hts, hK, hZo, hZ⟩ := id C
  refine entryW (lv := [(0, .ref qdb), (1, .int p1), (2, .int p2), (3, .ref qo)]) rfl (Nat.le_of_ble_eq_true rfl) (fun ls hl => ?_)
  refine lv_aload_n hx hb d_La_ratio_0 rfl (lv_at hl 3 rfl) ?_
  refine lv_iconst (v := 0) hx hb d_La_ratio_1 (by decide) ?_
  refine lv_aload_n hx hb d_La_ratio_2 rfl (lv_at hl 0 rfl) ?_
  refine lv_iload_n hx hb d_La_ratio_3 rfl (lv_at hl 1 rfl) ?_
  refine lv_iload_n hx hb d_La_ratio_4 rfl (lv_at hl 2 rfl) ?_
  refine wcatch C hX htab mf_Db_ratio qm_La_15 hM rfl rfl ⟨Nat.le_of_ble_eq_true rfl, Nat.le_of_ble_eq_true rfl⟩ ⟨Nat.le_of_ble_eq_true rfl, Nat.le_of_ble_eq_true rfl⟩ hP hD hS had hrec hcl hl rfl rfl (Nat.le_of_ble_eq_true rfl) d_La_ratio_5 [⟨0, 10, 13, 19⟩] ⟨0, 10, 17, 13⟩ [] rfl (fun z hz => by
    rcases List.mem_singleton.mp hz with rfl
    exact Or.inr ⟨by decide, nIOB, hts _ kLI_tb, hX.2⟩) (by decide) (by decide) kLA_tb xcA (fun q H locs hP hD hS => ?_)
  refine lv_astore (lv' := [(4, .ref q), (0, .ref qdb), (1, .int p1), (2, .int p2), (3, .ref qo)]) hx hb d_La_ratio_17 hl (by decide) rfl (fun ls hl => ?_)
  refine lv_iconst (v := 2) hx hb d_La_ratio_19 (by decide) ?_
  exact endW C hP hS d_La_ratio_20

theorem d_La_decade_0 : decode b_La_decade 0 = .ok (.aload_n 3, 1) := by decide +kernel
theorem d_La_decade_1 : decode b_La_decade 1 = .ok (.iconst 0, 1) := by decide +kernel
theorem d_La_decade_2 : decode b_La_decade 2 = .ok (.aload_n 0, 1) := by decide +kernel
theorem d_La_decade_3 : decode b_La_decade 3 = .ok (.iload_n 1, 1) := by decide +kernel
theorem d_La_decade_4 : decode b_La_decade 4 = .ok (.iload_n 2, 1) := by decide +kernel
theorem d_La_decade_5 : decode b_La_decade 5 = .ok (.invokevirtual 21, 3) := by decide +kernel
theorem d_La_decade_8 : decode b_La_decade 8 = .ok (.i2l, 1) := by decide +kernel
theorem d_La_decade_9 : decode b_La_decade 9 = .ok (.lastore, 1) := by decide +kernel
theorem d_La_decade_10 : decode b_La_decade 10 = .ok (.goto 11, 3) := by decide +kernel
theorem d_La_decade_13 : decode b_La_decade 13 = .ok (.astore 4, 2) := by decide +kernel
theorem d_La_decade_15 : decode b_La_decade 15 = .ok (.iconst 1, 1) := by decide +kernel
theorem d_La_decade_16 : decode b_La_decade 16 = .ok (.ireturn, 1) := by decide +kernel
theorem d_La_decade_17 : decode b_La_decade 17 = .ok (.astore 4, 2) := by decide +kernel
theorem d_La_decade_19 : decode b_La_decade 19 = .ok (.iconst 2, 1) := by decide +kernel
theorem d_La_decade_20 : decode b_La_decade 20 = .ok (.ireturn, 1) := by decide +kernel
theorem d_La_decade_21 : decode b_La_decade 21 = .ok (.iconst 0, 1) := by decide +kernel
theorem d_La_decade_22 : decode b_La_decade 22 = .ok (.ireturn, 1) := by decide +kernel
theorem w_La_decade (l : Launch) (g : GX) {α : Type} {vf : α → Option Value} {wf : α → va_W} {z : α} {wx : va_W} {qdb qo ci N : Nat} {Tt : u_T} {fs : List Value} {fo : LV} {p1 p2 : Int32} {v : Int32} (hM : Met l y_Db_decade (wsY y_Db_decade b_Db_decade 3 (some .int)) rm_Db_decade (CP g [.ref qdb, .int p1, .int p2] wx) (CQ g (inW wx) vf wf z) 0 0 (inW wx)) (hv : vf z = some (.int v)) (had : (wf z).map Prod.fst = wx.map Prod.fst) (hrec : wx[0]? = some (qdb, .inr (ci, fs))) (hcl : vwCl[ci]? = some ("DecadeBridge", Tt, N)) : WMet l y_La_decade b_La_decade 5 [(0, 10, 13, 19), (0, 10, 17, 13)] rm_La g [.ref qdb, .int p1, .int p2, .ref qo] (wx ++ [(qo, aL g 1 fo)]) (wf z ++ [(qo, aL g 1 (vp_updL fo 0 v.toInt64))]) 0 := by
  refine ofWW rfl (fun p e s m args below meth c ha C hX htab hP hD hS => ?_)
  subst ha
  obtain ⟨hx, hb, hr, hml, hown, hlk, hts, hK, hZo, hZ⟩ := id C
  refine entryW (lv := [(0, .ref qdb), (1, .int p1), (2, .int p2), (3, .ref qo)]) rfl (Nat.le_of_ble_eq_true rfl) (fun ls hl => ?_)
  refine lv_aload_n hx hb d_La_decade_0 rfl (lv_at hl 3 rfl) ?_
  refine lv_iconst (v := 0) hx hb d_La_decade_1 (by decide) ?_
  refine lv_aload_n hx hb d_La_decade_2 rfl (lv_at hl 0 rfl) ?_
  refine lv_iload_n hx hb d_La_decade_3 rfl (lv_at hl 1 rfl) ?_
  refine lv_iload_n hx hb d_La_decade_4 rfl (lv_at hl 2 rfl) ?_
  refine wcall C mf_Db_decade qm_La_21 hM rfl rfl ⟨Nat.le_of_ble_eq_true rfl, Nat.le_of_ble_eq_true rfl⟩ ⟨Nat.le_of_ble_eq_true rfl, Nat.le_of_ble_eq_true rfl⟩ hP hD hS had hrec hcl hl rfl rfl (Nat.le_of_ble_eq_true rfl) d_La_decade_5 (fun H locs hP hD hS => ?_)
  rw [hv]
  refine lv_i2l (x := v) hx hb d_La_decade_8 rfl ?_
  refine stOut C hP hD hS d_La_decade_9 (fun H locs hP hD hS => ?_)
  refine lv_goto (tgt := 21) hx hb d_La_decade_10 (by decide) ?_
  refine lv_iconst (v := 0) hx hb d_La_decade_21 (by decide) ?_
  refine W.widen (k := 1) (n := 6) (Nat.le_of_ble_eq_true rfl) (Nat.le_of_ble_eq_true rfl) ?_
  exact endW C hP hS d_La_decade_22

theorem x_La_decade_1 (l : Launch) (g : GX) {wx : va_W} {qdb qo ci N : Nat} {Tt : u_T} {fs : List Value} {fo : LV} {p1 p2 : Int32} {wx1 : va_W} (hM : TMet l y_Db_decade b_Db_decade 3 (some .int) rt_m g [.ref qdb, .int p1, .int p2] wx wx1 nIOB) (had : wx1.map Prod.fst = wx.map Prod.fst) (hrec : wx[0]? = some (qdb, .inr (ci, fs))) (hcl : vwCl[ci]? = some ("DecadeBridge", Tt, N)) : WMet l y_La_decade b_La_decade 5 [(0, 10, 13, 19), (0, 10, 17, 13)] rm_La g [.ref qdb, .int p1, .int p2, .ref qo] (wx ++ [(qo, aL g 1 fo)]) (wx1 ++ [(qo, aL g 1 fo)]) 1 := by
  refine ofWW rfl (fun p e s m args below meth c ha C hX htab hP hD hS => ?_)
  subst ha
  obtain ⟨hx, hb, hr, hml, hown, hlk, hts, hK, hZo, hZ⟩ := id C
  refine entryW (lv := [(0, .ref qdb), (1, .int p1), (2, .int p2), (3, .ref qo)]) rfl (Nat.le_of_ble_eq_true rfl) (fun ls hl => ?_)
  refine lv_aload_n hx hb d_La_decade_0 rfl (lv_at hl 3 rfl) ?_
  refine lv_iconst (v := 0) hx hb d_La_decade_1 (by decide) ?_
  refine lv_aload_n hx hb d_La_decade_2 rfl (lv_at hl 0 rfl) ?_
  refine lv_iload_n hx hb d_La_decade_3 rfl (lv_at hl 1 rfl) ?_
  refine lv_iload_n hx hb d_La_decade_4 rfl (lv_at hl 2 rfl) ?_
  refine wcatch C hX htab mf_Db_decade qm_La_21 hM rfl rfl ⟨Nat.le_of_ble_eq_true rfl, Nat.le_of_ble_eq_true rfl⟩ ⟨Nat.le_of_ble_eq_true rfl, Nat.le_of_ble_eq_true rfl⟩ hP hD hS had hrec hcl hl rfl rfl (Nat.le_of_ble_eq_true rfl) d_La_decade_5 [] ⟨0, 10, 13, 19⟩ [⟨0, 10, 17, 13⟩] rfl (fun z hz => nomatch hz) (by decide) (by decide) kLI_tb xcI (fun q H locs hP hD hS => ?_)
  refine lv_astore (lv' := [(4, .ref q), (0, .ref qdb), (1, .int p1), (2, .int p2), (3, .ref qo)]) hx hb d_La_decade_13 hl (by decide) rfl (fun ls hl => ?_)
  refine lv_iconst (v := 1) hx hb d_La_decade_15 (by decide) ?_
  exact endW C hP hS d_La_decade_16

theorem x_La_decade_2 (l : Launch) (g : GX) {wx : va_W} {qdb qo ci N : Nat} {Tt : u_T} {fs : List Value} {fo : LV} {p1 p2 : Int32} {wx1 : va_W} (hM : TMet l y_Db_decade b_Db_decade 3 (some .int) rt_m g [.ref qdb, .int p1, .int p2] wx wx1 nIAE) (had : wx1.map Prod.fst = wx.map Prod.fst) (hrec : wx[0]? = some (qdb, .inr (ci, fs))) (hcl : vwCl[ci]? = some ("DecadeBridge", Tt, N)) : WMet l y_La_decade b_La_decade 5 [(0, 10, 13, 19), (0, 10, 17, 13)] rm_La g [.ref qdb, .int p1, .int p2, .ref qo] (wx ++ [(qo, aL g 1 fo)]) (wx1 ++ [(qo, aL g 1 fo)]) 2 := by
  refine ofWW rfl (fun p e s m args below meth c ha C hX htab hP hD hS => ?_)
  subst ha
  obtain ⟨hx, hb, hr, hml, hown, hlk, hts, hK, hZo, hZ⟩ := id C
  refine entryW (lv := [(0, .ref qdb), (1, .int p1), (2, .int p2), (3, .ref qo)]) rfl (Nat.le_of_ble_eq_true rfl) (fun ls hl => ?_)
  refine lv_aload_n hx hb d_La_decade_0 rfl (lv_at hl 3 rfl) ?_
  refine lv_iconst (v := 0) hx hb d_La_decade_1 (by decide) ?_
  refine lv_aload_n hx hb d_La_decade_2 rfl (lv_at hl 0 rfl) ?_
  refine lv_iload_n hx hb d_La_decade_3 rfl (lv_at hl 1 rfl) ?_
  refine lv_iload_n hx hb d_La_decade_4 rfl (lv_at hl 2 rfl) ?_
  refine wcatch C hX htab mf_Db_decade qm_La_21 hM rfl rfl ⟨Nat.le_of_ble_eq_true rfl, Nat.le_of_ble_eq_true rfl⟩ ⟨Nat.le_of_ble_eq_true rfl, Nat.le_of_ble_eq_true rfl⟩ hP hD hS had hrec hcl hl rfl rfl (Nat.le_of_ble_eq_true rfl) d_La_decade_5 [⟨0, 10, 13, 19⟩] ⟨0, 10, 17, 13⟩ [] rfl (fun z hz => by
    rcases List.mem_singleton.mp hz with rfl
    exact Or.inr ⟨by decide, nIOB, hts _ kLI_tb, hX.2⟩) (by decide) (by decide) kLA_tb xcA (fun q H locs hP hD hS => ?_)
  refine lv_astore (lv' := [(4, .ref q), (0, .ref qdb), (1, .int p1), (2, .int p2), (3, .ref qo)]) hx hb d_La_decade_17 hl (by decide) rfl (fun ls hl => ?_)
  refine lv_iconst (v := 2) hx hb d_La_decade_19 (by decide) ?_
  exact endW C hP hS d_La_decade_20

theorem d_La_lead_0 : decode b_La_lead 0 = .ok (.aload_n 2, 1) := by decide +kernel
theorem d_La_lead_1 : decode b_La_lead 1 = .ok (.iconst 0, 1) := by decide +kernel
theorem d_La_lead_2 : decode b_La_lead 2 = .ok (.aload_n 0, 1) := by decide +kernel
theorem d_La_lead_3 : decode b_La_lead 3 = .ok (.iload_n 1, 1) := by decide +kernel
theorem d_La_lead_4 : decode b_La_lead 4 = .ok (.invokevirtual 24, 3) := by decide +kernel
theorem d_La_lead_7 : decode b_La_lead 7 = .ok (.i2l, 1) := by decide +kernel
theorem d_La_lead_8 : decode b_La_lead 8 = .ok (.lastore, 1) := by decide +kernel
theorem d_La_lead_9 : decode b_La_lead 9 = .ok (.goto 6, 3) := by decide +kernel
theorem d_La_lead_12 : decode b_La_lead 12 = .ok (.astore_n 3, 1) := by decide +kernel
theorem d_La_lead_13 : decode b_La_lead 13 = .ok (.iconst 1, 1) := by decide +kernel
theorem d_La_lead_14 : decode b_La_lead 14 = .ok (.ireturn, 1) := by decide +kernel
theorem d_La_lead_15 : decode b_La_lead 15 = .ok (.iconst 0, 1) := by decide +kernel
theorem d_La_lead_16 : decode b_La_lead 16 = .ok (.ireturn, 1) := by decide +kernel
theorem w_La_lead (l : Launch) (g : GX) {α : Type} {vf : α → Option Value} {wf : α → va_W} {z : α} {wx : va_W} {qdb qo ci N : Nat} {Tt : u_T} {fs : List Value} {fo : LV} {p1 : Int32} {v : Int32} (hM : Met l y_Db_lead (wsY y_Db_lead b_Db_lead 2 (some .int)) rm_Db_lead (CP g [.ref qdb, .int p1] wx) (CQ g (inW wx) vf wf z) 0 0 (inW wx)) (hv : vf z = some (.int v)) (had : (wf z).map Prod.fst = wx.map Prod.fst) (hrec : wx[0]? = some (qdb, .inr (ci, fs))) (hcl : vwCl[ci]? = some ("DecadeBridge", Tt, N)) : WMet l y_La_lead b_La_lead 4 [(0, 9, 12, 19)] rm_La g [.ref qdb, .int p1, .ref qo] (wx ++ [(qo, aL g 1 fo)]) (wf z ++ [(qo, aL g 1 (vp_updL fo 0 v.toInt64))]) 0 := by
  refine ofWW rfl (fun p e s m args below meth c ha C hX htab hP hD hS => ?_)
  subst ha
  obtain ⟨hx, hb, hr, hml, hown, hlk, hts, hK, hZo, hZ⟩ := id C
  refine entryW (lv := [(0, .ref qdb), (1, .int p1), (2, .ref qo)]) rfl (Nat.le_of_ble_eq_true rfl) (fun ls hl => ?_)
  refine lv_aload_n hx hb d_La_lead_0 rfl (lv_at hl 2 rfl) ?_
  refine lv_iconst (v := 0) hx hb d_La_lead_1 (by decide) ?_
  refine lv_aload_n hx hb d_La_lead_2 rfl (lv_at hl 0 rfl) ?_
  refine lv_iload_n hx hb d_La_lead_3 rfl (lv_at hl 1 rfl) ?_
  refine wcall C mf_Db_lead qm_La_24 hM rfl rfl ⟨Nat.le_of_ble_eq_true rfl, Nat.le_of_ble_eq_true rfl⟩ ⟨Nat.le_of_ble_eq_true rfl, Nat.le_of_ble_eq_true rfl⟩ hP hD hS had hrec hcl hl rfl rfl (Nat.le_of_ble_eq_true rfl) d_La_lead_4 (fun H locs hP hD hS => ?_)
  rw [hv]
  refine lv_i2l (x := v) hx hb d_La_lead_7 rfl ?_
  refine stOut C hP hD hS d_La_lead_8 (fun H locs hP hD hS => ?_)
  refine lv_goto (tgt := 15) hx hb d_La_lead_9 (by decide) ?_
  refine lv_iconst (v := 0) hx hb d_La_lead_15 (by decide) ?_
  refine W.widen (k := 1) (n := 6) (Nat.le_of_ble_eq_true rfl) (Nat.le_of_ble_eq_true rfl) ?_
  exact endW C hP hS d_La_lead_16

theorem x_La_lead_1 (l : Launch) (g : GX) {wx : va_W} {qdb qo ci N : Nat} {Tt : u_T} {fs : List Value} {fo : LV} {p1 : Int32} {wx1 : va_W} (hM : TMet l y_Db_lead b_Db_lead 2 (some .int) rt_m g [.ref qdb, .int p1] wx wx1 nIOB) (had : wx1.map Prod.fst = wx.map Prod.fst) (hrec : wx[0]? = some (qdb, .inr (ci, fs))) (hcl : vwCl[ci]? = some ("DecadeBridge", Tt, N)) : WMet l y_La_lead b_La_lead 4 [(0, 9, 12, 19)] rm_La g [.ref qdb, .int p1, .ref qo] (wx ++ [(qo, aL g 1 fo)]) (wx1 ++ [(qo, aL g 1 fo)]) 1 := by
  refine ofWW rfl (fun p e s m args below meth c ha C hX htab hP hD hS => ?_)
  subst ha
  obtain ⟨hx, hb, hr, hml, hown, hlk, hts, hK, hZo, hZ⟩ := id C
  refine entryW (lv := [(0, .ref qdb), (1, .int p1), (2, .ref qo)]) rfl (Nat.le_of_ble_eq_true rfl) (fun ls hl => ?_)
  refine lv_aload_n hx hb d_La_lead_0 rfl (lv_at hl 2 rfl) ?_
  refine lv_iconst (v := 0) hx hb d_La_lead_1 (by decide) ?_
  refine lv_aload_n hx hb d_La_lead_2 rfl (lv_at hl 0 rfl) ?_
  refine lv_iload_n hx hb d_La_lead_3 rfl (lv_at hl 1 rfl) ?_
  refine wcatch C hX htab mf_Db_lead qm_La_24 hM rfl rfl ⟨Nat.le_of_ble_eq_true rfl, Nat.le_of_ble_eq_true rfl⟩ ⟨Nat.le_of_ble_eq_true rfl, Nat.le_of_ble_eq_true rfl⟩ hP hD hS had hrec hcl hl rfl rfl (Nat.le_of_ble_eq_true rfl) d_La_lead_4 [] ⟨0, 9, 12, 19⟩ [] rfl (fun z hz => nomatch hz) (by decide) (by decide) kLI_tb xcI (fun q H locs hP hD hS => ?_)
  refine lv_astore_n (lv' := [(3, .ref q), (0, .ref qdb), (1, .int p1), (2, .ref qo)]) hx hb d_La_lead_12 rfl hl (by decide) rfl (fun ls hl => ?_)
  refine lv_iconst (v := 1) hx hb d_La_lead_13 (by decide) ?_
  exact endW C hP hS d_La_lead_14

theorem d_La_part_0 : decode b_La_part 0 = .ok (.aload_n 3, 1) := by decide +kernel
theorem d_La_part_1 : decode b_La_part 1 = .ok (.iconst 0, 1) := by decide +kernel
theorem d_La_part_2 : decode b_La_part 2 = .ok (.aload_n 0, 1) := by decide +kernel
theorem d_La_part_3 : decode b_La_part 3 = .ok (.iload_n 1, 1) := by decide +kernel
theorem d_La_part_4 : decode b_La_part 4 = .ok (.iload_n 2, 1) := by decide +kernel
theorem d_La_part_5 : decode b_La_part 5 = .ok (.invokevirtual 27, 3) := by decide +kernel
theorem d_La_part_8 : decode b_La_part 8 = .ok (.i2l, 1) := by decide +kernel
theorem d_La_part_9 : decode b_La_part 9 = .ok (.lastore, 1) := by decide +kernel
theorem d_La_part_10 : decode b_La_part 10 = .ok (.goto 7, 3) := by decide +kernel
theorem d_La_part_13 : decode b_La_part 13 = .ok (.astore 4, 2) := by decide +kernel
theorem d_La_part_15 : decode b_La_part 15 = .ok (.iconst 1, 1) := by decide +kernel
theorem d_La_part_16 : decode b_La_part 16 = .ok (.ireturn, 1) := by decide +kernel
theorem d_La_part_17 : decode b_La_part 17 = .ok (.iconst 0, 1) := by decide +kernel
theorem d_La_part_18 : decode b_La_part 18 = .ok (.ireturn, 1) := by decide +kernel
theorem w_La_part (l : Launch) (g : GX) {α : Type} {vf : α → Option Value} {wf : α → va_W} {z : α} {wx : va_W} {qdb qo ci N : Nat} {Tt : u_T} {fs : List Value} {fo : LV} {p1 p2 : Int32} {v : Int32} (hM : Met l y_Db_part (wsY y_Db_part b_Db_part 5 (some .int)) rm_Db_part (CP g [.ref qdb, .int p1, .int p2] wx) (CQ g (inW wx) vf wf z) 0 0 (inW wx)) (hv : vf z = some (.int v)) (had : (wf z).map Prod.fst = wx.map Prod.fst) (hrec : wx[0]? = some (qdb, .inr (ci, fs))) (hcl : vwCl[ci]? = some ("DecadeBridge", Tt, N)) : WMet l y_La_part b_La_part 5 [(0, 10, 13, 13)] rm_La g [.ref qdb, .int p1, .int p2, .ref qo] (wx ++ [(qo, aL g 1 fo)]) (wf z ++ [(qo, aL g 1 (vp_updL fo 0 v.toInt64))]) 0 := by
  refine ofWW rfl (fun p e s m args below meth c ha C hX htab hP hD hS => ?_)
  subst ha
  obtain ⟨hx, hb, hr, hml, hown, hlk, hts, hK, hZo, hZ⟩ := id C
  refine entryW (lv := [(0, .ref qdb), (1, .int p1), (2, .int p2), (3, .ref qo)]) rfl (Nat.le_of_ble_eq_true rfl) (fun ls hl => ?_)
  refine lv_aload_n hx hb d_La_part_0 rfl (lv_at hl 3 rfl) ?_
  refine lv_iconst (v := 0) hx hb d_La_part_1 (by decide) ?_
  refine lv_aload_n hx hb d_La_part_2 rfl (lv_at hl 0 rfl) ?_
  refine lv_iload_n hx hb d_La_part_3 rfl (lv_at hl 1 rfl) ?_
  refine lv_iload_n hx hb d_La_part_4 rfl (lv_at hl 2 rfl) ?_
  refine wcall C mf_Db_part qm_La_27 hM rfl rfl ⟨Nat.le_of_ble_eq_true rfl, Nat.le_of_ble_eq_true rfl⟩ ⟨Nat.le_of_ble_eq_true rfl, Nat.le_of_ble_eq_true rfl⟩ hP hD hS had hrec hcl hl rfl rfl (Nat.le_of_ble_eq_true rfl) d_La_part_5 (fun H locs hP hD hS => ?_)
  rw [hv]
  refine lv_i2l (x := v) hx hb d_La_part_8 rfl ?_
  refine stOut C hP hD hS d_La_part_9 (fun H locs hP hD hS => ?_)
  refine lv_goto (tgt := 17) hx hb d_La_part_10 (by decide) ?_
  refine lv_iconst (v := 0) hx hb d_La_part_17 (by decide) ?_
  refine W.widen (k := 1) (n := 6) (Nat.le_of_ble_eq_true rfl) (Nat.le_of_ble_eq_true rfl) ?_
  exact endW C hP hS d_La_part_18

theorem x_La_part_1 (l : Launch) (g : GX) {wx : va_W} {qdb qo ci N : Nat} {Tt : u_T} {fs : List Value} {fo : LV} {p1 p2 : Int32} {wx1 : va_W} (hM : TMet l y_Db_part b_Db_part 5 (some .int) rt_m g [.ref qdb, .int p1, .int p2] wx wx1 nIAE) (had : wx1.map Prod.fst = wx.map Prod.fst) (hrec : wx[0]? = some (qdb, .inr (ci, fs))) (hcl : vwCl[ci]? = some ("DecadeBridge", Tt, N)) : WMet l y_La_part b_La_part 5 [(0, 10, 13, 13)] rm_La g [.ref qdb, .int p1, .int p2, .ref qo] (wx ++ [(qo, aL g 1 fo)]) (wx1 ++ [(qo, aL g 1 fo)]) 1 := by
  refine ofWW rfl (fun p e s m args below meth c ha C hX htab hP hD hS => ?_)
  subst ha
  obtain ⟨hx, hb, hr, hml, hown, hlk, hts, hK, hZo, hZ⟩ := id C
  refine entryW (lv := [(0, .ref qdb), (1, .int p1), (2, .int p2), (3, .ref qo)]) rfl (Nat.le_of_ble_eq_true rfl) (fun ls hl => ?_)
  refine lv_aload_n hx hb d_La_part_0 rfl (lv_at hl 3 rfl) ?_
  refine lv_iconst (v := 0) hx hb d_La_part_1 (by decide) ?_
  refine lv_aload_n hx hb d_La_part_2 rfl (lv_at hl 0 rfl) ?_
  refine lv_iload_n hx hb d_La_part_3 rfl (lv_at hl 1 rfl) ?_
  refine lv_iload_n hx hb d_La_part_4 rfl (lv_at hl 2 rfl) ?_
  refine wcatch C hX htab mf_Db_part qm_La_27 hM rfl rfl ⟨Nat.le_of_ble_eq_true rfl, Nat.le_of_ble_eq_true rfl⟩ ⟨Nat.le_of_ble_eq_true rfl, Nat.le_of_ble_eq_true rfl⟩ hP hD hS had hrec hcl hl rfl rfl (Nat.le_of_ble_eq_true rfl) d_La_part_5 [] ⟨0, 10, 13, 13⟩ [] rfl (fun z hz => nomatch hz) (by decide) (by decide) kLA_tb xcA (fun q H locs hP hD hS => ?_)
  refine lv_astore (lv' := [(4, .ref q), (0, .ref qdb), (1, .int p1), (2, .int p2), (3, .ref qo)]) hx hb d_La_part_13 hl (by decide) rfl (fun ls hl => ?_)
  refine lv_iconst (v := 1) hx hb d_La_part_15 (by decide) ?_
  exact endW C hP hS d_La_part_16

theorem d_La_coldOf_0 : decode b_La_coldOf 0 = .ok (.aload_n 2, 1) := by decide +kernel
theorem d_La_coldOf_1 : decode b_La_coldOf 1 = .ok (.iconst 0, 1) := by decide +kernel
theorem d_La_coldOf_2 : decode b_La_coldOf 2 = .ok (.aload_n 0, 1) := by decide +kernel
theorem d_La_coldOf_3 : decode b_La_coldOf 3 = .ok (.iload_n 1, 1) := by decide +kernel
theorem d_La_coldOf_4 : decode b_La_coldOf 4 = .ok (.invokevirtual 31, 3) := by decide +kernel
theorem d_La_coldOf_7 : decode b_La_coldOf 7 = .ok (.i2l, 1) := by decide +kernel
theorem d_La_coldOf_8 : decode b_La_coldOf 8 = .ok (.lastore, 1) := by decide +kernel
theorem d_La_coldOf_9 : decode b_La_coldOf 9 = .ok (.goto 6, 3) := by decide +kernel
theorem d_La_coldOf_12 : decode b_La_coldOf 12 = .ok (.astore_n 3, 1) := by decide +kernel
theorem d_La_coldOf_13 : decode b_La_coldOf 13 = .ok (.iconst 1, 1) := by decide +kernel
theorem d_La_coldOf_14 : decode b_La_coldOf 14 = .ok (.ireturn, 1) := by decide +kernel
theorem d_La_coldOf_15 : decode b_La_coldOf 15 = .ok (.iconst 0, 1) := by decide +kernel
theorem d_La_coldOf_16 : decode b_La_coldOf 16 = .ok (.ireturn, 1) := by decide +kernel
theorem w_La_coldOf (l : Launch) (g : GX) {α : Type} {vf : α → Option Value} {wf : α → va_W} {z : α} {wx : va_W} {qdb qo ci N : Nat} {Tt : u_T} {fs : List Value} {fo : LV} {p1 : Int32} {v : Int32} (hM : Met l y_Db_coldOf (wsY y_Db_coldOf b_Db_coldOf 2 (some .int)) rm_Db_coldOf (CP g [.ref qdb, .int p1] wx) (CQ g (inW wx) vf wf z) 0 0 (inW wx)) (hv : vf z = some (.int v)) (had : (wf z).map Prod.fst = wx.map Prod.fst) (hrec : wx[0]? = some (qdb, .inr (ci, fs))) (hcl : vwCl[ci]? = some ("DecadeBridge", Tt, N)) : WMet l y_La_coldOf b_La_coldOf 4 [(0, 9, 12, 13)] rm_La g [.ref qdb, .int p1, .ref qo] (wx ++ [(qo, aL g 1 fo)]) (wf z ++ [(qo, aL g 1 (vp_updL fo 0 v.toInt64))]) 0 := by
  refine ofWW rfl (fun p e s m args below meth c ha C hX htab hP hD hS => ?_)
  subst ha
  obtain ⟨hx, hb, hr, hml, hown, hlk, hts, hK, hZo, hZ⟩ := id C
  refine entryW (lv := [(0, .ref qdb), (1, .int p1), (2, .ref qo)]) rfl (Nat.le_of_ble_eq_true rfl) (fun ls hl => ?_)
  refine lv_aload_n hx hb d_La_coldOf_0 rfl (lv_at hl 2 rfl) ?_
  refine lv_iconst (v := 0) hx hb d_La_coldOf_1 (by decide) ?_
  refine lv_aload_n hx hb d_La_coldOf_2 rfl (lv_at hl 0 rfl) ?_
  refine lv_iload_n hx hb d_La_coldOf_3 rfl (lv_at hl 1 rfl) ?_
  refine wcall C mf_Db_coldOf qm_La_31 hM rfl rfl ⟨Nat.le_of_ble_eq_true rfl, Nat.le_of_ble_eq_true rfl⟩ ⟨Nat.le_of_ble_eq_true rfl, Nat.le_of_ble_eq_true rfl⟩ hP hD hS had hrec hcl hl rfl rfl (Nat.le_of_ble_eq_true rfl) d_La_coldOf_4 (fun H locs hP hD hS => ?_)
  rw [hv]
  refine lv_i2l (x := v) hx hb d_La_coldOf_7 rfl ?_
  refine stOut C hP hD hS d_La_coldOf_8 (fun H locs hP hD hS => ?_)
  refine lv_goto (tgt := 15) hx hb d_La_coldOf_9 (by decide) ?_
  refine lv_iconst (v := 0) hx hb d_La_coldOf_15 (by decide) ?_
  refine W.widen (k := 1) (n := 6) (Nat.le_of_ble_eq_true rfl) (Nat.le_of_ble_eq_true rfl) ?_
  exact endW C hP hS d_La_coldOf_16

theorem x_La_coldOf_1 (l : Launch) (g : GX) {wx : va_W} {qdb qo ci N : Nat} {Tt : u_T} {fs : List Value} {fo : LV} {p1 : Int32} {wx1 : va_W} (hM : TMet l y_Db_coldOf b_Db_coldOf 2 (some .int) rt_m g [.ref qdb, .int p1] wx wx1 nIAE) (had : wx1.map Prod.fst = wx.map Prod.fst) (hrec : wx[0]? = some (qdb, .inr (ci, fs))) (hcl : vwCl[ci]? = some ("DecadeBridge", Tt, N)) : WMet l y_La_coldOf b_La_coldOf 4 [(0, 9, 12, 13)] rm_La g [.ref qdb, .int p1, .ref qo] (wx ++ [(qo, aL g 1 fo)]) (wx1 ++ [(qo, aL g 1 fo)]) 1 := by
  refine ofWW rfl (fun p e s m args below meth c ha C hX htab hP hD hS => ?_)
  subst ha
  obtain ⟨hx, hb, hr, hml, hown, hlk, hts, hK, hZo, hZ⟩ := id C
  refine entryW (lv := [(0, .ref qdb), (1, .int p1), (2, .ref qo)]) rfl (Nat.le_of_ble_eq_true rfl) (fun ls hl => ?_)
  refine lv_aload_n hx hb d_La_coldOf_0 rfl (lv_at hl 2 rfl) ?_
  refine lv_iconst (v := 0) hx hb d_La_coldOf_1 (by decide) ?_
  refine lv_aload_n hx hb d_La_coldOf_2 rfl (lv_at hl 0 rfl) ?_
  refine lv_iload_n hx hb d_La_coldOf_3 rfl (lv_at hl 1 rfl) ?_
  refine wcatch C hX htab mf_Db_coldOf qm_La_31 hM rfl rfl ⟨Nat.le_of_ble_eq_true rfl, Nat.le_of_ble_eq_true rfl⟩ ⟨Nat.le_of_ble_eq_true rfl, Nat.le_of_ble_eq_true rfl⟩ hP hD hS had hrec hcl hl rfl rfl (Nat.le_of_ble_eq_true rfl) d_La_coldOf_4 [] ⟨0, 9, 12, 13⟩ [] rfl (fun z hz => nomatch hz) (by decide) (by decide) kLA_tb xcA (fun q H locs hP hD hS => ?_)
  refine lv_astore_n (lv' := [(3, .ref q), (0, .ref qdb), (1, .int p1), (2, .ref qo)]) hx hb d_La_coldOf_12 rfl hl (by decide) rfl (fun ls hl => ?_)
  refine lv_iconst (v := 1) hx hb d_La_coldOf_13 (by decide) ?_
  exact endW C hP hS d_La_coldOf_14

theorem d_La_result_0 : decode b_La_result 0 = .ok (.aload_n 3, 1) := by decide +kernel
theorem d_La_result_1 : decode b_La_result 1 = .ok (.iconst 0, 1) := by decide +kernel
theorem d_La_result_2 : decode b_La_result 2 = .ok (.aload_n 0, 1) := by decide +kernel
theorem d_La_result_3 : decode b_La_result 3 = .ok (.iload_n 1, 1) := by decide +kernel
theorem d_La_result_4 : decode b_La_result 4 = .ok (.iload_n 2, 1) := by decide +kernel
theorem d_La_result_5 : decode b_La_result 5 = .ok (.invokevirtual 34, 3) := by decide +kernel
theorem d_La_result_8 : decode b_La_result 8 = .ok (.i2l, 1) := by decide +kernel
theorem d_La_result_9 : decode b_La_result 9 = .ok (.lastore, 1) := by decide +kernel
theorem d_La_result_10 : decode b_La_result 10 = .ok (.goto 11, 3) := by decide +kernel
theorem d_La_result_13 : decode b_La_result 13 = .ok (.astore 4, 2) := by decide +kernel
theorem d_La_result_15 : decode b_La_result 15 = .ok (.iconst 1, 1) := by decide +kernel
theorem d_La_result_16 : decode b_La_result 16 = .ok (.ireturn, 1) := by decide +kernel
theorem d_La_result_17 : decode b_La_result 17 = .ok (.astore 4, 2) := by decide +kernel
theorem d_La_result_19 : decode b_La_result 19 = .ok (.iconst 2, 1) := by decide +kernel
theorem d_La_result_20 : decode b_La_result 20 = .ok (.ireturn, 1) := by decide +kernel
theorem d_La_result_21 : decode b_La_result 21 = .ok (.iconst 0, 1) := by decide +kernel
theorem d_La_result_22 : decode b_La_result 22 = .ok (.ireturn, 1) := by decide +kernel
theorem w_La_result (l : Launch) (g : GX) {α : Type} {vf : α → Option Value} {wf : α → va_W} {z : α} {wx : va_W} {qdb qo ci N : Nat} {Tt : u_T} {fs : List Value} {fo : LV} {p1 p2 : Int32} {v : Int32} (hM : Met l y_Db_result (wsY y_Db_result b_Db_result 4 (some .int)) rm_Db_result (CP g [.ref qdb, .int p1, .int p2] wx) (CQ g (inW wx) vf wf z) 0 0 (inW wx)) (hv : vf z = some (.int v)) (had : (wf z).map Prod.fst = wx.map Prod.fst) (hrec : wx[0]? = some (qdb, .inr (ci, fs))) (hcl : vwCl[ci]? = some ("DecadeBridge", Tt, N)) : WMet l y_La_result b_La_result 5 [(0, 10, 13, 19), (0, 10, 17, 13)] rm_La g [.ref qdb, .int p1, .int p2, .ref qo] (wx ++ [(qo, aL g 1 fo)]) (wf z ++ [(qo, aL g 1 (vp_updL fo 0 v.toInt64))]) 0 := by
  refine ofWW rfl (fun p e s m args below meth c ha C hX htab hP hD hS => ?_)
  subst ha
  obtain ⟨hx, hb, hr, hml, hown, hlk, hts, hK, hZo, hZ⟩ := id C
  refine entryW (lv := [(0, .ref qdb), (1, .int p1), (2, .int p2), (3, .ref qo)]) rfl (Nat.le_of_ble_eq_true rfl) (fun ls hl => ?_)
  refine lv_aload_n hx hb d_La_result_0 rfl (lv_at hl 3 rfl) ?_
  refine lv_iconst (v := 0) hx hb d_La_result_1 (by decide) ?_
  refine lv_aload_n hx hb d_La_result_2 rfl (lv_at hl 0 rfl) ?_
  refine lv_iload_n hx hb d_La_result_3 rfl (lv_at hl 1 rfl) ?_
  refine lv_iload_n hx hb d_La_result_4 rfl (lv_at hl 2 rfl) ?_
  refine wcall C mf_Db_result qm_La_34 hM rfl rfl ⟨Nat.le_of_ble_eq_true rfl, Nat.le_of_ble_eq_true rfl⟩ ⟨Nat.le_of_ble_eq_true rfl, Nat.le_of_ble_eq_true rfl⟩ hP hD hS had hrec hcl hl rfl rfl (Nat.le_of_ble_eq_true rfl) d_La_result_5 (fun H locs hP hD hS => ?_)
  rw [hv]
  refine lv_i2l (x := v) hx hb d_La_result_8 rfl ?_
  refine stOut C hP hD hS d_La_result_9 (fun H locs hP hD hS => ?_)
  refine lv_goto (tgt := 21) hx hb d_La_result_10 (by decide) ?_
  refine lv_iconst (v := 0) hx hb d_La_result_21 (by decide) ?_
  refine W.widen (k := 1) (n := 6) (Nat.le_of_ble_eq_true rfl) (Nat.le_of_ble_eq_true rfl) ?_
  exact endW C hP hS d_La_result_22

theorem x_La_result_1 (l : Launch) (g : GX) {wx : va_W} {qdb qo ci N : Nat} {Tt : u_T} {fs : List Value} {fo : LV} {p1 p2 : Int32} {wx1 : va_W} (hM : TMet l y_Db_result b_Db_result 4 (some .int) rt_m g [.ref qdb, .int p1, .int p2] wx wx1 nIOB) (had : wx1.map Prod.fst = wx.map Prod.fst) (hrec : wx[0]? = some (qdb, .inr (ci, fs))) (hcl : vwCl[ci]? = some ("DecadeBridge", Tt, N)) : WMet l y_La_result b_La_result 5 [(0, 10, 13, 19), (0, 10, 17, 13)] rm_La g [.ref qdb, .int p1, .int p2, .ref qo] (wx ++ [(qo, aL g 1 fo)]) (wx1 ++ [(qo, aL g 1 fo)]) 1 := by
  refine ofWW rfl (fun p e s m args below meth c ha C hX htab hP hD hS => ?_)
  subst ha
  obtain ⟨hx, hb, hr, hml, hown, hlk, hts, hK, hZo, hZ⟩ := id C
  refine entryW (lv := [(0, .ref qdb), (1, .int p1), (2, .int p2), (3, .ref qo)]) rfl (Nat.le_of_ble_eq_true rfl) (fun ls hl => ?_)
  refine lv_aload_n hx hb d_La_result_0 rfl (lv_at hl 3 rfl) ?_
  refine lv_iconst (v := 0) hx hb d_La_result_1 (by decide) ?_
  refine lv_aload_n hx hb d_La_result_2 rfl (lv_at hl 0 rfl) ?_
  refine lv_iload_n hx hb d_La_result_3 rfl (lv_at hl 1 rfl) ?_
  refine lv_iload_n hx hb d_La_result_4 rfl (lv_at hl 2 rfl) ?_
  refine wcatch C hX htab mf_Db_result qm_La_34 hM rfl rfl ⟨Nat.le_of_ble_eq_true rfl, Nat.le_of_ble_eq_true rfl⟩ ⟨Nat.le_of_ble_eq_true rfl, Nat.le_of_ble_eq_true rfl⟩ hP hD hS had hrec hcl hl rfl rfl (Nat.le_of_ble_eq_true rfl) d_La_result_5 [] ⟨0, 10, 13, 19⟩ [⟨0, 10, 17, 13⟩] rfl (fun z hz => nomatch hz) (by decide) (by decide) kLI_tb xcI (fun q H locs hP hD hS => ?_)
  refine lv_astore (lv' := [(4, .ref q), (0, .ref qdb), (1, .int p1), (2, .int p2), (3, .ref qo)]) hx hb d_La_result_13 hl (by decide) rfl (fun ls hl => ?_)
  refine lv_iconst (v := 1) hx hb d_La_result_15 (by decide) ?_
  exact endW C hP hS d_La_result_16

theorem x_La_result_2 (l : Launch) (g : GX) {wx : va_W} {qdb qo ci N : Nat} {Tt : u_T} {fs : List Value} {fo : LV} {p1 p2 : Int32} {wx1 : va_W} (hM : TMet l y_Db_result b_Db_result 4 (some .int) rt_m g [.ref qdb, .int p1, .int p2] wx wx1 nIAE) (had : wx1.map Prod.fst = wx.map Prod.fst) (hrec : wx[0]? = some (qdb, .inr (ci, fs))) (hcl : vwCl[ci]? = some ("DecadeBridge", Tt, N)) : WMet l y_La_result b_La_result 5 [(0, 10, 13, 19), (0, 10, 17, 13)] rm_La g [.ref qdb, .int p1, .int p2, .ref qo] (wx ++ [(qo, aL g 1 fo)]) (wx1 ++ [(qo, aL g 1 fo)]) 2 := by
  refine ofWW rfl (fun p e s m args below meth c ha C hX htab hP hD hS => ?_)
  subst ha
  obtain ⟨hx, hb, hr, hml, hown, hlk, hts, hK, hZo, hZ⟩ := id C
  refine entryW (lv := [(0, .ref qdb), (1, .int p1), (2, .int p2), (3, .ref qo)]) rfl (Nat.le_of_ble_eq_true rfl) (fun ls hl => ?_)
  refine lv_aload_n hx hb d_La_result_0 rfl (lv_at hl 3 rfl) ?_
  refine lv_iconst (v := 0) hx hb d_La_result_1 (by decide) ?_
  refine lv_aload_n hx hb d_La_result_2 rfl (lv_at hl 0 rfl) ?_
  refine lv_iload_n hx hb d_La_result_3 rfl (lv_at hl 1 rfl) ?_
  refine lv_iload_n hx hb d_La_result_4 rfl (lv_at hl 2 rfl) ?_
  refine wcatch C hX htab mf_Db_result qm_La_34 hM rfl rfl ⟨Nat.le_of_ble_eq_true rfl, Nat.le_of_ble_eq_true rfl⟩ ⟨Nat.le_of_ble_eq_true rfl, Nat.le_of_ble_eq_true rfl⟩ hP hD hS had hrec hcl hl rfl rfl (Nat.le_of_ble_eq_true rfl) d_La_result_5 [⟨0, 10, 13, 19⟩] ⟨0, 10, 17, 13⟩ [] rfl (fun z hz => by
    rcases List.mem_singleton.mp hz with rfl
    exact Or.inr ⟨by decide, nIOB, hts _ kLI_tb, hX.2⟩) (by decide) (by decide) kLA_tb xcA (fun q H locs hP hD hS => ?_)
  refine lv_astore (lv' := [(4, .ref q), (0, .ref qdb), (1, .int p1), (2, .int p2), (3, .ref qo)]) hx hb d_La_result_17 hl (by decide) rfl (fun ls hl => ?_)
  refine lv_iconst (v := 2) hx hb d_La_result_19 (by decide) ?_
  exact endW C hP hS d_La_result_20

theorem d_La_valueOf_0 : decode b_La_valueOf 0 = .ok (.aload_n 3, 1) := by decide +kernel
theorem d_La_valueOf_1 : decode b_La_valueOf 1 = .ok (.iconst 0, 1) := by decide +kernel
theorem d_La_valueOf_2 : decode b_La_valueOf 2 = .ok (.aload_n 0, 1) := by decide +kernel
theorem d_La_valueOf_3 : decode b_La_valueOf 3 = .ok (.iload_n 1, 1) := by decide +kernel
theorem d_La_valueOf_4 : decode b_La_valueOf 4 = .ok (.iload_n 2, 1) := by decide +kernel
theorem d_La_valueOf_5 : decode b_La_valueOf 5 = .ok (.invokevirtual 37, 3) := by decide +kernel
theorem d_La_valueOf_8 : decode b_La_valueOf 8 = .ok (.lastore, 1) := by decide +kernel
theorem d_La_valueOf_9 : decode b_La_valueOf 9 = .ok (.goto 7, 3) := by decide +kernel
theorem d_La_valueOf_12 : decode b_La_valueOf 12 = .ok (.astore 4, 2) := by decide +kernel
theorem d_La_valueOf_14 : decode b_La_valueOf 14 = .ok (.iconst 1, 1) := by decide +kernel
theorem d_La_valueOf_15 : decode b_La_valueOf 15 = .ok (.ireturn, 1) := by decide +kernel
theorem d_La_valueOf_16 : decode b_La_valueOf 16 = .ok (.iconst 0, 1) := by decide +kernel
theorem d_La_valueOf_17 : decode b_La_valueOf 17 = .ok (.ireturn, 1) := by decide +kernel
theorem w_La_valueOf (l : Launch) (g : GX) {α : Type} {vf : α → Option Value} {wf : α → va_W} {z : α} {wx : va_W} {qdb qo ci N : Nat} {Tt : u_T} {fs : List Value} {fo : LV} {p1 p2 : Int32} {v : Int64} (hM : Met l y_Db_valueOf (wsY y_Db_valueOf b_Db_valueOf 4 (some .long)) rm_Db_valueOf (CP g [.ref qdb, .int p1, .int p2] wx) (CQ g (inW wx) vf wf z) 0 0 (inW wx)) (hv : vf z = some (.long v)) (had : (wf z).map Prod.fst = wx.map Prod.fst) (hrec : wx[0]? = some (qdb, .inr (ci, fs))) (hcl : vwCl[ci]? = some ("DecadeBridge", Tt, N)) : WMet l y_La_valueOf b_La_valueOf 5 [(0, 9, 12, 19)] rm_La g [.ref qdb, .int p1, .int p2, .ref qo] (wx ++ [(qo, aL g 1 fo)]) (wf z ++ [(qo, aL g 1 (vp_updL fo 0 v))]) 0 := by
  refine ofWW rfl (fun p e s m args below meth c ha C hX htab hP hD hS => ?_)
  subst ha
  obtain ⟨hx, hb, hr, hml, hown, hlk, hts, hK, hZo, hZ⟩ := id C
  refine entryW (lv := [(0, .ref qdb), (1, .int p1), (2, .int p2), (3, .ref qo)]) rfl (Nat.le_of_ble_eq_true rfl) (fun ls hl => ?_)
  refine lv_aload_n hx hb d_La_valueOf_0 rfl (lv_at hl 3 rfl) ?_
  refine lv_iconst (v := 0) hx hb d_La_valueOf_1 (by decide) ?_
  refine lv_aload_n hx hb d_La_valueOf_2 rfl (lv_at hl 0 rfl) ?_
  refine lv_iload_n hx hb d_La_valueOf_3 rfl (lv_at hl 1 rfl) ?_
  refine lv_iload_n hx hb d_La_valueOf_4 rfl (lv_at hl 2 rfl) ?_
  refine wcall C mf_Db_valueOf qm_La_37 hM rfl rfl ⟨Nat.le_of_ble_eq_true rfl, Nat.le_of_ble_eq_true rfl⟩ ⟨Nat.le_of_ble_eq_true rfl, Nat.le_of_ble_eq_true rfl⟩ hP hD hS had hrec hcl hl rfl rfl (Nat.le_of_ble_eq_true rfl) d_La_valueOf_5 (fun H locs hP hD hS => ?_)
  rw [hv]
  refine stOut C hP hD hS d_La_valueOf_8 (fun H locs hP hD hS => ?_)
  refine lv_goto (tgt := 16) hx hb d_La_valueOf_9 (by decide) ?_
  refine lv_iconst (v := 0) hx hb d_La_valueOf_16 (by decide) ?_
  refine W.widen (k := 1) (n := 6) (Nat.le_of_ble_eq_true rfl) (Nat.le_of_ble_eq_true rfl) ?_
  exact endW C hP hS d_La_valueOf_17

theorem x_La_valueOf_1 (l : Launch) (g : GX) {wx : va_W} {qdb qo ci N : Nat} {Tt : u_T} {fs : List Value} {fo : LV} {p1 p2 : Int32} {wx1 : va_W} (hM : TMet l y_Db_valueOf b_Db_valueOf 4 (some .long) rt_m g [.ref qdb, .int p1, .int p2] wx wx1 nIOB) (had : wx1.map Prod.fst = wx.map Prod.fst) (hrec : wx[0]? = some (qdb, .inr (ci, fs))) (hcl : vwCl[ci]? = some ("DecadeBridge", Tt, N)) : WMet l y_La_valueOf b_La_valueOf 5 [(0, 9, 12, 19)] rm_La g [.ref qdb, .int p1, .int p2, .ref qo] (wx ++ [(qo, aL g 1 fo)]) (wx1 ++ [(qo, aL g 1 fo)]) 1 := by
  refine ofWW rfl (fun p e s m args below meth c ha C hX htab hP hD hS => ?_)
  subst ha
  obtain ⟨hx, hb, hr, hml, hown, hlk, hts, hK, hZo, hZ⟩ := id C
  refine entryW (lv := [(0, .ref qdb), (1, .int p1), (2, .int p2), (3, .ref qo)]) rfl (Nat.le_of_ble_eq_true rfl) (fun ls hl => ?_)
  refine lv_aload_n hx hb d_La_valueOf_0 rfl (lv_at hl 3 rfl) ?_
  refine lv_iconst (v := 0) hx hb d_La_valueOf_1 (by decide) ?_
  refine lv_aload_n hx hb d_La_valueOf_2 rfl (lv_at hl 0 rfl) ?_
  refine lv_iload_n hx hb d_La_valueOf_3 rfl (lv_at hl 1 rfl) ?_
  refine lv_iload_n hx hb d_La_valueOf_4 rfl (lv_at hl 2 rfl) ?_
  refine wcatch C hX htab mf_Db_valueOf qm_La_37 hM rfl rfl ⟨Nat.le_of_ble_eq_true rfl, Nat.le_of_ble_eq_true rfl⟩ ⟨Nat.le_of_ble_eq_true rfl, Nat.le_of_ble_eq_true rfl⟩ hP hD hS had hrec hcl hl rfl rfl (Nat.le_of_ble_eq_true rfl) d_La_valueOf_5 [] ⟨0, 9, 12, 19⟩ [] rfl (fun z hz => nomatch hz) (by decide) (by decide) kLI_tb xcI (fun q H locs hP hD hS => ?_)
  refine lv_astore (lv' := [(4, .ref q), (0, .ref qdb), (1, .int p1), (2, .int p2), (3, .ref qo)]) hx hb d_La_valueOf_12 hl (by decide) rfl (fun ls hl => ?_)
  refine lv_iconst (v := 1) hx hb d_La_valueOf_14 (by decide) ?_
  exact endW C hP hS d_La_valueOf_15

theorem d_La_manner_0 : decode b_La_manner 0 = .ok (.aload_n 3, 1) := by decide +kernel
theorem d_La_manner_1 : decode b_La_manner 1 = .ok (.iconst 0, 1) := by decide +kernel
theorem d_La_manner_2 : decode b_La_manner 2 = .ok (.aload_n 0, 1) := by decide +kernel
theorem d_La_manner_3 : decode b_La_manner 3 = .ok (.iload_n 1, 1) := by decide +kernel
theorem d_La_manner_4 : decode b_La_manner 4 = .ok (.iload_n 2, 1) := by decide +kernel
theorem d_La_manner_5 : decode b_La_manner 5 = .ok (.invokevirtual 41, 3) := by decide +kernel
theorem d_La_manner_8 : decode b_La_manner 8 = .ok (.i2l, 1) := by decide +kernel
theorem d_La_manner_9 : decode b_La_manner 9 = .ok (.lastore, 1) := by decide +kernel
theorem d_La_manner_10 : decode b_La_manner 10 = .ok (.goto 11, 3) := by decide +kernel
theorem d_La_manner_13 : decode b_La_manner 13 = .ok (.astore 4, 2) := by decide +kernel
theorem d_La_manner_15 : decode b_La_manner 15 = .ok (.iconst 1, 1) := by decide +kernel
theorem d_La_manner_16 : decode b_La_manner 16 = .ok (.ireturn, 1) := by decide +kernel
theorem d_La_manner_17 : decode b_La_manner 17 = .ok (.astore 4, 2) := by decide +kernel
theorem d_La_manner_19 : decode b_La_manner 19 = .ok (.iconst 2, 1) := by decide +kernel
theorem d_La_manner_20 : decode b_La_manner 20 = .ok (.ireturn, 1) := by decide +kernel
theorem d_La_manner_21 : decode b_La_manner 21 = .ok (.iconst 0, 1) := by decide +kernel
theorem d_La_manner_22 : decode b_La_manner 22 = .ok (.ireturn, 1) := by decide +kernel
theorem w_La_manner (l : Launch) (g : GX) {α : Type} {vf : α → Option Value} {wf : α → va_W} {z : α} {wx : va_W} {qdb qo ci N : Nat} {Tt : u_T} {fs : List Value} {fo : LV} {p1 p2 : Int32} {v : Int32} (hM : Met l y_Db_manner (wsY y_Db_manner b_Db_manner 5 (some .int)) rm_Db_manner (CP g [.ref qdb, .int p1, .int p2] wx) (CQ g (inW wx) vf wf z) 0 0 (inW wx)) (hv : vf z = some (.int v)) (had : (wf z).map Prod.fst = wx.map Prod.fst) (hrec : wx[0]? = some (qdb, .inr (ci, fs))) (hcl : vwCl[ci]? = some ("DecadeBridge", Tt, N)) : WMet l y_La_manner b_La_manner 5 [(0, 10, 13, 19), (0, 10, 17, 13)] rm_La g [.ref qdb, .int p1, .int p2, .ref qo] (wx ++ [(qo, aL g 1 fo)]) (wf z ++ [(qo, aL g 1 (vp_updL fo 0 v.toInt64))]) 0 := by
  refine ofWW rfl (fun p e s m args below meth c ha C hX htab hP hD hS => ?_)
  subst ha
  obtain ⟨hx, hb, hr, hml, hown, hlk, hts, hK, hZo, hZ⟩ := id C
  refine entryW (lv := [(0, .ref qdb), (1, .int p1), (2, .int p2), (3, .ref qo)]) rfl (Nat.le_of_ble_eq_true rfl) (fun ls hl => ?_)
  refine lv_aload_n hx hb d_La_manner_0 rfl (lv_at hl 3 rfl) ?_
  refine lv_iconst (v := 0) hx hb d_La_manner_1 (by decide) ?_
  refine lv_aload_n hx hb d_La_manner_2 rfl (lv_at hl 0 rfl) ?_
  refine lv_iload_n hx hb d_La_manner_3 rfl (lv_at hl 1 rfl) ?_
  refine lv_iload_n hx hb d_La_manner_4 rfl (lv_at hl 2 rfl) ?_
  refine wcall C mf_Db_manner qm_La_41 hM rfl rfl ⟨Nat.le_of_ble_eq_true rfl, Nat.le_of_ble_eq_true rfl⟩ ⟨Nat.le_of_ble_eq_true rfl, Nat.le_of_ble_eq_true rfl⟩ hP hD hS had hrec hcl hl rfl rfl (Nat.le_of_ble_eq_true rfl) d_La_manner_5 (fun H locs hP hD hS => ?_)
  rw [hv]
  refine lv_i2l (x := v) hx hb d_La_manner_8 rfl ?_
  refine stOut C hP hD hS d_La_manner_9 (fun H locs hP hD hS => ?_)
  refine lv_goto (tgt := 21) hx hb d_La_manner_10 (by decide) ?_
  refine lv_iconst (v := 0) hx hb d_La_manner_21 (by decide) ?_
  refine W.widen (k := 1) (n := 6) (Nat.le_of_ble_eq_true rfl) (Nat.le_of_ble_eq_true rfl) ?_
  exact endW C hP hS d_La_manner_22

theorem x_La_manner_1 (l : Launch) (g : GX) {wx : va_W} {qdb qo ci N : Nat} {Tt : u_T} {fs : List Value} {fo : LV} {p1 p2 : Int32} {wx1 : va_W} (hM : TMet l y_Db_manner b_Db_manner 5 (some .int) rt_m g [.ref qdb, .int p1, .int p2] wx wx1 nIOB) (had : wx1.map Prod.fst = wx.map Prod.fst) (hrec : wx[0]? = some (qdb, .inr (ci, fs))) (hcl : vwCl[ci]? = some ("DecadeBridge", Tt, N)) : WMet l y_La_manner b_La_manner 5 [(0, 10, 13, 19), (0, 10, 17, 13)] rm_La g [.ref qdb, .int p1, .int p2, .ref qo] (wx ++ [(qo, aL g 1 fo)]) (wx1 ++ [(qo, aL g 1 fo)]) 1 := by
  refine ofWW rfl (fun p e s m args below meth c ha C hX htab hP hD hS => ?_)
  subst ha
  obtain ⟨hx, hb, hr, hml, hown, hlk, hts, hK, hZo, hZ⟩ := id C
  refine entryW (lv := [(0, .ref qdb), (1, .int p1), (2, .int p2), (3, .ref qo)]) rfl (Nat.le_of_ble_eq_true rfl) (fun ls hl => ?_)
  refine lv_aload_n hx hb d_La_manner_0 rfl (lv_at hl 3 rfl) ?_
  refine lv_iconst (v := 0) hx hb d_La_manner_1 (by decide) ?_
  refine lv_aload_n hx hb d_La_manner_2 rfl (lv_at hl 0 rfl) ?_
  refine lv_iload_n hx hb d_La_manner_3 rfl (lv_at hl 1 rfl) ?_
  refine lv_iload_n hx hb d_La_manner_4 rfl (lv_at hl 2 rfl) ?_
  refine wcatch C hX htab mf_Db_manner qm_La_41 hM rfl rfl ⟨Nat.le_of_ble_eq_true rfl, Nat.le_of_ble_eq_true rfl⟩ ⟨Nat.le_of_ble_eq_true rfl, Nat.le_of_ble_eq_true rfl⟩ hP hD hS had hrec hcl hl rfl rfl (Nat.le_of_ble_eq_true rfl) d_La_manner_5 [] ⟨0, 10, 13, 19⟩ [⟨0, 10, 17, 13⟩] rfl (fun z hz => nomatch hz) (by decide) (by decide) kLI_tb xcI (fun q H locs hP hD hS => ?_)
  refine lv_astore (lv' := [(4, .ref q), (0, .ref qdb), (1, .int p1), (2, .int p2), (3, .ref qo)]) hx hb d_La_manner_13 hl (by decide) rfl (fun ls hl => ?_)
  refine lv_iconst (v := 1) hx hb d_La_manner_15 (by decide) ?_
  exact endW C hP hS d_La_manner_16

theorem x_La_manner_2 (l : Launch) (g : GX) {wx : va_W} {qdb qo ci N : Nat} {Tt : u_T} {fs : List Value} {fo : LV} {p1 p2 : Int32} {wx1 : va_W} (hM : TMet l y_Db_manner b_Db_manner 5 (some .int) rt_m g [.ref qdb, .int p1, .int p2] wx wx1 nIAE) (had : wx1.map Prod.fst = wx.map Prod.fst) (hrec : wx[0]? = some (qdb, .inr (ci, fs))) (hcl : vwCl[ci]? = some ("DecadeBridge", Tt, N)) : WMet l y_La_manner b_La_manner 5 [(0, 10, 13, 19), (0, 10, 17, 13)] rm_La g [.ref qdb, .int p1, .int p2, .ref qo] (wx ++ [(qo, aL g 1 fo)]) (wx1 ++ [(qo, aL g 1 fo)]) 2 := by
  refine ofWW rfl (fun p e s m args below meth c ha C hX htab hP hD hS => ?_)
  subst ha
  obtain ⟨hx, hb, hr, hml, hown, hlk, hts, hK, hZo, hZ⟩ := id C
  refine entryW (lv := [(0, .ref qdb), (1, .int p1), (2, .int p2), (3, .ref qo)]) rfl (Nat.le_of_ble_eq_true rfl) (fun ls hl => ?_)
  refine lv_aload_n hx hb d_La_manner_0 rfl (lv_at hl 3 rfl) ?_
  refine lv_iconst (v := 0) hx hb d_La_manner_1 (by decide) ?_
  refine lv_aload_n hx hb d_La_manner_2 rfl (lv_at hl 0 rfl) ?_
  refine lv_iload_n hx hb d_La_manner_3 rfl (lv_at hl 1 rfl) ?_
  refine lv_iload_n hx hb d_La_manner_4 rfl (lv_at hl 2 rfl) ?_
  refine wcatch C hX htab mf_Db_manner qm_La_41 hM rfl rfl ⟨Nat.le_of_ble_eq_true rfl, Nat.le_of_ble_eq_true rfl⟩ ⟨Nat.le_of_ble_eq_true rfl, Nat.le_of_ble_eq_true rfl⟩ hP hD hS had hrec hcl hl rfl rfl (Nat.le_of_ble_eq_true rfl) d_La_manner_5 [⟨0, 10, 13, 19⟩] ⟨0, 10, 17, 13⟩ [] rfl (fun z hz => by
    rcases List.mem_singleton.mp hz with rfl
    exact Or.inr ⟨by decide, nIOB, hts _ kLI_tb, hX.2⟩) (by decide) (by decide) kLA_tb xcA (fun q H locs hP hD hS => ?_)
  refine lv_astore (lv' := [(4, .ref q), (0, .ref qdb), (1, .int p1), (2, .int p2), (3, .ref qo)]) hx hb d_La_manner_17 hl (by decide) rfl (fun ls hl => ?_)
  refine lv_iconst (v := 2) hx hb d_La_manner_19 (by decide) ?_
  exact endW C hP hS d_La_manner_20

theorem d_La_meanOf_0 : decode b_La_meanOf 0 = .ok (.aload_n 2, 1) := by decide +kernel
theorem d_La_meanOf_1 : decode b_La_meanOf 1 = .ok (.iconst 0, 1) := by decide +kernel
theorem d_La_meanOf_2 : decode b_La_meanOf 2 = .ok (.aload_n 0, 1) := by decide +kernel
theorem d_La_meanOf_3 : decode b_La_meanOf 3 = .ok (.iload_n 1, 1) := by decide +kernel
theorem d_La_meanOf_4 : decode b_La_meanOf 4 = .ok (.invokevirtual 44, 3) := by decide +kernel
theorem d_La_meanOf_7 : decode b_La_meanOf 7 = .ok (.dastore, 1) := by decide +kernel
theorem d_La_meanOf_8 : decode b_La_meanOf 8 = .ok (.goto 6, 3) := by decide +kernel
theorem d_La_meanOf_11 : decode b_La_meanOf 11 = .ok (.astore_n 3, 1) := by decide +kernel
theorem d_La_meanOf_12 : decode b_La_meanOf 12 = .ok (.iconst 1, 1) := by decide +kernel
theorem d_La_meanOf_13 : decode b_La_meanOf 13 = .ok (.ireturn, 1) := by decide +kernel
theorem d_La_meanOf_14 : decode b_La_meanOf 14 = .ok (.iconst 0, 1) := by decide +kernel
theorem d_La_meanOf_15 : decode b_La_meanOf 15 = .ok (.ireturn, 1) := by decide +kernel
theorem w_La_meanOf (l : Launch) (g : GX) {α : Type} {vf : α → Option Value} {wf : α → va_W} {z : α} {wx : va_W} {qdb qo ci N : Nat} {Tt : u_T} {fs : List Value} {fo : Nat → UInt64} {p1 : Int32} {v : UInt64} (hM : Met l y_Db_meanOf (wsY y_Db_meanOf b_Db_meanOf 3 (some .double)) rm_Db_meanOf (CP g [.ref qdb, .int p1] wx) (CQ g (inW wx) vf wf z) 0 0 (inW wx)) (hv : vf z = some (.double v)) (had : (wf z).map Prod.fst = wx.map Prod.fst) (hrec : wx[0]? = some (qdb, .inr (ci, fs))) (hcl : vwCl[ci]? = some ("DecadeBridge", Tt, N)) : WMet l y_La_meanOf b_La_meanOf 4 [(0, 8, 11, 19)] rm_La g [.ref qdb, .int p1, .ref qo] (wx ++ [(qo, aD g 1 fo)]) (wf z ++ [(qo, aD g 1 (vf_upd fo 0 v))]) 0 := by
  refine ofWW rfl (fun p e s m args below meth c ha C hX htab hP hD hS => ?_)
  subst ha
  obtain ⟨hx, hb, hr, hml, hown, hlk, hts, hK, hZo, hZ⟩ := id C
  refine entryW (lv := [(0, .ref qdb), (1, .int p1), (2, .ref qo)]) rfl (Nat.le_of_ble_eq_true rfl) (fun ls hl => ?_)
  refine lv_aload_n hx hb d_La_meanOf_0 rfl (lv_at hl 2 rfl) ?_
  refine lv_iconst (v := 0) hx hb d_La_meanOf_1 (by decide) ?_
  refine lv_aload_n hx hb d_La_meanOf_2 rfl (lv_at hl 0 rfl) ?_
  refine lv_iload_n hx hb d_La_meanOf_3 rfl (lv_at hl 1 rfl) ?_
  refine wcall C mf_Db_meanOf qm_La_44 hM rfl rfl ⟨Nat.le_of_ble_eq_true rfl, Nat.le_of_ble_eq_true rfl⟩ ⟨Nat.le_of_ble_eq_true rfl, Nat.le_of_ble_eq_true rfl⟩ hP hD hS had hrec hcl hl rfl rfl (Nat.le_of_ble_eq_true rfl) d_La_meanOf_4 (fun H locs hP hD hS => ?_)
  rw [hv]
  refine stOutD C hP hD hS d_La_meanOf_7 (fun H locs hP hD hS => ?_)
  refine lv_goto (tgt := 14) hx hb d_La_meanOf_8 (by decide) ?_
  refine lv_iconst (v := 0) hx hb d_La_meanOf_14 (by decide) ?_
  refine W.widen (k := 1) (n := 6) (Nat.le_of_ble_eq_true rfl) (Nat.le_of_ble_eq_true rfl) ?_
  exact endW C hP hS d_La_meanOf_15

theorem x_La_meanOf_1 (l : Launch) (g : GX) {wx : va_W} {qdb qo ci N : Nat} {Tt : u_T} {fs : List Value} {fo : Nat → UInt64} {p1 : Int32} {wx1 : va_W} (hM : TMet l y_Db_meanOf b_Db_meanOf 3 (some .double) rt_m g [.ref qdb, .int p1] wx wx1 nIOB) (had : wx1.map Prod.fst = wx.map Prod.fst) (hrec : wx[0]? = some (qdb, .inr (ci, fs))) (hcl : vwCl[ci]? = some ("DecadeBridge", Tt, N)) : WMet l y_La_meanOf b_La_meanOf 4 [(0, 8, 11, 19)] rm_La g [.ref qdb, .int p1, .ref qo] (wx ++ [(qo, aD g 1 fo)]) (wx1 ++ [(qo, aD g 1 fo)]) 1 := by
  refine ofWW rfl (fun p e s m args below meth c ha C hX htab hP hD hS => ?_)
  subst ha
  obtain ⟨hx, hb, hr, hml, hown, hlk, hts, hK, hZo, hZ⟩ := id C
  refine entryW (lv := [(0, .ref qdb), (1, .int p1), (2, .ref qo)]) rfl (Nat.le_of_ble_eq_true rfl) (fun ls hl => ?_)
  refine lv_aload_n hx hb d_La_meanOf_0 rfl (lv_at hl 2 rfl) ?_
  refine lv_iconst (v := 0) hx hb d_La_meanOf_1 (by decide) ?_
  refine lv_aload_n hx hb d_La_meanOf_2 rfl (lv_at hl 0 rfl) ?_
  refine lv_iload_n hx hb d_La_meanOf_3 rfl (lv_at hl 1 rfl) ?_
  refine wcatch C hX htab mf_Db_meanOf qm_La_44 hM rfl rfl ⟨Nat.le_of_ble_eq_true rfl, Nat.le_of_ble_eq_true rfl⟩ ⟨Nat.le_of_ble_eq_true rfl, Nat.le_of_ble_eq_true rfl⟩ hP hD hS had hrec hcl hl rfl rfl (Nat.le_of_ble_eq_true rfl) d_La_meanOf_4 [] ⟨0, 8, 11, 19⟩ [] rfl (fun z hz => nomatch hz) (by decide) (by decide) kLI_tb xcI (fun q H locs hP hD hS => ?_)
  refine lv_astore_n (lv' := [(3, .ref q), (0, .ref qdb), (1, .int p1), (2, .ref qo)]) hx hb d_La_meanOf_11 rfl hl (by decide) rfl (fun ls hl => ?_)
  refine lv_iconst (v := 1) hx hb d_La_meanOf_12 (by decide) ?_
  exact endW C hP hS d_La_meanOf_13

theorem d_La_spreadOf_0 : decode b_La_spreadOf 0 = .ok (.aload_n 2, 1) := by decide +kernel
theorem d_La_spreadOf_1 : decode b_La_spreadOf 1 = .ok (.iconst 0, 1) := by decide +kernel
theorem d_La_spreadOf_2 : decode b_La_spreadOf 2 = .ok (.aload_n 0, 1) := by decide +kernel
theorem d_La_spreadOf_3 : decode b_La_spreadOf 3 = .ok (.iload_n 1, 1) := by decide +kernel
theorem d_La_spreadOf_4 : decode b_La_spreadOf 4 = .ok (.invokevirtual 48, 3) := by decide +kernel
theorem d_La_spreadOf_7 : decode b_La_spreadOf 7 = .ok (.lastore, 1) := by decide +kernel
theorem d_La_spreadOf_8 : decode b_La_spreadOf 8 = .ok (.goto 6, 3) := by decide +kernel
theorem d_La_spreadOf_11 : decode b_La_spreadOf 11 = .ok (.astore_n 3, 1) := by decide +kernel
theorem d_La_spreadOf_12 : decode b_La_spreadOf 12 = .ok (.iconst 1, 1) := by decide +kernel
theorem d_La_spreadOf_13 : decode b_La_spreadOf 13 = .ok (.ireturn, 1) := by decide +kernel
theorem d_La_spreadOf_14 : decode b_La_spreadOf 14 = .ok (.iconst 0, 1) := by decide +kernel
theorem d_La_spreadOf_15 : decode b_La_spreadOf 15 = .ok (.ireturn, 1) := by decide +kernel
theorem w_La_spreadOf (l : Launch) (g : GX) {α : Type} {vf : α → Option Value} {wf : α → va_W} {z : α} {wx : va_W} {qdb qo ci N : Nat} {Tt : u_T} {fs : List Value} {fo : LV} {p1 : Int32} {v : Int64} (hM : Met l y_Db_spreadOf (wsY y_Db_spreadOf b_Db_spreadOf 2 (some .long)) rm_Db_spreadOf (CP g [.ref qdb, .int p1] wx) (CQ g (inW wx) vf wf z) 0 0 (inW wx)) (hv : vf z = some (.long v)) (had : (wf z).map Prod.fst = wx.map Prod.fst) (hrec : wx[0]? = some (qdb, .inr (ci, fs))) (hcl : vwCl[ci]? = some ("DecadeBridge", Tt, N)) : WMet l y_La_spreadOf b_La_spreadOf 4 [(0, 8, 11, 19)] rm_La g [.ref qdb, .int p1, .ref qo] (wx ++ [(qo, aL g 1 fo)]) (wf z ++ [(qo, aL g 1 (vp_updL fo 0 v))]) 0 := by
  refine ofWW rfl (fun p e s m args below meth c ha C hX htab hP hD hS => ?_)
  subst ha
  obtain ⟨hx, hb, hr, hml, hown, hlk, hts, hK, hZo, hZ⟩ := id C
  refine entryW (lv := [(0, .ref qdb), (1, .int p1), (2, .ref qo)]) rfl (Nat.le_of_ble_eq_true rfl) (fun ls hl => ?_)
  refine lv_aload_n hx hb d_La_spreadOf_0 rfl (lv_at hl 2 rfl) ?_
  refine lv_iconst (v := 0) hx hb d_La_spreadOf_1 (by decide) ?_
  refine lv_aload_n hx hb d_La_spreadOf_2 rfl (lv_at hl 0 rfl) ?_
  refine lv_iload_n hx hb d_La_spreadOf_3 rfl (lv_at hl 1 rfl) ?_
  refine wcall C mf_Db_spreadOf qm_La_48 hM rfl rfl ⟨Nat.le_of_ble_eq_true rfl, Nat.le_of_ble_eq_true rfl⟩ ⟨Nat.le_of_ble_eq_true rfl, Nat.le_of_ble_eq_true rfl⟩ hP hD hS had hrec hcl hl rfl rfl (Nat.le_of_ble_eq_true rfl) d_La_spreadOf_4 (fun H locs hP hD hS => ?_)
  rw [hv]
  refine stOut C hP hD hS d_La_spreadOf_7 (fun H locs hP hD hS => ?_)
  refine lv_goto (tgt := 14) hx hb d_La_spreadOf_8 (by decide) ?_
  refine lv_iconst (v := 0) hx hb d_La_spreadOf_14 (by decide) ?_
  refine W.widen (k := 1) (n := 6) (Nat.le_of_ble_eq_true rfl) (Nat.le_of_ble_eq_true rfl) ?_
  exact endW C hP hS d_La_spreadOf_15

theorem x_La_spreadOf_1 (l : Launch) (g : GX) {wx : va_W} {qdb qo ci N : Nat} {Tt : u_T} {fs : List Value} {fo : LV} {p1 : Int32} {wx1 : va_W} (hM : TMet l y_Db_spreadOf b_Db_spreadOf 2 (some .long) rt_m g [.ref qdb, .int p1] wx wx1 nIOB) (had : wx1.map Prod.fst = wx.map Prod.fst) (hrec : wx[0]? = some (qdb, .inr (ci, fs))) (hcl : vwCl[ci]? = some ("DecadeBridge", Tt, N)) : WMet l y_La_spreadOf b_La_spreadOf 4 [(0, 8, 11, 19)] rm_La g [.ref qdb, .int p1, .ref qo] (wx ++ [(qo, aL g 1 fo)]) (wx1 ++ [(qo, aL g 1 fo)]) 1 := by
  refine ofWW rfl (fun p e s m args below meth c ha C hX htab hP hD hS => ?_)
  subst ha
  obtain ⟨hx, hb, hr, hml, hown, hlk, hts, hK, hZo, hZ⟩ := id C
  refine entryW (lv := [(0, .ref qdb), (1, .int p1), (2, .ref qo)]) rfl (Nat.le_of_ble_eq_true rfl) (fun ls hl => ?_)
  refine lv_aload_n hx hb d_La_spreadOf_0 rfl (lv_at hl 2 rfl) ?_
  refine lv_iconst (v := 0) hx hb d_La_spreadOf_1 (by decide) ?_
  refine lv_aload_n hx hb d_La_spreadOf_2 rfl (lv_at hl 0 rfl) ?_
  refine lv_iload_n hx hb d_La_spreadOf_3 rfl (lv_at hl 1 rfl) ?_
  refine wcatch C hX htab mf_Db_spreadOf qm_La_48 hM rfl rfl ⟨Nat.le_of_ble_eq_true rfl, Nat.le_of_ble_eq_true rfl⟩ ⟨Nat.le_of_ble_eq_true rfl, Nat.le_of_ble_eq_true rfl⟩ hP hD hS had hrec hcl hl rfl rfl (Nat.le_of_ble_eq_true rfl) d_La_spreadOf_4 [] ⟨0, 8, 11, 19⟩ [] rfl (fun z hz => nomatch hz) (by decide) (by decide) kLI_tb xcI (fun q H locs hP hD hS => ?_)
  refine lv_astore_n (lv' := [(3, .ref q), (0, .ref qdb), (1, .int p1), (2, .ref qo)]) hx hb d_La_spreadOf_11 rfl hl (by decide) rfl (fun ls hl => ?_)
  refine lv_iconst (v := 1) hx hb d_La_spreadOf_12 (by decide) ?_
  exact endW C hP hS d_La_spreadOf_13

theorem d_La_bestWith_0 : decode b_La_bestWith 0 = .ok (.aload_n 3, 1) := by decide +kernel
theorem d_La_bestWith_1 : decode b_La_bestWith 1 = .ok (.iconst 0, 1) := by decide +kernel
theorem d_La_bestWith_2 : decode b_La_bestWith 2 = .ok (.aload_n 0, 1) := by decide +kernel
theorem d_La_bestWith_3 : decode b_La_bestWith 3 = .ok (.iload_n 1, 1) := by decide +kernel
theorem d_La_bestWith_4 : decode b_La_bestWith 4 = .ok (.iload_n 2, 1) := by decide +kernel
theorem d_La_bestWith_5 : decode b_La_bestWith 5 = .ok (.invokevirtual 52, 3) := by decide +kernel
theorem d_La_bestWith_8 : decode b_La_bestWith 8 = .ok (.i2l, 1) := by decide +kernel
theorem d_La_bestWith_9 : decode b_La_bestWith 9 = .ok (.lastore, 1) := by decide +kernel
theorem d_La_bestWith_10 : decode b_La_bestWith 10 = .ok (.goto 7, 3) := by decide +kernel
theorem d_La_bestWith_13 : decode b_La_bestWith 13 = .ok (.astore 4, 2) := by decide +kernel
theorem d_La_bestWith_15 : decode b_La_bestWith 15 = .ok (.iconst 1, 1) := by decide +kernel
theorem d_La_bestWith_16 : decode b_La_bestWith 16 = .ok (.ireturn, 1) := by decide +kernel
theorem d_La_bestWith_17 : decode b_La_bestWith 17 = .ok (.iconst 0, 1) := by decide +kernel
theorem d_La_bestWith_18 : decode b_La_bestWith 18 = .ok (.ireturn, 1) := by decide +kernel
theorem w_La_bestWith (l : Launch) (g : GX) {α : Type} {vf : α → Option Value} {wf : α → va_W} {z : α} {wx : va_W} {qdb qo ci N : Nat} {Tt : u_T} {fs : List Value} {fo : LV} {p1 p2 : Int32} {v : Int32} (hM : Met l y_Db_bestWith (wsY y_Db_bestWith b_Db_bestWith 3 (some .int)) rm_Db_bestWith (CP g [.ref qdb, .int p1, .int p2] wx) (CQ g (inW wx) vf wf z) 0 0 (inW wx)) (hv : vf z = some (.int v)) (had : (wf z).map Prod.fst = wx.map Prod.fst) (hrec : wx[0]? = some (qdb, .inr (ci, fs))) (hcl : vwCl[ci]? = some ("DecadeBridge", Tt, N)) : WMet l y_La_bestWith b_La_bestWith 5 [(0, 10, 13, 19)] rm_La g [.ref qdb, .int p1, .int p2, .ref qo] (wx ++ [(qo, aL g 1 fo)]) (wf z ++ [(qo, aL g 1 (vp_updL fo 0 v.toInt64))]) 0 := by
  refine ofWW rfl (fun p e s m args below meth c ha C hX htab hP hD hS => ?_)
  subst ha
  obtain ⟨hx, hb, hr, hml, hown, hlk, hts, hK, hZo, hZ⟩ := id C
  refine entryW (lv := [(0, .ref qdb), (1, .int p1), (2, .int p2), (3, .ref qo)]) rfl (Nat.le_of_ble_eq_true rfl) (fun ls hl => ?_)
  refine lv_aload_n hx hb d_La_bestWith_0 rfl (lv_at hl 3 rfl) ?_
  refine lv_iconst (v := 0) hx hb d_La_bestWith_1 (by decide) ?_
  refine lv_aload_n hx hb d_La_bestWith_2 rfl (lv_at hl 0 rfl) ?_
  refine lv_iload_n hx hb d_La_bestWith_3 rfl (lv_at hl 1 rfl) ?_
  refine lv_iload_n hx hb d_La_bestWith_4 rfl (lv_at hl 2 rfl) ?_
  refine wcall C mf_Db_bestWith qm_La_52 hM rfl rfl ⟨Nat.le_of_ble_eq_true rfl, Nat.le_of_ble_eq_true rfl⟩ ⟨Nat.le_of_ble_eq_true rfl, Nat.le_of_ble_eq_true rfl⟩ hP hD hS had hrec hcl hl rfl rfl (Nat.le_of_ble_eq_true rfl) d_La_bestWith_5 (fun H locs hP hD hS => ?_)
  rw [hv]
  refine lv_i2l (x := v) hx hb d_La_bestWith_8 rfl ?_
  refine stOut C hP hD hS d_La_bestWith_9 (fun H locs hP hD hS => ?_)
  refine lv_goto (tgt := 17) hx hb d_La_bestWith_10 (by decide) ?_
  refine lv_iconst (v := 0) hx hb d_La_bestWith_17 (by decide) ?_
  refine W.widen (k := 1) (n := 6) (Nat.le_of_ble_eq_true rfl) (Nat.le_of_ble_eq_true rfl) ?_
  exact endW C hP hS d_La_bestWith_18

theorem x_La_bestWith_1 (l : Launch) (g : GX) {wx : va_W} {qdb qo ci N : Nat} {Tt : u_T} {fs : List Value} {fo : LV} {p1 p2 : Int32} {wx1 : va_W} (hM : TMet l y_Db_bestWith b_Db_bestWith 3 (some .int) rt_m g [.ref qdb, .int p1, .int p2] wx wx1 nIOB) (had : wx1.map Prod.fst = wx.map Prod.fst) (hrec : wx[0]? = some (qdb, .inr (ci, fs))) (hcl : vwCl[ci]? = some ("DecadeBridge", Tt, N)) : WMet l y_La_bestWith b_La_bestWith 5 [(0, 10, 13, 19)] rm_La g [.ref qdb, .int p1, .int p2, .ref qo] (wx ++ [(qo, aL g 1 fo)]) (wx1 ++ [(qo, aL g 1 fo)]) 1 := by
  refine ofWW rfl (fun p e s m args below meth c ha C hX htab hP hD hS => ?_)
  subst ha
  obtain ⟨hx, hb, hr, hml, hown, hlk, hts, hK, hZo, hZ⟩ := id C
  refine entryW (lv := [(0, .ref qdb), (1, .int p1), (2, .int p2), (3, .ref qo)]) rfl (Nat.le_of_ble_eq_true rfl) (fun ls hl => ?_)
  refine lv_aload_n hx hb d_La_bestWith_0 rfl (lv_at hl 3 rfl) ?_
  refine lv_iconst (v := 0) hx hb d_La_bestWith_1 (by decide) ?_
  refine lv_aload_n hx hb d_La_bestWith_2 rfl (lv_at hl 0 rfl) ?_
  refine lv_iload_n hx hb d_La_bestWith_3 rfl (lv_at hl 1 rfl) ?_
  refine lv_iload_n hx hb d_La_bestWith_4 rfl (lv_at hl 2 rfl) ?_
  refine wcatch C hX htab mf_Db_bestWith qm_La_52 hM rfl rfl ⟨Nat.le_of_ble_eq_true rfl, Nat.le_of_ble_eq_true rfl⟩ ⟨Nat.le_of_ble_eq_true rfl, Nat.le_of_ble_eq_true rfl⟩ hP hD hS had hrec hcl hl rfl rfl (Nat.le_of_ble_eq_true rfl) d_La_bestWith_5 [] ⟨0, 10, 13, 19⟩ [] rfl (fun z hz => nomatch hz) (by decide) (by decide) kLI_tb xcI (fun q H locs hP hD hS => ?_)
  refine lv_astore (lv' := [(4, .ref q), (0, .ref qdb), (1, .int p1), (2, .int p2), (3, .ref qo)]) hx hb d_La_bestWith_13 hl (by decide) rfl (fun ls hl => ?_)
  refine lv_iconst (v := 1) hx hb d_La_bestWith_15 (by decide) ?_
  exact endW C hP hS d_La_bestWith_16

theorem d_La_apparent_0 : decode b_La_apparent 0 = .ok (.aload_n 2, 1) := by decide +kernel
theorem d_La_apparent_1 : decode b_La_apparent 1 = .ok (.iconst 0, 1) := by decide +kernel
theorem d_La_apparent_2 : decode b_La_apparent 2 = .ok (.aload_n 0, 1) := by decide +kernel
theorem d_La_apparent_3 : decode b_La_apparent 3 = .ok (.iload_n 1, 1) := by decide +kernel
theorem d_La_apparent_4 : decode b_La_apparent 4 = .ok (.invokevirtual 55, 3) := by decide +kernel
theorem d_La_apparent_7 : decode b_La_apparent 7 = .ok (.lastore, 1) := by decide +kernel
theorem d_La_apparent_8 : decode b_La_apparent 8 = .ok (.goto 6, 3) := by decide +kernel
theorem d_La_apparent_11 : decode b_La_apparent 11 = .ok (.astore_n 3, 1) := by decide +kernel
theorem d_La_apparent_12 : decode b_La_apparent 12 = .ok (.iconst 1, 1) := by decide +kernel
theorem d_La_apparent_13 : decode b_La_apparent 13 = .ok (.ireturn, 1) := by decide +kernel
theorem d_La_apparent_14 : decode b_La_apparent 14 = .ok (.iconst 0, 1) := by decide +kernel
theorem d_La_apparent_15 : decode b_La_apparent 15 = .ok (.ireturn, 1) := by decide +kernel
theorem w_La_apparent (l : Launch) (g : GX) {α : Type} {vf : α → Option Value} {wf : α → va_W} {z : α} {wx : va_W} {qdb qo ci N : Nat} {Tt : u_T} {fs : List Value} {fo : LV} {p1 : Int32} {v : Int64} (hM : Met l y_Db_apparent (wsY y_Db_apparent b_Db_apparent 2 (some .long)) rm_Db_apparent (CP g [.ref qdb, .int p1] wx) (CQ g (inW wx) vf wf z) 0 0 (inW wx)) (hv : vf z = some (.long v)) (had : (wf z).map Prod.fst = wx.map Prod.fst) (hrec : wx[0]? = some (qdb, .inr (ci, fs))) (hcl : vwCl[ci]? = some ("DecadeBridge", Tt, N)) : WMet l y_La_apparent b_La_apparent 4 [(0, 8, 11, 13)] rm_La g [.ref qdb, .int p1, .ref qo] (wx ++ [(qo, aL g 1 fo)]) (wf z ++ [(qo, aL g 1 (vp_updL fo 0 v))]) 0 := by
  refine ofWW rfl (fun p e s m args below meth c ha C hX htab hP hD hS => ?_)
  subst ha
  obtain ⟨hx, hb, hr, hml, hown, hlk, hts, hK, hZo, hZ⟩ := id C
  refine entryW (lv := [(0, .ref qdb), (1, .int p1), (2, .ref qo)]) rfl (Nat.le_of_ble_eq_true rfl) (fun ls hl => ?_)
  refine lv_aload_n hx hb d_La_apparent_0 rfl (lv_at hl 2 rfl) ?_
  refine lv_iconst (v := 0) hx hb d_La_apparent_1 (by decide) ?_
  refine lv_aload_n hx hb d_La_apparent_2 rfl (lv_at hl 0 rfl) ?_
  refine lv_iload_n hx hb d_La_apparent_3 rfl (lv_at hl 1 rfl) ?_
  refine wcall C mf_Db_apparent qm_La_55 hM rfl rfl ⟨Nat.le_of_ble_eq_true rfl, Nat.le_of_ble_eq_true rfl⟩ ⟨Nat.le_of_ble_eq_true rfl, Nat.le_of_ble_eq_true rfl⟩ hP hD hS had hrec hcl hl rfl rfl (Nat.le_of_ble_eq_true rfl) d_La_apparent_4 (fun H locs hP hD hS => ?_)
  rw [hv]
  refine stOut C hP hD hS d_La_apparent_7 (fun H locs hP hD hS => ?_)
  refine lv_goto (tgt := 14) hx hb d_La_apparent_8 (by decide) ?_
  refine lv_iconst (v := 0) hx hb d_La_apparent_14 (by decide) ?_
  refine W.widen (k := 1) (n := 6) (Nat.le_of_ble_eq_true rfl) (Nat.le_of_ble_eq_true rfl) ?_
  exact endW C hP hS d_La_apparent_15

theorem x_La_apparent_1 (l : Launch) (g : GX) {wx : va_W} {qdb qo ci N : Nat} {Tt : u_T} {fs : List Value} {fo : LV} {p1 : Int32} {wx1 : va_W} (hM : TMet l y_Db_apparent b_Db_apparent 2 (some .long) rt_m g [.ref qdb, .int p1] wx wx1 nIAE) (had : wx1.map Prod.fst = wx.map Prod.fst) (hrec : wx[0]? = some (qdb, .inr (ci, fs))) (hcl : vwCl[ci]? = some ("DecadeBridge", Tt, N)) : WMet l y_La_apparent b_La_apparent 4 [(0, 8, 11, 13)] rm_La g [.ref qdb, .int p1, .ref qo] (wx ++ [(qo, aL g 1 fo)]) (wx1 ++ [(qo, aL g 1 fo)]) 1 := by
  refine ofWW rfl (fun p e s m args below meth c ha C hX htab hP hD hS => ?_)
  subst ha
  obtain ⟨hx, hb, hr, hml, hown, hlk, hts, hK, hZo, hZ⟩ := id C
  refine entryW (lv := [(0, .ref qdb), (1, .int p1), (2, .ref qo)]) rfl (Nat.le_of_ble_eq_true rfl) (fun ls hl => ?_)
  refine lv_aload_n hx hb d_La_apparent_0 rfl (lv_at hl 2 rfl) ?_
  refine lv_iconst (v := 0) hx hb d_La_apparent_1 (by decide) ?_
  refine lv_aload_n hx hb d_La_apparent_2 rfl (lv_at hl 0 rfl) ?_
  refine lv_iload_n hx hb d_La_apparent_3 rfl (lv_at hl 1 rfl) ?_
  refine wcatch C hX htab mf_Db_apparent qm_La_55 hM rfl rfl ⟨Nat.le_of_ble_eq_true rfl, Nat.le_of_ble_eq_true rfl⟩ ⟨Nat.le_of_ble_eq_true rfl, Nat.le_of_ble_eq_true rfl⟩ hP hD hS had hrec hcl hl rfl rfl (Nat.le_of_ble_eq_true rfl) d_La_apparent_4 [] ⟨0, 8, 11, 13⟩ [] rfl (fun z hz => nomatch hz) (by decide) (by decide) kLA_tb xcA (fun q H locs hP hD hS => ?_)
  refine lv_astore_n (lv' := [(3, .ref q), (0, .ref qdb), (1, .int p1), (2, .ref qo)]) hx hb d_La_apparent_11 rfl hl (by decide) rfl (fun ls hl => ?_)
  refine lv_iconst (v := 1) hx hb d_La_apparent_12 (by decide) ?_
  exact endW C hP hS d_La_apparent_13

theorem d_La_foretold_0 : decode b_La_foretold 0 = .ok (.aload_n 3, 1) := by decide +kernel
theorem d_La_foretold_1 : decode b_La_foretold 1 = .ok (.iconst 0, 1) := by decide +kernel
theorem d_La_foretold_2 : decode b_La_foretold 2 = .ok (.aload_n 0, 1) := by decide +kernel
theorem d_La_foretold_3 : decode b_La_foretold 3 = .ok (.iload_n 1, 1) := by decide +kernel
theorem d_La_foretold_4 : decode b_La_foretold 4 = .ok (.iload_n 2, 1) := by decide +kernel
theorem d_La_foretold_5 : decode b_La_foretold 5 = .ok (.invokevirtual 58, 3) := by decide +kernel
theorem d_La_foretold_8 : decode b_La_foretold 8 = .ok (.lastore, 1) := by decide +kernel
theorem d_La_foretold_9 : decode b_La_foretold 9 = .ok (.goto 7, 3) := by decide +kernel
theorem d_La_foretold_12 : decode b_La_foretold 12 = .ok (.astore 4, 2) := by decide +kernel
theorem d_La_foretold_14 : decode b_La_foretold 14 = .ok (.iconst 1, 1) := by decide +kernel
theorem d_La_foretold_15 : decode b_La_foretold 15 = .ok (.ireturn, 1) := by decide +kernel
theorem d_La_foretold_16 : decode b_La_foretold 16 = .ok (.iconst 0, 1) := by decide +kernel
theorem d_La_foretold_17 : decode b_La_foretold 17 = .ok (.ireturn, 1) := by decide +kernel
theorem w_La_foretold (l : Launch) (g : GX) {α : Type} {vf : α → Option Value} {wf : α → va_W} {z : α} {wx : va_W} {qdb qo ci N : Nat} {Tt : u_T} {fs : List Value} {fo : LV} {p1 p2 : Int32} {v : Int64} (hM : Met l y_Db_foretold (wsY y_Db_foretold b_Db_foretold 5 (some .long)) rm_Db_foretold (CP g [.ref qdb, .int p1, .int p2] wx) (CQ g (inW wx) vf wf z) 0 0 (inW wx)) (hv : vf z = some (.long v)) (had : (wf z).map Prod.fst = wx.map Prod.fst) (hrec : wx[0]? = some (qdb, .inr (ci, fs))) (hcl : vwCl[ci]? = some ("DecadeBridge", Tt, N)) : WMet l y_La_foretold b_La_foretold 5 [(0, 9, 12, 13)] rm_La g [.ref qdb, .int p1, .int p2, .ref qo] (wx ++ [(qo, aL g 1 fo)]) (wf z ++ [(qo, aL g 1 (vp_updL fo 0 v))]) 0 := by
  refine ofWW rfl (fun p e s m args below meth c ha C hX htab hP hD hS => ?_)
  subst ha
  obtain ⟨hx, hb, hr, hml, hown, hlk, hts, hK, hZo, hZ⟩ := id C
  refine entryW (lv := [(0, .ref qdb), (1, .int p1), (2, .int p2), (3, .ref qo)]) rfl (Nat.le_of_ble_eq_true rfl) (fun ls hl => ?_)
  refine lv_aload_n hx hb d_La_foretold_0 rfl (lv_at hl 3 rfl) ?_
  refine lv_iconst (v := 0) hx hb d_La_foretold_1 (by decide) ?_
  refine lv_aload_n hx hb d_La_foretold_2 rfl (lv_at hl 0 rfl) ?_
  refine lv_iload_n hx hb d_La_foretold_3 rfl (lv_at hl 1 rfl) ?_
  refine lv_iload_n hx hb d_La_foretold_4 rfl (lv_at hl 2 rfl) ?_
  refine wcall C mf_Db_foretold qm_La_58 hM rfl rfl ⟨Nat.le_of_ble_eq_true rfl, Nat.le_of_ble_eq_true rfl⟩ ⟨Nat.le_of_ble_eq_true rfl, Nat.le_of_ble_eq_true rfl⟩ hP hD hS had hrec hcl hl rfl rfl (Nat.le_of_ble_eq_true rfl) d_La_foretold_5 (fun H locs hP hD hS => ?_)
  rw [hv]
  refine stOut C hP hD hS d_La_foretold_8 (fun H locs hP hD hS => ?_)
  refine lv_goto (tgt := 16) hx hb d_La_foretold_9 (by decide) ?_
  refine lv_iconst (v := 0) hx hb d_La_foretold_16 (by decide) ?_
  refine W.widen (k := 1) (n := 6) (Nat.le_of_ble_eq_true rfl) (Nat.le_of_ble_eq_true rfl) ?_
  exact endW C hP hS d_La_foretold_17

theorem x_La_foretold_1 (l : Launch) (g : GX) {wx : va_W} {qdb qo ci N : Nat} {Tt : u_T} {fs : List Value} {fo : LV} {p1 p2 : Int32} {wx1 : va_W} (hM : TMet l y_Db_foretold b_Db_foretold 5 (some .long) rt_m g [.ref qdb, .int p1, .int p2] wx wx1 nIAE) (had : wx1.map Prod.fst = wx.map Prod.fst) (hrec : wx[0]? = some (qdb, .inr (ci, fs))) (hcl : vwCl[ci]? = some ("DecadeBridge", Tt, N)) : WMet l y_La_foretold b_La_foretold 5 [(0, 9, 12, 13)] rm_La g [.ref qdb, .int p1, .int p2, .ref qo] (wx ++ [(qo, aL g 1 fo)]) (wx1 ++ [(qo, aL g 1 fo)]) 1 := by
  refine ofWW rfl (fun p e s m args below meth c ha C hX htab hP hD hS => ?_)
  subst ha
  obtain ⟨hx, hb, hr, hml, hown, hlk, hts, hK, hZo, hZ⟩ := id C
  refine entryW (lv := [(0, .ref qdb), (1, .int p1), (2, .int p2), (3, .ref qo)]) rfl (Nat.le_of_ble_eq_true rfl) (fun ls hl => ?_)
  refine lv_aload_n hx hb d_La_foretold_0 rfl (lv_at hl 3 rfl) ?_
  refine lv_iconst (v := 0) hx hb d_La_foretold_1 (by decide) ?_
  refine lv_aload_n hx hb d_La_foretold_2 rfl (lv_at hl 0 rfl) ?_
  refine lv_iload_n hx hb d_La_foretold_3 rfl (lv_at hl 1 rfl) ?_
  refine lv_iload_n hx hb d_La_foretold_4 rfl (lv_at hl 2 rfl) ?_
  refine wcatch C hX htab mf_Db_foretold qm_La_58 hM rfl rfl ⟨Nat.le_of_ble_eq_true rfl, Nat.le_of_ble_eq_true rfl⟩ ⟨Nat.le_of_ble_eq_true rfl, Nat.le_of_ble_eq_true rfl⟩ hP hD hS had hrec hcl hl rfl rfl (Nat.le_of_ble_eq_true rfl) d_La_foretold_5 [] ⟨0, 9, 12, 13⟩ [] rfl (fun z hz => nomatch hz) (by decide) (by decide) kLA_tb xcA (fun q H locs hP hD hS => ?_)
  refine lv_astore (lv' := [(4, .ref q), (0, .ref qdb), (1, .int p1), (2, .int p2), (3, .ref qo)]) hx hb d_La_foretold_12 hl (by decide) rfl (fun ls hl => ?_)
  refine lv_iconst (v := 1) hx hb d_La_foretold_14 (by decide) ?_
  exact endW C hP hS d_La_foretold_15

theorem d_La_setArms_0 : decode b_La_setArms 0 = .ok (.aload_n 3, 1) := by decide +kernel
theorem d_La_setArms_1 : decode b_La_setArms 1 = .ok (.iconst 0, 1) := by decide +kernel
theorem d_La_setArms_2 : decode b_La_setArms 2 = .ok (.aload_n 0, 1) := by decide +kernel
theorem d_La_setArms_3 : decode b_La_setArms 3 = .ok (.iload_n 1, 1) := by decide +kernel
theorem d_La_setArms_4 : decode b_La_setArms 4 = .ok (.iload_n 2, 1) := by decide +kernel
theorem d_La_setArms_5 : decode b_La_setArms 5 = .ok (.invokevirtual 62, 3) := by decide +kernel
theorem d_La_setArms_8 : decode b_La_setArms 8 = .ok (.i2l, 1) := by decide +kernel
theorem d_La_setArms_9 : decode b_La_setArms 9 = .ok (.lastore, 1) := by decide +kernel
theorem d_La_setArms_10 : decode b_La_setArms 10 = .ok (.goto 7, 3) := by decide +kernel
theorem d_La_setArms_13 : decode b_La_setArms 13 = .ok (.astore 4, 2) := by decide +kernel
theorem d_La_setArms_15 : decode b_La_setArms 15 = .ok (.iconst 1, 1) := by decide +kernel
theorem d_La_setArms_16 : decode b_La_setArms 16 = .ok (.ireturn, 1) := by decide +kernel
theorem d_La_setArms_17 : decode b_La_setArms 17 = .ok (.iconst 0, 1) := by decide +kernel
theorem d_La_setArms_18 : decode b_La_setArms 18 = .ok (.ireturn, 1) := by decide +kernel
theorem w_La_setArms (l : Launch) (g : GX) {α : Type} {vf : α → Option Value} {wf : α → va_W} {z : α} {wx : va_W} {qdb qo ci N : Nat} {Tt : u_T} {fs : List Value} {fo : LV} {p1 p2 : Int32} {v : Int32} (hM : Met l y_Db_setArms (wsY y_Db_setArms b_Db_setArms 4 (some .int)) rm_Db_setArms (CP g [.ref qdb, .int p1, .int p2] wx) (CQ g (inW wx) vf wf z) 0 0 (inW wx)) (hv : vf z = some (.int v)) (had : (wf z).map Prod.fst = wx.map Prod.fst) (hrec : wx[0]? = some (qdb, .inr (ci, fs))) (hcl : vwCl[ci]? = some ("DecadeBridge", Tt, N)) : WMet l y_La_setArms b_La_setArms 5 [(0, 10, 13, 19)] rm_La g [.ref qdb, .int p1, .int p2, .ref qo] (wx ++ [(qo, aL g 1 fo)]) (wf z ++ [(qo, aL g 1 (vp_updL fo 0 v.toInt64))]) 0 := by
  refine ofWW rfl (fun p e s m args below meth c ha C hX htab hP hD hS => ?_)
  subst ha
  obtain ⟨hx, hb, hr, hml, hown, hlk, hts, hK, hZo, hZ⟩ := id C
  refine entryW (lv := [(0, .ref qdb), (1, .int p1), (2, .int p2), (3, .ref qo)]) rfl (Nat.le_of_ble_eq_true rfl) (fun ls hl => ?_)
  refine lv_aload_n hx hb d_La_setArms_0 rfl (lv_at hl 3 rfl) ?_
  refine lv_iconst (v := 0) hx hb d_La_setArms_1 (by decide) ?_
  refine lv_aload_n hx hb d_La_setArms_2 rfl (lv_at hl 0 rfl) ?_
  refine lv_iload_n hx hb d_La_setArms_3 rfl (lv_at hl 1 rfl) ?_
  refine lv_iload_n hx hb d_La_setArms_4 rfl (lv_at hl 2 rfl) ?_
  refine wcall C mf_Db_setArms qm_La_62 hM rfl rfl ⟨Nat.le_of_ble_eq_true rfl, Nat.le_of_ble_eq_true rfl⟩ ⟨Nat.le_of_ble_eq_true rfl, Nat.le_of_ble_eq_true rfl⟩ hP hD hS had hrec hcl hl rfl rfl (Nat.le_of_ble_eq_true rfl) d_La_setArms_5 (fun H locs hP hD hS => ?_)
  rw [hv]
  refine lv_i2l (x := v) hx hb d_La_setArms_8 rfl ?_
  refine stOut C hP hD hS d_La_setArms_9 (fun H locs hP hD hS => ?_)
  refine lv_goto (tgt := 17) hx hb d_La_setArms_10 (by decide) ?_
  refine lv_iconst (v := 0) hx hb d_La_setArms_17 (by decide) ?_
  refine W.widen (k := 1) (n := 6) (Nat.le_of_ble_eq_true rfl) (Nat.le_of_ble_eq_true rfl) ?_
  exact endW C hP hS d_La_setArms_18

theorem x_La_setArms_1 (l : Launch) (g : GX) {wx : va_W} {qdb qo ci N : Nat} {Tt : u_T} {fs : List Value} {fo : LV} {p1 p2 : Int32} {wx1 : va_W} (hM : TMet l y_Db_setArms b_Db_setArms 4 (some .int) rt_m g [.ref qdb, .int p1, .int p2] wx wx1 nIOB) (had : wx1.map Prod.fst = wx.map Prod.fst) (hrec : wx[0]? = some (qdb, .inr (ci, fs))) (hcl : vwCl[ci]? = some ("DecadeBridge", Tt, N)) : WMet l y_La_setArms b_La_setArms 5 [(0, 10, 13, 19)] rm_La g [.ref qdb, .int p1, .int p2, .ref qo] (wx ++ [(qo, aL g 1 fo)]) (wx1 ++ [(qo, aL g 1 fo)]) 1 := by
  refine ofWW rfl (fun p e s m args below meth c ha C hX htab hP hD hS => ?_)
  subst ha
  obtain ⟨hx, hb, hr, hml, hown, hlk, hts, hK, hZo, hZ⟩ := id C
  refine entryW (lv := [(0, .ref qdb), (1, .int p1), (2, .int p2), (3, .ref qo)]) rfl (Nat.le_of_ble_eq_true rfl) (fun ls hl => ?_)
  refine lv_aload_n hx hb d_La_setArms_0 rfl (lv_at hl 3 rfl) ?_
  refine lv_iconst (v := 0) hx hb d_La_setArms_1 (by decide) ?_
  refine lv_aload_n hx hb d_La_setArms_2 rfl (lv_at hl 0 rfl) ?_
  refine lv_iload_n hx hb d_La_setArms_3 rfl (lv_at hl 1 rfl) ?_
  refine lv_iload_n hx hb d_La_setArms_4 rfl (lv_at hl 2 rfl) ?_
  refine wcatch C hX htab mf_Db_setArms qm_La_62 hM rfl rfl ⟨Nat.le_of_ble_eq_true rfl, Nat.le_of_ble_eq_true rfl⟩ ⟨Nat.le_of_ble_eq_true rfl, Nat.le_of_ble_eq_true rfl⟩ hP hD hS had hrec hcl hl rfl rfl (Nat.le_of_ble_eq_true rfl) d_La_setArms_5 [] ⟨0, 10, 13, 19⟩ [] rfl (fun z hz => nomatch hz) (by decide) (by decide) kLI_tb xcI (fun q H locs hP hD hS => ?_)
  refine lv_astore (lv' := [(4, .ref q), (0, .ref qdb), (1, .int p1), (2, .int p2), (3, .ref qo)]) hx hb d_La_setArms_13 hl (by decide) rfl (fun ls hl => ?_)
  refine lv_iconst (v := 1) hx hb d_La_setArms_15 (by decide) ?_
  exact endW C hP hS d_La_setArms_16

theorem d_La_setVolts_0 : decode b_La_setVolts 0 = .ok (.aload_n 2, 1) := by decide +kernel
theorem d_La_setVolts_1 : decode b_La_setVolts 1 = .ok (.iconst 0, 1) := by decide +kernel
theorem d_La_setVolts_2 : decode b_La_setVolts 2 = .ok (.aload_n 0, 1) := by decide +kernel
theorem d_La_setVolts_3 : decode b_La_setVolts 3 = .ok (.iload_n 1, 1) := by decide +kernel
theorem d_La_setVolts_4 : decode b_La_setVolts 4 = .ok (.invokevirtual 65, 3) := by decide +kernel
theorem d_La_setVolts_7 : decode b_La_setVolts 7 = .ok (.i2l, 1) := by decide +kernel
theorem d_La_setVolts_8 : decode b_La_setVolts 8 = .ok (.lastore, 1) := by decide +kernel
theorem d_La_setVolts_9 : decode b_La_setVolts 9 = .ok (.goto 6, 3) := by decide +kernel
theorem d_La_setVolts_12 : decode b_La_setVolts 12 = .ok (.astore_n 3, 1) := by decide +kernel
theorem d_La_setVolts_13 : decode b_La_setVolts 13 = .ok (.iconst 1, 1) := by decide +kernel
theorem d_La_setVolts_14 : decode b_La_setVolts 14 = .ok (.ireturn, 1) := by decide +kernel
theorem d_La_setVolts_15 : decode b_La_setVolts 15 = .ok (.iconst 0, 1) := by decide +kernel
theorem d_La_setVolts_16 : decode b_La_setVolts 16 = .ok (.ireturn, 1) := by decide +kernel
theorem w_La_setVolts (l : Launch) (g : GX) {α : Type} {vf : α → Option Value} {wf : α → va_W} {z : α} {wx : va_W} {qdb qo ci N : Nat} {Tt : u_T} {fs : List Value} {fo : LV} {p1 : Int32} {v : Int32} (hM : Met l y_Db_setVolts (wsY y_Db_setVolts b_Db_setVolts 3 (some .int)) rm_Db_setVolts (CP g [.ref qdb, .int p1] wx) (CQ g (inW wx) vf wf z) 0 0 (inW wx)) (hv : vf z = some (.int v)) (had : (wf z).map Prod.fst = wx.map Prod.fst) (hrec : wx[0]? = some (qdb, .inr (ci, fs))) (hcl : vwCl[ci]? = some ("DecadeBridge", Tt, N)) : WMet l y_La_setVolts b_La_setVolts 4 [(0, 9, 12, 13)] rm_La g [.ref qdb, .int p1, .ref qo] (wx ++ [(qo, aL g 1 fo)]) (wf z ++ [(qo, aL g 1 (vp_updL fo 0 v.toInt64))]) 0 := by
  refine ofWW rfl (fun p e s m args below meth c ha C hX htab hP hD hS => ?_)
  subst ha
  obtain ⟨hx, hb, hr, hml, hown, hlk, hts, hK, hZo, hZ⟩ := id C
  refine entryW (lv := [(0, .ref qdb), (1, .int p1), (2, .ref qo)]) rfl (Nat.le_of_ble_eq_true rfl) (fun ls hl => ?_)
  refine lv_aload_n hx hb d_La_setVolts_0 rfl (lv_at hl 2 rfl) ?_
  refine lv_iconst (v := 0) hx hb d_La_setVolts_1 (by decide) ?_
  refine lv_aload_n hx hb d_La_setVolts_2 rfl (lv_at hl 0 rfl) ?_
  refine lv_iload_n hx hb d_La_setVolts_3 rfl (lv_at hl 1 rfl) ?_
  refine wcall C mf_Db_setVolts qm_La_65 hM rfl rfl ⟨Nat.le_of_ble_eq_true rfl, Nat.le_of_ble_eq_true rfl⟩ ⟨Nat.le_of_ble_eq_true rfl, Nat.le_of_ble_eq_true rfl⟩ hP hD hS had hrec hcl hl rfl rfl (Nat.le_of_ble_eq_true rfl) d_La_setVolts_4 (fun H locs hP hD hS => ?_)
  rw [hv]
  refine lv_i2l (x := v) hx hb d_La_setVolts_7 rfl ?_
  refine stOut C hP hD hS d_La_setVolts_8 (fun H locs hP hD hS => ?_)
  refine lv_goto (tgt := 15) hx hb d_La_setVolts_9 (by decide) ?_
  refine lv_iconst (v := 0) hx hb d_La_setVolts_15 (by decide) ?_
  refine W.widen (k := 1) (n := 6) (Nat.le_of_ble_eq_true rfl) (Nat.le_of_ble_eq_true rfl) ?_
  exact endW C hP hS d_La_setVolts_16

theorem x_La_setVolts_1 (l : Launch) (g : GX) {wx : va_W} {qdb qo ci N : Nat} {Tt : u_T} {fs : List Value} {fo : LV} {p1 : Int32} {wx1 : va_W} (hM : TMet l y_Db_setVolts b_Db_setVolts 3 (some .int) rt_m g [.ref qdb, .int p1] wx wx1 nIAE) (had : wx1.map Prod.fst = wx.map Prod.fst) (hrec : wx[0]? = some (qdb, .inr (ci, fs))) (hcl : vwCl[ci]? = some ("DecadeBridge", Tt, N)) : WMet l y_La_setVolts b_La_setVolts 4 [(0, 9, 12, 13)] rm_La g [.ref qdb, .int p1, .ref qo] (wx ++ [(qo, aL g 1 fo)]) (wx1 ++ [(qo, aL g 1 fo)]) 1 := by
  refine ofWW rfl (fun p e s m args below meth c ha C hX htab hP hD hS => ?_)
  subst ha
  obtain ⟨hx, hb, hr, hml, hown, hlk, hts, hK, hZo, hZ⟩ := id C
  refine entryW (lv := [(0, .ref qdb), (1, .int p1), (2, .ref qo)]) rfl (Nat.le_of_ble_eq_true rfl) (fun ls hl => ?_)
  refine lv_aload_n hx hb d_La_setVolts_0 rfl (lv_at hl 2 rfl) ?_
  refine lv_iconst (v := 0) hx hb d_La_setVolts_1 (by decide) ?_
  refine lv_aload_n hx hb d_La_setVolts_2 rfl (lv_at hl 0 rfl) ?_
  refine lv_iload_n hx hb d_La_setVolts_3 rfl (lv_at hl 1 rfl) ?_
  refine wcatch C hX htab mf_Db_setVolts qm_La_65 hM rfl rfl ⟨Nat.le_of_ble_eq_true rfl, Nat.le_of_ble_eq_true rfl⟩ ⟨Nat.le_of_ble_eq_true rfl, Nat.le_of_ble_eq_true rfl⟩ hP hD hS had hrec hcl hl rfl rfl (Nat.le_of_ble_eq_true rfl) d_La_setVolts_4 [] ⟨0, 9, 12, 13⟩ [] rfl (fun z hz => nomatch hz) (by decide) (by decide) kLA_tb xcA (fun q H locs hP hD hS => ?_)
  refine lv_astore_n (lv' := [(3, .ref q), (0, .ref qdb), (1, .int p1), (2, .ref qo)]) hx hb d_La_setVolts_12 rfl hl (by decide) rfl (fun ls hl => ?_)
  refine lv_iconst (v := 1) hx hb d_La_setVolts_13 (by decide) ?_
  exact endW C hP hS d_La_setVolts_14

theorem d_La_setTo_0 : decode b_La_setTo 0 = .ok (.aload_n 2, 1) := by decide +kernel
theorem d_La_setTo_1 : decode b_La_setTo 1 = .ok (.iconst 0, 1) := by decide +kernel
theorem d_La_setTo_2 : decode b_La_setTo 2 = .ok (.aload_n 0, 1) := by decide +kernel
theorem d_La_setTo_3 : decode b_La_setTo 3 = .ok (.iload_n 1, 1) := by decide +kernel
theorem d_La_setTo_4 : decode b_La_setTo 4 = .ok (.invokevirtual 68, 3) := by decide +kernel
theorem d_La_setTo_7 : decode b_La_setTo 7 = .ok (.i2l, 1) := by decide +kernel
theorem d_La_setTo_8 : decode b_La_setTo 8 = .ok (.lastore, 1) := by decide +kernel
theorem d_La_setTo_9 : decode b_La_setTo 9 = .ok (.goto 6, 3) := by decide +kernel
theorem d_La_setTo_12 : decode b_La_setTo 12 = .ok (.astore_n 3, 1) := by decide +kernel
theorem d_La_setTo_13 : decode b_La_setTo 13 = .ok (.iconst 1, 1) := by decide +kernel
theorem d_La_setTo_14 : decode b_La_setTo 14 = .ok (.ireturn, 1) := by decide +kernel
theorem d_La_setTo_15 : decode b_La_setTo 15 = .ok (.iconst 0, 1) := by decide +kernel
theorem d_La_setTo_16 : decode b_La_setTo 16 = .ok (.ireturn, 1) := by decide +kernel
theorem w_La_setTo (l : Launch) (g : GX) {α : Type} {vf : α → Option Value} {wf : α → va_W} {z : α} {wx : va_W} {qdb qo ci N : Nat} {Tt : u_T} {fs : List Value} {fo : LV} {p1 : Int32} {v : Int32} (hM : Met l y_Db_setTo (wsY y_Db_setTo b_Db_setTo 3 (some .int)) rm_Db_setTo (CP g [.ref qdb, .int p1] wx) (CQ g (inW wx) vf wf z) 0 0 (inW wx)) (hv : vf z = some (.int v)) (had : (wf z).map Prod.fst = wx.map Prod.fst) (hrec : wx[0]? = some (qdb, .inr (ci, fs))) (hcl : vwCl[ci]? = some ("DecadeBridge", Tt, N)) : WMet l y_La_setTo b_La_setTo 4 [(0, 9, 12, 13)] rm_La g [.ref qdb, .int p1, .ref qo] (wx ++ [(qo, aL g 1 fo)]) (wf z ++ [(qo, aL g 1 (vp_updL fo 0 v.toInt64))]) 0 := by
  refine ofWW rfl (fun p e s m args below meth c ha C hX htab hP hD hS => ?_)
  subst ha
  obtain ⟨hx, hb, hr, hml, hown, hlk, hts, hK, hZo, hZ⟩ := id C
  refine entryW (lv := [(0, .ref qdb), (1, .int p1), (2, .ref qo)]) rfl (Nat.le_of_ble_eq_true rfl) (fun ls hl => ?_)
  refine lv_aload_n hx hb d_La_setTo_0 rfl (lv_at hl 2 rfl) ?_
  refine lv_iconst (v := 0) hx hb d_La_setTo_1 (by decide) ?_
  refine lv_aload_n hx hb d_La_setTo_2 rfl (lv_at hl 0 rfl) ?_
  refine lv_iload_n hx hb d_La_setTo_3 rfl (lv_at hl 1 rfl) ?_
  refine wcall C mf_Db_setTo qm_La_68 hM rfl rfl ⟨Nat.le_of_ble_eq_true rfl, Nat.le_of_ble_eq_true rfl⟩ ⟨Nat.le_of_ble_eq_true rfl, Nat.le_of_ble_eq_true rfl⟩ hP hD hS had hrec hcl hl rfl rfl (Nat.le_of_ble_eq_true rfl) d_La_setTo_4 (fun H locs hP hD hS => ?_)
  rw [hv]
  refine lv_i2l (x := v) hx hb d_La_setTo_7 rfl ?_
  refine stOut C hP hD hS d_La_setTo_8 (fun H locs hP hD hS => ?_)
  refine lv_goto (tgt := 15) hx hb d_La_setTo_9 (by decide) ?_
  refine lv_iconst (v := 0) hx hb d_La_setTo_15 (by decide) ?_
  refine W.widen (k := 1) (n := 6) (Nat.le_of_ble_eq_true rfl) (Nat.le_of_ble_eq_true rfl) ?_
  exact endW C hP hS d_La_setTo_16

theorem x_La_setTo_1 (l : Launch) (g : GX) {wx : va_W} {qdb qo ci N : Nat} {Tt : u_T} {fs : List Value} {fo : LV} {p1 : Int32} {wx1 : va_W} (hM : TMet l y_Db_setTo b_Db_setTo 3 (some .int) rt_m g [.ref qdb, .int p1] wx wx1 nIAE) (had : wx1.map Prod.fst = wx.map Prod.fst) (hrec : wx[0]? = some (qdb, .inr (ci, fs))) (hcl : vwCl[ci]? = some ("DecadeBridge", Tt, N)) : WMet l y_La_setTo b_La_setTo 4 [(0, 9, 12, 13)] rm_La g [.ref qdb, .int p1, .ref qo] (wx ++ [(qo, aL g 1 fo)]) (wx1 ++ [(qo, aL g 1 fo)]) 1 := by
  refine ofWW rfl (fun p e s m args below meth c ha C hX htab hP hD hS => ?_)
  subst ha
  obtain ⟨hx, hb, hr, hml, hown, hlk, hts, hK, hZo, hZ⟩ := id C
  refine entryW (lv := [(0, .ref qdb), (1, .int p1), (2, .ref qo)]) rfl (Nat.le_of_ble_eq_true rfl) (fun ls hl => ?_)
  refine lv_aload_n hx hb d_La_setTo_0 rfl (lv_at hl 2 rfl) ?_
  refine lv_iconst (v := 0) hx hb d_La_setTo_1 (by decide) ?_
  refine lv_aload_n hx hb d_La_setTo_2 rfl (lv_at hl 0 rfl) ?_
  refine lv_iload_n hx hb d_La_setTo_3 rfl (lv_at hl 1 rfl) ?_
  refine wcatch C hX htab mf_Db_setTo qm_La_68 hM rfl rfl ⟨Nat.le_of_ble_eq_true rfl, Nat.le_of_ble_eq_true rfl⟩ ⟨Nat.le_of_ble_eq_true rfl, Nat.le_of_ble_eq_true rfl⟩ hP hD hS had hrec hcl hl rfl rfl (Nat.le_of_ble_eq_true rfl) d_La_setTo_4 [] ⟨0, 9, 12, 13⟩ [] rfl (fun z hz => nomatch hz) (by decide) (by decide) kLA_tb xcA (fun q H locs hP hD hS => ?_)
  refine lv_astore_n (lv' := [(3, .ref q), (0, .ref qdb), (1, .int p1), (2, .ref qo)]) hx hb d_La_setTo_12 rfl hl (by decide) rfl (fun ls hl => ?_)
  refine lv_iconst (v := 1) hx hb d_La_setTo_13 (by decide) ?_
  exact endW C hP hS d_La_setTo_14

theorem d_La_setDigit_0 : decode b_La_setDigit 0 = .ok (.aload_n 3, 1) := by decide +kernel
theorem d_La_setDigit_1 : decode b_La_setDigit 1 = .ok (.iconst 0, 1) := by decide +kernel
theorem d_La_setDigit_2 : decode b_La_setDigit 2 = .ok (.aload_n 0, 1) := by decide +kernel
theorem d_La_setDigit_3 : decode b_La_setDigit 3 = .ok (.iload_n 1, 1) := by decide +kernel
theorem d_La_setDigit_4 : decode b_La_setDigit 4 = .ok (.iload_n 2, 1) := by decide +kernel
theorem d_La_setDigit_5 : decode b_La_setDigit 5 = .ok (.invokevirtual 71, 3) := by decide +kernel
theorem d_La_setDigit_8 : decode b_La_setDigit 8 = .ok (.i2l, 1) := by decide +kernel
theorem d_La_setDigit_9 : decode b_La_setDigit 9 = .ok (.lastore, 1) := by decide +kernel
theorem d_La_setDigit_10 : decode b_La_setDigit 10 = .ok (.goto 11, 3) := by decide +kernel
theorem d_La_setDigit_13 : decode b_La_setDigit 13 = .ok (.astore 4, 2) := by decide +kernel
theorem d_La_setDigit_15 : decode b_La_setDigit 15 = .ok (.iconst 1, 1) := by decide +kernel
theorem d_La_setDigit_16 : decode b_La_setDigit 16 = .ok (.ireturn, 1) := by decide +kernel
theorem d_La_setDigit_17 : decode b_La_setDigit 17 = .ok (.astore 4, 2) := by decide +kernel
theorem d_La_setDigit_19 : decode b_La_setDigit 19 = .ok (.iconst 2, 1) := by decide +kernel
theorem d_La_setDigit_20 : decode b_La_setDigit 20 = .ok (.ireturn, 1) := by decide +kernel
theorem d_La_setDigit_21 : decode b_La_setDigit 21 = .ok (.iconst 0, 1) := by decide +kernel
theorem d_La_setDigit_22 : decode b_La_setDigit 22 = .ok (.ireturn, 1) := by decide +kernel
theorem w_La_setDigit (l : Launch) (g : GX) {α : Type} {vf : α → Option Value} {wf : α → va_W} {z : α} {wx : va_W} {qdb qo ci N : Nat} {Tt : u_T} {fs : List Value} {fo : LV} {p1 p2 : Int32} {v : Int32} (hM : Met l y_Db_setDigit (wsY y_Db_setDigit b_Db_setDigit 4 (some .int)) rm_Db_setDigit (CP g [.ref qdb, .int p1, .int p2] wx) (CQ g (inW wx) vf wf z) 0 0 (inW wx)) (hv : vf z = some (.int v)) (had : (wf z).map Prod.fst = wx.map Prod.fst) (hrec : wx[0]? = some (qdb, .inr (ci, fs))) (hcl : vwCl[ci]? = some ("DecadeBridge", Tt, N)) : WMet l y_La_setDigit b_La_setDigit 5 [(0, 10, 13, 19), (0, 10, 17, 13)] rm_La g [.ref qdb, .int p1, .int p2, .ref qo] (wx ++ [(qo, aL g 1 fo)]) (wf z ++ [(qo, aL g 1 (vp_updL fo 0 v.toInt64))]) 0 := by
  refine ofWW rfl (fun p e s m args below meth c ha C hX htab hP hD hS => ?_)
  subst ha
  obtain ⟨hx, hb, hr, hml, hown, hlk, hts, hK, hZo, hZ⟩ := id C
  refine entryW (lv := [(0, .ref qdb), (1, .int p1), (2, .int p2), (3, .ref qo)]) rfl (Nat.le_of_ble_eq_true rfl) (fun ls hl => ?_)
  refine lv_aload_n hx hb d_La_setDigit_0 rfl (lv_at hl 3 rfl) ?_
  refine lv_iconst (v := 0) hx hb d_La_setDigit_1 (by decide) ?_
  refine lv_aload_n hx hb d_La_setDigit_2 rfl (lv_at hl 0 rfl) ?_
  refine lv_iload_n hx hb d_La_setDigit_3 rfl (lv_at hl 1 rfl) ?_
  refine lv_iload_n hx hb d_La_setDigit_4 rfl (lv_at hl 2 rfl) ?_
  refine wcall C mf_Db_setDigit qm_La_71 hM rfl rfl ⟨Nat.le_of_ble_eq_true rfl, Nat.le_of_ble_eq_true rfl⟩ ⟨Nat.le_of_ble_eq_true rfl, Nat.le_of_ble_eq_true rfl⟩ hP hD hS had hrec hcl hl rfl rfl (Nat.le_of_ble_eq_true rfl) d_La_setDigit_5 (fun H locs hP hD hS => ?_)
  rw [hv]
  refine lv_i2l (x := v) hx hb d_La_setDigit_8 rfl ?_
  refine stOut C hP hD hS d_La_setDigit_9 (fun H locs hP hD hS => ?_)
  refine lv_goto (tgt := 21) hx hb d_La_setDigit_10 (by decide) ?_
  refine lv_iconst (v := 0) hx hb d_La_setDigit_21 (by decide) ?_
  refine W.widen (k := 1) (n := 6) (Nat.le_of_ble_eq_true rfl) (Nat.le_of_ble_eq_true rfl) ?_
  exact endW C hP hS d_La_setDigit_22

theorem x_La_setDigit_1 (l : Launch) (g : GX) {wx : va_W} {qdb qo ci N : Nat} {Tt : u_T} {fs : List Value} {fo : LV} {p1 p2 : Int32} {wx1 : va_W} (hM : TMet l y_Db_setDigit b_Db_setDigit 4 (some .int) rt_m g [.ref qdb, .int p1, .int p2] wx wx1 nIOB) (had : wx1.map Prod.fst = wx.map Prod.fst) (hrec : wx[0]? = some (qdb, .inr (ci, fs))) (hcl : vwCl[ci]? = some ("DecadeBridge", Tt, N)) : WMet l y_La_setDigit b_La_setDigit 5 [(0, 10, 13, 19), (0, 10, 17, 13)] rm_La g [.ref qdb, .int p1, .int p2, .ref qo] (wx ++ [(qo, aL g 1 fo)]) (wx1 ++ [(qo, aL g 1 fo)]) 1 := by
  refine ofWW rfl (fun p e s m args below meth c ha C hX htab hP hD hS => ?_)
  subst ha
  obtain ⟨hx, hb, hr, hml, hown, hlk, hts, hK, hZo, hZ⟩ := id C
  refine entryW (lv := [(0, .ref qdb), (1, .int p1), (2, .int p2), (3, .ref qo)]) rfl (Nat.le_of_ble_eq_true rfl) (fun ls hl => ?_)
  refine lv_aload_n hx hb d_La_setDigit_0 rfl (lv_at hl 3 rfl) ?_
  refine lv_iconst (v := 0) hx hb d_La_setDigit_1 (by decide) ?_
  refine lv_aload_n hx hb d_La_setDigit_2 rfl (lv_at hl 0 rfl) ?_
  refine lv_iload_n hx hb d_La_setDigit_3 rfl (lv_at hl 1 rfl) ?_
  refine lv_iload_n hx hb d_La_setDigit_4 rfl (lv_at hl 2 rfl) ?_
  refine wcatch C hX htab mf_Db_setDigit qm_La_71 hM rfl rfl ⟨Nat.le_of_ble_eq_true rfl, Nat.le_of_ble_eq_true rfl⟩ ⟨Nat.le_of_ble_eq_true rfl, Nat.le_of_ble_eq_true rfl⟩ hP hD hS had hrec hcl hl rfl rfl (Nat.le_of_ble_eq_true rfl) d_La_setDigit_5 [] ⟨0, 10, 13, 19⟩ [⟨0, 10, 17, 13⟩] rfl (fun z hz => nomatch hz) (by decide) (by decide) kLI_tb xcI (fun q H locs hP hD hS => ?_)
  refine lv_astore (lv' := [(4, .ref q), (0, .ref qdb), (1, .int p1), (2, .int p2), (3, .ref qo)]) hx hb d_La_setDigit_13 hl (by decide) rfl (fun ls hl => ?_)
  refine lv_iconst (v := 1) hx hb d_La_setDigit_15 (by decide) ?_
  exact endW C hP hS d_La_setDigit_16

theorem x_La_setDigit_2 (l : Launch) (g : GX) {wx : va_W} {qdb qo ci N : Nat} {Tt : u_T} {fs : List Value} {fo : LV} {p1 p2 : Int32} {wx1 : va_W} (hM : TMet l y_Db_setDigit b_Db_setDigit 4 (some .int) rt_m g [.ref qdb, .int p1, .int p2] wx wx1 nIAE) (had : wx1.map Prod.fst = wx.map Prod.fst) (hrec : wx[0]? = some (qdb, .inr (ci, fs))) (hcl : vwCl[ci]? = some ("DecadeBridge", Tt, N)) : WMet l y_La_setDigit b_La_setDigit 5 [(0, 10, 13, 19), (0, 10, 17, 13)] rm_La g [.ref qdb, .int p1, .int p2, .ref qo] (wx ++ [(qo, aL g 1 fo)]) (wx1 ++ [(qo, aL g 1 fo)]) 2 := by
  refine ofWW rfl (fun p e s m args below meth c ha C hX htab hP hD hS => ?_)
  subst ha
  obtain ⟨hx, hb, hr, hml, hown, hlk, hts, hK, hZo, hZ⟩ := id C
  refine entryW (lv := [(0, .ref qdb), (1, .int p1), (2, .int p2), (3, .ref qo)]) rfl (Nat.le_of_ble_eq_true rfl) (fun ls hl => ?_)
  refine lv_aload_n hx hb d_La_setDigit_0 rfl (lv_at hl 3 rfl) ?_
  refine lv_iconst (v := 0) hx hb d_La_setDigit_1 (by decide) ?_
  refine lv_aload_n hx hb d_La_setDigit_2 rfl (lv_at hl 0 rfl) ?_
  refine lv_iload_n hx hb d_La_setDigit_3 rfl (lv_at hl 1 rfl) ?_
  refine lv_iload_n hx hb d_La_setDigit_4 rfl (lv_at hl 2 rfl) ?_
  refine wcatch C hX htab mf_Db_setDigit qm_La_71 hM rfl rfl ⟨Nat.le_of_ble_eq_true rfl, Nat.le_of_ble_eq_true rfl⟩ ⟨Nat.le_of_ble_eq_true rfl, Nat.le_of_ble_eq_true rfl⟩ hP hD hS had hrec hcl hl rfl rfl (Nat.le_of_ble_eq_true rfl) d_La_setDigit_5 [⟨0, 10, 13, 19⟩] ⟨0, 10, 17, 13⟩ [] rfl (fun z hz => by
    rcases List.mem_singleton.mp hz with rfl
    exact Or.inr ⟨by decide, nIOB, hts _ kLI_tb, hX.2⟩) (by decide) (by decide) kLA_tb xcA (fun q H locs hP hD hS => ?_)
  refine lv_astore (lv' := [(4, .ref q), (0, .ref qdb), (1, .int p1), (2, .int p2), (3, .ref qo)]) hx hb d_La_setDigit_17 hl (by decide) rfl (fun ls hl => ?_)
  refine lv_iconst (v := 2) hx hb d_La_setDigit_19 (by decide) ?_
  exact endW C hP hS d_La_setDigit_20

theorem d_La_connect_0 : decode b_La_connect 0 = .ok (.aload_n 2, 1) := by decide +kernel
theorem d_La_connect_1 : decode b_La_connect 1 = .ok (.iconst 0, 1) := by decide +kernel
theorem d_La_connect_2 : decode b_La_connect 2 = .ok (.aload_n 0, 1) := by decide +kernel
theorem d_La_connect_3 : decode b_La_connect 3 = .ok (.iload_n 1, 1) := by decide +kernel
theorem d_La_connect_4 : decode b_La_connect 4 = .ok (.invokevirtual 74, 3) := by decide +kernel
theorem d_La_connect_7 : decode b_La_connect 7 = .ok (.i2l, 1) := by decide +kernel
theorem d_La_connect_8 : decode b_La_connect 8 = .ok (.lastore, 1) := by decide +kernel
theorem d_La_connect_9 : decode b_La_connect 9 = .ok (.goto 6, 3) := by decide +kernel
theorem d_La_connect_12 : decode b_La_connect 12 = .ok (.astore_n 3, 1) := by decide +kernel
theorem d_La_connect_13 : decode b_La_connect 13 = .ok (.iconst 1, 1) := by decide +kernel
theorem d_La_connect_14 : decode b_La_connect 14 = .ok (.ireturn, 1) := by decide +kernel
theorem d_La_connect_15 : decode b_La_connect 15 = .ok (.iconst 0, 1) := by decide +kernel
theorem d_La_connect_16 : decode b_La_connect 16 = .ok (.ireturn, 1) := by decide +kernel
theorem w_La_connect (l : Launch) (g : GX) {α : Type} {vf : α → Option Value} {wf : α → va_W} {z : α} {wx : va_W} {qdb qo ci N : Nat} {Tt : u_T} {fs : List Value} {fo : LV} {p1 : Int32} {v : Int32} (hM : Met l y_Db_connect (wsY y_Db_connect b_Db_connect 3 (some .int)) rm_Db_connect (CP g [.ref qdb, .int p1] wx) (CQ g (inW wx) vf wf z) 0 0 (inW wx)) (hv : vf z = some (.int v)) (had : (wf z).map Prod.fst = wx.map Prod.fst) (hrec : wx[0]? = some (qdb, .inr (ci, fs))) (hcl : vwCl[ci]? = some ("DecadeBridge", Tt, N)) : WMet l y_La_connect b_La_connect 4 [(0, 9, 12, 13)] rm_La g [.ref qdb, .int p1, .ref qo] (wx ++ [(qo, aL g 1 fo)]) (wf z ++ [(qo, aL g 1 (vp_updL fo 0 v.toInt64))]) 0 := by
  refine ofWW rfl (fun p e s m args below meth c ha C hX htab hP hD hS => ?_)
  subst ha
  obtain ⟨hx, hb, hr, hml, hown, hlk, hts, hK, hZo, hZ⟩ := id C
  refine entryW (lv := [(0, .ref qdb), (1, .int p1), (2, .ref qo)]) rfl (Nat.le_of_ble_eq_true rfl) (fun ls hl => ?_)
  refine lv_aload_n hx hb d_La_connect_0 rfl (lv_at hl 2 rfl) ?_
  refine lv_iconst (v := 0) hx hb d_La_connect_1 (by decide) ?_
  refine lv_aload_n hx hb d_La_connect_2 rfl (lv_at hl 0 rfl) ?_
  refine lv_iload_n hx hb d_La_connect_3 rfl (lv_at hl 1 rfl) ?_
  refine wcall C mf_Db_connect qm_La_74 hM rfl rfl ⟨Nat.le_of_ble_eq_true rfl, Nat.le_of_ble_eq_true rfl⟩ ⟨Nat.le_of_ble_eq_true rfl, Nat.le_of_ble_eq_true rfl⟩ hP hD hS had hrec hcl hl rfl rfl (Nat.le_of_ble_eq_true rfl) d_La_connect_4 (fun H locs hP hD hS => ?_)
  rw [hv]
  refine lv_i2l (x := v) hx hb d_La_connect_7 rfl ?_
  refine stOut C hP hD hS d_La_connect_8 (fun H locs hP hD hS => ?_)
  refine lv_goto (tgt := 15) hx hb d_La_connect_9 (by decide) ?_
  refine lv_iconst (v := 0) hx hb d_La_connect_15 (by decide) ?_
  refine W.widen (k := 1) (n := 6) (Nat.le_of_ble_eq_true rfl) (Nat.le_of_ble_eq_true rfl) ?_
  exact endW C hP hS d_La_connect_16

theorem x_La_connect_1 (l : Launch) (g : GX) {wx : va_W} {qdb qo ci N : Nat} {Tt : u_T} {fs : List Value} {fo : LV} {p1 : Int32} {wx1 : va_W} (hM : TMet l y_Db_connect b_Db_connect 3 (some .int) rt_m g [.ref qdb, .int p1] wx wx1 nIAE) (had : wx1.map Prod.fst = wx.map Prod.fst) (hrec : wx[0]? = some (qdb, .inr (ci, fs))) (hcl : vwCl[ci]? = some ("DecadeBridge", Tt, N)) : WMet l y_La_connect b_La_connect 4 [(0, 9, 12, 13)] rm_La g [.ref qdb, .int p1, .ref qo] (wx ++ [(qo, aL g 1 fo)]) (wx1 ++ [(qo, aL g 1 fo)]) 1 := by
  refine ofWW rfl (fun p e s m args below meth c ha C hX htab hP hD hS => ?_)
  subst ha
  obtain ⟨hx, hb, hr, hml, hown, hlk, hts, hK, hZo, hZ⟩ := id C
  refine entryW (lv := [(0, .ref qdb), (1, .int p1), (2, .ref qo)]) rfl (Nat.le_of_ble_eq_true rfl) (fun ls hl => ?_)
  refine lv_aload_n hx hb d_La_connect_0 rfl (lv_at hl 2 rfl) ?_
  refine lv_iconst (v := 0) hx hb d_La_connect_1 (by decide) ?_
  refine lv_aload_n hx hb d_La_connect_2 rfl (lv_at hl 0 rfl) ?_
  refine lv_iload_n hx hb d_La_connect_3 rfl (lv_at hl 1 rfl) ?_
  refine wcatch C hX htab mf_Db_connect qm_La_74 hM rfl rfl ⟨Nat.le_of_ble_eq_true rfl, Nat.le_of_ble_eq_true rfl⟩ ⟨Nat.le_of_ble_eq_true rfl, Nat.le_of_ble_eq_true rfl⟩ hP hD hS had hrec hcl hl rfl rfl (Nat.le_of_ble_eq_true rfl) d_La_connect_4 [] ⟨0, 9, 12, 13⟩ [] rfl (fun z hz => nomatch hz) (by decide) (by decide) kLA_tb xcA (fun q H locs hP hD hS => ?_)
  refine lv_astore_n (lv' := [(3, .ref q), (0, .ref qdb), (1, .int p1), (2, .ref qo)]) hx hb d_La_connect_12 rfl hl (by decide) rfl (fun ls hl => ?_)
  refine lv_iconst (v := 1) hx hb d_La_connect_13 (by decide) ?_
  exact endW C hP hS d_La_connect_14

theorem d_La_rest_0 : decode b_La_rest 0 = .ok (.aload_n 2, 1) := by decide +kernel
theorem d_La_rest_1 : decode b_La_rest 1 = .ok (.iconst 0, 1) := by decide +kernel
theorem d_La_rest_2 : decode b_La_rest 2 = .ok (.aload_n 0, 1) := by decide +kernel
theorem d_La_rest_3 : decode b_La_rest 3 = .ok (.iload_n 1, 1) := by decide +kernel
theorem d_La_rest_4 : decode b_La_rest 4 = .ok (.invokevirtual 77, 3) := by decide +kernel
theorem d_La_rest_7 : decode b_La_rest 7 = .ok (.i2l, 1) := by decide +kernel
theorem d_La_rest_8 : decode b_La_rest 8 = .ok (.lastore, 1) := by decide +kernel
theorem d_La_rest_9 : decode b_La_rest 9 = .ok (.goto 6, 3) := by decide +kernel
theorem d_La_rest_12 : decode b_La_rest 12 = .ok (.astore_n 3, 1) := by decide +kernel
theorem d_La_rest_13 : decode b_La_rest 13 = .ok (.iconst 1, 1) := by decide +kernel
theorem d_La_rest_14 : decode b_La_rest 14 = .ok (.ireturn, 1) := by decide +kernel
theorem d_La_rest_15 : decode b_La_rest 15 = .ok (.iconst 0, 1) := by decide +kernel
theorem d_La_rest_16 : decode b_La_rest 16 = .ok (.ireturn, 1) := by decide +kernel
theorem w_La_rest (l : Launch) (g : GX) {α : Type} {vf : α → Option Value} {wf : α → va_W} {z : α} {wx : va_W} {qdb qo ci N : Nat} {Tt : u_T} {fs : List Value} {fo : LV} {p1 : Int32} {v : Int32} (hM : Met l y_Db_rest (wsY y_Db_rest b_Db_rest 2 (some .int)) rm_Db_rest (CP g [.ref qdb, .int p1] wx) (CQ g (inW wx) vf wf z) 0 0 (inW wx)) (hv : vf z = some (.int v)) (had : (wf z).map Prod.fst = wx.map Prod.fst) (hrec : wx[0]? = some (qdb, .inr (ci, fs))) (hcl : vwCl[ci]? = some ("DecadeBridge", Tt, N)) : WMet l y_La_rest b_La_rest 4 [(0, 9, 12, 13)] rm_La g [.ref qdb, .int p1, .ref qo] (wx ++ [(qo, aL g 1 fo)]) (wf z ++ [(qo, aL g 1 (vp_updL fo 0 v.toInt64))]) 0 := by
  refine ofWW rfl (fun p e s m args below meth c ha C hX htab hP hD hS => ?_)
  subst ha
  obtain ⟨hx, hb, hr, hml, hown, hlk, hts, hK, hZo, hZ⟩ := id C
  refine entryW (lv := [(0, .ref qdb), (1, .int p1), (2, .ref qo)]) rfl (Nat.le_of_ble_eq_true rfl) (fun ls hl => ?_)
  refine lv_aload_n hx hb d_La_rest_0 rfl (lv_at hl 2 rfl) ?_
  refine lv_iconst (v := 0) hx hb d_La_rest_1 (by decide) ?_
  refine lv_aload_n hx hb d_La_rest_2 rfl (lv_at hl 0 rfl) ?_
  refine lv_iload_n hx hb d_La_rest_3 rfl (lv_at hl 1 rfl) ?_
  refine wcall C mf_Db_rest qm_La_77 hM rfl rfl ⟨Nat.le_of_ble_eq_true rfl, Nat.le_of_ble_eq_true rfl⟩ ⟨Nat.le_of_ble_eq_true rfl, Nat.le_of_ble_eq_true rfl⟩ hP hD hS had hrec hcl hl rfl rfl (Nat.le_of_ble_eq_true rfl) d_La_rest_4 (fun H locs hP hD hS => ?_)
  rw [hv]
  refine lv_i2l (x := v) hx hb d_La_rest_7 rfl ?_
  refine stOut C hP hD hS d_La_rest_8 (fun H locs hP hD hS => ?_)
  refine lv_goto (tgt := 15) hx hb d_La_rest_9 (by decide) ?_
  refine lv_iconst (v := 0) hx hb d_La_rest_15 (by decide) ?_
  refine W.widen (k := 1) (n := 6) (Nat.le_of_ble_eq_true rfl) (Nat.le_of_ble_eq_true rfl) ?_
  exact endW C hP hS d_La_rest_16

theorem x_La_rest_1 (l : Launch) (g : GX) {wx : va_W} {qdb qo ci N : Nat} {Tt : u_T} {fs : List Value} {fo : LV} {p1 : Int32} {wx1 : va_W} (hM : TMet l y_Db_rest b_Db_rest 2 (some .int) rt_m g [.ref qdb, .int p1] wx wx1 nIAE) (had : wx1.map Prod.fst = wx.map Prod.fst) (hrec : wx[0]? = some (qdb, .inr (ci, fs))) (hcl : vwCl[ci]? = some ("DecadeBridge", Tt, N)) : WMet l y_La_rest b_La_rest 4 [(0, 9, 12, 13)] rm_La g [.ref qdb, .int p1, .ref qo] (wx ++ [(qo, aL g 1 fo)]) (wx1 ++ [(qo, aL g 1 fo)]) 1 := by
  refine ofWW rfl (fun p e s m args below meth c ha C hX htab hP hD hS => ?_)
  subst ha
  obtain ⟨hx, hb, hr, hml, hown, hlk, hts, hK, hZo, hZ⟩ := id C
  refine entryW (lv := [(0, .ref qdb), (1, .int p1), (2, .ref qo)]) rfl (Nat.le_of_ble_eq_true rfl) (fun ls hl => ?_)
  refine lv_aload_n hx hb d_La_rest_0 rfl (lv_at hl 2 rfl) ?_
  refine lv_iconst (v := 0) hx hb d_La_rest_1 (by decide) ?_
  refine lv_aload_n hx hb d_La_rest_2 rfl (lv_at hl 0 rfl) ?_
  refine lv_iload_n hx hb d_La_rest_3 rfl (lv_at hl 1 rfl) ?_
  refine wcatch C hX htab mf_Db_rest qm_La_77 hM rfl rfl ⟨Nat.le_of_ble_eq_true rfl, Nat.le_of_ble_eq_true rfl⟩ ⟨Nat.le_of_ble_eq_true rfl, Nat.le_of_ble_eq_true rfl⟩ hP hD hS had hrec hcl hl rfl rfl (Nat.le_of_ble_eq_true rfl) d_La_rest_4 [] ⟨0, 9, 12, 13⟩ [] rfl (fun z hz => nomatch hz) (by decide) (by decide) kLA_tb xcA (fun q H locs hP hD hS => ?_)
  refine lv_astore_n (lv' := [(3, .ref q), (0, .ref qdb), (1, .int p1), (2, .ref qo)]) hx hb d_La_rest_12 rfl hl (by decide) rfl (fun ls hl => ?_)
  refine lv_iconst (v := 1) hx hb d_La_rest_13 (by decide) ?_
  exact endW C hP hS d_La_rest_14

theorem d_La_save_0 : decode b_La_save 0 = .ok (.aload_n 2, 1) := by decide +kernel
theorem d_La_save_1 : decode b_La_save 1 = .ok (.iconst 0, 1) := by decide +kernel
theorem d_La_save_2 : decode b_La_save 2 = .ok (.aload_n 0, 1) := by decide +kernel
theorem d_La_save_3 : decode b_La_save 3 = .ok (.iload_n 1, 1) := by decide +kernel
theorem d_La_save_4 : decode b_La_save 4 = .ok (.invokevirtual 80, 3) := by decide +kernel
theorem d_La_save_7 : decode b_La_save 7 = .ok (.i2l, 1) := by decide +kernel
theorem d_La_save_8 : decode b_La_save 8 = .ok (.lastore, 1) := by decide +kernel
theorem d_La_save_9 : decode b_La_save 9 = .ok (.goto 6, 3) := by decide +kernel
theorem d_La_save_12 : decode b_La_save 12 = .ok (.astore_n 3, 1) := by decide +kernel
theorem d_La_save_13 : decode b_La_save 13 = .ok (.iconst 1, 1) := by decide +kernel
theorem d_La_save_14 : decode b_La_save 14 = .ok (.ireturn, 1) := by decide +kernel
theorem d_La_save_15 : decode b_La_save 15 = .ok (.iconst 0, 1) := by decide +kernel
theorem d_La_save_16 : decode b_La_save 16 = .ok (.ireturn, 1) := by decide +kernel
theorem w_La_save (l : Launch) (g : GX) {α : Type} {vf : α → Option Value} {wf : α → va_W} {z : α} {wx : va_W} {qdb qo ci N : Nat} {Tt : u_T} {fs : List Value} {fo : LV} {p1 : Int32} {v : Int32} (hM : Met l y_Db_save (wsY y_Db_save b_Db_save 3 (some .int)) rm_Db_save (CP g [.ref qdb, .int p1] wx) (CQ g (inW wx) vf wf z) 0 0 (inW wx)) (hv : vf z = some (.int v)) (had : (wf z).map Prod.fst = wx.map Prod.fst) (hrec : wx[0]? = some (qdb, .inr (ci, fs))) (hcl : vwCl[ci]? = some ("DecadeBridge", Tt, N)) : WMet l y_La_save b_La_save 4 [(0, 9, 12, 13)] rm_La g [.ref qdb, .int p1, .ref qo] (wx ++ [(qo, aL g 1 fo)]) (wf z ++ [(qo, aL g 1 (vp_updL fo 0 v.toInt64))]) 0 := by
  refine ofWW rfl (fun p e s m args below meth c ha C hX htab hP hD hS => ?_)
  subst ha
  obtain ⟨hx, hb, hr, hml, hown, hlk, hts, hK, hZo, hZ⟩ := id C
  refine entryW (lv := [(0, .ref qdb), (1, .int p1), (2, .ref qo)]) rfl (Nat.le_of_ble_eq_true rfl) (fun ls hl => ?_)
  refine lv_aload_n hx hb d_La_save_0 rfl (lv_at hl 2 rfl) ?_
  refine lv_iconst (v := 0) hx hb d_La_save_1 (by decide) ?_
  refine lv_aload_n hx hb d_La_save_2 rfl (lv_at hl 0 rfl) ?_
  refine lv_iload_n hx hb d_La_save_3 rfl (lv_at hl 1 rfl) ?_
  refine wcall C mf_Db_save qm_La_80 hM rfl rfl ⟨Nat.le_of_ble_eq_true rfl, Nat.le_of_ble_eq_true rfl⟩ ⟨Nat.le_of_ble_eq_true rfl, Nat.le_of_ble_eq_true rfl⟩ hP hD hS had hrec hcl hl rfl rfl (Nat.le_of_ble_eq_true rfl) d_La_save_4 (fun H locs hP hD hS => ?_)
  rw [hv]
  refine lv_i2l (x := v) hx hb d_La_save_7 rfl ?_
  refine stOut C hP hD hS d_La_save_8 (fun H locs hP hD hS => ?_)
  refine lv_goto (tgt := 15) hx hb d_La_save_9 (by decide) ?_
  refine lv_iconst (v := 0) hx hb d_La_save_15 (by decide) ?_
  refine W.widen (k := 1) (n := 6) (Nat.le_of_ble_eq_true rfl) (Nat.le_of_ble_eq_true rfl) ?_
  exact endW C hP hS d_La_save_16

theorem x_La_save_1 (l : Launch) (g : GX) {wx : va_W} {qdb qo ci N : Nat} {Tt : u_T} {fs : List Value} {fo : LV} {p1 : Int32} {wx1 : va_W} (hM : TMet l y_Db_save b_Db_save 3 (some .int) rt_m g [.ref qdb, .int p1] wx wx1 nIAE) (had : wx1.map Prod.fst = wx.map Prod.fst) (hrec : wx[0]? = some (qdb, .inr (ci, fs))) (hcl : vwCl[ci]? = some ("DecadeBridge", Tt, N)) : WMet l y_La_save b_La_save 4 [(0, 9, 12, 13)] rm_La g [.ref qdb, .int p1, .ref qo] (wx ++ [(qo, aL g 1 fo)]) (wx1 ++ [(qo, aL g 1 fo)]) 1 := by
  refine ofWW rfl (fun p e s m args below meth c ha C hX htab hP hD hS => ?_)
  subst ha
  obtain ⟨hx, hb, hr, hml, hown, hlk, hts, hK, hZo, hZ⟩ := id C
  refine entryW (lv := [(0, .ref qdb), (1, .int p1), (2, .ref qo)]) rfl (Nat.le_of_ble_eq_true rfl) (fun ls hl => ?_)
  refine lv_aload_n hx hb d_La_save_0 rfl (lv_at hl 2 rfl) ?_
  refine lv_iconst (v := 0) hx hb d_La_save_1 (by decide) ?_
  refine lv_aload_n hx hb d_La_save_2 rfl (lv_at hl 0 rfl) ?_
  refine lv_iload_n hx hb d_La_save_3 rfl (lv_at hl 1 rfl) ?_
  refine wcatch C hX htab mf_Db_save qm_La_80 hM rfl rfl ⟨Nat.le_of_ble_eq_true rfl, Nat.le_of_ble_eq_true rfl⟩ ⟨Nat.le_of_ble_eq_true rfl, Nat.le_of_ble_eq_true rfl⟩ hP hD hS had hrec hcl hl rfl rfl (Nat.le_of_ble_eq_true rfl) d_La_save_4 [] ⟨0, 9, 12, 13⟩ [] rfl (fun z hz => nomatch hz) (by decide) (by decide) kLA_tb xcA (fun q H locs hP hD hS => ?_)
  refine lv_astore_n (lv' := [(3, .ref q), (0, .ref qdb), (1, .int p1), (2, .ref qo)]) hx hb d_La_save_12 rfl hl (by decide) rfl (fun ls hl => ?_)
  refine lv_iconst (v := 1) hx hb d_La_save_13 (by decide) ?_
  exact endW C hP hS d_La_save_14

theorem d_La_restore_0 : decode b_La_restore 0 = .ok (.aload_n 2, 1) := by decide +kernel
theorem d_La_restore_1 : decode b_La_restore 1 = .ok (.iconst 0, 1) := by decide +kernel
theorem d_La_restore_2 : decode b_La_restore 2 = .ok (.aload_n 0, 1) := by decide +kernel
theorem d_La_restore_3 : decode b_La_restore 3 = .ok (.iload_n 1, 1) := by decide +kernel
theorem d_La_restore_4 : decode b_La_restore 4 = .ok (.invokevirtual 83, 3) := by decide +kernel
theorem d_La_restore_7 : decode b_La_restore 7 = .ok (.i2l, 1) := by decide +kernel
theorem d_La_restore_8 : decode b_La_restore 8 = .ok (.lastore, 1) := by decide +kernel
theorem d_La_restore_9 : decode b_La_restore 9 = .ok (.goto 6, 3) := by decide +kernel
theorem d_La_restore_12 : decode b_La_restore 12 = .ok (.astore_n 3, 1) := by decide +kernel
theorem d_La_restore_13 : decode b_La_restore 13 = .ok (.iconst 1, 1) := by decide +kernel
theorem d_La_restore_14 : decode b_La_restore 14 = .ok (.ireturn, 1) := by decide +kernel
theorem d_La_restore_15 : decode b_La_restore 15 = .ok (.iconst 0, 1) := by decide +kernel
theorem d_La_restore_16 : decode b_La_restore 16 = .ok (.ireturn, 1) := by decide +kernel
theorem w_La_restore (l : Launch) (g : GX) {α : Type} {vf : α → Option Value} {wf : α → va_W} {z : α} {wx : va_W} {qdb qo ci N : Nat} {Tt : u_T} {fs : List Value} {fo : LV} {p1 : Int32} {v : Int32} (hM : Met l y_Db_restore (wsY y_Db_restore b_Db_restore 3 (some .int)) rm_Db_restore (CP g [.ref qdb, .int p1] wx) (CQ g (inW wx) vf wf z) 0 0 (inW wx)) (hv : vf z = some (.int v)) (had : (wf z).map Prod.fst = wx.map Prod.fst) (hrec : wx[0]? = some (qdb, .inr (ci, fs))) (hcl : vwCl[ci]? = some ("DecadeBridge", Tt, N)) : WMet l y_La_restore b_La_restore 4 [(0, 9, 12, 13)] rm_La g [.ref qdb, .int p1, .ref qo] (wx ++ [(qo, aL g 1 fo)]) (wf z ++ [(qo, aL g 1 (vp_updL fo 0 v.toInt64))]) 0 := by
  refine ofWW rfl (fun p e s m args below meth c ha C hX htab hP hD hS => ?_)
  subst ha
  obtain ⟨hx, hb, hr, hml, hown, hlk, hts, hK, hZo, hZ⟩ := id C
  refine entryW (lv := [(0, .ref qdb), (1, .int p1), (2, .ref qo)]) rfl (Nat.le_of_ble_eq_true rfl) (fun ls hl => ?_)
  refine lv_aload_n hx hb d_La_restore_0 rfl (lv_at hl 2 rfl) ?_
  refine lv_iconst (v := 0) hx hb d_La_restore_1 (by decide) ?_
  refine lv_aload_n hx hb d_La_restore_2 rfl (lv_at hl 0 rfl) ?_
  refine lv_iload_n hx hb d_La_restore_3 rfl (lv_at hl 1 rfl) ?_
  refine wcall C mf_Db_restore qm_La_83 hM rfl rfl ⟨Nat.le_of_ble_eq_true rfl, Nat.le_of_ble_eq_true rfl⟩ ⟨Nat.le_of_ble_eq_true rfl, Nat.le_of_ble_eq_true rfl⟩ hP hD hS had hrec hcl hl rfl rfl (Nat.le_of_ble_eq_true rfl) d_La_restore_4 (fun H locs hP hD hS => ?_)
  rw [hv]
  refine lv_i2l (x := v) hx hb d_La_restore_7 rfl ?_
  refine stOut C hP hD hS d_La_restore_8 (fun H locs hP hD hS => ?_)
  refine lv_goto (tgt := 15) hx hb d_La_restore_9 (by decide) ?_
  refine lv_iconst (v := 0) hx hb d_La_restore_15 (by decide) ?_
  refine W.widen (k := 1) (n := 6) (Nat.le_of_ble_eq_true rfl) (Nat.le_of_ble_eq_true rfl) ?_
  exact endW C hP hS d_La_restore_16

theorem x_La_restore_1 (l : Launch) (g : GX) {wx : va_W} {qdb qo ci N : Nat} {Tt : u_T} {fs : List Value} {fo : LV} {p1 : Int32} {wx1 : va_W} (hM : TMet l y_Db_restore b_Db_restore 3 (some .int) rt_m g [.ref qdb, .int p1] wx wx1 nIAE) (had : wx1.map Prod.fst = wx.map Prod.fst) (hrec : wx[0]? = some (qdb, .inr (ci, fs))) (hcl : vwCl[ci]? = some ("DecadeBridge", Tt, N)) : WMet l y_La_restore b_La_restore 4 [(0, 9, 12, 13)] rm_La g [.ref qdb, .int p1, .ref qo] (wx ++ [(qo, aL g 1 fo)]) (wx1 ++ [(qo, aL g 1 fo)]) 1 := by
  refine ofWW rfl (fun p e s m args below meth c ha C hX htab hP hD hS => ?_)
  subst ha
  obtain ⟨hx, hb, hr, hml, hown, hlk, hts, hK, hZo, hZ⟩ := id C
  refine entryW (lv := [(0, .ref qdb), (1, .int p1), (2, .ref qo)]) rfl (Nat.le_of_ble_eq_true rfl) (fun ls hl => ?_)
  refine lv_aload_n hx hb d_La_restore_0 rfl (lv_at hl 2 rfl) ?_
  refine lv_iconst (v := 0) hx hb d_La_restore_1 (by decide) ?_
  refine lv_aload_n hx hb d_La_restore_2 rfl (lv_at hl 0 rfl) ?_
  refine lv_iload_n hx hb d_La_restore_3 rfl (lv_at hl 1 rfl) ?_
  refine wcatch C hX htab mf_Db_restore qm_La_83 hM rfl rfl ⟨Nat.le_of_ble_eq_true rfl, Nat.le_of_ble_eq_true rfl⟩ ⟨Nat.le_of_ble_eq_true rfl, Nat.le_of_ble_eq_true rfl⟩ hP hD hS had hrec hcl hl rfl rfl (Nat.le_of_ble_eq_true rfl) d_La_restore_4 [] ⟨0, 9, 12, 13⟩ [] rfl (fun z hz => nomatch hz) (by decide) (by decide) kLA_tb xcA (fun q H locs hP hD hS => ?_)
  refine lv_astore_n (lv' := [(3, .ref q), (0, .ref qdb), (1, .int p1), (2, .ref qo)]) hx hb d_La_restore_12 rfl hl (by decide) rfl (fun ls hl => ?_)
  refine lv_iconst (v := 1) hx hb d_La_restore_13 (by decide) ?_
  exact endW C hP hS d_La_restore_14

end TXD
