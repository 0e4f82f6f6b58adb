abbrev rm_Db_result : Room := { frames := 4, cells := 0, slots := 0, locals := 89 }
noncomputable def sp_Db_result (p1 : Int32) (p2 : Int32) (ea : IV) (rar : NI) : Int32 := lett (sp_Db_checkIndex p1 (ea 1)) fun (y2 : Unit) => lett (sp_Db_checkRange p2 (0 : Int32) (6 : Int32)) fun (y4 : Unit) => lett (sp_Rs_at p1 ea) fun (y5 : Option Nat) => optt y5 ((-1 : Int32)) (fun (k6 : Nat) => if p2 = (0 : Int32) then (rar k6 0) else (if p2 = (1 : Int32) then (rar k6 1) else (if p2 = (2 : Int32) then (rar k6 2) else (if p2 = (3 : Int32) then (rar k6 3) else (if p2 = (4 : Int32) then (rar k6 4) else (if p2 = (5 : Int32) then (rar k6 5) else (lett (sp_Rs_mannerOf p1 ea rar) fun (y14 : Int32) => y14)))))))
def ok_Db_result (p1 : Int32) (p2 : Int32) (ea : IV) (rar : NI) : Prop := (ok_Db_checkIndex p1 (ea 1)) ∧ lett (sp_Db_checkIndex p1 (ea 1)) fun (y2 : Unit) => (ok_Db_checkRange p2 (0 : Int32) (6 : Int32)) ∧ lett (sp_Db_checkRange p2 (0 : Int32) (6 : Int32)) fun (y4 : Unit) => lett (sp_Rs_at p1 ea) fun (y5 : Option Nat) => ((y5 = none → True) ∧ (∀ k6 : Nat, y5 = some k6 → ((p2 = (0 : Int32) → (k6 < 20) ∧ True) ∧ (¬ (p2 = (0 : Int32)) → ((p2 = (1 : Int32) → (k6 < 20) ∧ True) ∧ (¬ (p2 = (1 : Int32)) → ((p2 = (2 : Int32) → (k6 < 20) ∧ True) ∧ (¬ (p2 = (2 : Int32)) → ((p2 = (3 : Int32) → (k6 < 20) ∧ True) ∧ (¬ (p2 = (3 : Int32)) → ((p2 = (4 : Int32) → (k6 < 20) ∧ True) ∧ (¬ (p2 = (4 : Int32)) → ((p2 = (5 : Int32) → (k6 < 20) ∧ True) ∧ (¬ (p2 = (5 : Int32)) → (ok_Rs_mannerOf p1 ea rar) ∧ True))))))))))))))
set_option maxRecDepth 100000 in
set_option maxHeartbeats 4000000 in
theorem c_Db_result (l : Launch) (g : GX) (qdb : Nat) (qte : Nat) (qteb : Nat) (qpa : Nat) (qpae : Nat) (qpar : Nat) (qpau : Nat) (qpab : Nat) (qsu : Nat) (qdp : Nat) (qdpe : Nat) (qdpr : Nat) (qdpu : Nat) (qdpb : Nat) (qpr : Nat) (qpro : Nat) (qprf : Nat) (qprs : Nat) (qprb : Nat) (qprn : Nat) (qprt : Nat) (qbe : Nat) (qci : Nat) (qrd : Nat) (qrs : Nat) (qrsr : Nat) (ua : Nat → Nat) (qse : Nat) (qct : Nat) (qre : Nat) (qreb : Nat) (qpst : Nat) (qkpt : Nat) (qfil : Nat) (qbp : Nat → Nat → Nat) (qbk : Nat → Nat → Nat) (dv : IV) (t : IV) (tb : IV) (w0 : IV) (w1 : IV) (w2 : IV) (w3 : IV) (w4 : IV) (su : IV) (d0 : IV) (d1 : IV) (d2 : IV) (d3 : IV) (d4 : IV) (pi : IV) (po : IV) (pf : IV) (ps : IV) (pb : IV) (pn : IV) (pt : IV) (ba : IV) (ca : IV) (cal : LV) (da : IV) (ea : IV) (eal : LV) (rar : NI) (ral : NL) (cb : IV) (cbl : LV) (rev : IV) (rb : IV) (fl : IV) (xb : NI) (xc : NI) (xcl : NL) (xd : NI) (xe : NI) (xel : NL) (xr : NNI) (xrl : NNL) (yb : NI) (yc : NI) (ycl : NL) (yd : NI) (ye : NI) (yel : NL) (yr : NNI) (yrl : NNL) (p1 : Int32) (p2 : Int32) (hok : ok_Db_result p1 p2 ea rar) : Met l y_Db_result (wsY y_Db_result b_Db_result 4 (some .int)) rm_Db_result (CP g [.ref qdb, .int p1, .int p2] (wDb g qdb qte qteb qpa qpae qpar qpau qpab qsu qdp qdpe qdpr qdpu qdpb qpr qpro qprf qprs qprb qprn qprt qbe qci qrd qrs qrsr ua qse qct qre qreb qpst qkpt qfil qbp qbk dv t tb w0 w1 w2 w3 w4 su d0 d1 d2 d3 d4 pi po pf ps pb pn pt ba ca cal da ea eal rar ral cb cbl rev rb fl xb xc xcl xd xe xel xr xrl yb yc ycl yd ye yel yr yrl)) (CI0 g (wDb g qdb qte qteb qpa qpae qpar qpau qpab qsu qdp qdpe qdpr qdpu qdpb qpr qpro qprf qprs qprb qprn qprt qbe qci qrd qrs qrsr ua qse qct qre qreb qpst qkpt qfil qbp qbk dv t tb w0 w1 w2 w3 w4 su d0 d1 d2 d3 d4 pi po pf ps pb pn pt ba ca cal da ea eal rar ral cb cbl rev rb fl xb xc xcl xd xe xel xr xrl yb yc ycl yd ye yel yr yrl) (sp_Db_result p1 p2 ea rar)) 0 0 (inW (wDb g qdb qte qteb qpa qpae qpar qpau qpab qsu qdp qdpe qdpr qdpu qdpb qpr qpro qprf qprs qprb qprn qprt qbe qci qrd qrs qrsr ua qse qct qre qreb qpst qkpt qfil qbp qbk dv t tb w0 w1 w2 w3 w4 su d0 d1 d2 d3 d4 pi po pf ps pb pn pt ba ca cal da ea eal rar ral cb cbl rev rb fl xb xc xcl xd xe xel xr xrl yb yc ycl yd ye yel yr yrl)) := by
  refine Met.ofW (cc := b_Db_result) (maxL := 4) (ret := (some .int)) pn_Db rfl ?_
  intro p e s m args below meth c s₁ B hml hv
  obtain ⟨rfl, C, hP, hD, hS⟩ := enter "DecadeBridge" rfl B hml hv
  obtain ⟨hx, hb, hr, hml, hown, hlk, hts, hK, hZo, hZ⟩ := id C
  refine entryW (lv := [(0, .ref qdb), (1, .int p1), (2, .int p2)]) rfl (Nat.le_of_ble_eq_true rfl) (fun ls hl => ?_)
  obtain ⟨z, hz⟩ : ∃ z, z = sp_Db_result p1 p2 ea rar := ⟨_, rfl⟩
  rw [← hz]
  unfold sp_Db_result at hz
  unfold ok_Db_result at hok
  refine lv_iload_n hx hb d_Db_result_0 rfl (lv_at hl 1 rfl) ?_
  refine lv_aload_n hx hb d_Db_result_1 rfl (lv_at hl 0 rfl) ?_
  refine gf C hP 0 4 fkDb rfl (by decide) rfl qf_Db_44 (gDb_4 _ _ _ _ _ _ _ _ _ _ _) d_Db_result_2 ?_
  refine gf C hP 21 6 fkBe rfl (by decide) rfl qf_Db_190 (gBe_6 _ _ _ _ _) d_Db_result_5 ?_
  refine gf C hP 24 1 fkRs rfl (by decide) rfl qf_Db_194 (gRs_1 _ _ _) d_Db_result_8 ?_
  have hs1 := hok.1
  have hok := hok.2
  have hB : SubW g (inW (wDb g qdb qte qteb qpa qpae qpar qpau qpab qsu qdp qdpe qdpr qdpu qdpb qpr qpro qprf qprs qprb qprn qprt qbe qci qrd qrs qrsr ua qse qct qre qreb qpst qkpt qfil qbp qbk dv t tb w0 w1 w2 w3 w4 su d0 d1 d2 d3 d4 pi po pf ps pb pn pt ba ca cal da ea eal rar ral cb cbl rev rb fl xb xc xcl xd xe xel xr xrl yb yc ycl yd ye yel yr yrl)) s (wDb g qdb qte qteb qpa qpae qpar qpau qpab qsu qdp qdpe qdpr qdpu qdpb qpr qpro qprf qprs qprb qprn qprt qbe qci qrd qrs qrsr ua qse qct qre qreb qpst qkpt qfil qbp qbk dv t tb w0 w1 w2 w3 w4 su d0 d1 d2 d3 d4 pi po pf ps pb pn pt ba ca cal da ea eal rar ral cb cbl rev rb fl xb xc xcl xd xe xel xr xrl yb yc ycl yd ye yel yr yrl) (wNil g ) [] _ _ := ⟨rfl, rfl, hP, hD, hS⟩
  refine goV0 hB (run_s C mf_Db_checkIndex qm_Db_206 (c_Db_checkIndex l g p1 (ea 1) hs1) rfl rfl ⟨Nat.le_of_ble_eq_true rfl, Nat.le_of_ble_eq_true rfl⟩ ⟨Nat.le_of_ble_eq_true rfl, Nat.le_of_ble_eq_true rfl⟩ hB hl rfl rfl (Nat.le_of_ble_eq_true rfl) d_Db_result_11) (fun y2 ey2 H locs hP hS => ?_)
  have hz := lett_z hz ey2
  have hok := lett_o hok ey2
  refine lv_iload_n hx hb d_Db_result_14 rfl (lv_at hl 2 rfl) ?_
  refine lv_iconst (v := 0) hx hb d_Db_result_15 (by decide) ?_
  refine lv_bipush (v := 6) hx hb d_Db_result_16 (by decide) ?_
  have hs3 := hok.1
  have hok := hok.2
  have hB : SubW g (inW (wDb g qdb qte qteb qpa qpae qpar qpau qpab qsu qdp qdpe qdpr qdpu qdpb qpr qpro qprf qprs qprb qprn qprt qbe qci qrd qrs qrsr ua qse qct qre qreb qpst qkpt qfil qbp qbk dv t tb w0 w1 w2 w3 w4 su d0 d1 d2 d3 d4 pi po pf ps pb pn pt ba ca cal da ea eal rar ral cb cbl rev rb fl xb xc xcl xd xe xel xr xrl yb yc ycl yd ye yel yr yrl)) s (wDb g qdb qte qteb qpa qpae qpar qpau qpab qsu qdp qdpe qdpr qdpu qdpb qpr qpro qprf qprs qprb qprn qprt qbe qci qrd qrs qrsr ua qse qct qre qreb qpst qkpt qfil qbp qbk dv t tb w0 w1 w2 w3 w4 su d0 d1 d2 d3 d4 pi po pf ps pb pn pt ba ca cal da ea eal rar ral cb cbl rev rb fl xb xc xcl xd xe xel xr xrl yb yc ycl yd ye yel yr yrl) (wNil g ) [] _ _ := ⟨rfl, rfl, hP, hD, hS⟩
  refine goV0 hB (run_s C mf_Db_checkRange qm_Db_131 (c_Db_checkRange l g p2 (0 : Int32) (6 : Int32) hs3) rfl rfl ⟨Nat.le_of_ble_eq_true rfl, Nat.le_of_ble_eq_true rfl⟩ ⟨Nat.le_of_ble_eq_true rfl, Nat.le_of_ble_eq_true rfl⟩ hB hl rfl rfl (Nat.le_of_ble_eq_true rfl) d_Db_result_18) (fun y4 ey4 H locs hP hS => ?_)
  have hz := lett_z hz ey4
  have hok := lett_o hok ey4
  refine lv_aload_n hx hb d_Db_result_21 rfl (lv_at hl 0 rfl) ?_
  refine gf C hP 0 4 fkDb rfl (by decide) rfl qf_Db_44 (gDb_4 _ _ _ _ _ _ _ _ _ _ _) d_Db_result_22 ?_
  refine gf C hP 21 6 fkBe rfl (by decide) rfl qf_Db_190 (gBe_6 _ _ _ _ _) d_Db_result_25 ?_
  refine lv_iload_n hx hb d_Db_result_28 rfl (lv_at hl 1 rfl) ?_
  have hB : SubW g (inW (wDb g qdb qte qteb qpa qpae qpar qpau qpab qsu qdp qdpe qdpr qdpu qdpb qpr qpro qprf qprs qprb qprn qprt qbe qci qrd qrs qrsr ua qse qct qre qreb qpst qkpt qfil qbp qbk dv t tb w0 w1 w2 w3 w4 su d0 d1 d2 d3 d4 pi po pf ps pb pn pt ba ca cal da ea eal rar ral cb cbl rev rb fl xb xc xcl xd xe xel xr xrl yb yc ycl yd ye yel yr yrl)) s (wDb g qdb qte qteb qpa qpae qpar qpau qpab qsu qdp qdpe qdpr qdpu qdpb qpr qpro qprf qprs qprb qprn qprt qbe qci qrd qrs qrsr ua qse qct qre qreb qpst qkpt qfil qbp qbk dv t tb w0 w1 w2 w3 w4 su d0 d1 d2 d3 d4 pi po pf ps pb pn pt ba ca cal da ea eal rar ral cb cbl rev rb fl xb xc xcl xd xe xel xr xrl yb yc ycl yd ye yel yr yrl) (wRs g qrs qrsr ua ea eal rar ral) [24, 25, 26, 27, 28, 29, 30, 31, 32, 33, 34, 35, 36, 37, 38, 39, 40, 41, 42, 43, 44, 45] _ _ := ⟨rfl, rfl, hP, hD, hS⟩
  refine goO0 hB (run_v C mf_Rs_at qm_Db_321 (c_Rs_at l g qrs qrsr ua ea eal rar ral p1) rfl rfl ⟨Nat.le_of_ble_eq_true rfl, Nat.le_of_ble_eq_true rfl⟩ ⟨Nat.le_of_ble_eq_true rfl, Nat.le_of_ble_eq_true rfl⟩ hB rfl rfl hl rfl rfl (Nat.le_of_ble_eq_true rfl) d_Db_result_29) (fun y5 ey5 H locs hP hS => ?_)
  have hz := lett_z hz ey5
  have hok := lett_o hok ey5
  refine lv_astore_nQ (Rf := ua) (o := y5) (lv' := [(3, va_rf (Option.map ua y5)), (0, .ref qdb), (1, .int p1), (2, .int p2)]) hx hb d_Db_result_32 rfl hl (by decide) rfl (fun ls hl => ?_)
  refine lv_aload_nQ (Rf := ua) (o := y5) hx hb d_Db_result_33 rfl (lv_at hl 0 rfl) ?_
  rcases y5 with _ | k6
  · have hz := optt_n hz
    refine lv_ifnonnullN hx hb d_Db_result_34 ?_
    refine lv_iconst (v := -1) hx hb d_Db_result_37 (by decide) ?_
    exact endI0 C hz hP hS d_Db_result_38
  · have hz := optt_s hz
    have hok := hok.2 _ rfl
    refine lv_ifnonnull (tgt := 39) hx hb d_Db_result_34 (by decide) ?_
    refine lv_iload_n hx hb d_Db_result_39 rfl (lv_at hl 3 rfl) ?_
    by_cases c15_0 : p2 = (0 : Int32)
    · have hz := hz.trans (if_pos c15_0)
      have hok := hok.1 c15_0
      refine lv_tableIn (x := p2) (off := 40) (tgt := 80) hx hb d_Db_result_40 (by rw [c15_0]; decide) (by rw [c15_0]; decide) (by rw [c15_0]; rfl) (by decide) ?_
      refine lv_aload_n hx hb d_Db_result_80 rfl (lv_at hl 0 rfl) ?_
      have hs7 := hok.1
      have hok := hok.2
      refine gf C hP (k6 + 26) 0 fkRt (pg_Db_rp hs7) (by decide) rfl qf_Db_325 (gRt_0 _ _) d_Db_result_81 ?_
      exact endI0 C hz hP hS d_Db_result_84
    have hz := hz.trans (if_neg c15_0)
    have hok := hok.2 c15_0
    by_cases c15_1 : p2 = (1 : Int32)
    · have hz := hz.trans (if_pos c15_1)
      have hok := hok.1 c15_1
      refine lv_tableIn (x := p2) (off := 45) (tgt := 85) hx hb d_Db_result_40 (by rw [c15_1]; decide) (by rw [c15_1]; decide) (by rw [c15_1]; rfl) (by decide) ?_
      refine lv_aload_n hx hb d_Db_result_85 rfl (lv_at hl 0 rfl) ?_
      have hs8 := hok.1
      have hok := hok.2
      refine gf C hP (k6 + 26) 1 fkRt (pg_Db_rp hs8) (by decide) rfl qf_Db_328 (gRt_1 _ _) d_Db_result_86 ?_
      exact endI0 C hz hP hS d_Db_result_89
    have hz := hz.trans (if_neg c15_1)
    have hok := hok.2 c15_1
    by_cases c15_2 : p2 = (2 : Int32)
    · have hz := hz.trans (if_pos c15_2)
      have hok := hok.1 c15_2
      refine lv_tableIn (x := p2) (off := 50) (tgt := 90) hx hb d_Db_result_40 (by rw [c15_2]; decide) (by rw [c15_2]; decide) (by rw [c15_2]; rfl) (by decide) ?_
      refine lv_aload_n hx hb d_Db_result_90 rfl (lv_at hl 0 rfl) ?_
      have hs9 := hok.1
      have hok := hok.2
      refine gf C hP (k6 + 26) 2 fkRt (pg_Db_rp hs9) (by decide) rfl qf_Db_329 (gRt_2 _ _) d_Db_result_91 ?_
      exact endI0 C hz hP hS d_Db_result_94
    have hz := hz.trans (if_neg c15_2)
    have hok := hok.2 c15_2
    by_cases c15_3 : p2 = (3 : Int32)
    · have hz := hz.trans (if_pos c15_3)
      have hok := hok.1 c15_3
      refine lv_tableIn (x := p2) (off := 55) (tgt := 95) hx hb d_Db_result_40 (by rw [c15_3]; decide) (by rw [c15_3]; decide) (by rw [c15_3]; rfl) (by decide) ?_
      refine lv_aload_n hx hb d_Db_result_95 rfl (lv_at hl 0 rfl) ?_
      have hs10 := hok.1
      have hok := hok.2
      refine gf C hP (k6 + 26) 3 fkRt (pg_Db_rp hs10) (by decide) rfl qf_Db_330 (gRt_3 _ _) d_Db_result_96 ?_
      exact endI0 C hz hP hS d_Db_result_99
    have hz := hz.trans (if_neg c15_3)
    have hok := hok.2 c15_3
    by_cases c15_4 : p2 = (4 : Int32)
    · have hz := hz.trans (if_pos c15_4)
      have hok := hok.1 c15_4
      refine lv_tableIn (x := p2) (off := 60) (tgt := 100) hx hb d_Db_result_40 (by rw [c15_4]; decide) (by rw [c15_4]; decide) (by rw [c15_4]; rfl) (by decide) ?_
      refine lv_aload_n hx hb d_Db_result_100 rfl (lv_at hl 0 rfl) ?_
      have hs11 := hok.1
      have hok := hok.2
      refine gf C hP (k6 + 26) 4 fkRt (pg_Db_rp hs11) (by decide) rfl qf_Db_331 (gRt_4 _ _) d_Db_result_101 ?_
      exact endI0 C hz hP hS d_Db_result_104
    have hz := hz.trans (if_neg c15_4)
    have hok := hok.2 c15_4
    by_cases c15_5 : p2 = (5 : Int32)
    · have hz := hz.trans (if_pos c15_5)
      have hok := hok.1 c15_5
      refine lv_tableIn (x := p2) (off := 65) (tgt := 105) hx hb d_Db_result_40 (by rw [c15_5]; decide) (by rw [c15_5]; decide) (by rw [c15_5]; rfl) (by decide) ?_
      refine lv_aload_n hx hb d_Db_result_105 rfl (lv_at hl 0 rfl) ?_
      have hs12 := hok.1
      have hok := hok.2
      refine gf C hP (k6 + 26) 5 fkRt (pg_Db_rp hs12) (by decide) rfl qf_Db_332 (gRt_5 _ _) d_Db_result_106 ?_
      exact endI0 C hz hP hS d_Db_result_109
    have hz := hz.trans (if_neg c15_5)
    have hok := hok.2 c15_5
    refine lv_tableOut (x := p2) (tgt := 110) hx hb d_Db_result_40 (tswL (x := p2) (lo := 0) (hi := 5) 6 [(0 : Int32), (1 : Int32), (2 : Int32), (3 : Int32), (4 : Int32), (5 : Int32)] (by decide) (by decide) (List.forall_mem_cons.mpr ⟨c15_0, List.forall_mem_cons.mpr ⟨c15_1, List.forall_mem_cons.mpr ⟨c15_2, List.forall_mem_cons.mpr ⟨c15_3, List.forall_mem_cons.mpr ⟨c15_4, List.forall_mem_cons.mpr ⟨c15_5, fun _ h => absurd h List.not_mem_nil⟩⟩⟩⟩⟩⟩)) (by decide) ?_
    refine lv_aload_n hx hb d_Db_result_110 rfl (lv_at hl 1 rfl) ?_
    refine gf C hP 0 4 fkDb rfl (by decide) rfl qf_Db_44 (gDb_4 _ _ _ _ _ _ _ _ _ _ _) d_Db_result_111 ?_
    refine gf C hP 21 6 fkBe rfl (by decide) rfl qf_Db_190 (gBe_6 _ _ _ _ _) d_Db_result_114 ?_
    refine lv_iload_n hx hb d_Db_result_117 rfl (lv_at hl 2 rfl) ?_
    have hs13 := hok.1
    have hok := hok.2
    have hB : SubW g (inW (wDb g qdb qte qteb qpa qpae qpar qpau qpab qsu qdp qdpe qdpr qdpu qdpb qpr qpro qprf qprs qprb qprn qprt qbe qci qrd qrs qrsr ua qse qct qre qreb qpst qkpt qfil qbp qbk dv t tb w0 w1 w2 w3 w4 su d0 d1 d2 d3 d4 pi po pf ps pb pn pt ba ca cal da ea eal rar ral cb cbl rev rb fl xb xc xcl xd xe xel xr xrl yb yc ycl yd ye yel yr yrl)) s (wDb g qdb qte qteb qpa qpae qpar qpau qpab qsu qdp qdpe qdpr qdpu qdpb qpr qpro qprf qprs qprb qprn qprt qbe qci qrd qrs qrsr ua qse qct qre qreb qpst qkpt qfil qbp qbk dv t tb w0 w1 w2 w3 w4 su d0 d1 d2 d3 d4 pi po pf ps pb pn pt ba ca cal da ea eal rar ral cb cbl rev rb fl xb xc xcl xd xe xel xr xrl yb yc ycl yd ye yel yr yrl) (wRs g qrs qrsr ua ea eal rar ral) [24, 25, 26, 27, 28, 29, 30, 31, 32, 33, 34, 35, 36, 37, 38, 39, 40, 41, 42, 43, 44, 45] _ _ := ⟨rfl, rfl, hP, hD, hS⟩
    refine goI0 hB (run_v C mf_Rs_mannerOf qm_Db_335 (c_Rs_mannerOf l g qrs qrsr ua ea eal rar ral p1 hs13) rfl rfl ⟨Nat.le_of_ble_eq_true rfl, Nat.le_of_ble_eq_true rfl⟩ ⟨Nat.le_of_ble_eq_true rfl, Nat.le_of_ble_eq_true rfl⟩ hB rfl rfl hl rfl rfl (Nat.le_of_ble_eq_true rfl) d_Db_result_118) (fun y14 ey14 H locs hP hS => ?_)
    have hz := lett_z hz ey14
    exact endI0 C hz hP hS d_Db_result_121
