abbrev rm_Db_feed : Room := { frames := 1, cells := 0, slots := 0, locals := 23 }
noncomputable def sp_Db_feed (p1 : Int32) (p2 : Int32) (p3 : Int32) (p4 : Int32) (p5 : Int32) (t : IV) (tb : IV) : Int32 × IV × IV := lett (sp_Te_bytesOf p1) fun (y2 : Int32) => lett (sp_Te_bytesOf p2) fun (y4 : Int32) => lett (sp_Te_bytesOf p3) fun (y6 : Int32) => lett (sp_Te_bytesOf p4) fun (y8 : Int32) => lett (sp_Te_bytesOf p5) fun (y10 : Int32) => lett ((((y2 + y4) + y6) + y8) + y10) fun (v11 : Int32) => if ((t 1) + v11) ≤ (600 : Int32) then (lett (sp_Te_append p1 t tb) fun (y14 : IV × IV) => lett (sp_Te_append p2 y14.1 y14.2) fun (y16 : IV × IV) => lett (sp_Te_append p3 y16.1 y16.2) fun (y18 : IV × IV) => lett (sp_Te_append p4 y18.1 y18.2) fun (y20 : IV × IV) => lett (sp_Te_append p5 y20.1 y20.2) fun (y22 : IV × IV) => (y22.1 1, (y22.1, y22.2))) else (((-1 : Int32), (t, tb)))
def ok_Db_feed (p1 : Int32) (p2 : Int32) (p3 : Int32) (p4 : Int32) (p5 : Int32) (t : IV) (tb : IV) : Prop := (ok_Te_bytesOf p1) ∧ lett (sp_Te_bytesOf p1) fun (y2 : Int32) => (ok_Te_bytesOf p2) ∧ lett (sp_Te_bytesOf p2) fun (y4 : Int32) => (ok_Te_bytesOf p3) ∧ lett (sp_Te_bytesOf p3) fun (y6 : Int32) => (ok_Te_bytesOf p4) ∧ lett (sp_Te_bytesOf p4) fun (y8 : Int32) => (ok_Te_bytesOf p5) ∧ lett (sp_Te_bytesOf p5) fun (y10 : Int32) => lett ((((y2 + y4) + y6) + y8) + y10) fun (v11 : Int32) => ((((t 1) + v11) ≤ (600 : Int32) → (ok_Te_append p1 t tb) ∧ lett (sp_Te_append p1 t tb) fun (y14 : IV × IV) => (ok_Te_append p2 y14.1 y14.2) ∧ lett (sp_Te_append p2 y14.1 y14.2) fun (y16 : IV × IV) => (ok_Te_append p3 y16.1 y16.2) ∧ lett (sp_Te_append p3 y16.1 y16.2) fun (y18 : IV × IV) => (ok_Te_append p4 y18.1 y18.2) ∧ lett (sp_Te_append p4 y18.1 y18.2) fun (y20 : IV × IV) => (ok_Te_append p5 y20.1 y20.2) ∧ True) ∧ (¬ (((t 1) + v11) ≤ (600 : Int32)) → True))
set_option maxRecDepth 100000 in
set_option maxHeartbeats 4000000 in
theorem c_Db_feed (l : Launch) (g : GX) (qdb : Nat) (qte : Nat) (qteb : Nat) (qpa : Nat) (qpae : Nat) (qpar : Nat) (qpau : Nat) (qpab : Nat) (qsu : Nat) (qdp : Nat) (qdpe : Nat) (qdpr : Nat) (qdpu : Nat) (qdpb : Nat) (qpr : Nat) (qpro : Nat) (qprf : Nat) (qprs : Nat) (qprb : Nat) (qprn : Nat) (qprt : Nat) (qbe : Nat) (qci : Nat) (qrd : Nat) (qrs : Nat) (qrsr : Nat) (ua : Nat → Nat) (qse : Nat) (qct : Nat) (qre : Nat) (qreb : Nat) (qpst : Nat) (qkpt : Nat) (qfil : Nat) (qbp : Nat → Nat → Nat) (qbk : Nat → Nat → Nat) (dv : IV) (t : IV) (tb : IV) (w0 : IV) (w1 : IV) (w2 : IV) (w3 : IV) (w4 : IV) (su : IV) (d0 : IV) (d1 : IV) (d2 : IV) (d3 : IV) (d4 : IV) (pi : IV) (po : IV) (pf : IV) (ps : IV) (pb : IV) (pn : IV) (pt : IV) (ba : IV) (ca : IV) (cal : LV) (da : IV) (ea : IV) (eal : LV) (rar : NI) (ral : NL) (cb : IV) (cbl : LV) (rev : IV) (rb : IV) (fl : IV) (xb : NI) (xc : NI) (xcl : NL) (xd : NI) (xe : NI) (xel : NL) (xr : NNI) (xrl : NNL) (yb : NI) (yc : NI) (ycl : NL) (yd : NI) (ye : NI) (yel : NL) (yr : NNI) (yrl : NNL) (p1 : Int32) (p2 : Int32) (p3 : Int32) (p4 : Int32) (p5 : Int32) (hok : ok_Db_feed p1 p2 p3 p4 p5 t tb) : Met l y_Db_feed (wsY y_Db_feed b_Db_feed 7 (some .int)) rm_Db_feed (CP g [.ref qdb, .int p1, .int p2, .int p3, .int p4, .int p5] (wDb g qdb qte qteb qpa qpae qpar qpau qpab qsu qdp qdpe qdpr qdpu qdpb qpr qpro qprf qprs qprb qprn qprt qbe qci qrd qrs qrsr ua qse qct qre qreb qpst qkpt qfil qbp qbk dv t tb w0 w1 w2 w3 w4 su d0 d1 d2 d3 d4 pi po pf ps pb pn pt ba ca cal da ea eal rar ral cb cbl rev rb fl xb xc xcl xd xe xel xr xrl yb yc ycl yd ye yel yr yrl)) (CI g (wDb g qdb qte qteb qpa qpae qpar qpau qpab qsu qdp qdpe qdpr qdpu qdpb qpr qpro qprf qprs qprb qprn qprt qbe qci qrd qrs qrsr ua qse qct qre qreb qpst qkpt qfil qbp qbk dv t tb w0 w1 w2 w3 w4 su d0 d1 d2 d3 d4 pi po pf ps pb pn pt ba ca cal da ea eal rar ral cb cbl rev rb fl xb xc xcl xd xe xel xr xrl yb yc ycl yd ye yel yr yrl) (fun u : IV × IV => wDb g qdb qte qteb qpa qpae qpar qpau qpab qsu qdp qdpe qdpr qdpu qdpb qpr qpro qprf qprs qprb qprn qprt qbe qci qrd qrs qrsr ua qse qct qre qreb qpst qkpt qfil qbp qbk dv u.1 u.2 w0 w1 w2 w3 w4 su d0 d1 d2 d3 d4 pi po pf ps pb pn pt ba ca cal da ea eal rar ral cb cbl rev rb fl xb xc xcl xd xe xel xr xrl yb yc ycl yd ye yel yr yrl) (sp_Db_feed p1 p2 p3 p4 p5 t tb)) 0 0 (inW (wDb g qdb qte qteb qpa qpae qpar qpau qpab qsu qdp qdpe qdpr qdpu qdpb qpr qpro qprf qprs qprb qprn qprt qbe qci qrd qrs qrsr ua qse qct qre qreb qpst qkpt qfil qbp qbk dv t tb w0 w1 w2 w3 w4 su d0 d1 d2 d3 d4 pi po pf ps pb pn pt ba ca cal da ea eal rar ral cb cbl rev rb fl xb xc xcl xd xe xel xr xrl yb yc ycl yd ye yel yr yrl)) := by
  refine Met.ofW (cc := b_Db_feed) (maxL := 7) (ret := (some .int)) pn_Db rfl ?_
  intro p e s m args below meth c s₁ B hml hv
  obtain ⟨rfl, C, hP, hD, hS⟩ := enter "DecadeBridge" rfl B hml hv
  obtain ⟨hx, hb, hr, hml, hown, hlk, hts, hK, hZo, hZ⟩ := id C
  refine entryW (lv := [(0, .ref qdb), (1, .int p1), (2, .int p2), (3, .int p3), (4, .int p4), (5, .int p5)]) rfl (Nat.le_of_ble_eq_true rfl) (fun ls hl => ?_)
  obtain ⟨z, hz⟩ : ∃ z, z = sp_Db_feed p1 p2 p3 p4 p5 t tb := ⟨_, rfl⟩
  rw [← hz]
  unfold sp_Db_feed at hz
  unfold ok_Db_feed at hok
  refine lv_iload_n hx hb d_Db_feed_0 rfl (lv_at hl 1 rfl) ?_
  have hs1 := hok.1
  have hok := hok.2
  have hB : SubW g (inW (wDb g qdb qte qteb qpa qpae qpar qpau qpab qsu qdp qdpe qdpr qdpu qdpb qpr qpro qprf qprs qprb qprn qprt qbe qci qrd qrs qrsr ua qse qct qre qreb qpst qkpt qfil qbp qbk dv t tb w0 w1 w2 w3 w4 su d0 d1 d2 d3 d4 pi po pf ps pb pn pt ba ca cal da ea eal rar ral cb cbl rev rb fl xb xc xcl xd xe xel xr xrl yb yc ycl yd ye yel yr yrl)) s (wDb g qdb qte qteb qpa qpae qpar qpau qpab qsu qdp qdpe qdpr qdpu qdpb qpr qpro qprf qprs qprb qprn qprt qbe qci qrd qrs qrsr ua qse qct qre qreb qpst qkpt qfil qbp qbk dv t tb w0 w1 w2 w3 w4 su d0 d1 d2 d3 d4 pi po pf ps pb pn pt ba ca cal da ea eal rar ral cb cbl rev rb fl xb xc xcl xd xe xel xr xrl yb yc ycl yd ye yel yr yrl) (wNil g ) [] _ _ := ⟨rfl, rfl, hP, hD, hS⟩
  refine goI0 hB (run_s C mf_Te_bytesOf qm_Db_73 (c_Te_bytesOf l g p1 hs1) rfl rfl ⟨Nat.le_of_ble_eq_true rfl, Nat.le_of_ble_eq_true rfl⟩ ⟨Nat.le_of_ble_eq_true rfl, Nat.le_of_ble_eq_true rfl⟩ hB hl rfl rfl (Nat.le_of_ble_eq_true rfl) d_Db_feed_1) (fun y2 ey2 H locs hP hS => ?_)
  have hz := lett_z hz ey2
  have hok := lett_o hok ey2
  refine lv_iload_n hx hb d_Db_feed_4 rfl (lv_at hl 2 rfl) ?_
  have hs3 := hok.1
  have hok := hok.2
  have hB : SubW g (inW (wDb g qdb qte qteb qpa qpae qpar qpau qpab qsu qdp qdpe qdpr qdpu qdpb qpr qpro qprf qprs qprb qprn qprt qbe qci qrd qrs qrsr ua qse qct qre qreb qpst qkpt qfil qbp qbk dv t tb w0 w1 w2 w3 w4 su d0 d1 d2 d3 d4 pi po pf ps pb pn pt ba ca cal da ea eal rar ral cb cbl rev rb fl xb xc xcl xd xe xel xr xrl yb yc ycl yd ye yel yr yrl)) s (wDb g qdb qte qteb qpa qpae qpar qpau qpab qsu qdp qdpe qdpr qdpu qdpb qpr qpro qprf qprs qprb qprn qprt qbe qci qrd qrs qrsr ua qse qct qre qreb qpst qkpt qfil qbp qbk dv t tb w0 w1 w2 w3 w4 su d0 d1 d2 d3 d4 pi po pf ps pb pn pt ba ca cal da ea eal rar ral cb cbl rev rb fl xb xc xcl xd xe xel xr xrl yb yc ycl yd ye yel yr yrl) (wNil g ) [] _ _ := ⟨rfl, rfl, hP, hD, hS⟩
  refine goI0 hB (run_s C mf_Te_bytesOf qm_Db_73 (c_Te_bytesOf l g p2 hs3) rfl rfl ⟨Nat.le_of_ble_eq_true rfl, Nat.le_of_ble_eq_true rfl⟩ ⟨Nat.le_of_ble_eq_true rfl, Nat.le_of_ble_eq_true rfl⟩ hB hl rfl rfl (Nat.le_of_ble_eq_true rfl) d_Db_feed_5) (fun y4 ey4 H locs hP hS => ?_)
  have hz := lett_z hz ey4
  have hok := lett_o hok ey4
  refine lv_iadd hx hb d_Db_feed_8 ?_
  refine lv_iload_n hx hb d_Db_feed_9 rfl (lv_at hl 3 rfl) ?_
  have hs5 := hok.1
  have hok := hok.2
  have hB : SubW g (inW (wDb g qdb qte qteb qpa qpae qpar qpau qpab qsu qdp qdpe qdpr qdpu qdpb qpr qpro qprf qprs qprb qprn qprt qbe qci qrd qrs qrsr ua qse qct qre qreb qpst qkpt qfil qbp qbk dv t tb w0 w1 w2 w3 w4 su d0 d1 d2 d3 d4 pi po pf ps pb pn pt ba ca cal da ea eal rar ral cb cbl rev rb fl xb xc xcl xd xe xel xr xrl yb yc ycl yd ye yel yr yrl)) s (wDb g qdb qte qteb qpa qpae qpar qpau qpab qsu qdp qdpe qdpr qdpu qdpb qpr qpro qprf qprs qprb qprn qprt qbe qci qrd qrs qrsr ua qse qct qre qreb qpst qkpt qfil qbp qbk dv t tb w0 w1 w2 w3 w4 su d0 d1 d2 d3 d4 pi po pf ps pb pn pt ba ca cal da ea eal rar ral cb cbl rev rb fl xb xc xcl xd xe xel xr xrl yb yc ycl yd ye yel yr yrl) (wNil g ) [] _ _ := ⟨rfl, rfl, hP, hD, hS⟩
  refine goI0 hB (run_s C mf_Te_bytesOf qm_Db_73 (c_Te_bytesOf l g p3 hs5) rfl rfl ⟨Nat.le_of_ble_eq_true rfl, Nat.le_of_ble_eq_true rfl⟩ ⟨Nat.le_of_ble_eq_true rfl, Nat.le_of_ble_eq_true rfl⟩ hB hl rfl rfl (Nat.le_of_ble_eq_true rfl) d_Db_feed_10) (fun y6 ey6 H locs hP hS => ?_)
  have hz := lett_z hz ey6
  have hok := lett_o hok ey6
  refine lv_iadd hx hb d_Db_feed_13 ?_
  refine lv_iload hx hb d_Db_feed_14 (lv_at hl 4 rfl) ?_
  have hs7 := hok.1
  have hok := hok.2
  have hB : SubW g (inW (wDb g qdb qte qteb qpa qpae qpar qpau qpab qsu qdp qdpe qdpr qdpu qdpb qpr qpro qprf qprs qprb qprn qprt qbe qci qrd qrs qrsr ua qse qct qre qreb qpst qkpt qfil qbp qbk dv t tb w0 w1 w2 w3 w4 su d0 d1 d2 d3 d4 pi po pf ps pb pn pt ba ca cal da ea eal rar ral cb cbl rev rb fl xb xc xcl xd xe xel xr xrl yb yc ycl yd ye yel yr yrl)) s (wDb g qdb qte qteb qpa qpae qpar qpau qpab qsu qdp qdpe qdpr qdpu qdpb qpr qpro qprf qprs qprb qprn qprt qbe qci qrd qrs qrsr ua qse qct qre qreb qpst qkpt qfil qbp qbk dv t tb w0 w1 w2 w3 w4 su d0 d1 d2 d3 d4 pi po pf ps pb pn pt ba ca cal da ea eal rar ral cb cbl rev rb fl xb xc xcl xd xe xel xr xrl yb yc ycl yd ye yel yr yrl) (wNil g ) [] _ _ := ⟨rfl, rfl, hP, hD, hS⟩
  refine goI0 hB (run_s C mf_Te_bytesOf qm_Db_73 (c_Te_bytesOf l g p4 hs7) rfl rfl ⟨Nat.le_of_ble_eq_true rfl, Nat.le_of_ble_eq_true rfl⟩ ⟨Nat.le_of_ble_eq_true rfl, Nat.le_of_ble_eq_true rfl⟩ hB hl rfl rfl (Nat.le_of_ble_eq_true rfl) d_Db_feed_16) (fun y8 ey8 H locs hP hS => ?_)
  have hz := lett_z hz ey8
  have hok := lett_o hok ey8
  refine lv_iadd hx hb d_Db_feed_19 ?_
  refine lv_iload hx hb d_Db_feed_20 (lv_at hl 5 rfl) ?_
  have hs9 := hok.1
  have hok := hok.2
  have hB : SubW g (inW (wDb g qdb qte qteb qpa qpae qpar qpau qpab qsu qdp qdpe qdpr qdpu qdpb qpr qpro qprf qprs qprb qprn qprt qbe qci qrd qrs qrsr ua qse qct qre qreb qpst qkpt qfil qbp qbk dv t tb w0 w1 w2 w3 w4 su d0 d1 d2 d3 d4 pi po pf ps pb pn pt ba ca cal da ea eal rar ral cb cbl rev rb fl xb xc xcl xd xe xel xr xrl yb yc ycl yd ye yel yr yrl)) s (wDb g qdb qte qteb qpa qpae qpar qpau qpab qsu qdp qdpe qdpr qdpu qdpb qpr qpro qprf qprs qprb qprn qprt qbe qci qrd qrs qrsr ua qse qct qre qreb qpst qkpt qfil qbp qbk dv t tb w0 w1 w2 w3 w4 su d0 d1 d2 d3 d4 pi po pf ps pb pn pt ba ca cal da ea eal rar ral cb cbl rev rb fl xb xc xcl xd xe xel xr xrl yb yc ycl yd ye yel yr yrl) (wNil g ) [] _ _ := ⟨rfl, rfl, hP, hD, hS⟩
  refine goI0 hB (run_s C mf_Te_bytesOf qm_Db_73 (c_Te_bytesOf l g p5 hs9) rfl rfl ⟨Nat.le_of_ble_eq_true rfl, Nat.le_of_ble_eq_true rfl⟩ ⟨Nat.le_of_ble_eq_true rfl, Nat.le_of_ble_eq_true rfl⟩ hB hl rfl rfl (Nat.le_of_ble_eq_true rfl) d_Db_feed_22) (fun y10 ey10 H locs hP hS => ?_)
  have hz := lett_z hz ey10
  have hok := lett_o hok ey10
  refine lv_iadd hx hb d_Db_feed_25 ?_
  refine lv_topi (fun v11 ev11 => ?_)
  have hz := lett_z hz ev11
  have hok := lett_o hok ev11
  refine lv_istore (lv' := [(6, .int v11), (0, .ref qdb), (1, .int p1), (2, .int p2), (3, .int p3), (4, .int p4), (5, .int p5)]) hx hb d_Db_feed_26 hl (by decide) rfl (fun ls hl => ?_)
  refine lv_aload_n hx hb d_Db_feed_28 rfl (lv_at hl 1 rfl) ?_
  refine gf C hP 0 0 fkDb rfl (by decide) rfl qf_Db_10 (gDb_0 _ _ _ _ _ _ _ _ _ _ _) d_Db_feed_29 ?_
  refine gf C hP 1 1 fkTe rfl (by decide) rfl qf_Db_77 (gTe_1 _ _) d_Db_feed_32 ?_
  refine lv_iload hx hb d_Db_feed_35 (lv_at hl 0 rfl) ?_
  refine lv_iadd hx hb d_Db_feed_37 ?_
  refine lv_sipush (v := 600) hx hb d_Db_feed_38 (by decide) ?_
  refine lv_icmp_le (tgt := 46) hx hb d_Db_feed_41 (by decide) (fun c12 => ?_) (fun c12 => ?_)
  · have hz := hz.trans (if_pos c12)
    have hok := hok.1 c12
    refine lv_aload_n hx hb d_Db_feed_46 rfl (lv_at hl 1 rfl) ?_
    refine gf C hP 0 0 fkDb rfl (by decide) rfl qf_Db_10 (gDb_0 _ _ _ _ _ _ _ _ _ _ _) d_Db_feed_47 ?_
    refine lv_iload_n hx hb d_Db_feed_50 rfl (lv_at hl 2 rfl) ?_
    have hs13 := hok.1
    have hok := hok.2
    have hB : SubW g (inW (wDb g qdb qte qteb qpa qpae qpar qpau qpab qsu qdp qdpe qdpr qdpu qdpb qpr qpro qprf qprs qprb qprn qprt qbe qci qrd qrs qrsr ua qse qct qre qreb qpst qkpt qfil qbp qbk dv t tb w0 w1 w2 w3 w4 su d0 d1 d2 d3 d4 pi po pf ps pb pn pt ba ca cal da ea eal rar ral cb cbl rev rb fl xb xc xcl xd xe xel xr xrl yb yc ycl yd ye yel yr yrl)) s (wDb g qdb qte qteb qpa qpae qpar qpau qpab qsu qdp qdpe qdpr qdpu qdpb qpr qpro qprf qprs qprb qprn qprt qbe qci qrd qrs qrsr ua qse qct qre qreb qpst qkpt qfil qbp qbk dv t tb w0 w1 w2 w3 w4 su d0 d1 d2 d3 d4 pi po pf ps pb pn pt ba ca cal da ea eal rar ral cb cbl rev rb fl xb xc xcl xd xe xel xr xrl yb yc ycl yd ye yel yr yrl) (wTe g qte qteb t tb) [1, 2] _ _ := ⟨rfl, rfl, hP, hD, hS⟩
    refine goV1 hB (run_v C mf_Te_append qm_Db_81 (c_Te_append l g qte qteb t tb p1 hs13) rfl rfl ⟨Nat.le_of_ble_eq_true rfl, Nat.le_of_ble_eq_true rfl⟩ ⟨Nat.le_of_ble_eq_true rfl, Nat.le_of_ble_eq_true rfl⟩ hB rfl rfl hl rfl rfl (Nat.le_of_ble_eq_true rfl) d_Db_feed_51) (fun _ => rfl) (fun y14 ey14 H locs hP hD hS => ?_)
    have hP : va_P g.1 vwCl (wDb g qdb qte qteb qpa qpae qpar qpau qpab qsu qdp qdpe qdpr qdpu qdpb qpr qpro qprf qprs qprb qprn qprt qbe qci qrd qrs qrsr ua qse qct qre qreb qpst qkpt qfil qbp qbk dv y14.1 y14.2 w0 w1 w2 w3 w4 su d0 d1 d2 d3 d4 pi po pf ps pb pn pt ba ca cal da ea eal rar ral cb cbl rev rb fl xb xc xcl xd xe xel xr xrl yb yc ycl yd ye yel yr yrl) H := cP sq_Db_0 hP
    have hD : va_D (inW (wDb g qdb qte qteb qpa qpae qpar qpau qpab qsu qdp qdpe qdpr qdpu qdpb qpr qpro qprf qprs qprb qprn qprt qbe qci qrd qrs qrsr ua qse qct qre qreb qpst qkpt qfil qbp qbk dv t tb w0 w1 w2 w3 w4 su d0 d1 d2 d3 d4 pi po pf ps pb pn pt ba ca cal da ea eal rar ral cb cbl rev rb fl xb xc xcl xd xe xel xr xrl yb yc ycl yd ye yel yr yrl)) (wDb g qdb qte qteb qpa qpae qpar qpau qpab qsu qdp qdpe qdpr qdpu qdpb qpr qpro qprf qprs qprb qprn qprt qbe qci qrd qrs qrsr ua qse qct qre qreb qpst qkpt qfil qbp qbk dv y14.1 y14.2 w0 w1 w2 w3 w4 su d0 d1 d2 d3 d4 pi po pf ps pb pn pt ba ca cal da ea eal rar ral cb cbl rev rb fl xb xc xcl xd xe xel xr xrl yb yc ycl yd ye yel yr yrl) := cD sq_Db_0 hD
    have hz := lett_z hz ey14
    have hok := lett_o hok ey14
    refine lv_aload_n hx hb d_Db_feed_54 rfl (lv_at hl 1 rfl) ?_
    refine gf C hP 0 0 fkDb rfl (by decide) rfl qf_Db_10 (gDb_0 _ _ _ _ _ _ _ _ _ _ _) d_Db_feed_55 ?_
    refine lv_iload_n hx hb d_Db_feed_58 rfl (lv_at hl 3 rfl) ?_
    have hs15 := hok.1
    have hok := hok.2
    have hB : SubW g (inW (wDb g qdb qte qteb qpa qpae qpar qpau qpab qsu qdp qdpe qdpr qdpu qdpb qpr qpro qprf qprs qprb qprn qprt qbe qci qrd qrs qrsr ua qse qct qre qreb qpst qkpt qfil qbp qbk dv t tb w0 w1 w2 w3 w4 su d0 d1 d2 d3 d4 pi po pf ps pb pn pt ba ca cal da ea eal rar ral cb cbl rev rb fl xb xc xcl xd xe xel xr xrl yb yc ycl yd ye yel yr yrl)) s (wDb g qdb qte qteb qpa qpae qpar qpau qpab qsu qdp qdpe qdpr qdpu qdpb qpr qpro qprf qprs qprb qprn qprt qbe qci qrd qrs qrsr ua qse qct qre qreb qpst qkpt qfil qbp qbk dv y14.1 y14.2 w0 w1 w2 w3 w4 su d0 d1 d2 d3 d4 pi po pf ps pb pn pt ba ca cal da ea eal rar ral cb cbl rev rb fl xb xc xcl xd xe xel xr xrl yb yc ycl yd ye yel yr yrl) (wTe g qte qteb y14.1 y14.2) [1, 2] _ _ := ⟨rfl, rfl, hP, hD, hS⟩
    refine goV1 hB (run_v C mf_Te_append qm_Db_81 (c_Te_append l g qte qteb y14.1 y14.2 p2 hs15) rfl rfl ⟨Nat.le_of_ble_eq_true rfl, Nat.le_of_ble_eq_true rfl⟩ ⟨Nat.le_of_ble_eq_true rfl, Nat.le_of_ble_eq_true rfl⟩ hB rfl rfl hl rfl rfl (Nat.le_of_ble_eq_true rfl) d_Db_feed_59) (fun _ => rfl) (fun y16 ey16 H locs hP hD hS => ?_)
    have hP : va_P g.1 vwCl (wDb g qdb qte qteb qpa qpae qpar qpau qpab qsu qdp qdpe qdpr qdpu qdpb qpr qpro qprf qprs qprb qprn qprt qbe qci qrd qrs qrsr ua qse qct qre qreb qpst qkpt qfil qbp qbk dv y16.1 y16.2 w0 w1 w2 w3 w4 su d0 d1 d2 d3 d4 pi po pf ps pb pn pt ba ca cal da ea eal rar ral cb cbl rev rb fl xb xc xcl xd xe xel xr xrl yb yc ycl yd ye yel yr yrl) H := cP sq_Db_0 hP
    have hD : va_D (inW (wDb g qdb qte qteb qpa qpae qpar qpau qpab qsu qdp qdpe qdpr qdpu qdpb qpr qpro qprf qprs qprb qprn qprt qbe qci qrd qrs qrsr ua qse qct qre qreb qpst qkpt qfil qbp qbk dv t tb w0 w1 w2 w3 w4 su d0 d1 d2 d3 d4 pi po pf ps pb pn pt ba ca cal da ea eal rar ral cb cbl rev rb fl xb xc xcl xd xe xel xr xrl yb yc ycl yd ye yel yr yrl)) (wDb g qdb qte qteb qpa qpae qpar qpau qpab qsu qdp qdpe qdpr qdpu qdpb qpr qpro qprf qprs qprb qprn qprt qbe qci qrd qrs qrsr ua qse qct qre qreb qpst qkpt qfil qbp qbk dv y16.1 y16.2 w0 w1 w2 w3 w4 su d0 d1 d2 d3 d4 pi po pf ps pb pn pt ba ca cal da ea eal rar ral cb cbl rev rb fl xb xc xcl xd xe xel xr xrl yb yc ycl yd ye yel yr yrl) := cD sq_Db_0 hD
    have hz := lett_z hz ey16
    have hok := lett_o hok ey16
    refine lv_aload_n hx hb d_Db_feed_62 rfl (lv_at hl 1 rfl) ?_
    refine gf C hP 0 0 fkDb rfl (by decide) rfl qf_Db_10 (gDb_0 _ _ _ _ _ _ _ _ _ _ _) d_Db_feed_63 ?_
    refine lv_iload_n hx hb d_Db_feed_66 rfl (lv_at hl 4 rfl) ?_
    have hs17 := hok.1
    have hok := hok.2
    have hB : SubW g (inW (wDb g qdb qte qteb qpa qpae qpar qpau qpab qsu qdp qdpe qdpr qdpu qdpb qpr qpro qprf qprs qprb qprn qprt qbe qci qrd qrs qrsr ua qse qct qre qreb qpst qkpt qfil qbp qbk dv t tb w0 w1 w2 w3 w4 su d0 d1 d2 d3 d4 pi po pf ps pb pn pt ba ca cal da ea eal rar ral cb cbl rev rb fl xb xc xcl xd xe xel xr xrl yb yc ycl yd ye yel yr yrl)) s (wDb g qdb qte qteb qpa qpae qpar qpau qpab qsu qdp qdpe qdpr qdpu qdpb qpr qpro qprf qprs qprb qprn qprt qbe qci qrd qrs qrsr ua qse qct qre qreb qpst qkpt qfil qbp qbk dv y16.1 y16.2 w0 w1 w2 w3 w4 su d0 d1 d2 d3 d4 pi po pf ps pb pn pt ba ca cal da ea eal rar ral cb cbl rev rb fl xb xc xcl xd xe xel xr xrl yb yc ycl yd ye yel yr yrl) (wTe g qte qteb y16.1 y16.2) [1, 2] _ _ := ⟨rfl, rfl, hP, hD, hS⟩
    refine goV1 hB (run_v C mf_Te_append qm_Db_81 (c_Te_append l g qte qteb y16.1 y16.2 p3 hs17) rfl rfl ⟨Nat.le_of_ble_eq_true rfl, Nat.le_of_ble_eq_true rfl⟩ ⟨Nat.le_of_ble_eq_true rfl, Nat.le_of_ble_eq_true rfl⟩ hB rfl rfl hl rfl rfl (Nat.le_of_ble_eq_true rfl) d_Db_feed_67) (fun _ => rfl) (fun y18 ey18 H locs hP hD hS => ?_)
    have hP : va_P g.1 vwCl (wDb g qdb qte qteb qpa qpae qpar qpau qpab qsu qdp qdpe qdpr qdpu qdpb qpr qpro qprf qprs qprb qprn qprt qbe qci qrd qrs qrsr ua qse qct qre qreb qpst qkpt qfil qbp qbk dv y18.1 y18.2 w0 w1 w2 w3 w4 su d0 d1 d2 d3 d4 pi po pf ps pb pn pt ba ca cal da ea eal rar ral cb cbl rev rb fl xb xc xcl xd xe xel xr xrl yb yc ycl yd ye yel yr yrl) H := cP sq_Db_0 hP
    have hD : va_D (inW (wDb g qdb qte qteb qpa qpae qpar qpau qpab qsu qdp qdpe qdpr qdpu qdpb qpr qpro qprf qprs qprb qprn qprt qbe qci qrd qrs qrsr ua qse qct qre qreb qpst qkpt qfil qbp qbk dv t tb w0 w1 w2 w3 w4 su d0 d1 d2 d3 d4 pi po pf ps pb pn pt ba ca cal da ea eal rar ral cb cbl rev rb fl xb xc xcl xd xe xel xr xrl yb yc ycl yd ye yel yr yrl)) (wDb g qdb qte qteb qpa qpae qpar qpau qpab qsu qdp qdpe qdpr qdpu qdpb qpr qpro qprf qprs qprb qprn qprt qbe qci qrd qrs qrsr ua qse qct qre qreb qpst qkpt qfil qbp qbk dv y18.1 y18.2 w0 w1 w2 w3 w4 su d0 d1 d2 d3 d4 pi po pf ps pb pn pt ba ca cal da ea eal rar ral cb cbl rev rb fl xb xc xcl xd xe xel xr xrl yb yc ycl yd ye yel yr yrl) := cD sq_Db_0 hD
    have hz := lett_z hz ey18
    have hok := lett_o hok ey18
    refine lv_aload_n hx hb d_Db_feed_70 rfl (lv_at hl 1 rfl) ?_
    refine gf C hP 0 0 fkDb rfl (by decide) rfl qf_Db_10 (gDb_0 _ _ _ _ _ _ _ _ _ _ _) d_Db_feed_71 ?_
    refine lv_iload hx hb d_Db_feed_74 (lv_at hl 5 rfl) ?_
    have hs19 := hok.1
    have hok := hok.2
    have hB : SubW g (inW (wDb g qdb qte qteb qpa qpae qpar qpau qpab qsu qdp qdpe qdpr qdpu qdpb qpr qpro qprf qprs qprb qprn qprt qbe qci qrd qrs qrsr ua qse qct qre qreb qpst qkpt qfil qbp qbk dv t tb w0 w1 w2 w3 w4 su d0 d1 d2 d3 d4 pi po pf ps pb pn pt ba ca cal da ea eal rar ral cb cbl rev rb fl xb xc xcl xd xe xel xr xrl yb yc ycl yd ye yel yr yrl)) s (wDb g qdb qte qteb qpa qpae qpar qpau qpab qsu qdp qdpe qdpr qdpu qdpb qpr qpro qprf qprs qprb qprn qprt qbe qci qrd qrs qrsr ua qse qct qre qreb qpst qkpt qfil qbp qbk dv y18.1 y18.2 w0 w1 w2 w3 w4 su d0 d1 d2 d3 d4 pi po pf ps pb pn pt ba ca cal da ea eal rar ral cb cbl rev rb fl xb xc xcl xd xe xel xr xrl yb yc ycl yd ye yel yr yrl) (wTe g qte qteb y18.1 y18.2) [1, 2] _ _ := ⟨rfl, rfl, hP, hD, hS⟩
    refine goV1 hB (run_v C mf_Te_append qm_Db_81 (c_Te_append l g qte qteb y18.1 y18.2 p4 hs19) rfl rfl ⟨Nat.le_of_ble_eq_true rfl, Nat.le_of_ble_eq_true rfl⟩ ⟨Nat.le_of_ble_eq_true rfl, Nat.le_of_ble_eq_true rfl⟩ hB rfl rfl hl rfl rfl (Nat.le_of_ble_eq_true rfl) d_Db_feed_76) (fun _ => rfl) (fun y20 ey20 H locs hP hD hS => ?_)
    have hP : va_P g.1 vwCl (wDb g qdb qte qteb qpa qpae qpar qpau qpab qsu qdp qdpe qdpr qdpu qdpb qpr qpro qprf qprs qprb qprn qprt qbe qci qrd qrs qrsr ua qse qct qre qreb qpst qkpt qfil qbp qbk dv y20.1 y20.2 w0 w1 w2 w3 w4 su d0 d1 d2 d3 d4 pi po pf ps pb pn pt ba ca cal da ea eal rar ral cb cbl rev rb fl xb xc xcl xd xe xel xr xrl yb yc ycl yd ye yel yr yrl) H := cP sq_Db_0 hP
    have hD : va_D (inW (wDb g qdb qte qteb qpa qpae qpar qpau qpab qsu qdp qdpe qdpr qdpu qdpb qpr qpro qprf qprs qprb qprn qprt qbe qci qrd qrs qrsr ua qse qct qre qreb qpst qkpt qfil qbp qbk dv t tb w0 w1 w2 w3 w4 su d0 d1 d2 d3 d4 pi po pf ps pb pn pt ba ca cal da ea eal rar ral cb cbl rev rb fl xb xc xcl xd xe xel xr xrl yb yc ycl yd ye yel yr yrl)) (wDb g qdb qte qteb qpa qpae qpar qpau qpab qsu qdp qdpe qdpr qdpu qdpb qpr qpro qprf qprs qprb qprn qprt qbe qci qrd qrs qrsr ua qse qct qre qreb qpst qkpt qfil qbp qbk dv y20.1 y20.2 w0 w1 w2 w3 w4 su d0 d1 d2 d3 d4 pi po pf ps pb pn pt ba ca cal da ea eal rar ral cb cbl rev rb fl xb xc xcl xd xe xel xr xrl yb yc ycl yd ye yel yr yrl) := cD sq_Db_0 hD
    have hz := lett_z hz ey20
    have hok := lett_o hok ey20
    refine lv_aload_n hx hb d_Db_feed_79 rfl (lv_at hl 1 rfl) ?_
    refine gf C hP 0 0 fkDb rfl (by decide) rfl qf_Db_10 (gDb_0 _ _ _ _ _ _ _ _ _ _ _) d_Db_feed_80 ?_
    refine lv_iload hx hb d_Db_feed_83 (lv_at hl 6 rfl) ?_
    have hs21 := hok.1
    have hok := hok.2
    have hB : SubW g (inW (wDb g qdb qte qteb qpa qpae qpar qpau qpab qsu qdp qdpe qdpr qdpu qdpb qpr qpro qprf qprs qprb qprn qprt qbe qci qrd qrs qrsr ua qse qct qre qreb qpst qkpt qfil qbp qbk dv t tb w0 w1 w2 w3 w4 su d0 d1 d2 d3 d4 pi po pf ps pb pn pt ba ca cal da ea eal rar ral cb cbl rev rb fl xb xc xcl xd xe xel xr xrl yb yc ycl yd ye yel yr yrl)) s (wDb g qdb qte qteb qpa qpae qpar qpau qpab qsu qdp qdpe qdpr qdpu qdpb qpr qpro qprf qprs qprb qprn qprt qbe qci qrd qrs qrsr ua qse qct qre qreb qpst qkpt qfil qbp qbk dv y20.1 y20.2 w0 w1 w2 w3 w4 su d0 d1 d2 d3 d4 pi po pf ps pb pn pt ba ca cal da ea eal rar ral cb cbl rev rb fl xb xc xcl xd xe xel xr xrl yb yc ycl yd ye yel yr yrl) (wTe g qte qteb y20.1 y20.2) [1, 2] _ _ := ⟨rfl, rfl, hP, hD, hS⟩
    refine goV1 hB (run_v C mf_Te_append qm_Db_81 (c_Te_append l g qte qteb y20.1 y20.2 p5 hs21) rfl rfl ⟨Nat.le_of_ble_eq_true rfl, Nat.le_of_ble_eq_true rfl⟩ ⟨Nat.le_of_ble_eq_true rfl, Nat.le_of_ble_eq_true rfl⟩ hB rfl rfl hl rfl rfl (Nat.le_of_ble_eq_true rfl) d_Db_feed_85) (fun _ => rfl) (fun y22 ey22 H locs hP hD hS => ?_)
    have hP : va_P g.1 vwCl (wDb g qdb qte qteb qpa qpae qpar qpau qpab qsu qdp qdpe qdpr qdpu qdpb qpr qpro qprf qprs qprb qprn qprt qbe qci qrd qrs qrsr ua qse qct qre qreb qpst qkpt qfil qbp qbk dv y22.1 y22.2 w0 w1 w2 w3 w4 su d0 d1 d2 d3 d4 pi po pf ps pb pn pt ba ca cal da ea eal rar ral cb cbl rev rb fl xb xc xcl xd xe xel xr xrl yb yc ycl yd ye yel yr yrl) H := cP sq_Db_0 hP
    have hD : va_D (inW (wDb g qdb qte qteb qpa qpae qpar qpau qpab qsu qdp qdpe qdpr qdpu qdpb qpr qpro qprf qprs qprb qprn qprt qbe qci qrd qrs qrsr ua qse qct qre qreb qpst qkpt qfil qbp qbk dv t tb w0 w1 w2 w3 w4 su d0 d1 d2 d3 d4 pi po pf ps pb pn pt ba ca cal da ea eal rar ral cb cbl rev rb fl xb xc xcl xd xe xel xr xrl yb yc ycl yd ye yel yr yrl)) (wDb g qdb qte qteb qpa qpae qpar qpau qpab qsu qdp qdpe qdpr qdpu qdpb qpr qpro qprf qprs qprb qprn qprt qbe qci qrd qrs qrsr ua qse qct qre qreb qpst qkpt qfil qbp qbk dv y22.1 y22.2 w0 w1 w2 w3 w4 su d0 d1 d2 d3 d4 pi po pf ps pb pn pt ba ca cal da ea eal rar ral cb cbl rev rb fl xb xc xcl xd xe xel xr xrl yb yc ycl yd ye yel yr yrl) := cD sq_Db_0 hD
    have hz := lett_z hz ey22
    refine lv_aload_n hx hb d_Db_feed_88 rfl (lv_at hl 1 rfl) ?_
    refine gf C hP 0 0 fkDb rfl (by decide) rfl qf_Db_10 (gDb_0 _ _ _ _ _ _ _ _ _ _ _) d_Db_feed_89 ?_
    refine gf C hP 1 1 fkTe rfl (by decide) rfl qf_Db_77 (gTe_1 _ _) d_Db_feed_92 ?_
    exact endI1 C hz hP hS d_Db_feed_95
  · have hz := hz.trans (if_neg c12)
    refine lv_iconst (v := -1) hx hb d_Db_feed_44 (by decide) ?_
    exact endI1 C hz hP hS d_Db_feed_45
