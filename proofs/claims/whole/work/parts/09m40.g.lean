abbrev rm_Db_meanOf : Room := { frames := 6, cells := 0, slots := 0, locals := 133 }
noncomputable def sp_Db_meanOf (p1 : Int32) (ea : IV) (eal : LV) (rar : NI) (ral : NL) : UInt64 × IV × LV := lett (sp_Db_checkManner p1 ea eal rar ral) fun (y2 : IV × LV) => lett (y2.1 4) fun (v3 : Int32) => if v3 = 0 then ((FP.dconst0, (y2.1, y2.2))) else ((FP.ddiv (FP.l2d (y2.2 5)) (FP.i2d v3), (y2.1, y2.2)))
def ok_Db_meanOf (p1 : Int32) (ea : IV) (eal : LV) (rar : NI) (ral : NL) : Prop := (ok_Db_checkManner p1 ea eal rar ral) ∧ lett (sp_Db_checkManner p1 ea eal rar ral) fun (y2 : IV × LV) => lett (y2.1 4) fun (v3 : Int32) => ((v3 = 0 → True) ∧ (¬ (v3 = 0) → (vf_n64 (FP.ddiv (FP.l2d (y2.2 5)) (FP.i2d v3))) ∧ True))
set_option maxRecDepth 100000 in
set_option maxHeartbeats 4000000 in
theorem c_Db_meanOf (l : Launch) (g : GX) (qdb : Nat) (qte : Nat) (qteb : Nat) (qpa : Nat) (qpae : Nat) (qpar : Nat) (qpau : Nat) (qpab : Nat) (qsu : Nat) (qdp : Nat) (qdpe : Nat) (qdpr : Nat) (qdpu : Nat) (qdpb : Nat) (qpr : Nat) (qpro : Nat) (qprf : Nat) (qprs : Nat) (qprb : Nat) (qprn : Nat) (qprt : Nat) (qbe : Nat) (qci : Nat) (qrd : Nat) (qrs : Nat) (qrsr : Nat) (ua : Nat → Nat) (qse : Nat) (qct : Nat) (qre : Nat) (qreb : Nat) (qpst : Nat) (qkpt : Nat) (qfil : Nat) (qbp : Nat → Nat → Nat) (qbk : Nat → Nat → Nat) (dv : IV) (t : IV) (tb : IV) (w0 : IV) (w1 : IV) (w2 : IV) (w3 : IV) (w4 : IV) (su : IV) (d0 : IV) (d1 : IV) (d2 : IV) (d3 : IV) (d4 : IV) (pi : IV) (po : IV) (pf : IV) (ps : IV) (pb : IV) (pn : IV) (pt : IV) (ba : IV) (ca : IV) (cal : LV) (da : IV) (ea : IV) (eal : LV) (rar : NI) (ral : NL) (cb : IV) (cbl : LV) (rev : IV) (rb : IV) (fl : IV) (xb : NI) (xc : NI) (xcl : NL) (xd : NI) (xe : NI) (xel : NL) (xr : NNI) (xrl : NNL) (yb : NI) (yc : NI) (ycl : NL) (yd : NI) (ye : NI) (yel : NL) (yr : NNI) (yrl : NNL) (p1 : Int32) (hok : ok_Db_meanOf p1 ea eal rar ral) : Met l y_Db_meanOf (wsY y_Db_meanOf b_Db_meanOf 3 (some .double)) rm_Db_meanOf (CP g [.ref qdb, .int p1] (wDb g qdb qte qteb qpa qpae qpar qpau qpab qsu qdp qdpe qdpr qdpu qdpb qpr qpro qprf qprs qprb qprn qprt qbe qci qrd qrs qrsr ua qse qct qre qreb qpst qkpt qfil qbp qbk dv t tb w0 w1 w2 w3 w4 su d0 d1 d2 d3 d4 pi po pf ps pb pn pt ba ca cal da ea eal rar ral cb cbl rev rb fl xb xc xcl xd xe xel xr xrl yb yc ycl yd ye yel yr yrl)) (CD g (wDb g qdb qte qteb qpa qpae qpar qpau qpab qsu qdp qdpe qdpr qdpu qdpb qpr qpro qprf qprs qprb qprn qprt qbe qci qrd qrs qrsr ua qse qct qre qreb qpst qkpt qfil qbp qbk dv t tb w0 w1 w2 w3 w4 su d0 d1 d2 d3 d4 pi po pf ps pb pn pt ba ca cal da ea eal rar ral cb cbl rev rb fl xb xc xcl xd xe xel xr xrl yb yc ycl yd ye yel yr yrl) (fun u : IV × LV => wDb g qdb qte qteb qpa qpae qpar qpau qpab qsu qdp qdpe qdpr qdpu qdpb qpr qpro qprf qprs qprb qprn qprt qbe qci qrd qrs qrsr ua qse qct qre qreb qpst qkpt qfil qbp qbk dv t tb w0 w1 w2 w3 w4 su d0 d1 d2 d3 d4 pi po pf ps pb pn pt ba ca cal da u.1 u.2 rar ral cb cbl rev rb fl xb xc xcl xd xe xel xr xrl yb yc ycl yd ye yel yr yrl) (sp_Db_meanOf p1 ea eal rar ral)) 0 0 (inW (wDb g qdb qte qteb qpa qpae qpar qpau qpab qsu qdp qdpe qdpr qdpu qdpb qpr qpro qprf qprs qprb qprn qprt qbe qci qrd qrs qrsr ua qse qct qre qreb qpst qkpt qfil qbp qbk dv t tb w0 w1 w2 w3 w4 su d0 d1 d2 d3 d4 pi po pf ps pb pn pt ba ca cal da ea eal rar ral cb cbl rev rb fl xb xc xcl xd xe xel xr xrl yb yc ycl yd ye yel yr yrl)) := by
  refine Met.ofW (cc := b_Db_meanOf) (maxL := 3) (ret := (some .double)) pn_Db rfl ?_
  intro p e s m args below meth c s₁ B hml hv
  obtain ⟨rfl, C, hP, hD, hS⟩ := enter "DecadeBridge" rfl B hml hv
  obtain ⟨hx, hb, hr, hml, hown, hlk, hts, hK, hZo, hZ⟩ := id C
  refine entryW (lv := [(0, .ref qdb), (1, .int p1)]) rfl (Nat.le_of_ble_eq_true rfl) (fun ls hl => ?_)
  obtain ⟨z, hz⟩ : ∃ z, z = sp_Db_meanOf p1 ea eal rar ral := ⟨_, rfl⟩
  rw [← hz]
  unfold sp_Db_meanOf at hz
  unfold ok_Db_meanOf at hok
  refine lv_aload_n hx hb d_Db_meanOf_0 rfl (lv_at hl 0 rfl) ?_
  refine lv_iload_n hx hb d_Db_meanOf_1 rfl (lv_at hl 1 rfl) ?_
  have hs1 := hok.1
  have hok := hok.2
  have hB : SubW g (inW (wDb g qdb qte qteb qpa qpae qpar qpau qpab qsu qdp qdpe qdpr qdpu qdpb qpr qpro qprf qprs qprb qprn qprt qbe qci qrd qrs qrsr ua qse qct qre qreb qpst qkpt qfil qbp qbk dv t tb w0 w1 w2 w3 w4 su d0 d1 d2 d3 d4 pi po pf ps pb pn pt ba ca cal da ea eal rar ral cb cbl rev rb fl xb xc xcl xd xe xel xr xrl yb yc ycl yd ye yel yr yrl)) s (wDb g qdb qte qteb qpa qpae qpar qpau qpab qsu qdp qdpe qdpr qdpu qdpb qpr qpro qprf qprs qprb qprn qprt qbe qci qrd qrs qrsr ua qse qct qre qreb qpst qkpt qfil qbp qbk dv t tb w0 w1 w2 w3 w4 su d0 d1 d2 d3 d4 pi po pf ps pb pn pt ba ca cal da ea eal rar ral cb cbl rev rb fl xb xc xcl xd xe xel xr xrl yb yc ycl yd ye yel yr yrl) _ (List.range _) _ _ := (subF hP hD hS)
  refine goVF hB (run_v C mf_Db_checkManner qm_Db_346 (c_Db_checkManner l g qdb qte qteb qpa qpae qpar qpau qpab qsu qdp qdpe qdpr qdpu qdpb qpr qpro qprf qprs qprb qprn qprt qbe qci qrd qrs qrsr ua qse qct qre qreb qpst qkpt qfil qbp qbk dv t tb w0 w1 w2 w3 w4 su d0 d1 d2 d3 d4 pi po pf ps pb pn pt ba ca cal da ea eal rar ral cb cbl rev rb fl xb xc xcl xd xe xel xr xrl yb yc ycl yd ye yel yr yrl p1 hs1) rfl rfl ⟨Nat.le_of_ble_eq_true rfl, Nat.le_of_ble_eq_true rfl⟩ ⟨Nat.le_of_ble_eq_true rfl, Nat.le_of_ble_eq_true rfl⟩ hB rfl rfl hl rfl rfl (Nat.le_of_ble_eq_true rfl) d_Db_meanOf_2) (fun _ => rfl) (fun y2 ey2 H locs hP hD hS => ?_)
  have hP : va_P g.1 vwCl (wDb g qdb qte qteb qpa qpae qpar qpau qpab qsu qdp qdpe qdpr qdpu qdpb qpr qpro qprf qprs qprb qprn qprt qbe qci qrd qrs qrsr ua qse qct qre qreb qpst qkpt qfil qbp qbk dv t tb w0 w1 w2 w3 w4 su d0 d1 d2 d3 d4 pi po pf ps pb pn pt ba ca cal da y2.1 y2.2 rar ral cb cbl rev rb fl xb xc xcl xd xe xel xr xrl yb yc ycl yd ye yel yr yrl) H := hP
  have hD : va_D (inW (wDb g qdb qte qteb qpa qpae qpar qpau qpab qsu qdp qdpe qdpr qdpu qdpb qpr qpro qprf qprs qprb qprn qprt qbe qci qrd qrs qrsr ua qse qct qre qreb qpst qkpt qfil qbp qbk dv t tb w0 w1 w2 w3 w4 su d0 d1 d2 d3 d4 pi po pf ps pb pn pt ba ca cal da ea eal rar ral cb cbl rev rb fl xb xc xcl xd xe xel xr xrl yb yc ycl yd ye yel yr yrl)) (wDb g qdb qte qteb qpa qpae qpar qpau qpab qsu qdp qdpe qdpr qdpu qdpb qpr qpro qprf qprs qprb qprn qprt qbe qci qrd qrs qrsr ua qse qct qre qreb qpst qkpt qfil qbp qbk dv t tb w0 w1 w2 w3 w4 su d0 d1 d2 d3 d4 pi po pf ps pb pn pt ba ca cal da y2.1 y2.2 rar ral cb cbl rev rb fl xb xc xcl xd xe xel xr xrl yb yc ycl yd ye yel yr yrl) := hD
  have hz := lett_z hz ey2
  have hok := lett_o hok ey2
  refine lv_aload_n hx hb d_Db_meanOf_5 rfl (lv_at hl 0 rfl) ?_
  refine gf C hP 0 4 fkDb rfl (by decide) rfl qf_Db_44 (gDb_4 _ _ _ _ _ _ _ _ _ _ _) d_Db_meanOf_6 ?_
  refine gf C hP 21 6 fkBe rfl (by decide) rfl qf_Db_190 (gBe_6 _ _ _ _ _) d_Db_meanOf_9 ?_
  refine gf C hP 24 4 fkRs rfl (by decide) rfl qf_Db_352 (gRs_4 _ _ _) d_Db_meanOf_12 ?_
  refine lv_topi (fun v3 ev3 => ?_)
  have hz := lett_z hz ev3
  have hok := lett_o hok ev3
  refine lv_istore_n (lv' := [(2, .int v3), (0, .ref qdb), (1, .int p1)]) hx hb d_Db_meanOf_15 rfl hl (by decide) rfl (fun ls hl => ?_)
  refine lv_iload_n hx hb d_Db_meanOf_16 rfl (lv_at hl 0 rfl) ?_
  refine lv_if_ne (tgt := 24) hx hb d_Db_meanOf_17 (by decide) (fun c4 => ?_) (fun c4 => ?_)
  · have hz := hz.trans (if_neg c4)
    have hok := hok.2 c4
    refine lv_aload_n hx hb d_Db_meanOf_24 rfl (lv_at hl 1 rfl) ?_
    refine gf C hP 0 4 fkDb rfl (by decide) rfl qf_Db_44 (gDb_4 _ _ _ _ _ _ _ _ _ _ _) d_Db_meanOf_25 ?_
    refine gf C hP 21 6 fkBe rfl (by decide) rfl qf_Db_190 (gBe_6 _ _ _ _ _) d_Db_meanOf_28 ?_
    refine gf C hP 24 5 fkRs rfl (by decide) rfl qf_Db_358 (gRs_5 _ _ _) d_Db_meanOf_31 ?_
    refine lv_l2d hx hb d_Db_meanOf_34 ?_
    refine lv_iload_n hx hb d_Db_meanOf_35 rfl (lv_at hl 0 rfl) ?_
    refine lv_i2d hx hb d_Db_meanOf_36 ?_
    have hs5 := hok.1
    have hok := hok.2
    refine lv_ddiv hx hb d_Db_meanOf_37 hs5 ?_
    exact endD1 C hz hP hS d_Db_meanOf_38
  · have hz := hz.trans (if_pos c4)
    refine lv_dconst0 hx hb d_Db_meanOf_20 ?_
    refine lv_goto (tgt := 38) hx hb d_Db_meanOf_21 (by decide) ?_
    exact endD1 C hz hP hS d_Db_meanOf_38
