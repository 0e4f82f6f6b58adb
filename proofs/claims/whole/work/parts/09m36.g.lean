abbrev rm_Db_coldOf : Room := { frames := 2, cells := 0, slots := 0, locals := 42 }
noncomputable def sp_Db_coldOf (p1 : Int32) (w0 : IV) (w1 : IV) : Int32 := lett (sp_Pa_settings w0) fun (y2 : Int32) => lett (sp_Db_checkRange p1 (0 : Int32) (y2 - (1 : Int32))) fun (y4 : Unit) => lett (sp_Pa_coldAt p1 w0 w1) fun (y6 : Int32) => y6
def ok_Db_coldOf (p1 : Int32) (w0 : IV) (w1 : IV) : Prop := (ok_Pa_settings w0) ∧ lett (sp_Pa_settings w0) fun (y2 : Int32) => (ok_Db_checkRange p1 (0 : Int32) (y2 - (1 : Int32))) ∧ lett (sp_Db_checkRange p1 (0 : Int32) (y2 - (1 : Int32))) fun (y4 : Unit) => (ok_Pa_coldAt p1 w0 w1) ∧ True
set_option maxRecDepth 100000 in
set_option maxHeartbeats 4000000 in
theorem c_Db_coldOf (l : Launch) (g : GX) (qdb : Nat) (qte : Nat) (qteb : Nat) (qpa : Nat) (qpae : Nat) (qpar : Nat) (qpau : Nat) (qpab : Nat) (qsu : Nat) (qdp : Nat) (qdpe : Nat) (qdpr : Nat) (qdpu : Nat) (qdpb : Nat) (qpr : Nat) (qpro : Nat) (qprf : Nat) (qprs : Nat) (qprb : Nat) (qprn : Nat) (qprt : Nat) (qbe : Nat) (qci : Nat) (qrd : Nat) (qrs : Nat) (qrsr : Nat) (ua : Nat → Nat) (qse : Nat) (qct : Nat) (qre : Nat) (qreb : Nat) (qpst : Nat) (qkpt : Nat) (qfil : Nat) (qbp : Nat → Nat → Nat) (qbk : Nat → Nat → Nat) (dv : IV) (t : IV) (tb : IV) (w0 : IV) (w1 : IV) (w2 : IV) (w3 : IV) (w4 : IV) (su : IV) (d0 : IV) (d1 : IV) (d2 : IV) (d3 : IV) (d4 : IV) (pi : IV) (po : IV) (pf : IV) (ps : IV) (pb : IV) (pn : IV) (pt : IV) (ba : IV) (ca : IV) (cal : LV) (da : IV) (ea : IV) (eal : LV) (rar : NI) (ral : NL) (cb : IV) (cbl : LV) (rev : IV) (rb : IV) (fl : IV) (xb : NI) (xc : NI) (xcl : NL) (xd : NI) (xe : NI) (xel : NL) (xr : NNI) (xrl : NNL) (yb : NI) (yc : NI) (ycl : NL) (yd : NI) (ye : NI) (yel : NL) (yr : NNI) (yrl : NNL) (p1 : Int32) (hok : ok_Db_coldOf p1 w0 w1) : Met l y_Db_coldOf (wsY y_Db_coldOf b_Db_coldOf 2 (some .int)) rm_Db_coldOf (CP g [.ref qdb, .int p1] (wDb g qdb qte qteb qpa qpae qpar qpau qpab qsu qdp qdpe qdpr qdpu qdpb qpr qpro qprf qprs qprb qprn qprt qbe qci qrd qrs qrsr ua qse qct qre qreb qpst qkpt qfil qbp qbk dv t tb w0 w1 w2 w3 w4 su d0 d1 d2 d3 d4 pi po pf ps pb pn pt ba ca cal da ea eal rar ral cb cbl rev rb fl xb xc xcl xd xe xel xr xrl yb yc ycl yd ye yel yr yrl)) (CI0 g (wDb g qdb qte qteb qpa qpae qpar qpau qpab qsu qdp qdpe qdpr qdpu qdpb qpr qpro qprf qprs qprb qprn qprt qbe qci qrd qrs qrsr ua qse qct qre qreb qpst qkpt qfil qbp qbk dv t tb w0 w1 w2 w3 w4 su d0 d1 d2 d3 d4 pi po pf ps pb pn pt ba ca cal da ea eal rar ral cb cbl rev rb fl xb xc xcl xd xe xel xr xrl yb yc ycl yd ye yel yr yrl) (sp_Db_coldOf p1 w0 w1)) 0 0 (inW (wDb g qdb qte qteb qpa qpae qpar qpau qpab qsu qdp qdpe qdpr qdpu qdpb qpr qpro qprf qprs qprb qprn qprt qbe qci qrd qrs qrsr ua qse qct qre qreb qpst qkpt qfil qbp qbk dv t tb w0 w1 w2 w3 w4 su d0 d1 d2 d3 d4 pi po pf ps pb pn pt ba ca cal da ea eal rar ral cb cbl rev rb fl xb xc xcl xd xe xel xr xrl yb yc ycl yd ye yel yr yrl)) := by
  refine Met.ofW (cc := b_Db_coldOf) (maxL := 2) (ret := (some .int)) pn_Db rfl ?_
  intro p e s m args below meth c s₁ B hml hv
  obtain ⟨rfl, C, hP, hD, hS⟩ := enter "DecadeBridge" rfl B hml hv
  obtain ⟨hx, hb, hr, hml, hown, hlk, hts, hK, hZo, hZ⟩ := id C
  refine entryW (lv := [(0, .ref qdb), (1, .int p1)]) rfl (Nat.le_of_ble_eq_true rfl) (fun ls hl => ?_)
  obtain ⟨z, hz⟩ : ∃ z, z = sp_Db_coldOf p1 w0 w1 := ⟨_, rfl⟩
  rw [← hz]
  unfold sp_Db_coldOf at hz
  unfold ok_Db_coldOf at hok
  refine lv_iload_n hx hb d_Db_coldOf_0 rfl (lv_at hl 1 rfl) ?_
  refine lv_iconst (v := 0) hx hb d_Db_coldOf_1 (by decide) ?_
  refine lv_aload_n hx hb d_Db_coldOf_2 rfl (lv_at hl 0 rfl) ?_
  refine gf C hP 0 1 fkDb rfl (by decide) rfl qf_Db_19 (gDb_1 _ _ _ _ _ _ _ _ _ _ _) d_Db_coldOf_3 ?_
  have hs1 := hok.1
  have hok := hok.2
  have hB : SubW g (inW (wDb g qdb qte qteb qpa qpae qpar qpau qpab qsu qdp qdpe qdpr qdpu qdpb qpr qpro qprf qprs qprb qprn qprt qbe qci qrd qrs qrsr ua qse qct qre qreb qpst qkpt qfil qbp qbk dv t tb w0 w1 w2 w3 w4 su d0 d1 d2 d3 d4 pi po pf ps pb pn pt ba ca cal da ea eal rar ral cb cbl rev rb fl xb xc xcl xd xe xel xr xrl yb yc ycl yd ye yel yr yrl)) s (wDb g qdb qte qteb qpa qpae qpar qpau qpab qsu qdp qdpe qdpr qdpu qdpb qpr qpro qprf qprs qprb qprn qprt qbe qci qrd qrs qrsr ua qse qct qre qreb qpst qkpt qfil qbp qbk dv t tb w0 w1 w2 w3 w4 su d0 d1 d2 d3 d4 pi po pf ps pb pn pt ba ca cal da ea eal rar ral cb cbl rev rb fl xb xc xcl xd xe xel xr xrl yb yc ycl yd ye yel yr yrl) (wPa g qpa qpae qpar qpau qpab w0 w1 w2 w3 w4) [3, 4, 5, 6, 7] _ _ := ⟨rfl, rfl, hP, hD, hS⟩
  refine goI0 hB (run_v C mf_Pa_settings qm_Db_280 (c_Pa_settings l g qpa qpae qpar qpau qpab w0 w1 w2 w3 w4 hs1) rfl rfl ⟨Nat.le_of_ble_eq_true rfl, Nat.le_of_ble_eq_true rfl⟩ ⟨Nat.le_of_ble_eq_true rfl, Nat.le_of_ble_eq_true rfl⟩ hB rfl rfl hl rfl rfl (Nat.le_of_ble_eq_true rfl) d_Db_coldOf_6) (fun y2 ey2 H locs hP hS => ?_)
  have hz := lett_z hz ey2
  have hok := lett_o hok ey2
  refine lv_iconst (v := 1) hx hb d_Db_coldOf_9 (by decide) ?_
  refine lv_isub hx hb d_Db_coldOf_10 ?_
  have hs3 := hok.1
  have hok := hok.2
  have hB : SubW g (inW (wDb g qdb qte qteb qpa qpae qpar qpau qpab qsu qdp qdpe qdpr qdpu qdpb qpr qpro qprf qprs qprb qprn qprt qbe qci qrd qrs qrsr ua qse qct qre qreb qpst qkpt qfil qbp qbk dv t tb w0 w1 w2 w3 w4 su d0 d1 d2 d3 d4 pi po pf ps pb pn pt ba ca cal da ea eal rar ral cb cbl rev rb fl xb xc xcl xd xe xel xr xrl yb yc ycl yd ye yel yr yrl)) s (wDb g qdb qte qteb qpa qpae qpar qpau qpab qsu qdp qdpe qdpr qdpu qdpb qpr qpro qprf qprs qprb qprn qprt qbe qci qrd qrs qrsr ua qse qct qre qreb qpst qkpt qfil qbp qbk dv t tb w0 w1 w2 w3 w4 su d0 d1 d2 d3 d4 pi po pf ps pb pn pt ba ca cal da ea eal rar ral cb cbl rev rb fl xb xc xcl xd xe xel xr xrl yb yc ycl yd ye yel yr yrl) (wNil g ) [] _ _ := ⟨rfl, rfl, hP, hD, hS⟩
  refine goV0 hB (run_s C mf_Db_checkRange qm_Db_131 (c_Db_checkRange l g p1 (0 : Int32) (y2 - (1 : Int32)) hs3) rfl rfl ⟨Nat.le_of_ble_eq_true rfl, Nat.le_of_ble_eq_true rfl⟩ ⟨Nat.le_of_ble_eq_true rfl, Nat.le_of_ble_eq_true rfl⟩ hB hl rfl rfl (Nat.le_of_ble_eq_true rfl) d_Db_coldOf_11) (fun y4 ey4 H locs hP hS => ?_)
  have hz := lett_z hz ey4
  have hok := lett_o hok ey4
  refine lv_aload_n hx hb d_Db_coldOf_14 rfl (lv_at hl 0 rfl) ?_
  refine gf C hP 0 1 fkDb rfl (by decide) rfl qf_Db_19 (gDb_1 _ _ _ _ _ _ _ _ _ _ _) d_Db_coldOf_15 ?_
  refine lv_iload_n hx hb d_Db_coldOf_18 rfl (lv_at hl 1 rfl) ?_
  have hs5 := hok.1
  have hok := hok.2
  have hB : SubW g (inW (wDb g qdb qte qteb qpa qpae qpar qpau qpab qsu qdp qdpe qdpr qdpu qdpb qpr qpro qprf qprs qprb qprn qprt qbe qci qrd qrs qrsr ua qse qct qre qreb qpst qkpt qfil qbp qbk dv t tb w0 w1 w2 w3 w4 su d0 d1 d2 d3 d4 pi po pf ps pb pn pt ba ca cal da ea eal rar ral cb cbl rev rb fl xb xc xcl xd xe xel xr xrl yb yc ycl yd ye yel yr yrl)) s (wDb g qdb qte qteb qpa qpae qpar qpau qpab qsu qdp qdpe qdpr qdpu qdpb qpr qpro qprf qprs qprb qprn qprt qbe qci qrd qrs qrsr ua qse qct qre qreb qpst qkpt qfil qbp qbk dv t tb w0 w1 w2 w3 w4 su d0 d1 d2 d3 d4 pi po pf ps pb pn pt ba ca cal da ea eal rar ral cb cbl rev rb fl xb xc xcl xd xe xel xr xrl yb yc ycl yd ye yel yr yrl) (wPa g qpa qpae qpar qpau qpab w0 w1 w2 w3 w4) [3, 4, 5, 6, 7] _ _ := ⟨rfl, rfl, hP, hD, hS⟩
  refine goI0 hB (run_v C mf_Pa_coldAt qm_Db_283 (c_Pa_coldAt l g qpa qpae qpar qpau qpab w0 w1 w2 w3 w4 p1 hs5) rfl rfl ⟨Nat.le_of_ble_eq_true rfl, Nat.le_of_ble_eq_true rfl⟩ ⟨Nat.le_of_ble_eq_true rfl, Nat.le_of_ble_eq_true rfl⟩ hB rfl rfl hl rfl rfl (Nat.le_of_ble_eq_true rfl) d_Db_coldOf_19) (fun y6 ey6 H locs hP hS => ?_)
  have hz := lett_z hz ey6
  exact endI0 C hz hP hS d_Db_coldOf_22
