abbrev rm_Db_setTo : Room := { frames := 5, cells := 0, slots := 0, locals := 109 }
noncomputable def sp_Db_setTo (p1 : Int32) (dv : IV) (w0 : IV) (w1 : IV) (w3 : IV) (w4 : IV) (ba : IV) (ca : IV) (cal : LV) (da : IV) (ea : IV) (rar : NI) (ral : NL) (xb : NI) (xc : NI) (xcl : NL) (xd : NI) (xe : NI) (xr : NNI) (xrl : NNL) : Int32 × IV × IV × NI × NI × NL × NI × NI × NNI × NNL := if 0 ≤ p1 then (lett (sp_Pa_settings w0) fun (y3 : Int32) => if p1 < y3 then (lett (ca 5) fun (v5 : Int32) => lett (sp_Db_remember dv w0 w3 w4 ba ca cal da ea rar ral xb xc xcl xd xe xr xrl) fun (y7 : IV × NI × NI × NL × NI × NI × NNI × NNL) => lett (sp_Ci_dial p1 ca w0 w1 w3 w4) fun (y9 : IV) => (v5, (y7.1, y9, y7.2.1, y7.2.2.1, y7.2.2.2.1, y7.2.2.2.2.1, y7.2.2.2.2.2.1, y7.2.2.2.2.2.2.1, y7.2.2.2.2.2.2.2))) else (((-2 : Int32), (dv, ca, xb, xc, xcl, xd, xe, xr, xrl)))) else (default)
def ok_Db_setTo (p1 : Int32) (dv : IV) (w0 : IV) (w1 : IV) (w3 : IV) (w4 : IV) (ba : IV) (ca : IV) (cal : LV) (da : IV) (ea : IV) (rar : NI) (ral : NL) (xb : NI) (xc : NI) (xcl : NL) (xd : NI) (xe : NI) (xr : NNI) (xrl : NNL) : Prop := ((0 ≤ p1 → (ok_Pa_settings w0) ∧ lett (sp_Pa_settings w0) fun (y3 : Int32) => ((p1 < y3 → lett (ca 5) fun (v5 : Int32) => (ok_Db_remember dv w0 w3 w4 ba ca cal da ea rar ral xb xc xcl xd xe xr xrl) ∧ lett (sp_Db_remember dv w0 w3 w4 ba ca cal da ea rar ral xb xc xcl xd xe xr xrl) fun (y7 : IV × NI × NI × NL × NI × NI × NNI × NNL) => (ok_Ci_dial p1 ca w0 w1) ∧ True) ∧ (¬ (p1 < y3) → True))) ∧ (¬ (0 ≤ p1) → (False) ∧ True))
set_option maxRecDepth 100000 in
set_option maxHeartbeats 4000000 in
theorem c_Db_setTo (l : Launch) (g : GX) (qdb : Nat) (qte : Nat) (qteb : Nat) (qpa : Nat) (qpae : Nat) (qpar : Nat) (qpau : Nat) (qpab : Nat) (qsu : Nat) (qdp : Nat) (qdpe : Nat) (qdpr : Nat) (qdpu : Nat) (qdpb : Nat) (qpr : Nat) (qpro : Nat) (qprf : Nat) (qprs : Nat) (qprb : Nat) (qprn : Nat) (qprt : Nat) (qbe : Nat) (qci : Nat) (qrd : Nat) (qrs : Nat) (qrsr : Nat) (ua : Nat → Nat) (qse : Nat) (qct : Nat) (qre : Nat) (qreb : Nat) (qpst : Nat) (qkpt : Nat) (qfil : Nat) (qbp : Nat → Nat → Nat) (qbk : Nat → Nat → Nat) (dv : IV) (t : IV) (tb : IV) (w0 : IV) (w1 : IV) (w2 : IV) (w3 : IV) (w4 : IV) (su : IV) (d0 : IV) (d1 : IV) (d2 : IV) (d3 : IV) (d4 : IV) (pi : IV) (po : IV) (pf : IV) (ps : IV) (pb : IV) (pn : IV) (pt : IV) (ba : IV) (ca : IV) (cal : LV) (da : IV) (ea : IV) (eal : LV) (rar : NI) (ral : NL) (cb : IV) (cbl : LV) (rev : IV) (rb : IV) (fl : IV) (xb : NI) (xc : NI) (xcl : NL) (xd : NI) (xe : NI) (xel : NL) (xr : NNI) (xrl : NNL) (yb : NI) (yc : NI) (ycl : NL) (yd : NI) (ye : NI) (yel : NL) (yr : NNI) (yrl : NNL) (p1 : Int32) (hok : ok_Db_setTo p1 dv w0 w1 w3 w4 ba ca cal da ea rar ral xb xc xcl xd xe xr xrl) : Met l y_Db_setTo (wsY y_Db_setTo b_Db_setTo 3 (some .int)) rm_Db_setTo (CP g [.ref qdb, .int p1] (wDb g qdb qte qteb qpa qpae qpar qpau qpab qsu qdp qdpe qdpr qdpu qdpb qpr qpro qprf qprs qprb qprn qprt qbe qci qrd qrs qrsr ua qse qct qre qreb qpst qkpt qfil qbp qbk dv t tb w0 w1 w2 w3 w4 su d0 d1 d2 d3 d4 pi po pf ps pb pn pt ba ca cal da ea eal rar ral cb cbl rev rb fl xb xc xcl xd xe xel xr xrl yb yc ycl yd ye yel yr yrl)) (CI g (wDb g qdb qte qteb qpa qpae qpar qpau qpab qsu qdp qdpe qdpr qdpu qdpb qpr qpro qprf qprs qprb qprn qprt qbe qci qrd qrs qrsr ua qse qct qre qreb qpst qkpt qfil qbp qbk dv t tb w0 w1 w2 w3 w4 su d0 d1 d2 d3 d4 pi po pf ps pb pn pt ba ca cal da ea eal rar ral cb cbl rev rb fl xb xc xcl xd xe xel xr xrl yb yc ycl yd ye yel yr yrl) (fun u : IV × IV × NI × NI × NL × NI × NI × NNI × NNL => wDb g qdb qte qteb qpa qpae qpar qpau qpab qsu qdp qdpe qdpr qdpu qdpb qpr qpro qprf qprs qprb qprn qprt qbe qci qrd qrs qrsr ua qse qct qre qreb qpst qkpt qfil qbp qbk u.1 t tb w0 w1 w2 w3 w4 su d0 d1 d2 d3 d4 pi po pf ps pb pn pt ba u.2.1 cal da ea eal rar ral cb cbl rev rb fl u.2.2.1 u.2.2.2.1 u.2.2.2.2.1 u.2.2.2.2.2.1 u.2.2.2.2.2.2.1 xel u.2.2.2.2.2.2.2.1 u.2.2.2.2.2.2.2.2 yb yc ycl yd ye yel yr yrl) (sp_Db_setTo p1 dv w0 w1 w3 w4 ba ca cal da ea rar ral xb xc xcl xd xe xr xrl)) 0 0 (inW (wDb g qdb qte qteb qpa qpae qpar qpau qpab qsu qdp qdpe qdpr qdpu qdpb qpr qpro qprf qprs qprb qprn qprt qbe qci qrd qrs qrsr ua qse qct qre qreb qpst qkpt qfil qbp qbk dv t tb w0 w1 w2 w3 w4 su d0 d1 d2 d3 d4 pi po pf ps pb pn pt ba ca cal da ea eal rar ral cb cbl rev rb fl xb xc xcl xd xe xel xr xrl yb yc ycl yd ye yel yr yrl)) := by
  refine Met.ofW (cc := b_Db_setTo) (maxL := 3) (ret := (some .int)) pn_Db rfl ?_
  intro p e s m args below meth c s₁ B hml hv
  obtain ⟨rfl, C, hP, hD, hS⟩ := enter "DecadeBridge" rfl B hml hv
  obtain ⟨hx, hb, hr, hml, hown, hlk, hts, hK, hZo, hZ⟩ := id C
  refine entryW (lv := [(0, .ref qdb), (1, .int p1)]) rfl (Nat.le_of_ble_eq_true rfl) (fun ls hl => ?_)
  obtain ⟨z, hz⟩ : ∃ z, z = sp_Db_setTo p1 dv w0 w1 w3 w4 ba ca cal da ea rar ral xb xc xcl xd xe xr xrl := ⟨_, rfl⟩
  rw [← hz]
  unfold sp_Db_setTo at hz
  unfold ok_Db_setTo at hok
  refine lv_iload_n hx hb d_Db_setTo_0 rfl (lv_at hl 1 rfl) ?_
  refine lv_if_ge (tgt := 12) hx hb d_Db_setTo_1 (by decide) (fun c1 => ?_) (fun c1 => ?_)
  · have hz := hz.trans (if_pos c1)
    have hok := hok.1 c1
    refine lv_iload_n hx hb d_Db_setTo_12 rfl (lv_at hl 1 rfl) ?_
    refine lv_aload_n hx hb d_Db_setTo_13 rfl (lv_at hl 0 rfl) ?_
    refine gf C hP 0 1 fkDb rfl (by decide) rfl qf_Db_19 (gDb_1 _ _ _ _ _ _ _ _ _ _ _) d_Db_setTo_14 ?_
    have hs2 := hok.1
    have hok := hok.2
    have hB : SubW g (inW (wDb g qdb qte qteb qpa qpae qpar qpau qpab qsu qdp qdpe qdpr qdpu qdpb qpr qpro qprf qprs qprb qprn qprt qbe qci qrd qrs qrsr ua qse qct qre qreb qpst qkpt qfil qbp qbk dv t tb w0 w1 w2 w3 w4 su d0 d1 d2 d3 d4 pi po pf ps pb pn pt ba ca cal da ea eal rar ral cb cbl rev rb fl xb xc xcl xd xe xel xr xrl yb yc ycl yd ye yel yr yrl)) s (wDb g qdb qte qteb qpa qpae qpar qpau qpab qsu qdp qdpe qdpr qdpu qdpb qpr qpro qprf qprs qprb qprn qprt qbe qci qrd qrs qrsr ua qse qct qre qreb qpst qkpt qfil qbp qbk dv t tb w0 w1 w2 w3 w4 su d0 d1 d2 d3 d4 pi po pf ps pb pn pt ba ca cal da ea eal rar ral cb cbl rev rb fl xb xc xcl xd xe xel xr xrl yb yc ycl yd ye yel yr yrl) (wPa g qpa qpae qpar qpau qpab w0 w1 w2 w3 w4) [3, 4, 5, 6, 7] _ _ := ⟨rfl, rfl, hP, hD, hS⟩
    refine goI0 hB (run_v C mf_Pa_settings qm_Db_280 (c_Pa_settings l g qpa qpae qpar qpau qpab w0 w1 w2 w3 w4 hs2) rfl rfl ⟨Nat.le_of_ble_eq_true rfl, Nat.le_of_ble_eq_true rfl⟩ ⟨Nat.le_of_ble_eq_true rfl, Nat.le_of_ble_eq_true rfl⟩ hB rfl rfl hl rfl rfl (Nat.le_of_ble_eq_true rfl) d_Db_setTo_17) (fun y3 ey3 H locs hP hS => ?_)
    have hz := lett_z hz ey3
    have hok := lett_o hok ey3
    refine lv_icmp_lt (tgt := 26) hx hb d_Db_setTo_20 (by decide) (fun c4 => ?_) (fun c4 => ?_)
    · have hz := hz.trans (if_pos c4)
      have hok := hok.1 c4
      refine lv_aload_n hx hb d_Db_setTo_26 rfl (lv_at hl 0 rfl) ?_
      refine gf C hP 0 4 fkDb rfl (by decide) rfl qf_Db_44 (gDb_4 _ _ _ _ _ _ _ _ _ _ _) d_Db_setTo_27 ?_
      refine gf C hP 21 0 fkBe rfl (by decide) rfl qf_Db_141 (gBe_0 _ _ _ _ _) d_Db_setTo_30 ?_
      refine gf C hP 22 5 fkCi rfl (by decide) rfl qf_Db_181 (gCi_5 _ _ _) d_Db_setTo_33 ?_
      refine lv_topi (fun v5 ev5 => ?_)
      have hz := lett_z hz ev5
      have hok := lett_o hok ev5
      refine lv_istore_n (lv' := [(2, .int v5), (0, .ref qdb), (1, .int p1)]) hx hb d_Db_setTo_36 rfl hl (by decide) rfl (fun ls hl => ?_)
      refine lv_aload_n hx hb d_Db_setTo_37 rfl (lv_at hl 1 rfl) ?_
      have hs6 := hok.1
      have hok := hok.2
      have hB : SubW g (inW (wDb g qdb qte qteb qpa qpae qpar qpau qpab qsu qdp qdpe qdpr qdpu qdpb qpr qpro qprf qprs qprb qprn qprt qbe qci qrd qrs qrsr ua qse qct qre qreb qpst qkpt qfil qbp qbk dv t tb w0 w1 w2 w3 w4 su d0 d1 d2 d3 d4 pi po pf ps pb pn pt ba ca cal da ea eal rar ral cb cbl rev rb fl xb xc xcl xd xe xel xr xrl yb yc ycl yd ye yel yr yrl)) s (wDb g qdb qte qteb qpa qpae qpar qpau qpab qsu qdp qdpe qdpr qdpu qdpb qpr qpro qprf qprs qprb qprn qprt qbe qci qrd qrs qrsr ua qse qct qre qreb qpst qkpt qfil qbp qbk dv t tb w0 w1 w2 w3 w4 su d0 d1 d2 d3 d4 pi po pf ps pb pn pt ba ca cal da ea eal rar ral cb cbl rev rb fl xb xc xcl xd xe xel xr xrl yb yc ycl yd ye yel yr yrl) _ (List.range _) _ _ := (subF hP hD hS)
      refine goVF hB (run_v C mf_Db_remember qm_Db_111 (c_Db_remember l g qdb qte qteb qpa qpae qpar qpau qpab qsu qdp qdpe qdpr qdpu qdpb qpr qpro qprf qprs qprb qprn qprt qbe qci qrd qrs qrsr ua qse qct qre qreb qpst qkpt qfil qbp qbk dv t tb w0 w1 w2 w3 w4 su d0 d1 d2 d3 d4 pi po pf ps pb pn pt ba ca cal da ea eal rar ral cb cbl rev rb fl xb xc xcl xd xe xel xr xrl yb yc ycl yd ye yel yr yrl hs6) rfl rfl ⟨Nat.le_of_ble_eq_true rfl, Nat.le_of_ble_eq_true rfl⟩ ⟨Nat.le_of_ble_eq_true rfl, Nat.le_of_ble_eq_true rfl⟩ hB rfl rfl hl rfl rfl (Nat.le_of_ble_eq_true rfl) d_Db_setTo_38) (fun _ => rfl) (fun y7 ey7 H locs hP hD hS => ?_)
      have hP : va_P g.1 vwCl (wDb g qdb qte qteb qpa qpae qpar qpau qpab qsu qdp qdpe qdpr qdpu qdpb qpr qpro qprf qprs qprb qprn qprt qbe qci qrd qrs qrsr ua qse qct qre qreb qpst qkpt qfil qbp qbk y7.1 t tb w0 w1 w2 w3 w4 su d0 d1 d2 d3 d4 pi po pf ps pb pn pt ba ca cal da ea eal rar ral cb cbl rev rb fl y7.2.1 y7.2.2.1 y7.2.2.2.1 y7.2.2.2.2.1 y7.2.2.2.2.2.1 xel y7.2.2.2.2.2.2.1 y7.2.2.2.2.2.2.2 yb yc ycl yd ye yel yr yrl) H := hP
      have hD : va_D (inW (wDb g qdb qte qteb qpa qpae qpar qpau qpab qsu qdp qdpe qdpr qdpu qdpb qpr qpro qprf qprs qprb qprn qprt qbe qci qrd qrs qrsr ua qse qct qre qreb qpst qkpt qfil qbp qbk dv t tb w0 w1 w2 w3 w4 su d0 d1 d2 d3 d4 pi po pf ps pb pn pt ba ca cal da ea eal rar ral cb cbl rev rb fl xb xc xcl xd xe xel xr xrl yb yc ycl yd ye yel yr yrl)) (wDb g qdb qte qteb qpa qpae qpar qpau qpab qsu qdp qdpe qdpr qdpu qdpb qpr qpro qprf qprs qprb qprn qprt qbe qci qrd qrs qrsr ua qse qct qre qreb qpst qkpt qfil qbp qbk y7.1 t tb w0 w1 w2 w3 w4 su d0 d1 d2 d3 d4 pi po pf ps pb pn pt ba ca cal da ea eal rar ral cb cbl rev rb fl y7.2.1 y7.2.2.1 y7.2.2.2.1 y7.2.2.2.2.1 y7.2.2.2.2.2.1 xel y7.2.2.2.2.2.2.1 y7.2.2.2.2.2.2.2 yb yc ycl yd ye yel yr yrl) := hD
      have hz := lett_z hz ey7
      have hok := lett_o hok ey7
      refine lv_aload_n hx hb d_Db_setTo_41 rfl (lv_at hl 1 rfl) ?_
      refine gf C hP 0 4 fkDb rfl (by decide) rfl qf_Db_44 (gDb_4 _ _ _ _ _ _ _ _ _ _ _) d_Db_setTo_42 ?_
      refine gf C hP 21 0 fkBe rfl (by decide) rfl qf_Db_141 (gBe_0 _ _ _ _ _) d_Db_setTo_45 ?_
      refine lv_iload_n hx hb d_Db_setTo_48 rfl (lv_at hl 2 rfl) ?_
      have hs8 := hok.1
      have hok := hok.2
      have hB : SubW g (inW (wDb g qdb qte qteb qpa qpae qpar qpau qpab qsu qdp qdpe qdpr qdpu qdpb qpr qpro qprf qprs qprb qprn qprt qbe qci qrd qrs qrsr ua qse qct qre qreb qpst qkpt qfil qbp qbk dv t tb w0 w1 w2 w3 w4 su d0 d1 d2 d3 d4 pi po pf ps pb pn pt ba ca cal da ea eal rar ral cb cbl rev rb fl xb xc xcl xd xe xel xr xrl yb yc ycl yd ye yel yr yrl)) s (wDb g qdb qte qteb qpa qpae qpar qpau qpab qsu qdp qdpe qdpr qdpu qdpb qpr qpro qprf qprs qprb qprn qprt qbe qci qrd qrs qrsr ua qse qct qre qreb qpst qkpt qfil qbp qbk y7.1 t tb w0 w1 w2 w3 w4 su d0 d1 d2 d3 d4 pi po pf ps pb pn pt ba ca cal da ea eal rar ral cb cbl rev rb fl y7.2.1 y7.2.2.1 y7.2.2.2.1 y7.2.2.2.2.1 y7.2.2.2.2.2.1 xel y7.2.2.2.2.2.2.1 y7.2.2.2.2.2.2.2 yb yc ycl yd ye yel yr yrl) (wCi g qci qpa qpae qpar qpau qpab ca cal w0 w1 w2 w3 w4) [22, 3, 4, 5, 6, 7] _ _ := ⟨rfl, rfl, hP, hD, hS⟩
      refine goV1 hB (run_v C mf_Ci_dial qm_Db_412 (c_Ci_dial l g qci qpa qpae qpar qpau qpab ca cal w0 w1 w2 w3 w4 p1 hs8) rfl rfl ⟨Nat.le_of_ble_eq_true rfl, Nat.le_of_ble_eq_true rfl⟩ ⟨Nat.le_of_ble_eq_true rfl, Nat.le_of_ble_eq_true rfl⟩ hB rfl rfl hl rfl rfl (Nat.le_of_ble_eq_true rfl) d_Db_setTo_49) (fun _ => rfl) (fun y9 ey9 H locs hP hD hS => ?_)
      have hP : va_P g.1 vwCl (wDb g qdb qte qteb qpa qpae qpar qpau qpab qsu qdp qdpe qdpr qdpu qdpb qpr qpro qprf qprs qprb qprn qprt qbe qci qrd qrs qrsr ua qse qct qre qreb qpst qkpt qfil qbp qbk y7.1 t tb w0 w1 w2 w3 w4 su d0 d1 d2 d3 d4 pi po pf ps pb pn pt ba y9 cal da ea eal rar ral cb cbl rev rb fl y7.2.1 y7.2.2.1 y7.2.2.2.1 y7.2.2.2.2.1 y7.2.2.2.2.2.1 xel y7.2.2.2.2.2.2.1 y7.2.2.2.2.2.2.2 yb yc ycl yd ye yel yr yrl) H := cP sq_Db_6 hP
      have hD : va_D (inW (wDb g qdb qte qteb qpa qpae qpar qpau qpab qsu qdp qdpe qdpr qdpu qdpb qpr qpro qprf qprs qprb qprn qprt qbe qci qrd qrs qrsr ua qse qct qre qreb qpst qkpt qfil qbp qbk dv t tb w0 w1 w2 w3 w4 su d0 d1 d2 d3 d4 pi po pf ps pb pn pt ba ca cal da ea eal rar ral cb cbl rev rb fl xb xc xcl xd xe xel xr xrl yb yc ycl yd ye yel yr yrl)) (wDb g qdb qte qteb qpa qpae qpar qpau qpab qsu qdp qdpe qdpr qdpu qdpb qpr qpro qprf qprs qprb qprn qprt qbe qci qrd qrs qrsr ua qse qct qre qreb qpst qkpt qfil qbp qbk y7.1 t tb w0 w1 w2 w3 w4 su d0 d1 d2 d3 d4 pi po pf ps pb pn pt ba y9 cal da ea eal rar ral cb cbl rev rb fl y7.2.1 y7.2.2.1 y7.2.2.2.1 y7.2.2.2.2.1 y7.2.2.2.2.2.1 xel y7.2.2.2.2.2.2.1 y7.2.2.2.2.2.2.2 yb yc ycl yd ye yel yr yrl) := cD sq_Db_6 hD
      have hz := lett_z hz ey9
      refine lv_iload_n hx hb d_Db_setTo_52 rfl (lv_at hl 0 rfl) ?_
      exact endI1 C hz hP hS d_Db_setTo_53
    · have hz := hz.trans (if_neg c4)
      refine lv_bipush (v := -2) hx hb d_Db_setTo_23 (by decide) ?_
      exact endI1 C hz hP hS d_Db_setTo_25
  · have hz := hz.trans (if_neg c1)
    have hok := hok.2 c1
    have hs10 := hok.1
    have hok := hok.2
    exact False.elim hs10
