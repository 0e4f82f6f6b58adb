abbrev rm_Db_decade : Room := { frames := 3, cells := 0, slots := 0, locals := 66 }
noncomputable def sp_Db_decade (p1 : Int32) (p2 : Int32) (w0 : IV) (w1 : IV) (ca : IV) : Int32 := lett (sp_Db_checkIndex p1 (w0 0)) fun (y2 : Unit) => lett (sp_Db_checkRange p2 (0 : Int32) (2 : Int32)) fun (y4 : Unit) => if p2 = (0 : Int32) then (lett (sp_Pa_stepOf p1 w0) fun (y6 : Int32) => y6) else (if p2 = (1 : Int32) then (lett (sp_Pa_errorOfDecade p1 w1) fun (y7 : Int32) => y7) else (lett (sp_Pa_digitOf (ca 5) p1 w0) fun (y9 : Int32) => y9))
def ok_Db_decade (p1 : Int32) (p2 : Int32) (w0 : IV) (ca : IV) : Prop := (ok_Db_checkIndex p1 (w0 0)) ∧ lett (sp_Db_checkIndex p1 (w0 0)) fun (y2 : Unit) => (ok_Db_checkRange p2 (0 : Int32) (2 : Int32)) ∧ lett (sp_Db_checkRange p2 (0 : Int32) (2 : Int32)) fun (y4 : Unit) => ((p2 = (0 : Int32) → (ok_Pa_stepOf p1 w0) ∧ True) ∧ (¬ (p2 = (0 : Int32)) → ((p2 = (1 : Int32) → True) ∧ (¬ (p2 = (1 : Int32)) → (ok_Pa_digitOf (ca 5) p1 w0) ∧ True))))
set_option maxRecDepth 100000 in
set_option maxHeartbeats 4000000 in
theorem c_Db_decade (l : Launch) (g : GX) (qdb : Nat) (qte : Nat) (qteb : Nat) (qpa : Nat) (qpae : Nat) (qpar : Nat) (qpau : Nat) (qpab : Nat) (qsu : Nat) (qdp : Nat) (qdpe : Nat) (qdpr : Nat) (qdpu : Nat) (qdpb : Nat) (qpr : Nat) (qpro : Nat) (qprf : Nat) (qprs : Nat) (qprb : Nat) (qprn : Nat) (qprt : Nat) (qbe : Nat) (qci : Nat) (qrd : Nat) (qrs : Nat) (qrsr : Nat) (ua : Nat → Nat) (qse : Nat) (qct : Nat) (qre : Nat) (qreb : Nat) (qpst : Nat) (qkpt : Nat) (qfil : Nat) (qbp : Nat → Nat → Nat) (qbk : Nat → Nat → Nat) (dv : IV) (t : IV) (tb : IV) (w0 : IV) (w1 : IV) (w2 : IV) (w3 : IV) (w4 : IV) (su : IV) (d0 : IV) (d1 : IV) (d2 : IV) (d3 : IV) (d4 : IV) (pi : IV) (po : IV) (pf : IV) (ps : IV) (pb : IV) (pn : IV) (pt : IV) (ba : IV) (ca : IV) (cal : LV) (da : IV) (ea : IV) (eal : LV) (rar : NI) (ral : NL) (cb : IV) (cbl : LV) (rev : IV) (rb : IV) (fl : IV) (xb : NI) (xc : NI) (xcl : NL) (xd : NI) (xe : NI) (xel : NL) (xr : NNI) (xrl : NNL) (yb : NI) (yc : NI) (ycl : NL) (yd : NI) (ye : NI) (yel : NL) (yr : NNI) (yrl : NNL) (p1 : Int32) (p2 : Int32) (hok : ok_Db_decade p1 p2 w0 ca) : Met l y_Db_decade (wsY y_Db_decade b_Db_decade 3 (some .int)) rm_Db_decade (CP g [.ref qdb, .int p1, .int p2] (wDb g qdb qte qteb qpa qpae qpar qpau qpab qsu qdp qdpe qdpr qdpu qdpb qpr qpro qprf qprs qprb qprn qprt qbe qci qrd qrs qrsr ua qse qct qre qreb qpst qkpt qfil qbp qbk dv t tb w0 w1 w2 w3 w4 su d0 d1 d2 d3 d4 pi po pf ps pb pn pt ba ca cal da ea eal rar ral cb cbl rev rb fl xb xc xcl xd xe xel xr xrl yb yc ycl yd ye yel yr yrl)) (CI0 g (wDb g qdb qte qteb qpa qpae qpar qpau qpab qsu qdp qdpe qdpr qdpu qdpb qpr qpro qprf qprs qprb qprn qprt qbe qci qrd qrs qrsr ua qse qct qre qreb qpst qkpt qfil qbp qbk dv t tb w0 w1 w2 w3 w4 su d0 d1 d2 d3 d4 pi po pf ps pb pn pt ba ca cal da ea eal rar ral cb cbl rev rb fl xb xc xcl xd xe xel xr xrl yb yc ycl yd ye yel yr yrl) (sp_Db_decade p1 p2 w0 w1 ca)) 0 0 (inW (wDb g qdb qte qteb qpa qpae qpar qpau qpab qsu qdp qdpe qdpr qdpu qdpb qpr qpro qprf qprs qprb qprn qprt qbe qci qrd qrs qrsr ua qse qct qre qreb qpst qkpt qfil qbp qbk dv t tb w0 w1 w2 w3 w4 su d0 d1 d2 d3 d4 pi po pf ps pb pn pt ba ca cal da ea eal rar ral cb cbl rev rb fl xb xc xcl xd xe xel xr xrl yb yc ycl yd ye yel yr yrl)) := by
  refine Met.ofW (cc := b_Db_decade) (maxL := 3) (ret := (some .int)) pn_Db rfl ?_
  intro p e s m args below meth c s₁ B hml hv
  obtain ⟨rfl, C, hP, hD, hS⟩ := enter "DecadeBridge" rfl B hml hv
  obtain ⟨hx, hb, hr, hml, hown, hlk, hts, hK, hZo, hZ⟩ := id C
  refine entryW (lv := [(0, .ref qdb), (1, .int p1), (2, .int p2)]) rfl (Nat.le_of_ble_eq_true rfl) (fun ls hl => ?_)
  obtain ⟨z, hz⟩ : ∃ z, z = sp_Db_decade p1 p2 w0 w1 ca := ⟨_, rfl⟩
  rw [← hz]
  unfold sp_Db_decade at hz
  unfold ok_Db_decade at hok
  refine lv_iload_n hx hb d_Db_decade_0 rfl (lv_at hl 1 rfl) ?_
  refine lv_aload_n hx hb d_Db_decade_1 rfl (lv_at hl 0 rfl) ?_
  refine gf C hP 0 1 fkDb rfl (by decide) rfl qf_Db_19 (gDb_1 _ _ _ _ _ _ _ _ _ _ _) d_Db_decade_2 ?_
  refine gf C hP 3 0 fkPa rfl (by decide) rfl qf_Db_107 (gPa_0 _ _ _ _ _) d_Db_decade_5 ?_
  have hs1 := hok.1
  have hok := hok.2
  have hB : SubW g (inW (wDb g qdb qte qteb qpa qpae qpar qpau qpab qsu qdp qdpe qdpr qdpu qdpb qpr qpro qprf qprs qprb qprn qprt qbe qci qrd qrs qrsr ua qse qct qre qreb qpst qkpt qfil qbp qbk dv t tb w0 w1 w2 w3 w4 su d0 d1 d2 d3 d4 pi po pf ps pb pn pt ba ca cal da ea eal rar ral cb cbl rev rb fl xb xc xcl xd xe xel xr xrl yb yc ycl yd ye yel yr yrl)) s (wDb g qdb qte qteb qpa qpae qpar qpau qpab qsu qdp qdpe qdpr qdpu qdpb qpr qpro qprf qprs qprb qprn qprt qbe qci qrd qrs qrsr ua qse qct qre qreb qpst qkpt qfil qbp qbk dv t tb w0 w1 w2 w3 w4 su d0 d1 d2 d3 d4 pi po pf ps pb pn pt ba ca cal da ea eal rar ral cb cbl rev rb fl xb xc xcl xd xe xel xr xrl yb yc ycl yd ye yel yr yrl) (wNil g ) [] _ _ := ⟨rfl, rfl, hP, hD, hS⟩
  refine goV0 hB (run_s C mf_Db_checkIndex qm_Db_206 (c_Db_checkIndex l g p1 (w0 0) hs1) rfl rfl ⟨Nat.le_of_ble_eq_true rfl, Nat.le_of_ble_eq_true rfl⟩ ⟨Nat.le_of_ble_eq_true rfl, Nat.le_of_ble_eq_true rfl⟩ hB hl rfl rfl (Nat.le_of_ble_eq_true rfl) d_Db_decade_8) (fun y2 ey2 H locs hP hS => ?_)
  have hz := lett_z hz ey2
  have hok := lett_o hok ey2
  refine lv_iload_n hx hb d_Db_decade_11 rfl (lv_at hl 2 rfl) ?_
  refine lv_iconst (v := 0) hx hb d_Db_decade_12 (by decide) ?_
  refine lv_iconst (v := 2) hx hb d_Db_decade_13 (by decide) ?_
  have hs3 := hok.1
  have hok := hok.2
  have hB : SubW g (inW (wDb g qdb qte qteb qpa qpae qpar qpau qpab qsu qdp qdpe qdpr qdpu qdpb qpr qpro qprf qprs qprb qprn qprt qbe qci qrd qrs qrsr ua qse qct qre qreb qpst qkpt qfil qbp qbk dv t tb w0 w1 w2 w3 w4 su d0 d1 d2 d3 d4 pi po pf ps pb pn pt ba ca cal da ea eal rar ral cb cbl rev rb fl xb xc xcl xd xe xel xr xrl yb yc ycl yd ye yel yr yrl)) s (wDb g qdb qte qteb qpa qpae qpar qpau qpab qsu qdp qdpe qdpr qdpu qdpb qpr qpro qprf qprs qprb qprn qprt qbe qci qrd qrs qrsr ua qse qct qre qreb qpst qkpt qfil qbp qbk dv t tb w0 w1 w2 w3 w4 su d0 d1 d2 d3 d4 pi po pf ps pb pn pt ba ca cal da ea eal rar ral cb cbl rev rb fl xb xc xcl xd xe xel xr xrl yb yc ycl yd ye yel yr yrl) (wNil g ) [] _ _ := ⟨rfl, rfl, hP, hD, hS⟩
  refine goV0 hB (run_s C mf_Db_checkRange qm_Db_131 (c_Db_checkRange l g p2 (0 : Int32) (2 : Int32) hs3) rfl rfl ⟨Nat.le_of_ble_eq_true rfl, Nat.le_of_ble_eq_true rfl⟩ ⟨Nat.le_of_ble_eq_true rfl, Nat.le_of_ble_eq_true rfl⟩ hB hl rfl rfl (Nat.le_of_ble_eq_true rfl) d_Db_decade_14) (fun y4 ey4 H locs hP hS => ?_)
  have hz := lett_z hz ey4
  have hok := lett_o hok ey4
  refine lv_iload_n hx hb d_Db_decade_17 rfl (lv_at hl 2 rfl) ?_
  by_cases c10_0 : p2 = (0 : Int32)
  · have hz := hz.trans (if_pos c10_0)
    have hok := hok.1 c10_0
    refine lv_lookup (x := p2) (off := 26) (tgt := 44) hx hb d_Db_decade_18 (by decide) (by rw [c10_0]; rfl) (by decide) ?_
    refine lv_aload_n hx hb d_Db_decade_44 rfl (lv_at hl 0 rfl) ?_
    refine gf C hP 0 1 fkDb rfl (by decide) rfl qf_Db_19 (gDb_1 _ _ _ _ _ _ _ _ _ _ _) d_Db_decade_45 ?_
    refine lv_iload_n hx hb d_Db_decade_48 rfl (lv_at hl 1 rfl) ?_
    have hs5 := hok.1
    have hok := hok.2
    have hB : SubW g (inW (wDb g qdb qte qteb qpa qpae qpar qpau qpab qsu qdp qdpe qdpr qdpu qdpb qpr qpro qprf qprs qprb qprn qprt qbe qci qrd qrs qrsr ua qse qct qre qreb qpst qkpt qfil qbp qbk dv t tb w0 w1 w2 w3 w4 su d0 d1 d2 d3 d4 pi po pf ps pb pn pt ba ca cal da ea eal rar ral cb cbl rev rb fl xb xc xcl xd xe xel xr xrl yb yc ycl yd ye yel yr yrl)) s (wDb g qdb qte qteb qpa qpae qpar qpau qpab qsu qdp qdpe qdpr qdpu qdpb qpr qpro qprf qprs qprb qprn qprt qbe qci qrd qrs qrsr ua qse qct qre qreb qpst qkpt qfil qbp qbk dv t tb w0 w1 w2 w3 w4 su d0 d1 d2 d3 d4 pi po pf ps pb pn pt ba ca cal da ea eal rar ral cb cbl rev rb fl xb xc xcl xd xe xel xr xrl yb yc ycl yd ye yel yr yrl) (wPa g qpa qpae qpar qpau qpab w0 w1 w2 w3 w4) [3, 4, 5, 6, 7] _ _ := ⟨rfl, rfl, hP, hD, hS⟩
    refine goI0 hB (run_v C mf_Pa_stepOf qm_Db_219 (c_Pa_stepOf l g qpa qpae qpar qpau qpab w0 w1 w2 w3 w4 p1 hs5) rfl rfl ⟨Nat.le_of_ble_eq_true rfl, Nat.le_of_ble_eq_true rfl⟩ ⟨Nat.le_of_ble_eq_true rfl, Nat.le_of_ble_eq_true rfl⟩ hB rfl rfl hl rfl rfl (Nat.le_of_ble_eq_true rfl) d_Db_decade_49) (fun y6 ey6 H locs hP hS => ?_)
    have hz := lett_z hz ey6
    exact endI0 C hz hP hS d_Db_decade_52
  have hz := hz.trans (if_neg c10_0)
  have hok := hok.2 c10_0
  by_cases c10_1 : p2 = (1 : Int32)
  · have hz := hz.trans (if_pos c10_1)
    have hok := hok.1 c10_1
    refine lv_lookup (x := p2) (off := 35) (tgt := 53) hx hb d_Db_decade_18 (by decide) (by rw [c10_1]; rfl) (by decide) ?_
    refine lv_aload_n hx hb d_Db_decade_53 rfl (lv_at hl 0 rfl) ?_
    refine gf C hP 0 1 fkDb rfl (by decide) rfl qf_Db_19 (gDb_1 _ _ _ _ _ _ _ _ _ _ _) d_Db_decade_54 ?_
    refine lv_iload_n hx hb d_Db_decade_57 rfl (lv_at hl 1 rfl) ?_
    have hB : SubW g (inW (wDb g qdb qte qteb qpa qpae qpar qpau qpab qsu qdp qdpe qdpr qdpu qdpb qpr qpro qprf qprs qprb qprn qprt qbe qci qrd qrs qrsr ua qse qct qre qreb qpst qkpt qfil qbp qbk dv t tb w0 w1 w2 w3 w4 su d0 d1 d2 d3 d4 pi po pf ps pb pn pt ba ca cal da ea eal rar ral cb cbl rev rb fl xb xc xcl xd xe xel xr xrl yb yc ycl yd ye yel yr yrl)) s (wDb g qdb qte qteb qpa qpae qpar qpau qpab qsu qdp qdpe qdpr qdpu qdpb qpr qpro qprf qprs qprb qprn qprt qbe qci qrd qrs qrsr ua qse qct qre qreb qpst qkpt qfil qbp qbk dv t tb w0 w1 w2 w3 w4 su d0 d1 d2 d3 d4 pi po pf ps pb pn pt ba ca cal da ea eal rar ral cb cbl rev rb fl xb xc xcl xd xe xel xr xrl yb yc ycl yd ye yel yr yrl) (wPa g qpa qpae qpar qpau qpab w0 w1 w2 w3 w4) [3, 4, 5, 6, 7] _ _ := ⟨rfl, rfl, hP, hD, hS⟩
    refine goI0 hB (run_v C mf_Pa_errorOfDecade qm_Db_222 (c_Pa_errorOfDecade l g qpa qpae qpar qpau qpab w0 w1 w2 w3 w4 p1) rfl rfl ⟨Nat.le_of_ble_eq_true rfl, Nat.le_of_ble_eq_true rfl⟩ ⟨Nat.le_of_ble_eq_true rfl, Nat.le_of_ble_eq_true rfl⟩ hB rfl rfl hl rfl rfl (Nat.le_of_ble_eq_true rfl) d_Db_decade_58) (fun y7 ey7 H locs hP hS => ?_)
    have hz := lett_z hz ey7
    exact endI0 C hz hP hS d_Db_decade_61
  have hz := hz.trans (if_neg c10_1)
  have hok := hok.2 c10_1
  refine lv_lookup (x := p2) (off := 44) (tgt := 62) hx hb d_Db_decade_18 (by decide) (by have h0 := lkne (k := 0) c10_0 (by decide); have g0 : ¬ ((0 : Int) = (p2).toInt) := fun q => h0 q.symm; have h1 := lkne (k := 1) c10_1 (by decide); have g1 : ¬ ((1 : Int) = (p2).toInt) := fun q => h1 q.symm; simp [Op.lookupswitch.offset, h0, g0, h1, g1]) (by decide) ?_
  refine lv_aload_n hx hb d_Db_decade_62 rfl (lv_at hl 0 rfl) ?_
  refine gf C hP 0 1 fkDb rfl (by decide) rfl qf_Db_19 (gDb_1 _ _ _ _ _ _ _ _ _ _ _) d_Db_decade_63 ?_
  refine lv_aload_n hx hb d_Db_decade_66 rfl (lv_at hl 0 rfl) ?_
  refine gf C hP 0 4 fkDb rfl (by decide) rfl qf_Db_44 (gDb_4 _ _ _ _ _ _ _ _ _ _ _) d_Db_decade_67 ?_
  refine gf C hP 21 0 fkBe rfl (by decide) rfl qf_Db_141 (gBe_0 _ _ _ _ _) d_Db_decade_70 ?_
  refine gf C hP 22 5 fkCi rfl (by decide) rfl qf_Db_181 (gCi_5 _ _ _) d_Db_decade_73 ?_
  refine lv_iload_n hx hb d_Db_decade_76 rfl (lv_at hl 1 rfl) ?_
  have hs8 := hok.1
  have hok := hok.2
  have hB : SubW g (inW (wDb g qdb qte qteb qpa qpae qpar qpau qpab qsu qdp qdpe qdpr qdpu qdpb qpr qpro qprf qprs qprb qprn qprt qbe qci qrd qrs qrsr ua qse qct qre qreb qpst qkpt qfil qbp qbk dv t tb w0 w1 w2 w3 w4 su d0 d1 d2 d3 d4 pi po pf ps pb pn pt ba ca cal da ea eal rar ral cb cbl rev rb fl xb xc xcl xd xe xel xr xrl yb yc ycl yd ye yel yr yrl)) s (wDb g qdb qte qteb qpa qpae qpar qpau qpab qsu qdp qdpe qdpr qdpu qdpb qpr qpro qprf qprs qprb qprn qprt qbe qci qrd qrs qrsr ua qse qct qre qreb qpst qkpt qfil qbp qbk dv t tb w0 w1 w2 w3 w4 su d0 d1 d2 d3 d4 pi po pf ps pb pn pt ba ca cal da ea eal rar ral cb cbl rev rb fl xb xc xcl xd xe xel xr xrl yb yc ycl yd ye yel yr yrl) (wPa g qpa qpae qpar qpau qpab w0 w1 w2 w3 w4) [3, 4, 5, 6, 7] _ _ := ⟨rfl, rfl, hP, hD, hS⟩
  refine goI0 hB (run_v C mf_Pa_digitOf qm_Db_225 (c_Pa_digitOf l g qpa qpae qpar qpau qpab w0 w1 w2 w3 w4 (ca 5) p1 hs8) rfl rfl ⟨Nat.le_of_ble_eq_true rfl, Nat.le_of_ble_eq_true rfl⟩ ⟨Nat.le_of_ble_eq_true rfl, Nat.le_of_ble_eq_true rfl⟩ hB rfl rfl hl rfl rfl (Nat.le_of_ble_eq_true rfl) d_Db_decade_77) (fun y9 ey9 H locs hP hS => ?_)
  have hz := lett_z hz ey9
  exact endI0 C hz hP hS d_Db_decade_80
