abbrev rm_Db_meanReading : Room := { frames := 2, cells := 0, slots := 0, locals := 44 }
noncomputable def sp_Db_meanReading (ba : IV) (da : IV) : UInt64 := if (ba 3) = 0 then (FP.dconst0) else (lett (sp_Be_sumOfReadings ba da) fun (y3 : Int64) => FP.ddiv (FP.l2d y3) (FP.i2d (ba 3)))
def ok_Db_meanReading (ba : IV) (da : IV) : Prop := (((ba 3) = 0 → True) ∧ (¬ ((ba 3) = 0) → (ok_Be_sumOfReadings ba da) ∧ lett (sp_Be_sumOfReadings ba da) fun (y3 : Int64) => (vf_n64 (FP.ddiv (FP.l2d y3) (FP.i2d (ba 3)))) ∧ True))
set_option maxRecDepth 100000 in
set_option maxHeartbeats 4000000 in
theorem c_Db_meanReading (l : Launch) (g : GX) (qdb : Nat) (qte : Nat) (qteb : Nat) (qpa : Nat) (qpae : Nat) (qpar : Nat) (qpau : Nat) (qpab : Nat) (qsu : Nat) (qdp : Nat) (qdpe : Nat) (qdpr : Nat) (qdpu : Nat) (qdpb : Nat) (qpr : Nat) (qpro : Nat) (qprf : Nat) (qprs : Nat) (qprb : Nat) (qprn : Nat) (qprt : Nat) (qbe : Nat) (qci : Nat) (qrd : Nat) (qrs : Nat) (qrsr : Nat) (ua : Nat → Nat) (qse : Nat) (qct : Nat) (qre : Nat) (qreb : Nat) (qpst : Nat) (qkpt : Nat) (qfil : Nat) (qbp : Nat → Nat → Nat) (qbk : Nat → Nat → Nat) (dv : IV) (t : IV) (tb : IV) (w0 : IV) (w1 : IV) (w2 : IV) (w3 : IV) (w4 : IV) (su : IV) (d0 : IV) (d1 : IV) (d2 : IV) (d3 : IV) (d4 : IV) (pi : IV) (po : IV) (pf : IV) (ps : IV) (pb : IV) (pn : IV) (pt : IV) (ba : IV) (ca : IV) (cal : LV) (da : IV) (ea : IV) (eal : LV) (rar : NI) (ral : NL) (cb : IV) (cbl : LV) (rev : IV) (rb : IV) (fl : IV) (xb : NI) (xc : NI) (xcl : NL) (xd : NI) (xe : NI) (xel : NL) (xr : NNI) (xrl : NNL) (yb : NI) (yc : NI) (ycl : NL) (yd : NI) (ye : NI) (yel : NL) (yr : NNI) (yrl : NNL)  (hok : ok_Db_meanReading ba da) : Met l y_Db_meanReading (wsY y_Db_meanReading b_Db_meanReading 1 (some .double)) rm_Db_meanReading (CP g [.ref qdb] (wDb g qdb qte qteb qpa qpae qpar qpau qpab qsu qdp qdpe qdpr qdpu qdpb qpr qpro qprf qprs qprb qprn qprt qbe qci qrd qrs qrsr ua qse qct qre qreb qpst qkpt qfil qbp qbk dv t tb w0 w1 w2 w3 w4 su d0 d1 d2 d3 d4 pi po pf ps pb pn pt ba ca cal da ea eal rar ral cb cbl rev rb fl xb xc xcl xd xe xel xr xrl yb yc ycl yd ye yel yr yrl)) (CD0 g (wDb g qdb qte qteb qpa qpae qpar qpau qpab qsu qdp qdpe qdpr qdpu qdpb qpr qpro qprf qprs qprb qprn qprt qbe qci qrd qrs qrsr ua qse qct qre qreb qpst qkpt qfil qbp qbk dv t tb w0 w1 w2 w3 w4 su d0 d1 d2 d3 d4 pi po pf ps pb pn pt ba ca cal da ea eal rar ral cb cbl rev rb fl xb xc xcl xd xe xel xr xrl yb yc ycl yd ye yel yr yrl) (sp_Db_meanReading ba da)) 0 0 (inW (wDb g qdb qte qteb qpa qpae qpar qpau qpab qsu qdp qdpe qdpr qdpu qdpb qpr qpro qprf qprs qprb qprn qprt qbe qci qrd qrs qrsr ua qse qct qre qreb qpst qkpt qfil qbp qbk dv t tb w0 w1 w2 w3 w4 su d0 d1 d2 d3 d4 pi po pf ps pb pn pt ba ca cal da ea eal rar ral cb cbl rev rb fl xb xc xcl xd xe xel xr xrl yb yc ycl yd ye yel yr yrl)) := by
  refine Met.ofW (cc := b_Db_meanReading) (maxL := 1) (ret := (some .double)) pn_Db rfl ?_
  intro p e s m args below meth c s₁ B hml hv
  obtain ⟨rfl, C, hP, hD, hS⟩ := enter "DecadeBridge" rfl B hml hv
  obtain ⟨hx, hb, hr, hml, hown, hlk, hts, hK, hZo, hZ⟩ := id C
  refine entryW (lv := [(0, .ref qdb)]) rfl (Nat.le_of_ble_eq_true rfl) (fun ls hl => ?_)
  obtain ⟨z, hz⟩ : ∃ z, z = sp_Db_meanReading ba da := ⟨_, rfl⟩
  rw [← hz]
  unfold sp_Db_meanReading at hz
  unfold ok_Db_meanReading at hok
  refine lv_aload_n hx hb d_Db_meanReading_0 rfl (lv_at hl 0 rfl) ?_
  refine gf C hP 0 4 fkDb rfl (by decide) rfl qf_Db_44 (gDb_4 _ _ _ _ _ _ _ _ _ _ _) d_Db_meanReading_1 ?_
  refine gf C hP 21 3 fkBe rfl (by decide) rfl qf_Db_313 (gBe_3 _ _ _ _ _) d_Db_meanReading_4 ?_
  refine lv_if_ne (tgt := 14) hx hb d_Db_meanReading_7 (by decide) (fun c1 => ?_) (fun c1 => ?_)
  · have hz := hz.trans (if_neg c1)
    have hok := hok.2 c1
    refine lv_aload_n hx hb d_Db_meanReading_14 rfl (lv_at hl 0 rfl) ?_
    refine gf C hP 0 4 fkDb rfl (by decide) rfl qf_Db_44 (gDb_4 _ _ _ _ _ _ _ _ _ _ _) d_Db_meanReading_15 ?_
    have hs2 := hok.1
    have hok := hok.2
    have hB : SubW g (inW (wDb g qdb qte qteb qpa qpae qpar qpau qpab qsu qdp qdpe qdpr qdpu qdpb qpr qpro qprf qprs qprb qprn qprt qbe qci qrd qrs qrsr ua qse qct qre qreb qpst qkpt qfil qbp qbk dv t tb w0 w1 w2 w3 w4 su d0 d1 d2 d3 d4 pi po pf ps pb pn pt ba ca cal da ea eal rar ral cb cbl rev rb fl xb xc xcl xd xe xel xr xrl yb yc ycl yd ye yel yr yrl)) s (wDb g qdb qte qteb qpa qpae qpar qpau qpab qsu qdp qdpe qdpr qdpu qdpb qpr qpro qprf qprs qprb qprn qprt qbe qci qrd qrs qrsr ua qse qct qre qreb qpst qkpt qfil qbp qbk dv t tb w0 w1 w2 w3 w4 su d0 d1 d2 d3 d4 pi po pf ps pb pn pt ba ca cal da ea eal rar ral cb cbl rev rb fl xb xc xcl xd xe xel xr xrl yb yc ycl yd ye yel yr yrl) (wBe g qbe qci qrd qrs qrsr ua qpa qpae qpar qpau qpab ba ca cal da ea eal rar ral w0 w1 w2 w3 w4) [21, 22, 23, 24, 25, 26, 27, 28, 29, 30, 31, 32, 33, 34, 35, 36, 37, 38, 39, 40, 41, 42, 43, 44, 45, 3, 4, 5, 6, 7] _ _ := ⟨rfl, rfl, hP, hD, hS⟩
    refine goL0 hB (run_v C mf_Be_sumOfReadings qm_Db_315 (c_Be_sumOfReadings l g qbe qci qrd qrs qrsr ua qpa qpae qpar qpau qpab ba ca cal da ea eal rar ral w0 w1 w2 w3 w4 hs2) rfl rfl ⟨Nat.le_of_ble_eq_true rfl, Nat.le_of_ble_eq_true rfl⟩ ⟨Nat.le_of_ble_eq_true rfl, Nat.le_of_ble_eq_true rfl⟩ hB rfl rfl hl rfl rfl (Nat.le_of_ble_eq_true rfl) d_Db_meanReading_18) (fun y3 ey3 H locs hP hS => ?_)
    have hz := lett_z hz ey3
    have hok := lett_o hok ey3
    refine lv_l2d hx hb d_Db_meanReading_21 ?_
    refine lv_aload_n hx hb d_Db_meanReading_22 rfl (lv_at hl 0 rfl) ?_
    refine gf C hP 0 4 fkDb rfl (by decide) rfl qf_Db_44 (gDb_4 _ _ _ _ _ _ _ _ _ _ _) d_Db_meanReading_23 ?_
    refine gf C hP 21 3 fkBe rfl (by decide) rfl qf_Db_313 (gBe_3 _ _ _ _ _) d_Db_meanReading_26 ?_
    refine lv_i2d hx hb d_Db_meanReading_29 ?_
    have hs4 := hok.1
    have hok := hok.2
    refine lv_ddiv hx hb d_Db_meanReading_30 hs4 ?_
    exact endD0 C hz hP hS d_Db_meanReading_31
  · have hz := hz.trans (if_pos c1)
    refine lv_dconst0 hx hb d_Db_meanReading_10 ?_
    refine lv_goto (tgt := 31) hx hb d_Db_meanReading_11 (by decide) ?_
    exact endD0 C hz hP hS d_Db_meanReading_31
