abbrev rm_Db_valueOf : Room := { frames := 1, cells := 0, slots := 0, locals := 21 }
noncomputable def sp_Db_valueOf (p1 : Int32) (p2 : Int32) (ea : IV) (ral : NL) : Int64 := lett (sp_Db_checkIndex p1 (ea 1)) fun (y2 : Unit) => lett (sp_Rs_at p1 ea) fun (y3 : Option Nat) => optt y3 ((-1 : Int64)) (fun (k4 : Nat) => if p2 = 0 then (ral k4 6) else (ral k4 7))
def ok_Db_valueOf (p1 : Int32) (p2 : Int32) (ea : IV) : Prop := (ok_Db_checkIndex p1 (ea 1)) ∧ lett (sp_Db_checkIndex p1 (ea 1)) fun (y2 : Unit) => lett (sp_Rs_at p1 ea) fun (y3 : Option Nat) => ((y3 = none → True) ∧ (∀ k4 : Nat, y3 = some k4 → ((p2 = 0 → (k4 < 20) ∧ True) ∧ (¬ (p2 = 0) → (k4 < 20) ∧ True))))
set_option maxRecDepth 100000 in
set_option maxHeartbeats 4000000 in
theorem c_Db_valueOf (l : Launch) (g : GX) (qdb : Nat) (qte : Nat) (qteb : Nat) (qpa : Nat) (qpae : Nat) (qpar : Nat) (qpau : Nat) (qpab : Nat) (qsu : Nat) (qdp : Nat) (qdpe : Nat) (qdpr : Nat) (qdpu : Nat) (qdpb : Nat) (qpr : Nat) (qpro : Nat) (qprf : Nat) (qprs : Nat) (qprb : Nat) (qprn : Nat) (qprt : Nat) (qbe : Nat) (qci : Nat) (qrd : Nat) (qrs : Nat) (qrsr : Nat) (ua : Nat → Nat) (qse : Nat) (qct : Nat) (qre : Nat) (qreb : Nat) (qpst : Nat) (qkpt : Nat) (qfil : Nat) (qbp : Nat → Nat → Nat) (qbk : Nat → Nat → Nat) (dv : IV) (t : IV) (tb : IV) (w0 : IV) (w1 : IV) (w2 : IV) (w3 : IV) (w4 : IV) (su : IV) (d0 : IV) (d1 : IV) (d2 : IV) (d3 : IV) (d4 : IV) (pi : IV) (po : IV) (pf : IV) (ps : IV) (pb : IV) (pn : IV) (pt : IV) (ba : IV) (ca : IV) (cal : LV) (da : IV) (ea : IV) (eal : LV) (rar : NI) (ral : NL) (cb : IV) (cbl : LV) (rev : IV) (rb : IV) (fl : IV) (xb : NI) (xc : NI) (xcl : NL) (xd : NI) (xe : NI) (xel : NL) (xr : NNI) (xrl : NNL) (yb : NI) (yc : NI) (ycl : NL) (yd : NI) (ye : NI) (yel : NL) (yr : NNI) (yrl : NNL) (p1 : Int32) (p2 : Int32) (hok : ok_Db_valueOf p1 p2 ea) : Met l y_Db_valueOf (wsY y_Db_valueOf b_Db_valueOf 4 (some .long)) rm_Db_valueOf (CP g [.ref qdb, .int p1, .int p2] (wDb g qdb qte qteb qpa qpae qpar qpau qpab qsu qdp qdpe qdpr qdpu qdpb qpr qpro qprf qprs qprb qprn qprt qbe qci qrd qrs qrsr ua qse qct qre qreb qpst qkpt qfil qbp qbk dv t tb w0 w1 w2 w3 w4 su d0 d1 d2 d3 d4 pi po pf ps pb pn pt ba ca cal da ea eal rar ral cb cbl rev rb fl xb xc xcl xd xe xel xr xrl yb yc ycl yd ye yel yr yrl)) (CL0 g (wDb g qdb qte qteb qpa qpae qpar qpau qpab qsu qdp qdpe qdpr qdpu qdpb qpr qpro qprf qprs qprb qprn qprt qbe qci qrd qrs qrsr ua qse qct qre qreb qpst qkpt qfil qbp qbk dv t tb w0 w1 w2 w3 w4 su d0 d1 d2 d3 d4 pi po pf ps pb pn pt ba ca cal da ea eal rar ral cb cbl rev rb fl xb xc xcl xd xe xel xr xrl yb yc ycl yd ye yel yr yrl) (sp_Db_valueOf p1 p2 ea ral)) 0 0 (inW (wDb g qdb qte qteb qpa qpae qpar qpau qpab qsu qdp qdpe qdpr qdpu qdpb qpr qpro qprf qprs qprb qprn qprt qbe qci qrd qrs qrsr ua qse qct qre qreb qpst qkpt qfil qbp qbk dv t tb w0 w1 w2 w3 w4 su d0 d1 d2 d3 d4 pi po pf ps pb pn pt ba ca cal da ea eal rar ral cb cbl rev rb fl xb xc xcl xd xe xel xr xrl yb yc ycl yd ye yel yr yrl)) := by
  refine Met.ofW (cc := b_Db_valueOf) (maxL := 4) (ret := (some .long)) pn_Db rfl ?_
  intro p e s m args below meth c s₁ B hml hv
  obtain ⟨rfl, C, hP, hD, hS⟩ := enter "DecadeBridge" rfl B hml hv
  obtain ⟨hx, hb, hr, hml, hown, hlk, hts, hK, hZo, hZ⟩ := id C
  refine entryW (lv := [(0, .ref qdb), (1, .int p1), (2, .int p2)]) rfl (Nat.le_of_ble_eq_true rfl) (fun ls hl => ?_)
  obtain ⟨z, hz⟩ : ∃ z, z = sp_Db_valueOf p1 p2 ea ral := ⟨_, rfl⟩
  rw [← hz]
  unfold sp_Db_valueOf at hz
  unfold ok_Db_valueOf at hok
  refine lv_iload_n hx hb d_Db_valueOf_0 rfl (lv_at hl 1 rfl) ?_
  refine lv_aload_n hx hb d_Db_valueOf_1 rfl (lv_at hl 0 rfl) ?_
  refine gf C hP 0 4 fkDb rfl (by decide) rfl qf_Db_44 (gDb_4 _ _ _ _ _ _ _ _ _ _ _) d_Db_valueOf_2 ?_
  refine gf C hP 21 6 fkBe rfl (by decide) rfl qf_Db_190 (gBe_6 _ _ _ _ _) d_Db_valueOf_5 ?_
  refine gf C hP 24 1 fkRs rfl (by decide) rfl qf_Db_194 (gRs_1 _ _ _) d_Db_valueOf_8 ?_
  have hs1 := hok.1
  have hok := hok.2
  have hB : SubW g (inW (wDb g qdb qte qteb qpa qpae qpar qpau qpab qsu qdp qdpe qdpr qdpu qdpb qpr qpro qprf qprs qprb qprn qprt qbe qci qrd qrs qrsr ua qse qct qre qreb qpst qkpt qfil qbp qbk dv t tb w0 w1 w2 w3 w4 su d0 d1 d2 d3 d4 pi po pf ps pb pn pt ba ca cal da ea eal rar ral cb cbl rev rb fl xb xc xcl xd xe xel xr xrl yb yc ycl yd ye yel yr yrl)) s (wDb g qdb qte qteb qpa qpae qpar qpau qpab qsu qdp qdpe qdpr qdpu qdpb qpr qpro qprf qprs qprb qprn qprt qbe qci qrd qrs qrsr ua qse qct qre qreb qpst qkpt qfil qbp qbk dv t tb w0 w1 w2 w3 w4 su d0 d1 d2 d3 d4 pi po pf ps pb pn pt ba ca cal da ea eal rar ral cb cbl rev rb fl xb xc xcl xd xe xel xr xrl yb yc ycl yd ye yel yr yrl) (wNil g ) [] _ _ := ⟨rfl, rfl, hP, hD, hS⟩
  refine goV0 hB (run_s C mf_Db_checkIndex qm_Db_206 (c_Db_checkIndex l g p1 (ea 1) hs1) rfl rfl ⟨Nat.le_of_ble_eq_true rfl, Nat.le_of_ble_eq_true rfl⟩ ⟨Nat.le_of_ble_eq_true rfl, Nat.le_of_ble_eq_true rfl⟩ hB hl rfl rfl (Nat.le_of_ble_eq_true rfl) d_Db_valueOf_11) (fun y2 ey2 H locs hP hS => ?_)
  have hz := lett_z hz ey2
  have hok := lett_o hok ey2
  refine lv_aload_n hx hb d_Db_valueOf_14 rfl (lv_at hl 0 rfl) ?_
  refine gf C hP 0 4 fkDb rfl (by decide) rfl qf_Db_44 (gDb_4 _ _ _ _ _ _ _ _ _ _ _) d_Db_valueOf_15 ?_
  refine gf C hP 21 6 fkBe rfl (by decide) rfl qf_Db_190 (gBe_6 _ _ _ _ _) d_Db_valueOf_18 ?_
  refine lv_iload_n hx hb d_Db_valueOf_21 rfl (lv_at hl 1 rfl) ?_
  have hB : SubW g (inW (wDb g qdb qte qteb qpa qpae qpar qpau qpab qsu qdp qdpe qdpr qdpu qdpb qpr qpro qprf qprs qprb qprn qprt qbe qci qrd qrs qrsr ua qse qct qre qreb qpst qkpt qfil qbp qbk dv t tb w0 w1 w2 w3 w4 su d0 d1 d2 d3 d4 pi po pf ps pb pn pt ba ca cal da ea eal rar ral cb cbl rev rb fl xb xc xcl xd xe xel xr xrl yb yc ycl yd ye yel yr yrl)) s (wDb g qdb qte qteb qpa qpae qpar qpau qpab qsu qdp qdpe qdpr qdpu qdpb qpr qpro qprf qprs qprb qprn qprt qbe qci qrd qrs qrsr ua qse qct qre qreb qpst qkpt qfil qbp qbk dv t tb w0 w1 w2 w3 w4 su d0 d1 d2 d3 d4 pi po pf ps pb pn pt ba ca cal da ea eal rar ral cb cbl rev rb fl xb xc xcl xd xe xel xr xrl yb yc ycl yd ye yel yr yrl) (wRs g qrs qrsr ua ea eal rar ral) [24, 25, 26, 27, 28, 29, 30, 31, 32, 33, 34, 35, 36, 37, 38, 39, 40, 41, 42, 43, 44, 45] _ _ := ⟨rfl, rfl, hP, hD, hS⟩
  refine goO0 hB (run_v C mf_Rs_at qm_Db_321 (c_Rs_at l g qrs qrsr ua ea eal rar ral p1) rfl rfl ⟨Nat.le_of_ble_eq_true rfl, Nat.le_of_ble_eq_true rfl⟩ ⟨Nat.le_of_ble_eq_true rfl, Nat.le_of_ble_eq_true rfl⟩ hB rfl rfl hl rfl rfl (Nat.le_of_ble_eq_true rfl) d_Db_valueOf_22) (fun y3 ey3 H locs hP hS => ?_)
  have hz := lett_z hz ey3
  have hok := lett_o hok ey3
  refine lv_astore_nQ (Rf := ua) (o := y3) (lv' := [(3, va_rf (Option.map ua y3)), (0, .ref qdb), (1, .int p1), (2, .int p2)]) hx hb d_Db_valueOf_25 rfl hl (by decide) rfl (fun ls hl => ?_)
  refine lv_aload_nQ (Rf := ua) (o := y3) hx hb d_Db_valueOf_26 rfl (lv_at hl 0 rfl) ?_
  rcases y3 with _ | k4
  · have hz := optt_n hz
    refine lv_ifnonnullN hx hb d_Db_valueOf_27 ?_
    refine lv_ldc2 hx hb hown (hts _ qk_Db_338) d_Db_valueOf_30 ?_
    exact endL0 C hz hP hS d_Db_valueOf_33
  · have hz := optt_s hz
    have hok := hok.2 _ rfl
    refine lv_ifnonnull (tgt := 34) hx hb d_Db_valueOf_27 (by decide) ?_
    refine lv_iload_n hx hb d_Db_valueOf_34 rfl (lv_at hl 3 rfl) ?_
    refine lv_if_eq (tgt := 45) hx hb d_Db_valueOf_35 (by decide) (fun c5 => ?_) (fun c5 => ?_)
    · have hz := hz.trans (if_pos c5)
      have hok := hok.1 c5
      refine lv_aload_n hx hb d_Db_valueOf_45 rfl (lv_at hl 0 rfl) ?_
      have hs6 := hok.1
      have hok := hok.2
      refine gf C hP (k4 + 26) 6 fkRt (pg_Db_rp hs6) (by decide) rfl qf_Db_343 (gRt_6 _ _) d_Db_valueOf_46 ?_
      exact endL0 C hz hP hS d_Db_valueOf_49
    · have hz := hz.trans (if_neg c5)
      have hok := hok.2 c5
      refine lv_aload_n hx hb d_Db_valueOf_38 rfl (lv_at hl 0 rfl) ?_
      have hs7 := hok.1
      have hok := hok.2
      refine gf C hP (k4 + 26) 7 fkRt (pg_Db_rp hs7) (by decide) rfl qf_Db_340 (gRt_7 _ _) d_Db_valueOf_39 ?_
      refine lv_goto (tgt := 49) hx hb d_Db_valueOf_42 (by decide) ?_
      exact endL0 C hz hP hS d_Db_valueOf_49
