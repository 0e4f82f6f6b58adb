abbrev rm_Db_lead : Room := { frames := 1, cells := 0, slots := 0, locals := 21 }
noncomputable def sp_Db_lead (p1 : Int32) (w0 : IV) : Int32 := lett (sp_Db_checkIndex p1 (3 : Int32)) fun (y2 : Unit) => if p1 = (0 : Int32) then (w0 8) else (if p1 = (1 : Int32) then (w0 9) else (w0 10))
def ok_Db_lead (p1 : Int32) : Prop := (ok_Db_checkIndex p1 (3 : Int32)) ∧ True
set_option maxRecDepth 100000 in
set_option maxHeartbeats 4000000 in
theorem c_Db_lead (l : Launch) (g : GX) (qdb : Nat) (qte : Nat) (qteb : Nat) (qpa : Nat) (qpae : Nat) (qpar : Nat) (qpau : Nat) (qpab : Nat) (qsu : Nat) (qdp : Nat) (qdpe : Nat) (qdpr : Nat) (qdpu : Nat) (qdpb : Nat) (qpr : Nat) (qpro : Nat) (qprf : Nat) (qprs : Nat) (qprb : Nat) (qprn : Nat) (qprt : Nat) (qbe : Nat) (qci : Nat) (qrd : Nat) (qrs : Nat) (qrsr : Nat) (ua : Nat → Nat) (qse : Nat) (qct : Nat) (qre : Nat) (qreb : Nat) (qpst : Nat) (qkpt : Nat) (qfil : Nat) (qbp : Nat → Nat → Nat) (qbk : Nat → Nat → Nat) (dv : IV) (t : IV) (tb : IV) (w0 : IV) (w1 : IV) (w2 : IV) (w3 : IV) (w4 : IV) (su : IV) (d0 : IV) (d1 : IV) (d2 : IV) (d3 : IV) (d4 : IV) (pi : IV) (po : IV) (pf : IV) (ps : IV) (pb : IV) (pn : IV) (pt : IV) (ba : IV) (ca : IV) (cal : LV) (da : IV) (ea : IV) (eal : LV) (rar : NI) (ral : NL) (cb : IV) (cbl : LV) (rev : IV) (rb : IV) (fl : IV) (xb : NI) (xc : NI) (xcl : NL) (xd : NI) (xe : NI) (xel : NL) (xr : NNI) (xrl : NNL) (yb : NI) (yc : NI) (ycl : NL) (yd : NI) (ye : NI) (yel : NL) (yr : NNI) (yrl : NNL) (p1 : Int32) (hok : ok_Db_lead p1) : Met l y_Db_lead (wsY y_Db_lead b_Db_lead 2 (some .int)) rm_Db_lead (CP g [.ref qdb, .int p1] (wDb g qdb qte qteb qpa qpae qpar qpau qpab qsu qdp qdpe qdpr qdpu qdpb qpr qpro qprf qprs qprb qprn qprt qbe qci qrd qrs qrsr ua qse qct qre qreb qpst qkpt qfil qbp qbk dv t tb w0 w1 w2 w3 w4 su d0 d1 d2 d3 d4 pi po pf ps pb pn pt ba ca cal da ea eal rar ral cb cbl rev rb fl xb xc xcl xd xe xel xr xrl yb yc ycl yd ye yel yr yrl)) (CI0 g (wDb g qdb qte qteb qpa qpae qpar qpau qpab qsu qdp qdpe qdpr qdpu qdpb qpr qpro qprf qprs qprb qprn qprt qbe qci qrd qrs qrsr ua qse qct qre qreb qpst qkpt qfil qbp qbk dv t tb w0 w1 w2 w3 w4 su d0 d1 d2 d3 d4 pi po pf ps pb pn pt ba ca cal da ea eal rar ral cb cbl rev rb fl xb xc xcl xd xe xel xr xrl yb yc ycl yd ye yel yr yrl) (sp_Db_lead p1 w0)) 0 0 (inW (wDb g qdb qte qteb qpa qpae qpar qpau qpab qsu qdp qdpe qdpr qdpu qdpb qpr qpro qprf qprs qprb qprn qprt qbe qci qrd qrs qrsr ua qse qct qre qreb qpst qkpt qfil qbp qbk dv t tb w0 w1 w2 w3 w4 su d0 d1 d2 d3 d4 pi po pf ps pb pn pt ba ca cal da ea eal rar ral cb cbl rev rb fl xb xc xcl xd xe xel xr xrl yb yc ycl yd ye yel yr yrl)) := by
  refine Met.ofW (cc := b_Db_lead) (maxL := 2) (ret := (some .int)) pn_Db rfl ?_
  intro p e s m args below meth c s₁ B hml hv
  obtain ⟨rfl, C, hP, hD, hS⟩ := enter "DecadeBridge" rfl B hml hv
  obtain ⟨hx, hb, hr, hml, hown, hlk, hts, hK, hZo, hZ⟩ := id C
  refine entryW (lv := [(0, .ref qdb), (1, .int p1)]) rfl (Nat.le_of_ble_eq_true rfl) (fun ls hl => ?_)
  obtain ⟨z, hz⟩ : ∃ z, z = sp_Db_lead p1 w0 := ⟨_, rfl⟩
  rw [← hz]
  unfold sp_Db_lead at hz
  unfold ok_Db_lead at hok
  refine lv_iload_n hx hb d_Db_lead_0 rfl (lv_at hl 1 rfl) ?_
  refine lv_iconst (v := 3) hx hb d_Db_lead_1 (by decide) ?_
  have hs1 := hok.1
  have hok := hok.2
  have hB : SubW g (inW (wDb g qdb qte qteb qpa qpae qpar qpau qpab qsu qdp qdpe qdpr qdpu qdpb qpr qpro qprf qprs qprb qprn qprt qbe qci qrd qrs qrsr ua qse qct qre qreb qpst qkpt qfil qbp qbk dv t tb w0 w1 w2 w3 w4 su d0 d1 d2 d3 d4 pi po pf ps pb pn pt ba ca cal da ea eal rar ral cb cbl rev rb fl xb xc xcl xd xe xel xr xrl yb yc ycl yd ye yel yr yrl)) s (wDb g qdb qte qteb qpa qpae qpar qpau qpab qsu qdp qdpe qdpr qdpu qdpb qpr qpro qprf qprs qprb qprn qprt qbe qci qrd qrs qrsr ua qse qct qre qreb qpst qkpt qfil qbp qbk dv t tb w0 w1 w2 w3 w4 su d0 d1 d2 d3 d4 pi po pf ps pb pn pt ba ca cal da ea eal rar ral cb cbl rev rb fl xb xc xcl xd xe xel xr xrl yb yc ycl yd ye yel yr yrl) (wNil g ) [] _ _ := ⟨rfl, rfl, hP, hD, hS⟩
  refine goV0 hB (run_s C mf_Db_checkIndex qm_Db_206 (c_Db_checkIndex l g p1 (3 : Int32) hs1) rfl rfl ⟨Nat.le_of_ble_eq_true rfl, Nat.le_of_ble_eq_true rfl⟩ ⟨Nat.le_of_ble_eq_true rfl, Nat.le_of_ble_eq_true rfl⟩ hB hl rfl rfl (Nat.le_of_ble_eq_true rfl) d_Db_lead_2) (fun y2 ey2 H locs hP hS => ?_)
  have hz := lett_z hz ey2
  refine lv_iload_n hx hb d_Db_lead_5 rfl (lv_at hl 1 rfl) ?_
  by_cases c3_0 : p1 = (0 : Int32)
  · have hz := hz.trans (if_pos c3_0)
    refine lv_lookup (x := p1) (off := 26) (tgt := 32) hx hb d_Db_lead_6 (by decide) (by rw [c3_0]; rfl) (by decide) ?_
    refine lv_aload_n hx hb d_Db_lead_32 rfl (lv_at hl 0 rfl) ?_
    refine gf C hP 0 1 fkDb rfl (by decide) rfl qf_Db_19 (gDb_1 _ _ _ _ _ _ _ _ _ _ _) d_Db_lead_33 ?_
    refine gf C hP 3 8 fkPa rfl (by decide) rfl qf_Db_229 (gPa_8 _ _ _ _ _) d_Db_lead_36 ?_
    exact endI0 C hz hP hS d_Db_lead_39
  have hz := hz.trans (if_neg c3_0)
  by_cases c3_1 : p1 = (1 : Int32)
  · have hz := hz.trans (if_pos c3_1)
    refine lv_lookup (x := p1) (off := 34) (tgt := 40) hx hb d_Db_lead_6 (by decide) (by rw [c3_1]; rfl) (by decide) ?_
    refine lv_aload_n hx hb d_Db_lead_40 rfl (lv_at hl 0 rfl) ?_
    refine gf C hP 0 1 fkDb rfl (by decide) rfl qf_Db_19 (gDb_1 _ _ _ _ _ _ _ _ _ _ _) d_Db_lead_41 ?_
    refine gf C hP 3 9 fkPa rfl (by decide) rfl qf_Db_232 (gPa_9 _ _ _ _ _) d_Db_lead_44 ?_
    exact endI0 C hz hP hS d_Db_lead_47
  have hz := hz.trans (if_neg c3_1)
  refine lv_lookup (x := p1) (off := 42) (tgt := 48) hx hb d_Db_lead_6 (by decide) (by have h0 := lkne (k := 0) c3_0 (by decide); have g0 : ¬ ((0 : Int) = (p1).toInt) := fun q => h0 q.symm; have h1 := lkne (k := 1) c3_1 (by decide); have g1 : ¬ ((1 : Int) = (p1).toInt) := fun q => h1 q.symm; simp [Op.lookupswitch.offset, h0, g0, h1, g1]) (by decide) ?_
  refine lv_aload_n hx hb d_Db_lead_48 rfl (lv_at hl 0 rfl) ?_
  refine gf C hP 0 1 fkDb rfl (by decide) rfl qf_Db_19 (gDb_1 _ _ _ _ _ _ _ _ _ _ _) d_Db_lead_49 ?_
  refine gf C hP 3 10 fkPa rfl (by decide) rfl qf_Db_235 (gPa_10 _ _ _ _ _) d_Db_lead_52 ?_
  exact endI0 C hz hP hS d_Db_lead_55
