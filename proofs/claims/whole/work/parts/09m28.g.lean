abbrev rm_Db_perform : Room := { frames := 5, cells := 0, slots := 0, locals := 125 }
def HL_Db_perform_216 (p : Program) (l : Launch) (e : Env) (s : State) (m : MethodId) (args : Array Value) (below : List Frame) (meth : Method) (c : Code) (g : GX) (qdb : Nat) (qte : Nat) (qteb : Nat) (qpa : Nat) (qpae : Nat) (qpar : Nat) (qpau : Nat) (qpab : Nat) (qsu : Nat) (qdp : Nat) (qdpe : Nat) (qdpr : Nat) (qdpu : Nat) (qdpb : Nat) (qpr : Nat) (qpro : Nat) (qprf : Nat) (qprs : Nat) (qprb : Nat) (qprn : Nat) (qprt : Nat) (qbe : Nat) (qci : Nat) (qrd : Nat) (qrs : Nat) (qrsr : Nat) (ua : Nat → Nat) (qse : Nat) (qct : Nat) (qre : Nat) (qreb : Nat) (qpst : Nat) (qkpt : Nat) (qfil : Nat) (qbp : Nat → Nat → Nat) (qbk : Nat → Nat → Nat) (ws0 : va_W) (dv : IV) (t : IV) (tb : IV) (w0 : IV) (w1 : IV) (w2 : IV) (w3 : IV) (w4 : IV) (su : IV) (d0 : IV) (d1 : IV) (d2 : IV) (d3 : IV) (d4 : IV) (pi : IV) (po : IV) (pf : IV) (ps : IV) (pb : IV) (pn : IV) (pt : IV) (ba : IV) (ca : IV) (cal : LV) (da : IV) (ea : IV) (eal : LV) (rar : NI) (ral : NL) (cb : IV) (cbl : LV) (rev : IV) (rb : IV) (fl : IV) (xb : NI) (xc : NI) (xcl : NL) (xd : NI) (xe : NI) (xel : NL) (xr : NNI) (xrl : NNL) (yb : NI) (yc : NI) (ycl : NL) (yd : NI) (ye : NI) (yel : NL) (yr : NNI) (yrl : NNL) (sp : Int32 → (Int32 × IV × IV × LV × IV × IV × NI × NL)) (ok : Int32 → Prop) : Prop := ∀ (t1p216 : Int32), ok t1p216 → ∀ z : (Int32 × IV × IV × LV × IV × IV × NI × NL), z = sp t1p216 → ∀ (H : Heap) (locs : List Loc) (ls : Array Slot), va_P g.1 vwCl (wDb g qdb qte qteb qpa qpae qpar qpau qpab qsu qdp qdpe qdpr qdpu qdpb qpr qpro qprf qprs qprb qprn qprt qbe qci qrd qrs qrsr ua qse qct qre qreb qpst qkpt qfil qbp qbk dv t tb w0 w1 w2 w3 w4 su d0 d1 d2 d3 d4 pi po pf ps pb pn pt ba ca cal da ea eal rar ral cb cbl rev rb fl xb xc xcl xd xe xel xr xrl yb yc ycl yd ye yel yr yrl) H → va_D (inW ws0) (wDb g qdb qte qteb qpa qpae qpar qpau qpab qsu qdp qdpe qdpr qdpu qdpb qpr qpro qprf qprs qprb qprn qprt qbe qci qrd qrs qrsr ua qse qct qre qreb qpst qkpt qfil qbp qbk dv t tb w0 w1 w2 w3 w4 su d0 d1 d2 d3 d4 pi po pf ps pb pn pt ba ca cal da ea eal rar ral cb cbl rev rb fl xb xc xcl xd xe xel xr xrl yb yc ycl yd ye yel yr yrl) → va_S (inW ws0) s.heap H locs → lv_has ls 4 [] → W p l e rm_Db_perform s m args below meth c H locs 0 0 (MQ below (CI g ws0 (fun u : IV × IV × LV × IV × IV × NI × NL => wDb g qdb qte qteb qpa qpae qpar qpau qpab qsu qdp qdpe qdpr qdpu qdpb qpr qpro qprf qprs qprb qprn qprt qbe qci qrd qrs qrsr ua qse qct qre qreb qpst qkpt qfil qbp qbk dv t tb w0 w1 w2 w3 w4 su d0 d1 d2 d3 d4 pi po pf ps pb pn pt u.1 u.2.1 u.2.2.1 u.2.2.2.1 u.2.2.2.2.1 eal u.2.2.2.2.2.1 u.2.2.2.2.2.2 cb cbl rev rb fl xb xc xcl xd xe xel xr xrl yb yc ycl yd ye yel yr yrl) z) args s 0 0 (inW ws0)) (F0 m 216 ls [.int t1p216, .ref qbe])
def HL_Db_perform_150 (p : Program) (l : Launch) (e : Env) (s : State) (m : MethodId) (args : Array Value) (below : List Frame) (meth : Method) (c : Code) (g : GX) (qdb : Nat) (qte : Nat) (qteb : Nat) (qpa : Nat) (qpae : Nat) (qpar : Nat) (qpau : Nat) (qpab : Nat) (qsu : Nat) (qdp : Nat) (qdpe : Nat) (qdpr : Nat) (qdpu : Nat) (qdpb : Nat) (qpr : Nat) (qpro : Nat) (qprf : Nat) (qprs : Nat) (qprb : Nat) (qprn : Nat) (qprt : Nat) (qbe : Nat) (qci : Nat) (qrd : Nat) (qrs : Nat) (qrsr : Nat) (ua : Nat → Nat) (qse : Nat) (qct : Nat) (qre : Nat) (qreb : Nat) (qpst : Nat) (qkpt : Nat) (qfil : Nat) (qbp : Nat → Nat → Nat) (qbk : Nat → Nat → Nat) (ws0 : va_W) (dv : IV) (t : IV) (tb : IV) (w0 : IV) (w1 : IV) (w2 : IV) (w3 : IV) (w4 : IV) (su : IV) (d0 : IV) (d1 : IV) (d2 : IV) (d3 : IV) (d4 : IV) (pi : IV) (po : IV) (pf : IV) (ps : IV) (pb : IV) (pn : IV) (pt : IV) (ba : IV) (ca : IV) (cal : LV) (da : IV) (ea : IV) (eal : LV) (rar : NI) (ral : NL) (cb : IV) (cbl : LV) (rev : IV) (rb : IV) (fl : IV) (xb : NI) (xc : NI) (xcl : NL) (xd : NI) (xe : NI) (xel : NL) (xr : NNI) (xrl : NNL) (yb : NI) (yc : NI) (ycl : NL) (yd : NI) (ye : NI) (yel : NL) (yr : NNI) (yrl : NNL) (sp : Int32 → (Int32 × IV × IV × LV × IV × IV × NI × NL)) (ok : Int32 → Prop) : Prop := ∀ (t1p150 : Int32), ok t1p150 → ∀ z : (Int32 × IV × IV × LV × IV × IV × NI × NL), z = sp t1p150 → ∀ (H : Heap) (locs : List Loc) (ls : Array Slot), va_P g.1 vwCl (wDb g qdb qte qteb qpa qpae qpar qpau qpab qsu qdp qdpe qdpr qdpu qdpb qpr qpro qprf qprs qprb qprn qprt qbe qci qrd qrs qrsr ua qse qct qre qreb qpst qkpt qfil qbp qbk dv t tb w0 w1 w2 w3 w4 su d0 d1 d2 d3 d4 pi po pf ps pb pn pt ba ca cal da ea eal rar ral cb cbl rev rb fl xb xc xcl xd xe xel xr xrl yb yc ycl yd ye yel yr yrl) H → va_D (inW ws0) (wDb g qdb qte qteb qpa qpae qpar qpau qpab qsu qdp qdpe qdpr qdpu qdpb qpr qpro qprf qprs qprb qprn qprt qbe qci qrd qrs qrsr ua qse qct qre qreb qpst qkpt qfil qbp qbk dv t tb w0 w1 w2 w3 w4 su d0 d1 d2 d3 d4 pi po pf ps pb pn pt ba ca cal da ea eal rar ral cb cbl rev rb fl xb xc xcl xd xe xel xr xrl yb yc ycl yd ye yel yr yrl) → va_S (inW ws0) s.heap H locs → lv_has ls 4 [] → W p l e rm_Db_perform s m args below meth c H locs 0 0 (MQ below (CI g ws0 (fun u : IV × IV × LV × IV × IV × NI × NL => wDb g qdb qte qteb qpa qpae qpar qpau qpab qsu qdp qdpe qdpr qdpu qdpb qpr qpro qprf qprs qprb qprn qprt qbe qci qrd qrs qrsr ua qse qct qre qreb qpst qkpt qfil qbp qbk dv t tb w0 w1 w2 w3 w4 su d0 d1 d2 d3 d4 pi po pf ps pb pn pt u.1 u.2.1 u.2.2.1 u.2.2.2.1 u.2.2.2.2.1 eal u.2.2.2.2.2.1 u.2.2.2.2.2.2 cb cbl rev rb fl xb xc xcl xd xe xel xr xrl yb yc ycl yd ye yel yr yrl) z) args s 0 0 (inW ws0)) (F0 m 150 ls [.int t1p150, .ref qci])
noncomputable def sp_Db_perform_150 (ca : IV) (ba : IV) (cal : LV) (da : IV) (ea : IV) (rar : NI) (ral : NL)  (t1p150 : Int32) : Int32 × IV × IV × LV × IV × IV × NI × NL := lett (upd ca 6 t1p150) fun (ca_24 : IV) => ((1 : Int32), (ba, ca_24, cal, da, ea, rar, ral))
def ok_Db_perform_150 (ca : IV) (ba : IV) (cal : LV) (da : IV) (ea : IV) (rar : NI) (ral : NL)   (t1p150 : Int32) : Prop := (isB t1p150) ∧ True
set_option maxRecDepth 100000 in
set_option maxHeartbeats 4000000 in
theorem k_Db_perform_150 {p : Program} {l : Launch} {e : Env} {s : State} {m : MethodId} {args : Array Value} {below : List Frame} {meth : Method} {c : Code} {g : GX} {qdb : Nat} {qte : Nat} {qteb : Nat} {qpa : Nat} {qpae : Nat} {qpar : Nat} {qpau : Nat} {qpab : Nat} {qsu : Nat} {qdp : Nat} {qdpe : Nat} {qdpr : Nat} {qdpu : Nat} {qdpb : Nat} {qpr : Nat} {qpro : Nat} {qprf : Nat} {qprs : Nat} {qprb : Nat} {qprn : Nat} {qprt : Nat} {qbe : Nat} {qci : Nat} {qrd : Nat} {qrs : Nat} {qrsr : Nat} {ua : Nat → Nat} {qse : Nat} {qct : Nat} {qre : Nat} {qreb : Nat} {qpst : Nat} {qkpt : Nat} {qfil : Nat} {qbp : Nat → Nat → Nat} {qbk : Nat → Nat → Nat} {ws0 : va_W} {dv : IV} {t : IV} {tb : IV} {w0 : IV} {w1 : IV} {w2 : IV} {w3 : IV} {w4 : IV} {su : IV} {d0 : IV} {d1 : IV} {d2 : IV} {d3 : IV} {d4 : IV} {pi : IV} {po : IV} {pf : IV} {ps : IV} {pb : IV} {pn : IV} {pt : IV} {ba : IV} {ca : IV} {cal : LV} {da : IV} {ea : IV} {eal : LV} {rar : NI} {ral : NL} {cb : IV} {cbl : LV} {rev : IV} {rb : IV} {fl : IV} {xb : NI} {xc : NI} {xcl : NL} {xd : NI} {xe : NI} {xel : NL} {xr : NNI} {xrl : NNL} {yb : NI} {yc : NI} {ycl : NL} {yd : NI} {ye : NI} {yel : NL} {yr : NNI} {yrl : NNL}  (C : Cx p s m args meth c (inW ws0) g "DecadeBridge" b_Db_perform (some .boolean) 4)  : HL_Db_perform_150 p l e s m args below meth c g qdb qte qteb qpa qpae qpar qpau qpab qsu qdp qdpe qdpr qdpu qdpb qpr qpro qprf qprs qprb qprn qprt qbe qci qrd qrs qrsr ua qse qct qre qreb qpst qkpt qfil qbp qbk ws0 dv t tb w0 w1 w2 w3 w4 su d0 d1 d2 d3 d4 pi po pf ps pb pn pt ba ca cal da ea eal rar ral cb cbl rev rb fl xb xc xcl xd xe xel xr xrl yb yc ycl yd ye yel yr yrl (sp_Db_perform_150 ca ba cal da ea rar ral ) (ok_Db_perform_150 ca ba cal da ea rar ral  ) := by
  intro t1p150 hok z hz H locs ls hP hD hS hl
  obtain ⟨hx, hb, hr, hml, hown, hlk, hts, hK, hZo, hZ⟩ := id C
  unfold sp_Db_perform_150 at hz
  unfold ok_Db_perform_150 at hok
  have hs23 := hok.1
  have hok := hok.2
  refine pfI C hP hD hS 22 6 fkCi rfl (by decide) rfl qf_Db_174 rfl (isB_nar hs23) (isB_fit hs23) (Nat.le_of_ble_eq_true rfl) (ff := fun o => fCi qpa o cal) (sCi_6 _ _ _ _) d_Db_perform_150 (fun ca_24 eca_24 H locs hP hD hS => ?_)
  have hP : va_P g.1 vwCl (wDb g qdb qte qteb qpa qpae qpar qpau qpab qsu qdp qdpe qdpr qdpu qdpb qpr qpro qprf qprs qprb qprn qprt qbe qci qrd qrs qrsr ua qse qct qre qreb qpst qkpt qfil qbp qbk dv t tb w0 w1 w2 w3 w4 su d0 d1 d2 d3 d4 pi po pf ps pb pn pt ba ca_24 cal da ea eal rar ral cb cbl rev rb fl xb xc xcl xd xe xel xr xrl yb yc ycl yd ye yel yr yrl) H := hP
  have hD : va_D (inW ws0) (wDb g qdb qte qteb qpa qpae qpar qpau qpab qsu qdp qdpe qdpr qdpu qdpb qpr qpro qprf qprs qprb qprn qprt qbe qci qrd qrs qrsr ua qse qct qre qreb qpst qkpt qfil qbp qbk dv t tb w0 w1 w2 w3 w4 su d0 d1 d2 d3 d4 pi po pf ps pb pn pt ba ca_24 cal da ea eal rar ral cb cbl rev rb fl xb xc xcl xd xe xel xr xrl yb yc ycl yd ye yel yr yrl) := hD
  have hz := lett_z hz eca_24
  refine lv_iconst (v := 1) hx hb d_Db_perform_153 (by decide) ?_
  exact endZ1 C hz hP hS rfl d_Db_perform_154
noncomputable def sp_Db_perform_216 (ba : IV) (ca : IV) (cal : LV) (da : IV) (ea : IV) (rar : NI) (ral : NL) (w0 : IV) (w1 : IV) (w2 : IV) (w3 : IV) (w4 : IV)  (t1p216 : Int32) : Int32 × IV × IV × LV × IV × IV × NI × NL := lett (sp_Be_seekBalance t1p216 ba ca cal da ea rar ral w0 w1 w2 w3 w4) fun (y22 : Int32 × IV × IV × LV × IV × IV × NI × NL) => ((1 : Int32), (y22.2.1, y22.2.2.1, y22.2.2.2.1, y22.2.2.2.2.1, y22.2.2.2.2.2.1, y22.2.2.2.2.2.2.1, y22.2.2.2.2.2.2.2))
def ok_Db_perform_216 (ba : IV) (ca : IV) (cal : LV) (da : IV) (ea : IV) (rar : NI) (ral : NL) (w0 : IV) (w1 : IV) (w2 : IV) (w3 : IV) (w4 : IV)   (t1p216 : Int32) : Prop := (ok_Be_seekBalance t1p216 ba ca cal da ea rar ral w0 w1 w2 w3 w4) ∧ True
set_option maxRecDepth 100000 in
set_option maxHeartbeats 4000000 in
theorem k_Db_perform_216 {p : Program} {l : Launch} {e : Env} {s : State} {m : MethodId} {args : Array Value} {below : List Frame} {meth : Method} {c : Code} {g : GX} {qdb : Nat} {qte : Nat} {qteb : Nat} {qpa : Nat} {qpae : Nat} {qpar : Nat} {qpau : Nat} {qpab : Nat} {qsu : Nat} {qdp : Nat} {qdpe : Nat} {qdpr : Nat} {qdpu : Nat} {qdpb : Nat} {qpr : Nat} {qpro : Nat} {qprf : Nat} {qprs : Nat} {qprb : Nat} {qprn : Nat} {qprt : Nat} {qbe : Nat} {qci : Nat} {qrd : Nat} {qrs : Nat} {qrsr : Nat} {ua : Nat → Nat} {qse : Nat} {qct : Nat} {qre : Nat} {qreb : Nat} {qpst : Nat} {qkpt : Nat} {qfil : Nat} {qbp : Nat → Nat → Nat} {qbk : Nat → Nat → Nat} {ws0 : va_W} {dv : IV} {t : IV} {tb : IV} {w0 : IV} {w1 : IV} {w2 : IV} {w3 : IV} {w4 : IV} {su : IV} {d0 : IV} {d1 : IV} {d2 : IV} {d3 : IV} {d4 : IV} {pi : IV} {po : IV} {pf : IV} {ps : IV} {pb : IV} {pn : IV} {pt : IV} {ba : IV} {ca : IV} {cal : LV} {da : IV} {ea : IV} {eal : LV} {rar : NI} {ral : NL} {cb : IV} {cbl : LV} {rev : IV} {rb : IV} {fl : IV} {xb : NI} {xc : NI} {xcl : NL} {xd : NI} {xe : NI} {xel : NL} {xr : NNI} {xrl : NNL} {yb : NI} {yc : NI} {ycl : NL} {yd : NI} {ye : NI} {yel : NL} {yr : NNI} {yrl : NNL}  (C : Cx p s m args meth c (inW ws0) g "DecadeBridge" b_Db_perform (some .boolean) 4)  : HL_Db_perform_216 p l e s m args below meth c g qdb qte qteb qpa qpae qpar qpau qpab qsu qdp qdpe qdpr qdpu qdpb qpr qpro qprf qprs qprb qprn qprt qbe qci qrd qrs qrsr ua qse qct qre qreb qpst qkpt qfil qbp qbk ws0 dv t tb w0 w1 w2 w3 w4 su d0 d1 d2 d3 d4 pi po pf ps pb pn pt ba ca cal da ea eal rar ral cb cbl rev rb fl xb xc xcl xd xe xel xr xrl yb yc ycl yd ye yel yr yrl (sp_Db_perform_216 ba ca cal da ea rar ral w0 w1 w2 w3 w4 ) (ok_Db_perform_216 ba ca cal da ea rar ral w0 w1 w2 w3 w4  ) := by
  intro t1p216 hok z hz H locs ls hP hD hS hl
  obtain ⟨hx, hb, hr, hml, hown, hlk, hts, hK, hZo, hZ⟩ := id C
  unfold sp_Db_perform_216 at hz
  unfold ok_Db_perform_216 at hok
  have hs21 := hok.1
  have hok := hok.2
  have hB : SubW g (inW ws0) s (wDb g qdb qte qteb qpa qpae qpar qpau qpab qsu qdp qdpe qdpr qdpu qdpb qpr qpro qprf qprs qprb qprn qprt qbe qci qrd qrs qrsr ua qse qct qre qreb qpst qkpt qfil qbp qbk dv t tb w0 w1 w2 w3 w4 su d0 d1 d2 d3 d4 pi po pf ps pb pn pt ba ca cal da ea eal rar ral cb cbl rev rb fl xb xc xcl xd xe xel xr xrl yb yc ycl yd ye yel yr yrl) (wBe g qbe qci qrd qrs qrsr ua qpa qpae qpar qpau qpab ba ca cal da ea eal rar ral w0 w1 w2 w3 w4) [21, 22, 23, 24, 25, 26, 27, 28, 29, 30, 31, 32, 33, 34, 35, 36, 37, 38, 39, 40, 41, 42, 43, 44, 45, 3, 4, 5, 6, 7] _ _ := ⟨rfl, rfl, hP, hD, hS⟩
  refine goI1 hB (run_v C mf_Be_seekBalance qm_Db_424 (c_Be_seekBalance l g qbe qci qrd qrs qrsr ua qpa qpae qpar qpau qpab ba ca cal da ea eal rar ral w0 w1 w2 w3 w4 t1p216 hs21) rfl rfl ⟨Nat.le_of_ble_eq_true rfl, Nat.le_of_ble_eq_true rfl⟩ ⟨Nat.le_of_ble_eq_true rfl, Nat.le_of_ble_eq_true rfl⟩ hB rfl rfl hl rfl rfl (Nat.le_of_ble_eq_true rfl) d_Db_perform_216) (fun _ => rfl) (fun y22 ey22 H locs hP hD hS => ?_)
  have hP : va_P g.1 vwCl (wDb g qdb qte qteb qpa qpae qpar qpau qpab qsu qdp qdpe qdpr qdpu qdpb qpr qpro qprf qprs qprb qprn qprt qbe qci qrd qrs qrsr ua qse qct qre qreb qpst qkpt qfil qbp qbk dv t tb w0 w1 w2 w3 w4 su d0 d1 d2 d3 d4 pi po pf ps pb pn pt y22.2.1 y22.2.2.1 y22.2.2.2.1 y22.2.2.2.2.1 y22.2.2.2.2.2.1 eal y22.2.2.2.2.2.2.1 y22.2.2.2.2.2.2.2 cb cbl rev rb fl xb xc xcl xd xe xel xr xrl yb yc ycl yd ye yel yr yrl) H := cP sq_Db_9 hP
  have hD : va_D (inW ws0) (wDb g qdb qte qteb qpa qpae qpar qpau qpab qsu qdp qdpe qdpr qdpu qdpb qpr qpro qprf qprs qprb qprn qprt qbe qci qrd qrs qrsr ua qse qct qre qreb qpst qkpt qfil qbp qbk dv t tb w0 w1 w2 w3 w4 su d0 d1 d2 d3 d4 pi po pf ps pb pn pt y22.2.1 y22.2.2.1 y22.2.2.2.1 y22.2.2.2.2.1 y22.2.2.2.2.2.1 eal y22.2.2.2.2.2.2.1 y22.2.2.2.2.2.2.2 cb cbl rev rb fl xb xc xcl xd xe xel xr xrl yb yc ycl yd ye yel yr yrl) := cD sq_Db_9 hD
  have hz := lett_z hz ey22
  refine lv_pop hx hb d_Db_perform_219 rfl ?_
  refine lv_iconst (v := 1) hx hb d_Db_perform_220 (by decide) ?_
  exact endZ1 C hz hP hS rfl d_Db_perform_221
noncomputable def sp_Db_perform (p1 : Int32) (w0 : IV) (w1 : IV) (w2 : IV) (w3 : IV) (w4 : IV) (po : IV) (pf : IV) (ps : IV) (ba : IV) (ca : IV) (cal : LV) (da : IV) (ea : IV) (rar : NI) (ral : NL) : Int32 × IV × IV × LV × IV × IV × NI × NL := lett (sp_Pr_firstOf p1 pf) fun (y1 : Int32) => lett (sp_Pr_secondOf p1 ps) fun (y2 : Int32) => lett (sp_Pr_orderOf p1 po) fun (y3 : Int32) => if y3 = (0 : Int32) then (lett (sp_Ci_choose y1 y2 ca w2) fun (y4 : IV) => ((1 : Int32), (ba, y4, cal, da, ea, rar, ral))) else (if y3 = (1 : Int32) then (lett (upd ca 3 y1) fun (ca_5 : IV) => ((1 : Int32), (ba, ca_5, cal, da, ea, rar, ral))) else (if y3 = (2 : Int32) then (lett (sp_Pa_settings w0) fun (y7 : Int32) => if y1 < y7 then (lett (sp_Ci_dial y1 ca w0 w1 w3 w4) fun (y10 : IV) => ((1 : Int32), (ba, y10, cal, da, ea, rar, ral))) else (((0 : Int32), (ba, ca, cal, da, ea, rar, ral)))) else (if y3 = (3 : Int32) then (if (ca 6) = 0 then (sp_Db_perform_150 ca ba cal da ea rar ral (1 : Int32)) else (sp_Db_perform_150 ca ba cal da ea rar ral (0 : Int32))) else (if y3 = (4 : Int32) then (lett (sp_Ci_wire y1 ca w0 w3 w4) fun (y12 : IV) => ((1 : Int32), (ba, y12, cal, da, ea, rar, ral))) else (if y3 = (5 : Int32) then (lett (sp_Be_passTime y1 ca cal w0 w3 w4) fun (y14 : IV × LV) => ((1 : Int32), (ba, y14.1, y14.2, da, ea, rar, ral))) else (if y3 = (6 : Int32) then (lett (sp_Be_makeReadings y1 ba ca cal da w0 w3 w4) fun (y16 : Int32 × IV × IV × LV × IV) => (y16.1, (y16.2.1, y16.2.2.1, y16.2.2.2.1, y16.2.2.2.2, ea, rar, ral))) else (if y3 = (7 : Int32) then (if (ca 3) = 0 then (((0 : Int32), (ba, ca, cal, da, ea, rar, ral))) else (if y1 = (1 : Int32) then (sp_Db_perform_216 ba ca cal da ea rar ral w0 w1 w2 w3 w4 (1 : Int32)) else (sp_Db_perform_216 ba ca cal da ea rar ral w0 w1 w2 w3 w4 (0 : Int32)))) else (((0 : Int32), (ba, ca, cal, da, ea, rar, ral))))))))))
def ok_Db_perform (p1 : Int32) (w0 : IV) (w1 : IV) (w2 : IV) (w3 : IV) (w4 : IV) (po : IV) (pf : IV) (ps : IV) (ba : IV) (ca : IV) (cal : LV) (da : IV) (ea : IV) (rar : NI) (ral : NL) : Prop := lett (sp_Pr_firstOf p1 pf) fun (y1 : Int32) => lett (sp_Pr_secondOf p1 ps) fun (y2 : Int32) => lett (sp_Pr_orderOf p1 po) fun (y3 : Int32) => ((y3 = (0 : Int32) → True) ∧ (¬ (y3 = (0 : Int32)) → ((y3 = (1 : Int32) → True) ∧ (¬ (y3 = (1 : Int32)) → ((y3 = (2 : Int32) → (ok_Pa_settings w0) ∧ lett (sp_Pa_settings w0) fun (y7 : Int32) => ((y1 < y7 → (ok_Ci_dial y1 ca w0 w1) ∧ True) ∧ (¬ (y1 < y7) → True))) ∧ (¬ (y3 = (2 : Int32)) → ((y3 = (3 : Int32) → (((ca 6) = 0 → ok_Db_perform_150 ca ba cal da ea rar ral (1 : Int32)) ∧ (¬ ((ca 6) = 0) → ok_Db_perform_150 ca ba cal da ea rar ral (0 : Int32)))) ∧ (¬ (y3 = (3 : Int32)) → ((y3 = (4 : Int32) → True) ∧ (¬ (y3 = (4 : Int32)) → ((y3 = (5 : Int32) → (ok_Be_passTime y1 ca cal w0 w3 w4) ∧ True) ∧ (¬ (y3 = (5 : Int32)) → ((y3 = (6 : Int32) → (ok_Be_makeReadings y1 ba ca cal da w0 w3 w4) ∧ lett (sp_Be_makeReadings y1 ba ca cal da w0 w3 w4) fun (y16 : Int32 × IV × IV × LV × IV) => (isB y16.1) ∧ True) ∧ (¬ (y3 = (6 : Int32)) → ((y3 = (7 : Int32) → (((ca 3) = 0 → True) ∧ (¬ ((ca 3) = 0) → ((y1 = (1 : Int32) → ok_Db_perform_216 ba ca cal da ea rar ral w0 w1 w2 w3 w4 (1 : Int32)) ∧ (¬ (y1 = (1 : Int32)) → ok_Db_perform_216 ba ca cal da ea rar ral w0 w1 w2 w3 w4 (0 : Int32)))))) ∧ (¬ (y3 = (7 : Int32)) → True))))))))))))))))
set_option maxRecDepth 100000 in
set_option maxHeartbeats 4000000 in
theorem c_Db_perform (l : Launch) (g : GX) (qdb : Nat) (qte : Nat) (qteb : Nat) (qpa : Nat) (qpae : Nat) (qpar : Nat) (qpau : Nat) (qpab : Nat) (qsu : Nat) (qdp : Nat) (qdpe : Nat) (qdpr : Nat) (qdpu : Nat) (qdpb : Nat) (qpr : Nat) (qpro : Nat) (qprf : Nat) (qprs : Nat) (qprb : Nat) (qprn : Nat) (qprt : Nat) (qbe : Nat) (qci : Nat) (qrd : Nat) (qrs : Nat) (qrsr : Nat) (ua : Nat → Nat) (qse : Nat) (qct : Nat) (qre : Nat) (qreb : Nat) (qpst : Nat) (qkpt : Nat) (qfil : Nat) (qbp : Nat → Nat → Nat) (qbk : Nat → Nat → Nat) (dv : IV) (t : IV) (tb : IV) (w0 : IV) (w1 : IV) (w2 : IV) (w3 : IV) (w4 : IV) (su : IV) (d0 : IV) (d1 : IV) (d2 : IV) (d3 : IV) (d4 : IV) (pi : IV) (po : IV) (pf : IV) (ps : IV) (pb : IV) (pn : IV) (pt : IV) (ba : IV) (ca : IV) (cal : LV) (da : IV) (ea : IV) (eal : LV) (rar : NI) (ral : NL) (cb : IV) (cbl : LV) (rev : IV) (rb : IV) (fl : IV) (xb : NI) (xc : NI) (xcl : NL) (xd : NI) (xe : NI) (xel : NL) (xr : NNI) (xrl : NNL) (yb : NI) (yc : NI) (ycl : NL) (yd : NI) (ye : NI) (yel : NL) (yr : NNI) (yrl : NNL) (p1 : Int32) (hok : ok_Db_perform p1 w0 w1 w2 w3 w4 po pf ps ba ca cal da ea rar ral) : Met l y_Db_perform (wsY y_Db_perform b_Db_perform 4 (some .boolean)) rm_Db_perform (CP g [.ref qdb, .int p1] (wDb g qdb qte qteb qpa qpae qpar qpau qpab qsu qdp qdpe qdpr qdpu qdpb qpr qpro qprf qprs qprb qprn qprt qbe qci qrd qrs qrsr ua qse qct qre qreb qpst qkpt qfil qbp qbk dv t tb w0 w1 w2 w3 w4 su d0 d1 d2 d3 d4 pi po pf ps pb pn pt ba ca cal da ea eal rar ral cb cbl rev rb fl xb xc xcl xd xe xel xr xrl yb yc ycl yd ye yel yr yrl)) (CI g (wDb g qdb qte qteb qpa qpae qpar qpau qpab qsu qdp qdpe qdpr qdpu qdpb qpr qpro qprf qprs qprb qprn qprt qbe qci qrd qrs qrsr ua qse qct qre qreb qpst qkpt qfil qbp qbk dv t tb w0 w1 w2 w3 w4 su d0 d1 d2 d3 d4 pi po pf ps pb pn pt ba ca cal da ea eal rar ral cb cbl rev rb fl xb xc xcl xd xe xel xr xrl yb yc ycl yd ye yel yr yrl) (fun u : IV × IV × LV × IV × IV × NI × NL => wDb g qdb qte qteb qpa qpae qpar qpau qpab qsu qdp qdpe qdpr qdpu qdpb qpr qpro qprf qprs qprb qprn qprt qbe qci qrd qrs qrsr ua qse qct qre qreb qpst qkpt qfil qbp qbk dv t tb w0 w1 w2 w3 w4 su d0 d1 d2 d3 d4 pi po pf ps pb pn pt u.1 u.2.1 u.2.2.1 u.2.2.2.1 u.2.2.2.2.1 eal u.2.2.2.2.2.1 u.2.2.2.2.2.2 cb cbl rev rb fl xb xc xcl xd xe xel xr xrl yb yc ycl yd ye yel yr yrl) (sp_Db_perform p1 w0 w1 w2 w3 w4 po pf ps ba ca cal da ea rar ral)) 0 0 (inW (wDb g qdb qte qteb qpa qpae qpar qpau qpab qsu qdp qdpe qdpr qdpu qdpb qpr qpro qprf qprs qprb qprn qprt qbe qci qrd qrs qrsr ua qse qct qre qreb qpst qkpt qfil qbp qbk dv t tb w0 w1 w2 w3 w4 su d0 d1 d2 d3 d4 pi po pf ps pb pn pt ba ca cal da ea eal rar ral cb cbl rev rb fl xb xc xcl xd xe xel xr xrl yb yc ycl yd ye yel yr yrl)) := by
  refine Met.ofW (cc := b_Db_perform) (maxL := 4) (ret := (some .boolean)) pn_Db rfl ?_
  intro p e s m args below meth c s₁ B hml hv
  obtain ⟨rfl, C, hP, hD, hS⟩ := enter "DecadeBridge" rfl B hml hv
  obtain ⟨hx, hb, hr, hml, hown, hlk, hts, hK, hZo, hZ⟩ := id C
  refine entryW (lv := [(0, .ref qdb), (1, .int p1)]) rfl (Nat.le_of_ble_eq_true rfl) (fun ls hl => ?_)
  obtain ⟨z, hz⟩ : ∃ z, z = sp_Db_perform p1 w0 w1 w2 w3 w4 po pf ps ba ca cal da ea rar ral := ⟨_, rfl⟩
  rw [← hz]
  unfold sp_Db_perform at hz
  unfold ok_Db_perform at hok
  refine lv_aload_n hx hb d_Db_perform_0 rfl (lv_at hl 0 rfl) ?_
  refine gf C hP 0 3 fkDb rfl (by decide) rfl qf_Db_35 (gDb_3 _ _ _ _ _ _ _ _ _ _ _) d_Db_perform_1 ?_
  refine lv_iload_n hx hb d_Db_perform_4 rfl (lv_at hl 1 rfl) ?_
  have hB : SubW g (inW (wDb g qdb qte qteb qpa qpae qpar qpau qpab qsu qdp qdpe qdpr qdpu qdpb qpr qpro qprf qprs qprb qprn qprt qbe qci qrd qrs qrsr ua qse qct qre qreb qpst qkpt qfil qbp qbk dv t tb w0 w1 w2 w3 w4 su d0 d1 d2 d3 d4 pi po pf ps pb pn pt ba ca cal da ea eal rar ral cb cbl rev rb fl xb xc xcl xd xe xel xr xrl yb yc ycl yd ye yel yr yrl)) s (wDb g qdb qte qteb qpa qpae qpar qpau qpab qsu qdp qdpe qdpr qdpu qdpb qpr qpro qprf qprs qprb qprn qprt qbe qci qrd qrs qrsr ua qse qct qre qreb qpst qkpt qfil qbp qbk dv t tb w0 w1 w2 w3 w4 su d0 d1 d2 d3 d4 pi po pf ps pb pn pt ba ca cal da ea eal rar ral cb cbl rev rb fl xb xc xcl xd xe xel xr xrl yb yc ycl yd ye yel yr yrl) (wPr g qpr qpro qprf qprs qprb qprn qprt qte qteb pi po pf ps pb pn pt t tb) [14, 15, 16, 17, 18, 19, 20, 1, 2] _ _ := ⟨rfl, rfl, hP, hD, hS⟩
  refine goI0 hB (run_v C mf_Pr_firstOf qm_Db_451 (c_Pr_firstOf l g qpr qpro qprf qprs qprb qprn qprt qte qteb pi po pf ps pb pn pt t tb p1) rfl rfl ⟨Nat.le_of_ble_eq_true rfl, Nat.le_of_ble_eq_true rfl⟩ ⟨Nat.le_of_ble_eq_true rfl, Nat.le_of_ble_eq_true rfl⟩ hB rfl rfl hl rfl rfl (Nat.le_of_ble_eq_true rfl) d_Db_perform_5) (fun y1 ey1 H locs hP hS => ?_)
  have hz := lett_z hz ey1
  have hok := lett_o hok ey1
  refine lv_istore_n (lv' := [(2, .int y1), (0, .ref qdb), (1, .int p1)]) hx hb d_Db_perform_8 rfl hl (by decide) rfl (fun ls hl => ?_)
  refine lv_aload_n hx hb d_Db_perform_9 rfl (lv_at hl 1 rfl) ?_
  refine gf C hP 0 3 fkDb rfl (by decide) rfl qf_Db_35 (gDb_3 _ _ _ _ _ _ _ _ _ _ _) d_Db_perform_10 ?_
  refine lv_iload_n hx hb d_Db_perform_13 rfl (lv_at hl 2 rfl) ?_
  have hB : SubW g (inW (wDb g qdb qte qteb qpa qpae qpar qpau qpab qsu qdp qdpe qdpr qdpu qdpb qpr qpro qprf qprs qprb qprn qprt qbe qci qrd qrs qrsr ua qse qct qre qreb qpst qkpt qfil qbp qbk dv t tb w0 w1 w2 w3 w4 su d0 d1 d2 d3 d4 pi po pf ps pb pn pt ba ca cal da ea eal rar ral cb cbl rev rb fl xb xc xcl xd xe xel xr xrl yb yc ycl yd ye yel yr yrl)) s (wDb g qdb qte qteb qpa qpae qpar qpau qpab qsu qdp qdpe qdpr qdpu qdpb qpr qpro qprf qprs qprb qprn qprt qbe qci qrd qrs qrsr ua qse qct qre qreb qpst qkpt qfil qbp qbk dv t tb w0 w1 w2 w3 w4 su d0 d1 d2 d3 d4 pi po pf ps pb pn pt ba ca cal da ea eal rar ral cb cbl rev rb fl xb xc xcl xd xe xel xr xrl yb yc ycl yd ye yel yr yrl) (wPr g qpr qpro qprf qprs qprb qprn qprt qte qteb pi po pf ps pb pn pt t tb) [14, 15, 16, 17, 18, 19, 20, 1, 2] _ _ := ⟨rfl, rfl, hP, hD, hS⟩
  refine goI0 hB (run_v C mf_Pr_secondOf qm_Db_454 (c_Pr_secondOf l g qpr qpro qprf qprs qprb qprn qprt qte qteb pi po pf ps pb pn pt t tb p1) rfl rfl ⟨Nat.le_of_ble_eq_true rfl, Nat.le_of_ble_eq_true rfl⟩ ⟨Nat.le_of_ble_eq_true rfl, Nat.le_of_ble_eq_true rfl⟩ hB rfl rfl hl rfl rfl (Nat.le_of_ble_eq_true rfl) d_Db_perform_14) (fun y2 ey2 H locs hP hS => ?_)
  have hz := lett_z hz ey2
  have hok := lett_o hok ey2
  refine lv_istore_n (lv' := [(3, .int y2), (2, .int y1), (0, .ref qdb), (1, .int p1)]) hx hb d_Db_perform_17 rfl hl (by decide) rfl (fun ls hl => ?_)
  refine lv_aload_n hx hb d_Db_perform_18 rfl (lv_at hl 2 rfl) ?_
  refine gf C hP 0 3 fkDb rfl (by decide) rfl qf_Db_35 (gDb_3 _ _ _ _ _ _ _ _ _ _ _) d_Db_perform_19 ?_
  refine lv_iload_n hx hb d_Db_perform_22 rfl (lv_at hl 3 rfl) ?_
  have hB : SubW g (inW (wDb g qdb qte qteb qpa qpae qpar qpau qpab qsu qdp qdpe qdpr qdpu qdpb qpr qpro qprf qprs qprb qprn qprt qbe qci qrd qrs qrsr ua qse qct qre qreb qpst qkpt qfil qbp qbk dv t tb w0 w1 w2 w3 w4 su d0 d1 d2 d3 d4 pi po pf ps pb pn pt ba ca cal da ea eal rar ral cb cbl rev rb fl xb xc xcl xd xe xel xr xrl yb yc ycl yd ye yel yr yrl)) s (wDb g qdb qte qteb qpa qpae qpar qpau qpab qsu qdp qdpe qdpr qdpu qdpb qpr qpro qprf qprs qprb qprn qprt qbe qci qrd qrs qrsr ua qse qct qre qreb qpst qkpt qfil qbp qbk dv t tb w0 w1 w2 w3 w4 su d0 d1 d2 d3 d4 pi po pf ps pb pn pt ba ca cal da ea eal rar ral cb cbl rev rb fl xb xc xcl xd xe xel xr xrl yb yc ycl yd ye yel yr yrl) (wPr g qpr qpro qprf qprs qprb qprn qprt qte qteb pi po pf ps pb pn pt t tb) [14, 15, 16, 17, 18, 19, 20, 1, 2] _ _ := ⟨rfl, rfl, hP, hD, hS⟩
  refine goI0 hB (run_v C mf_Pr_orderOf qm_Db_457 (c_Pr_orderOf l g qpr qpro qprf qprs qprb qprn qprt qte qteb pi po pf ps pb pn pt t tb p1) rfl rfl ⟨Nat.le_of_ble_eq_true rfl, Nat.le_of_ble_eq_true rfl⟩ ⟨Nat.le_of_ble_eq_true rfl, Nat.le_of_ble_eq_true rfl⟩ hB rfl rfl hl rfl rfl (Nat.le_of_ble_eq_true rfl) d_Db_perform_23) (fun y3 ey3 H locs hP hS => ?_)
  have hz := lett_z hz ey3
  have hok := lett_o hok ey3
  by_cases c20_0 : y3 = (0 : Int32)
  · have hz := hz.trans (if_pos c20_0)
    have hok := hok.1 c20_0
    refine lv_tableIn (x := y3) (off := 46) (tgt := 72) hx hb d_Db_perform_26 (by rw [c20_0]; decide) (by rw [c20_0]; decide) (by rw [c20_0]; rfl) (by decide) ?_
    refine lv_aload_n hx hb d_Db_perform_72 rfl (lv_at hl 2 rfl) ?_
    refine gf C hP 0 4 fkDb rfl (by decide) rfl qf_Db_44 (gDb_4 _ _ _ _ _ _ _ _ _ _ _) d_Db_perform_73 ?_
    refine gf C hP 21 0 fkBe rfl (by decide) rfl qf_Db_141 (gBe_0 _ _ _ _ _) d_Db_perform_76 ?_
    refine lv_iload_n hx hb d_Db_perform_79 rfl (lv_at hl 1 rfl) ?_
    refine lv_iload_n hx hb d_Db_perform_80 rfl (lv_at hl 0 rfl) ?_
    have hB : SubW g (inW (wDb g qdb qte qteb qpa qpae qpar qpau qpab qsu qdp qdpe qdpr qdpu qdpb qpr qpro qprf qprs qprb qprn qprt qbe qci qrd qrs qrsr ua qse qct qre qreb qpst qkpt qfil qbp qbk dv t tb w0 w1 w2 w3 w4 su d0 d1 d2 d3 d4 pi po pf ps pb pn pt ba ca cal da ea eal rar ral cb cbl rev rb fl xb xc xcl xd xe xel xr xrl yb yc ycl yd ye yel yr yrl)) s (wDb g qdb qte qteb qpa qpae qpar qpau qpab qsu qdp qdpe qdpr qdpu qdpb qpr qpro qprf qprs qprb qprn qprt qbe qci qrd qrs qrsr ua qse qct qre qreb qpst qkpt qfil qbp qbk dv t tb w0 w1 w2 w3 w4 su d0 d1 d2 d3 d4 pi po pf ps pb pn pt ba ca cal da ea eal rar ral cb cbl rev rb fl xb xc xcl xd xe xel xr xrl yb yc ycl yd ye yel yr yrl) (wCi g qci qpa qpae qpar qpau qpab ca cal w0 w1 w2 w3 w4) [22, 3, 4, 5, 6, 7] _ _ := ⟨rfl, rfl, hP, hD, hS⟩
    refine goV1 hB (run_v C mf_Ci_choose qm_Db_390 (c_Ci_choose l g qci qpa qpae qpar qpau qpab ca cal w0 w1 w2 w3 w4 y1 y2) rfl rfl ⟨Nat.le_of_ble_eq_true rfl, Nat.le_of_ble_eq_true rfl⟩ ⟨Nat.le_of_ble_eq_true rfl, Nat.le_of_ble_eq_true rfl⟩ hB rfl rfl hl rfl rfl (Nat.le_of_ble_eq_true rfl) d_Db_perform_81) (fun _ => rfl) (fun y4 ey4 H locs hP hD hS => ?_)
    have hP : va_P g.1 vwCl (wDb g qdb qte qteb qpa qpae qpar qpau qpab qsu qdp qdpe qdpr qdpu qdpb qpr qpro qprf qprs qprb qprn qprt qbe qci qrd qrs qrsr ua qse qct qre qreb qpst qkpt qfil qbp qbk dv t tb w0 w1 w2 w3 w4 su d0 d1 d2 d3 d4 pi po pf ps pb pn pt ba y4 cal da ea eal rar ral cb cbl rev rb fl xb xc xcl xd xe xel xr xrl yb yc ycl yd ye yel yr yrl) H := cP sq_Db_6 hP
    have hD : va_D (inW (wDb g qdb qte qteb qpa qpae qpar qpau qpab qsu qdp qdpe qdpr qdpu qdpb qpr qpro qprf qprs qprb qprn qprt qbe qci qrd qrs qrsr ua qse qct qre qreb qpst qkpt qfil qbp qbk dv t tb w0 w1 w2 w3 w4 su d0 d1 d2 d3 d4 pi po pf ps pb pn pt ba ca cal da ea eal rar ral cb cbl rev rb fl xb xc xcl xd xe xel xr xrl yb yc ycl yd ye yel yr yrl)) (wDb g qdb qte qteb qpa qpae qpar qpau qpab qsu qdp qdpe qdpr qdpu qdpb qpr qpro qprf qprs qprb qprn qprt qbe qci qrd qrs qrsr ua qse qct qre qreb qpst qkpt qfil qbp qbk dv t tb w0 w1 w2 w3 w4 su d0 d1 d2 d3 d4 pi po pf ps pb pn pt ba y4 cal da ea eal rar ral cb cbl rev rb fl xb xc xcl xd xe xel xr xrl yb yc ycl yd ye yel yr yrl) := cD sq_Db_6 hD
    have hz := lett_z hz ey4
    refine lv_iconst (v := 1) hx hb d_Db_perform_84 (by decide) ?_
    exact endZ1 C hz hP hS rfl d_Db_perform_85
  have hz := hz.trans (if_neg c20_0)
  have hok := hok.2 c20_0
  by_cases c20_1 : y3 = (1 : Int32)
  · have hz := hz.trans (if_pos c20_1)
    have hok := hok.1 c20_1
    refine lv_tableIn (x := y3) (off := 60) (tgt := 86) hx hb d_Db_perform_26 (by rw [c20_1]; decide) (by rw [c20_1]; decide) (by rw [c20_1]; rfl) (by decide) ?_
    refine lv_aload_n hx hb d_Db_perform_86 rfl (lv_at hl 2 rfl) ?_
    refine gf C hP 0 4 fkDb rfl (by decide) rfl qf_Db_44 (gDb_4 _ _ _ _ _ _ _ _ _ _ _) d_Db_perform_87 ?_
    refine gf C hP 21 0 fkBe rfl (by decide) rfl qf_Db_141 (gBe_0 _ _ _ _ _) d_Db_perform_90 ?_
    refine lv_iload_n hx hb d_Db_perform_93 rfl (lv_at hl 1 rfl) ?_
    refine pfI C hP hD hS 22 3 fkCi rfl (by decide) rfl qf_Db_145 rfl rfl rfl (Nat.le_of_ble_eq_true rfl) (ff := fun o => fCi qpa o cal) (sCi_3 _ _ _ _) d_Db_perform_94 (fun ca_5 eca_5 H locs hP hD hS => ?_)
    have hP : va_P g.1 vwCl (wDb g qdb qte qteb qpa qpae qpar qpau qpab qsu qdp qdpe qdpr qdpu qdpb qpr qpro qprf qprs qprb qprn qprt qbe qci qrd qrs qrsr ua qse qct qre qreb qpst qkpt qfil qbp qbk dv t tb w0 w1 w2 w3 w4 su d0 d1 d2 d3 d4 pi po pf ps pb pn pt ba ca_5 cal da ea eal rar ral cb cbl rev rb fl xb xc xcl xd xe xel xr xrl yb yc ycl yd ye yel yr yrl) H := hP
    have hD : va_D (inW (wDb g qdb qte qteb qpa qpae qpar qpau qpab qsu qdp qdpe qdpr qdpu qdpb qpr qpro qprf qprs qprb qprn qprt qbe qci qrd qrs qrsr ua qse qct qre qreb qpst qkpt qfil qbp qbk dv t tb w0 w1 w2 w3 w4 su d0 d1 d2 d3 d4 pi po pf ps pb pn pt ba ca cal da ea eal rar ral cb cbl rev rb fl xb xc xcl xd xe xel xr xrl yb yc ycl yd ye yel yr yrl)) (wDb g qdb qte qteb qpa qpae qpar qpau qpab qsu qdp qdpe qdpr qdpu qdpb qpr qpro qprf qprs qprb qprn qprt qbe qci qrd qrs qrsr ua qse qct qre qreb qpst qkpt qfil qbp qbk dv t tb w0 w1 w2 w3 w4 su d0 d1 d2 d3 d4 pi po pf ps pb pn pt ba ca_5 cal da ea eal rar ral cb cbl rev rb fl xb xc xcl xd xe xel xr xrl yb yc ycl yd ye yel yr yrl) := hD
    have hz := lett_z hz eca_5
    refine lv_iconst (v := 1) hx hb d_Db_perform_97 (by decide) ?_
    exact endZ1 C hz hP hS rfl d_Db_perform_98
  have hz := hz.trans (if_neg c20_1)
  have hok := hok.2 c20_1
  by_cases c20_2 : y3 = (2 : Int32)
  · have hz := hz.trans (if_pos c20_2)
    have hok := hok.1 c20_2
    refine lv_tableIn (x := y3) (off := 73) (tgt := 99) hx hb d_Db_perform_26 (by rw [c20_2]; decide) (by rw [c20_2]; decide) (by rw [c20_2]; rfl) (by decide) ?_
    refine lv_iload_n hx hb d_Db_perform_99 rfl (lv_at hl 1 rfl) ?_
    refine lv_aload_n hx hb d_Db_perform_100 rfl (lv_at hl 2 rfl) ?_
    refine gf C hP 0 1 fkDb rfl (by decide) rfl qf_Db_19 (gDb_1 _ _ _ _ _ _ _ _ _ _ _) d_Db_perform_101 ?_
    have hs6 := hok.1
    have hok := hok.2
    have hB : SubW g (inW (wDb g qdb qte qteb qpa qpae qpar qpau qpab qsu qdp qdpe qdpr qdpu qdpb qpr qpro qprf qprs qprb qprn qprt qbe qci qrd qrs qrsr ua qse qct qre qreb qpst qkpt qfil qbp qbk dv t tb w0 w1 w2 w3 w4 su d0 d1 d2 d3 d4 pi po pf ps pb pn pt ba ca cal da ea eal rar ral cb cbl rev rb fl xb xc xcl xd xe xel xr xrl yb yc ycl yd ye yel yr yrl)) s (wDb g qdb qte qteb qpa qpae qpar qpau qpab qsu qdp qdpe qdpr qdpu qdpb qpr qpro qprf qprs qprb qprn qprt qbe qci qrd qrs qrsr ua qse qct qre qreb qpst qkpt qfil qbp qbk dv t tb w0 w1 w2 w3 w4 su d0 d1 d2 d3 d4 pi po pf ps pb pn pt ba ca cal da ea eal rar ral cb cbl rev rb fl xb xc xcl xd xe xel xr xrl yb yc ycl yd ye yel yr yrl) (wPa g qpa qpae qpar qpau qpab w0 w1 w2 w3 w4) [3, 4, 5, 6, 7] _ _ := ⟨rfl, rfl, hP, hD, hS⟩
    refine goI0 hB (run_v C mf_Pa_settings qm_Db_280 (c_Pa_settings l g qpa qpae qpar qpau qpab w0 w1 w2 w3 w4 hs6) rfl rfl ⟨Nat.le_of_ble_eq_true rfl, Nat.le_of_ble_eq_true rfl⟩ ⟨Nat.le_of_ble_eq_true rfl, Nat.le_of_ble_eq_true rfl⟩ hB rfl rfl hl rfl rfl (Nat.le_of_ble_eq_true rfl) d_Db_perform_104) (fun y7 ey7 H locs hP hS => ?_)
    have hz := lett_z hz ey7
    have hok := lett_o hok ey7
    refine lv_icmp_lt (tgt := 112) hx hb d_Db_perform_107 (by decide) (fun c8 => ?_) (fun c8 => ?_)
    · have hz := hz.trans (if_pos c8)
      have hok := hok.1 c8
      refine lv_aload_n hx hb d_Db_perform_112 rfl (lv_at hl 2 rfl) ?_
      refine gf C hP 0 4 fkDb rfl (by decide) rfl qf_Db_44 (gDb_4 _ _ _ _ _ _ _ _ _ _ _) d_Db_perform_113 ?_
      refine gf C hP 21 0 fkBe rfl (by decide) rfl qf_Db_141 (gBe_0 _ _ _ _ _) d_Db_perform_116 ?_
      refine lv_iload_n hx hb d_Db_perform_119 rfl (lv_at hl 1 rfl) ?_
      have hs9 := hok.1
      have hok := hok.2
      have hB : SubW g (inW (wDb g qdb qte qteb qpa qpae qpar qpau qpab qsu qdp qdpe qdpr qdpu qdpb qpr qpro qprf qprs qprb qprn qprt qbe qci qrd qrs qrsr ua qse qct qre qreb qpst qkpt qfil qbp qbk dv t tb w0 w1 w2 w3 w4 su d0 d1 d2 d3 d4 pi po pf ps pb pn pt ba ca cal da ea eal rar ral cb cbl rev rb fl xb xc xcl xd xe xel xr xrl yb yc ycl yd ye yel yr yrl)) s (wDb g qdb qte qteb qpa qpae qpar qpau qpab qsu qdp qdpe qdpr qdpu qdpb qpr qpro qprf qprs qprb qprn qprt qbe qci qrd qrs qrsr ua qse qct qre qreb qpst qkpt qfil qbp qbk dv t tb w0 w1 w2 w3 w4 su d0 d1 d2 d3 d4 pi po pf ps pb pn pt ba ca cal da ea eal rar ral cb cbl rev rb fl xb xc xcl xd xe xel xr xrl yb yc ycl yd ye yel yr yrl) (wCi g qci qpa qpae qpar qpau qpab ca cal w0 w1 w2 w3 w4) [22, 3, 4, 5, 6, 7] _ _ := ⟨rfl, rfl, hP, hD, hS⟩
      refine goV1 hB (run_v C mf_Ci_dial qm_Db_412 (c_Ci_dial l g qci qpa qpae qpar qpau qpab ca cal w0 w1 w2 w3 w4 y1 hs9) rfl rfl ⟨Nat.le_of_ble_eq_true rfl, Nat.le_of_ble_eq_true rfl⟩ ⟨Nat.le_of_ble_eq_true rfl, Nat.le_of_ble_eq_true rfl⟩ hB rfl rfl hl rfl rfl (Nat.le_of_ble_eq_true rfl) d_Db_perform_120) (fun _ => rfl) (fun y10 ey10 H locs hP hD hS => ?_)
      have hP : va_P g.1 vwCl (wDb g qdb qte qteb qpa qpae qpar qpau qpab qsu qdp qdpe qdpr qdpu qdpb qpr qpro qprf qprs qprb qprn qprt qbe qci qrd qrs qrsr ua qse qct qre qreb qpst qkpt qfil qbp qbk dv t tb w0 w1 w2 w3 w4 su d0 d1 d2 d3 d4 pi po pf ps pb pn pt ba y10 cal da ea eal rar ral cb cbl rev rb fl xb xc xcl xd xe xel xr xrl yb yc ycl yd ye yel yr yrl) H := cP sq_Db_6 hP
      have hD : va_D (inW (wDb g qdb qte qteb qpa qpae qpar qpau qpab qsu qdp qdpe qdpr qdpu qdpb qpr qpro qprf qprs qprb qprn qprt qbe qci qrd qrs qrsr ua qse qct qre qreb qpst qkpt qfil qbp qbk dv t tb w0 w1 w2 w3 w4 su d0 d1 d2 d3 d4 pi po pf ps pb pn pt ba ca cal da ea eal rar ral cb cbl rev rb fl xb xc xcl xd xe xel xr xrl yb yc ycl yd ye yel yr yrl)) (wDb g qdb qte qteb qpa qpae qpar qpau qpab qsu qdp qdpe qdpr qdpu qdpb qpr qpro qprf qprs qprb qprn qprt qbe qci qrd qrs qrsr ua qse qct qre qreb qpst qkpt qfil qbp qbk dv t tb w0 w1 w2 w3 w4 su d0 d1 d2 d3 d4 pi po pf ps pb pn pt ba y10 cal da ea eal rar ral cb cbl rev rb fl xb xc xcl xd xe xel xr xrl yb yc ycl yd ye yel yr yrl) := cD sq_Db_6 hD
      have hz := lett_z hz ey10
      refine lv_iconst (v := 1) hx hb d_Db_perform_123 (by decide) ?_
      exact endZ1 C hz hP hS rfl d_Db_perform_124
    · have hz := hz.trans (if_neg c8)
      refine lv_iconst (v := 0) hx hb d_Db_perform_110 (by decide) ?_
      exact endZ1 C hz hP hS rfl d_Db_perform_111
  have hz := hz.trans (if_neg c20_2)
  have hok := hok.2 c20_2
  by_cases c20_3 : y3 = (3 : Int32)
  · have hz := hz.trans (if_pos c20_3)
    have hok := hok.1 c20_3
    refine lv_tableIn (x := y3) (off := 99) (tgt := 125) hx hb d_Db_perform_26 (by rw [c20_3]; decide) (by rw [c20_3]; decide) (by rw [c20_3]; rfl) (by decide) ?_
    refine lv_aload_n hx hb d_Db_perform_125 rfl (lv_at hl 2 rfl) ?_
    refine gf C hP 0 4 fkDb rfl (by decide) rfl qf_Db_44 (gDb_4 _ _ _ _ _ _ _ _ _ _ _) d_Db_perform_126 ?_
    refine gf C hP 21 0 fkBe rfl (by decide) rfl qf_Db_141 (gBe_0 _ _ _ _ _) d_Db_perform_129 ?_
    refine lv_aload_n hx hb d_Db_perform_132 rfl (lv_at hl 2 rfl) ?_
    refine gf C hP 0 4 fkDb rfl (by decide) rfl qf_Db_44 (gDb_4 _ _ _ _ _ _ _ _ _ _ _) d_Db_perform_133 ?_
    refine gf C hP 21 0 fkBe rfl (by decide) rfl qf_Db_141 (gBe_0 _ _ _ _ _) d_Db_perform_136 ?_
    refine gf C hP 22 6 fkCi rfl (by decide) rfl qf_Db_174 (gCi_6 _ _ _) d_Db_perform_139 ?_
    refine lv_if_ne (tgt := 149) hx hb d_Db_perform_142 (by decide) (fun c11 => ?_) (fun c11 => ?_)
    · have hz := hz.trans (if_neg c11)
      have hok := hok.2 c11
      refine lv_iconst (v := 0) hx hb d_Db_perform_149 (by decide) ?_
      exact k_Db_perform_150 C (0 : Int32) hok _ hz _ _ ls hP hD hS (lv_sub hl [] rfl)
    · have hz := hz.trans (if_pos c11)
      have hok := hok.1 c11
      refine lv_iconst (v := 1) hx hb d_Db_perform_145 (by decide) ?_
      refine lv_goto (tgt := 150) hx hb d_Db_perform_146 (by decide) ?_
      exact k_Db_perform_150 C (1 : Int32) hok _ hz _ _ ls hP hD hS (lv_sub hl [] rfl)
  have hz := hz.trans (if_neg c20_3)
  have hok := hok.2 c20_3
  by_cases c20_4 : y3 = (4 : Int32)
  · have hz := hz.trans (if_pos c20_4)
    have hok := hok.1 c20_4
    refine lv_tableIn (x := y3) (off := 129) (tgt := 155) hx hb d_Db_perform_26 (by rw [c20_4]; decide) (by rw [c20_4]; decide) (by rw [c20_4]; rfl) (by decide) ?_
    refine lv_aload_n hx hb d_Db_perform_155 rfl (lv_at hl 2 rfl) ?_
    refine gf C hP 0 4 fkDb rfl (by decide) rfl qf_Db_44 (gDb_4 _ _ _ _ _ _ _ _ _ _ _) d_Db_perform_156 ?_
    refine gf C hP 21 0 fkBe rfl (by decide) rfl qf_Db_141 (gBe_0 _ _ _ _ _) d_Db_perform_159 ?_
    refine lv_iload_n hx hb d_Db_perform_162 rfl (lv_at hl 1 rfl) ?_
    have hB : SubW g (inW (wDb g qdb qte qteb qpa qpae qpar qpau qpab qsu qdp qdpe qdpr qdpu qdpb qpr qpro qprf qprs qprb qprn qprt qbe qci qrd qrs qrsr ua qse qct qre qreb qpst qkpt qfil qbp qbk dv t tb w0 w1 w2 w3 w4 su d0 d1 d2 d3 d4 pi po pf ps pb pn pt ba ca cal da ea eal rar ral cb cbl rev rb fl xb xc xcl xd xe xel xr xrl yb yc ycl yd ye yel yr yrl)) s (wDb g qdb qte qteb qpa qpae qpar qpau qpab qsu qdp qdpe qdpr qdpu qdpb qpr qpro qprf qprs qprb qprn qprt qbe qci qrd qrs qrsr ua qse qct qre qreb qpst qkpt qfil qbp qbk dv t tb w0 w1 w2 w3 w4 su d0 d1 d2 d3 d4 pi po pf ps pb pn pt ba ca cal da ea eal rar ral cb cbl rev rb fl xb xc xcl xd xe xel xr xrl yb yc ycl yd ye yel yr yrl) (wCi g qci qpa qpae qpar qpau qpab ca cal w0 w1 w2 w3 w4) [22, 3, 4, 5, 6, 7] _ _ := ⟨rfl, rfl, hP, hD, hS⟩
    refine goV1 hB (run_v C mf_Ci_wire qm_Db_396 (c_Ci_wire l g qci qpa qpae qpar qpau qpab ca cal w0 w1 w2 w3 w4 y1) rfl rfl ⟨Nat.le_of_ble_eq_true rfl, Nat.le_of_ble_eq_true rfl⟩ ⟨Nat.le_of_ble_eq_true rfl, Nat.le_of_ble_eq_true rfl⟩ hB rfl rfl hl rfl rfl (Nat.le_of_ble_eq_true rfl) d_Db_perform_163) (fun _ => rfl) (fun y12 ey12 H locs hP hD hS => ?_)
    have hP : va_P g.1 vwCl (wDb g qdb qte qteb qpa qpae qpar qpau qpab qsu qdp qdpe qdpr qdpu qdpb qpr qpro qprf qprs qprb qprn qprt qbe qci qrd qrs qrsr ua qse qct qre qreb qpst qkpt qfil qbp qbk dv t tb w0 w1 w2 w3 w4 su d0 d1 d2 d3 d4 pi po pf ps pb pn pt ba y12 cal da ea eal rar ral cb cbl rev rb fl xb xc xcl xd xe xel xr xrl yb yc ycl yd ye yel yr yrl) H := cP sq_Db_6 hP
    have hD : va_D (inW (wDb g qdb qte qteb qpa qpae qpar qpau qpab qsu qdp qdpe qdpr qdpu qdpb qpr qpro qprf qprs qprb qprn qprt qbe qci qrd qrs qrsr ua qse qct qre qreb qpst qkpt qfil qbp qbk dv t tb w0 w1 w2 w3 w4 su d0 d1 d2 d3 d4 pi po pf ps pb pn pt ba ca cal da ea eal rar ral cb cbl rev rb fl xb xc xcl xd xe xel xr xrl yb yc ycl yd ye yel yr yrl)) (wDb g qdb qte qteb qpa qpae qpar qpau qpab qsu qdp qdpe qdpr qdpu qdpb qpr qpro qprf qprs qprb qprn qprt qbe qci qrd qrs qrsr ua qse qct qre qreb qpst qkpt qfil qbp qbk dv t tb w0 w1 w2 w3 w4 su d0 d1 d2 d3 d4 pi po pf ps pb pn pt ba y12 cal da ea eal rar ral cb cbl rev rb fl xb xc xcl xd xe xel xr xrl yb yc ycl yd ye yel yr yrl) := cD sq_Db_6 hD
    have hz := lett_z hz ey12
    refine lv_iconst (v := 1) hx hb d_Db_perform_166 (by decide) ?_
    exact endZ1 C hz hP hS rfl d_Db_perform_167
  have hz := hz.trans (if_neg c20_4)
  have hok := hok.2 c20_4
  by_cases c20_5 : y3 = (5 : Int32)
  · have hz := hz.trans (if_pos c20_5)
    have hok := hok.1 c20_5
    refine lv_tableIn (x := y3) (off := 142) (tgt := 168) hx hb d_Db_perform_26 (by rw [c20_5]; decide) (by rw [c20_5]; decide) (by rw [c20_5]; rfl) (by decide) ?_
    refine lv_aload_n hx hb d_Db_perform_168 rfl (lv_at hl 2 rfl) ?_
    refine gf C hP 0 4 fkDb rfl (by decide) rfl qf_Db_44 (gDb_4 _ _ _ _ _ _ _ _ _ _ _) d_Db_perform_169 ?_
    refine lv_iload_n hx hb d_Db_perform_172 rfl (lv_at hl 1 rfl) ?_
    have hs13 := hok.1
    have hok := hok.2
    have hB : SubW g (inW (wDb g qdb qte qteb qpa qpae qpar qpau qpab qsu qdp qdpe qdpr qdpu qdpb qpr qpro qprf qprs qprb qprn qprt qbe qci qrd qrs qrsr ua qse qct qre qreb qpst qkpt qfil qbp qbk dv t tb w0 w1 w2 w3 w4 su d0 d1 d2 d3 d4 pi po pf ps pb pn pt ba ca cal da ea eal rar ral cb cbl rev rb fl xb xc xcl xd xe xel xr xrl yb yc ycl yd ye yel yr yrl)) s (wDb g qdb qte qteb qpa qpae qpar qpau qpab qsu qdp qdpe qdpr qdpu qdpb qpr qpro qprf qprs qprb qprn qprt qbe qci qrd qrs qrsr ua qse qct qre qreb qpst qkpt qfil qbp qbk dv t tb w0 w1 w2 w3 w4 su d0 d1 d2 d3 d4 pi po pf ps pb pn pt ba ca cal da ea eal rar ral cb cbl rev rb fl xb xc xcl xd xe xel xr xrl yb yc ycl yd ye yel yr yrl) (wBe g qbe qci qrd qrs qrsr ua qpa qpae qpar qpau qpab ba ca cal da ea eal rar ral w0 w1 w2 w3 w4) [21, 22, 23, 24, 25, 26, 27, 28, 29, 30, 31, 32, 33, 34, 35, 36, 37, 38, 39, 40, 41, 42, 43, 44, 45, 3, 4, 5, 6, 7] _ _ := ⟨rfl, rfl, hP, hD, hS⟩
    refine goV1 hB (run_v C mf_Be_passTime qm_Db_418 (c_Be_passTime l g qbe qci qrd qrs qrsr ua qpa qpae qpar qpau qpab ba ca cal da ea eal rar ral w0 w1 w2 w3 w4 y1 hs13) rfl rfl ⟨Nat.le_of_ble_eq_true rfl, Nat.le_of_ble_eq_true rfl⟩ ⟨Nat.le_of_ble_eq_true rfl, Nat.le_of_ble_eq_true rfl⟩ hB rfl rfl hl rfl rfl (Nat.le_of_ble_eq_true rfl) d_Db_perform_173) (fun _ => rfl) (fun y14 ey14 H locs hP hD hS => ?_)
    have hP : va_P g.1 vwCl (wDb g qdb qte qteb qpa qpae qpar qpau qpab qsu qdp qdpe qdpr qdpu qdpb qpr qpro qprf qprs qprb qprn qprt qbe qci qrd qrs qrsr ua qse qct qre qreb qpst qkpt qfil qbp qbk dv t tb w0 w1 w2 w3 w4 su d0 d1 d2 d3 d4 pi po pf ps pb pn pt ba y14.1 y14.2 da ea eal rar ral cb cbl rev rb fl xb xc xcl xd xe xel xr xrl yb yc ycl yd ye yel yr yrl) H := cP sq_Db_7 hP
    have hD : va_D (inW (wDb g qdb qte qteb qpa qpae qpar qpau qpab qsu qdp qdpe qdpr qdpu qdpb qpr qpro qprf qprs qprb qprn qprt qbe qci qrd qrs qrsr ua qse qct qre qreb qpst qkpt qfil qbp qbk dv t tb w0 w1 w2 w3 w4 su d0 d1 d2 d3 d4 pi po pf ps pb pn pt ba ca cal da ea eal rar ral cb cbl rev rb fl xb xc xcl xd xe xel xr xrl yb yc ycl yd ye yel yr yrl)) (wDb g qdb qte qteb qpa qpae qpar qpau qpab qsu qdp qdpe qdpr qdpu qdpb qpr qpro qprf qprs qprb qprn qprt qbe qci qrd qrs qrsr ua qse qct qre qreb qpst qkpt qfil qbp qbk dv t tb w0 w1 w2 w3 w4 su d0 d1 d2 d3 d4 pi po pf ps pb pn pt ba y14.1 y14.2 da ea eal rar ral cb cbl rev rb fl xb xc xcl xd xe xel xr xrl yb yc ycl yd ye yel yr yrl) := cD sq_Db_7 hD
    have hz := lett_z hz ey14
    refine lv_iconst (v := 1) hx hb d_Db_perform_176 (by decide) ?_
    exact endZ1 C hz hP hS rfl d_Db_perform_177
  have hz := hz.trans (if_neg c20_5)
  have hok := hok.2 c20_5
  by_cases c20_6 : y3 = (6 : Int32)
  · have hz := hz.trans (if_pos c20_6)
    have hok := hok.1 c20_6
    refine lv_tableIn (x := y3) (off := 152) (tgt := 178) hx hb d_Db_perform_26 (by rw [c20_6]; decide) (by rw [c20_6]; decide) (by rw [c20_6]; rfl) (by decide) ?_
    refine lv_aload_n hx hb d_Db_perform_178 rfl (lv_at hl 2 rfl) ?_
    refine gf C hP 0 4 fkDb rfl (by decide) rfl qf_Db_44 (gDb_4 _ _ _ _ _ _ _ _ _ _ _) d_Db_perform_179 ?_
    refine lv_iload_n hx hb d_Db_perform_182 rfl (lv_at hl 1 rfl) ?_
    have hs15 := hok.1
    have hok := hok.2
    have hB : SubW g (inW (wDb g qdb qte qteb qpa qpae qpar qpau qpab qsu qdp qdpe qdpr qdpu qdpb qpr qpro qprf qprs qprb qprn qprt qbe qci qrd qrs qrsr ua qse qct qre qreb qpst qkpt qfil qbp qbk dv t tb w0 w1 w2 w3 w4 su d0 d1 d2 d3 d4 pi po pf ps pb pn pt ba ca cal da ea eal rar ral cb cbl rev rb fl xb xc xcl xd xe xel xr xrl yb yc ycl yd ye yel yr yrl)) s (wDb g qdb qte qteb qpa qpae qpar qpau qpab qsu qdp qdpe qdpr qdpu qdpb qpr qpro qprf qprs qprb qprn qprt qbe qci qrd qrs qrsr ua qse qct qre qreb qpst qkpt qfil qbp qbk dv t tb w0 w1 w2 w3 w4 su d0 d1 d2 d3 d4 pi po pf ps pb pn pt ba ca cal da ea eal rar ral cb cbl rev rb fl xb xc xcl xd xe xel xr xrl yb yc ycl yd ye yel yr yrl) (wBe g qbe qci qrd qrs qrsr ua qpa qpae qpar qpau qpab ba ca cal da ea eal rar ral w0 w1 w2 w3 w4) [21, 22, 23, 24, 25, 26, 27, 28, 29, 30, 31, 32, 33, 34, 35, 36, 37, 38, 39, 40, 41, 42, 43, 44, 45, 3, 4, 5, 6, 7] _ _ := ⟨rfl, rfl, hP, hD, hS⟩
    refine goI1 hB (run_v C mf_Be_makeReadings qm_Db_460 (c_Be_makeReadings l g qbe qci qrd qrs qrsr ua qpa qpae qpar qpau qpab ba ca cal da ea eal rar ral w0 w1 w2 w3 w4 y1 hs15) rfl rfl ⟨Nat.le_of_ble_eq_true rfl, Nat.le_of_ble_eq_true rfl⟩ ⟨Nat.le_of_ble_eq_true rfl, Nat.le_of_ble_eq_true rfl⟩ hB rfl rfl hl rfl rfl (Nat.le_of_ble_eq_true rfl) d_Db_perform_183) (fun _ => rfl) (fun y16 ey16 H locs hP hD hS => ?_)
    have hP : va_P g.1 vwCl (wDb g qdb qte qteb qpa qpae qpar qpau qpab qsu qdp qdpe qdpr qdpu qdpb qpr qpro qprf qprs qprb qprn qprt qbe qci qrd qrs qrsr ua qse qct qre qreb qpst qkpt qfil qbp qbk dv t tb w0 w1 w2 w3 w4 su d0 d1 d2 d3 d4 pi po pf ps pb pn pt y16.2.1 y16.2.2.1 y16.2.2.2.1 y16.2.2.2.2 ea eal rar ral cb cbl rev rb fl xb xc xcl xd xe xel xr xrl yb yc ycl yd ye yel yr yrl) H := cP sq_Db_8 hP
    have hD : va_D (inW (wDb g qdb qte qteb qpa qpae qpar qpau qpab qsu qdp qdpe qdpr qdpu qdpb qpr qpro qprf qprs qprb qprn qprt qbe qci qrd qrs qrsr ua qse qct qre qreb qpst qkpt qfil qbp qbk dv t tb w0 w1 w2 w3 w4 su d0 d1 d2 d3 d4 pi po pf ps pb pn pt ba ca cal da ea eal rar ral cb cbl rev rb fl xb xc xcl xd xe xel xr xrl yb yc ycl yd ye yel yr yrl)) (wDb g qdb qte qteb qpa qpae qpar qpau qpab qsu qdp qdpe qdpr qdpu qdpb qpr qpro qprf qprs qprb qprn qprt qbe qci qrd qrs qrsr ua qse qct qre qreb qpst qkpt qfil qbp qbk dv t tb w0 w1 w2 w3 w4 su d0 d1 d2 d3 d4 pi po pf ps pb pn pt y16.2.1 y16.2.2.1 y16.2.2.2.1 y16.2.2.2.2 ea eal rar ral cb cbl rev rb fl xb xc xcl xd xe xel xr xrl yb yc ycl yd ye yel yr yrl) := cD sq_Db_8 hD
    have hz := lett_z hz ey16
    have hok := lett_o hok ey16
    have hs17 := hok.1
    have hok := hok.2
    exact endZ1 C hz hP hS (isB_nar hs17) d_Db_perform_186
  have hz := hz.trans (if_neg c20_6)
  have hok := hok.2 c20_6
  by_cases c20_7 : y3 = (7 : Int32)
  · have hz := hz.trans (if_pos c20_7)
    have hok := hok.1 c20_7
    refine lv_tableIn (x := y3) (off := 161) (tgt := 187) hx hb d_Db_perform_26 (by rw [c20_7]; decide) (by rw [c20_7]; decide) (by rw [c20_7]; rfl) (by decide) ?_
    refine lv_aload_n hx hb d_Db_perform_187 rfl (lv_at hl 2 rfl) ?_
    refine gf C hP 0 4 fkDb rfl (by decide) rfl qf_Db_44 (gDb_4 _ _ _ _ _ _ _ _ _ _ _) d_Db_perform_188 ?_
    refine gf C hP 21 0 fkBe rfl (by decide) rfl qf_Db_141 (gBe_0 _ _ _ _ _) d_Db_perform_191 ?_
    refine gf C hP 22 3 fkCi rfl (by decide) rfl qf_Db_145 (gCi_3 _ _ _) d_Db_perform_194 ?_
    refine lv_if_ne (tgt := 202) hx hb d_Db_perform_197 (by decide) (fun c18 => ?_) (fun c18 => ?_)
    · have hz := hz.trans (if_neg c18)
      have hok := hok.2 c18
      refine lv_aload_n hx hb d_Db_perform_202 rfl (lv_at hl 2 rfl) ?_
      refine gf C hP 0 4 fkDb rfl (by decide) rfl qf_Db_44 (gDb_4 _ _ _ _ _ _ _ _ _ _ _) d_Db_perform_203 ?_
      refine lv_iload_n hx hb d_Db_perform_206 rfl (lv_at hl 1 rfl) ?_
      refine lv_iconst (v := 1) hx hb d_Db_perform_207 (by decide) ?_
      refine lv_icmp_ne (tgt := 215) hx hb d_Db_perform_208 (by decide) (fun c19 => ?_) (fun c19 => ?_)
      · have hz := hz.trans (if_neg c19)
        have hok := hok.2 c19
        refine lv_iconst (v := 0) hx hb d_Db_perform_215 (by decide) ?_
        exact k_Db_perform_216 C (0 : Int32) hok _ hz _ _ ls hP hD hS (lv_sub hl [] rfl)
      · have hz := hz.trans (if_pos c19)
        have hok := hok.1 c19
        refine lv_iconst (v := 1) hx hb d_Db_perform_211 (by decide) ?_
        refine lv_goto (tgt := 216) hx hb d_Db_perform_212 (by decide) ?_
        exact k_Db_perform_216 C (1 : Int32) hok _ hz _ _ ls hP hD hS (lv_sub hl [] rfl)
    · have hz := hz.trans (if_pos c18)
      refine lv_iconst (v := 0) hx hb d_Db_perform_200 (by decide) ?_
      exact endZ1 C hz hP hS rfl d_Db_perform_201
  have hz := hz.trans (if_neg c20_7)
  have hok := hok.2 c20_7
  refine lv_tableOut (x := y3) (tgt := 222) hx hb d_Db_perform_26 (tswL (x := y3) (lo := 0) (hi := 7) 8 [(0 : Int32), (1 : Int32), (2 : Int32), (3 : Int32), (4 : Int32), (5 : Int32), (6 : Int32), (7 : Int32)] (by decide) (by decide) (List.forall_mem_cons.mpr ⟨c20_0, List.forall_mem_cons.mpr ⟨c20_1, List.forall_mem_cons.mpr ⟨c20_2, List.forall_mem_cons.mpr ⟨c20_3, List.forall_mem_cons.mpr ⟨c20_4, List.forall_mem_cons.mpr ⟨c20_5, List.forall_mem_cons.mpr ⟨c20_6, List.forall_mem_cons.mpr ⟨c20_7, fun _ h => absurd h List.not_mem_nil⟩⟩⟩⟩⟩⟩⟩⟩)) (by decide) ?_
  refine lv_iconst (v := 0) hx hb d_Db_perform_222 (by decide) ?_
  exact endZ1 C hz hP hS rfl d_Db_perform_223
