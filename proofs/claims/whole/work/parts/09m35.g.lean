abbrev rm_Db_part : Room := { frames := 1, cells := 0, slots := 0, locals := 22 }
def HL_Db_part_145 (p : Program) (l : Launch) (e : Env) (s : State) (m : MethodId) (args : Array Value) (below : List Frame) (meth : Method) (c : Code) (g : GX) (qdb : Nat) (qte : Nat) (qteb : Nat) (qpa : Nat) (qpae : Nat) (qpar : Nat) (qpau : Nat) (qpab : Nat) (qsu : Nat) (qdp : Nat) (qdpe : Nat) (qdpr : Nat) (qdpu : Nat) (qdpb : Nat) (qpr : Nat) (qpro : Nat) (qprf : Nat) (qprs : Nat) (qprb : Nat) (qprn : Nat) (qprt : Nat) (qbe : Nat) (qci : Nat) (qrd : Nat) (qrs : Nat) (qrsr : Nat) (ua : Nat → Nat) (qse : Nat) (qct : Nat) (qre : Nat) (qreb : Nat) (qpst : Nat) (qkpt : Nat) (qfil : Nat) (qbp : Nat → Nat → Nat) (qbk : Nat → Nat → Nat) (dv : IV) (t : IV) (tb : IV) (w0 : IV) (w1 : IV) (w2 : IV) (w3 : IV) (w4 : IV) (su : IV) (d0 : IV) (d1 : IV) (d2 : IV) (d3 : IV) (d4 : IV) (pi : IV) (po : IV) (pf : IV) (ps : IV) (pb : IV) (pn : IV) (pt : IV) (ba : IV) (ca : IV) (cal : LV) (da : IV) (ea : IV) (eal : LV) (rar : NI) (ral : NL) (cb : IV) (cbl : LV) (rev : IV) (rb : IV) (fl : IV) (xb : NI) (xc : NI) (xcl : NL) (xd : NI) (xe : NI) (xel : NL) (xr : NNI) (xrl : NNL) (yb : NI) (yc : NI) (ycl : NL) (yd : NI) (ye : NI) (yel : NL) (yr : NNI) (yrl : NNL) (p1 : Int32) (sp : Int32) (ok : Prop) : Prop := ∀ (_ : Unit), ok → ∀ z : Int32, z = sp → ∀ (H : Heap) (locs : List Loc) (ls : Array Slot), va_P g.1 vwCl (wDb g qdb qte qteb qpa qpae qpar qpau qpab qsu qdp qdpe qdpr qdpu qdpb qpr qpro qprf qprs qprb qprn qprt qbe qci qrd qrs qrsr ua qse qct qre qreb qpst qkpt qfil qbp qbk dv t tb w0 w1 w2 w3 w4 su d0 d1 d2 d3 d4 pi po pf ps pb pn pt ba ca cal da ea eal rar ral cb cbl rev rb fl xb xc xcl xd xe xel xr xrl yb yc ycl yd ye yel yr yrl) H → va_D (inW (wDb g qdb qte qteb qpa qpae qpar qpau qpab qsu qdp qdpe qdpr qdpu qdpb qpr qpro qprf qprs qprb qprn qprt qbe qci qrd qrs qrsr ua qse qct qre qreb qpst qkpt qfil qbp qbk dv t tb w0 w1 w2 w3 w4 su d0 d1 d2 d3 d4 pi po pf ps pb pn pt ba ca cal da ea eal rar ral cb cbl rev rb fl xb xc xcl xd xe xel xr xrl yb yc ycl yd ye yel yr yrl)) (wDb g qdb qte qteb qpa qpae qpar qpau qpab qsu qdp qdpe qdpr qdpu qdpb qpr qpro qprf qprs qprb qprn qprt qbe qci qrd qrs qrsr ua qse qct qre qreb qpst qkpt qfil qbp qbk dv t tb w0 w1 w2 w3 w4 su d0 d1 d2 d3 d4 pi po pf ps pb pn pt ba ca cal da ea eal rar ral cb cbl rev rb fl xb xc xcl xd xe xel xr xrl yb yc ycl yd ye yel yr yrl) → va_S (inW (wDb g qdb qte qteb qpa qpae qpar qpau qpab qsu qdp qdpe qdpr qdpu qdpb qpr qpro qprf qprs qprb qprn qprt qbe qci qrd qrs qrsr ua qse qct qre qreb qpst qkpt qfil qbp qbk dv t tb w0 w1 w2 w3 w4 su d0 d1 d2 d3 d4 pi po pf ps pb pn pt ba ca cal da ea eal rar ral cb cbl rev rb fl xb xc xcl xd xe xel xr xrl yb yc ycl yd ye yel yr yrl)) s.heap H locs → lv_has ls 5 [(1, .int p1), (3, .ref qci)] → W p l e rm_Db_part s m args below meth c H locs 0 0 (MQ below (CI0 g (wDb g qdb qte qteb qpa qpae qpar qpau qpab qsu qdp qdpe qdpr qdpu qdpb qpr qpro qprf qprs qprb qprn qprt qbe qci qrd qrs qrsr ua qse qct qre qreb qpst qkpt qfil qbp qbk dv t tb w0 w1 w2 w3 w4 su d0 d1 d2 d3 d4 pi po pf ps pb pn pt ba ca cal da ea eal rar ral cb cbl rev rb fl xb xc xcl xd xe xel xr xrl yb yc ycl yd ye yel yr yrl) z) args s 0 0 (inW (wDb g qdb qte qteb qpa qpae qpar qpau qpab qsu qdp qdpe qdpr qdpu qdpb qpr qpro qprf qprs qprb qprn qprt qbe qci qrd qrs qrsr ua qse qct qre qreb qpst qkpt qfil qbp qbk dv t tb w0 w1 w2 w3 w4 su d0 d1 d2 d3 d4 pi po pf ps pb pn pt ba ca cal da ea eal rar ral cb cbl rev rb fl xb xc xcl xd xe xel xr xrl yb yc ycl yd ye yel yr yrl))) (F0 m 145 ls [])
def HL_Db_part_129 (p : Program) (l : Launch) (e : Env) (s : State) (m : MethodId) (args : Array Value) (below : List Frame) (meth : Method) (c : Code) (g : GX) (qdb : Nat) (qte : Nat) (qteb : Nat) (qpa : Nat) (qpae : Nat) (qpar : Nat) (qpau : Nat) (qpab : Nat) (qsu : Nat) (qdp : Nat) (qdpe : Nat) (qdpr : Nat) (qdpu : Nat) (qdpb : Nat) (qpr : Nat) (qpro : Nat) (qprf : Nat) (qprs : Nat) (qprb : Nat) (qprn : Nat) (qprt : Nat) (qbe : Nat) (qci : Nat) (qrd : Nat) (qrs : Nat) (qrsr : Nat) (ua : Nat → Nat) (qse : Nat) (qct : Nat) (qre : Nat) (qreb : Nat) (qpst : Nat) (qkpt : Nat) (qfil : Nat) (qbp : Nat → Nat → Nat) (qbk : Nat → Nat → Nat) (dv : IV) (t : IV) (tb : IV) (w0 : IV) (w1 : IV) (w2 : IV) (w3 : IV) (w4 : IV) (su : IV) (d0 : IV) (d1 : IV) (d2 : IV) (d3 : IV) (d4 : IV) (pi : IV) (po : IV) (pf : IV) (ps : IV) (pb : IV) (pn : IV) (pt : IV) (ba : IV) (ca : IV) (cal : LV) (da : IV) (ea : IV) (eal : LV) (rar : NI) (ral : NL) (cb : IV) (cbl : LV) (rev : IV) (rb : IV) (fl : IV) (xb : NI) (xc : NI) (xcl : NL) (xd : NI) (xe : NI) (xel : NL) (xr : NNI) (xrl : NNL) (yb : NI) (yc : NI) (ycl : NL) (yd : NI) (ye : NI) (yel : NL) (yr : NNI) (yrl : NNL) (p1 : Int32) (sp : Int32) (ok : Prop) : Prop := ∀ (_ : Unit), ok → ∀ z : Int32, z = sp → ∀ (H : Heap) (locs : List Loc) (ls : Array Slot), va_P g.1 vwCl (wDb g qdb qte qteb qpa qpae qpar qpau qpab qsu qdp qdpe qdpr qdpu qdpb qpr qpro qprf qprs qprb qprn qprt qbe qci qrd qrs qrsr ua qse qct qre qreb qpst qkpt qfil qbp qbk dv t tb w0 w1 w2 w3 w4 su d0 d1 d2 d3 d4 pi po pf ps pb pn pt ba ca cal da ea eal rar ral cb cbl rev rb fl xb xc xcl xd xe xel xr xrl yb yc ycl yd ye yel yr yrl) H → va_D (inW (wDb g qdb qte qteb qpa qpae qpar qpau qpab qsu qdp qdpe qdpr qdpu qdpb qpr qpro qprf qprs qprb qprn qprt qbe qci qrd qrs qrsr ua qse qct qre qreb qpst qkpt qfil qbp qbk dv t tb w0 w1 w2 w3 w4 su d0 d1 d2 d3 d4 pi po pf ps pb pn pt ba ca cal da ea eal rar ral cb cbl rev rb fl xb xc xcl xd xe xel xr xrl yb yc ycl yd ye yel yr yrl)) (wDb g qdb qte qteb qpa qpae qpar qpau qpab qsu qdp qdpe qdpr qdpu qdpb qpr qpro qprf qprs qprb qprn qprt qbe qci qrd qrs qrsr ua qse qct qre qreb qpst qkpt qfil qbp qbk dv t tb w0 w1 w2 w3 w4 su d0 d1 d2 d3 d4 pi po pf ps pb pn pt ba ca cal da ea eal rar ral cb cbl rev rb fl xb xc xcl xd xe xel xr xrl yb yc ycl yd ye yel yr yrl) → va_S (inW (wDb g qdb qte qteb qpa qpae qpar qpau qpab qsu qdp qdpe qdpr qdpu qdpb qpr qpro qprf qprs qprb qprn qprt qbe qci qrd qrs qrsr ua qse qct qre qreb qpst qkpt qfil qbp qbk dv t tb w0 w1 w2 w3 w4 su d0 d1 d2 d3 d4 pi po pf ps pb pn pt ba ca cal da ea eal rar ral cb cbl rev rb fl xb xc xcl xd xe xel xr xrl yb yc ycl yd ye yel yr yrl)) s.heap H locs → lv_has ls 5 [(1, .int p1), (3, .ref qci)] → W p l e rm_Db_part s m args below meth c H locs 0 0 (MQ below (CI0 g (wDb g qdb qte qteb qpa qpae qpar qpau qpab qsu qdp qdpe qdpr qdpu qdpb qpr qpro qprf qprs qprb qprn qprt qbe qci qrd qrs qrsr ua qse qct qre qreb qpst qkpt qfil qbp qbk dv t tb w0 w1 w2 w3 w4 su d0 d1 d2 d3 d4 pi po pf ps pb pn pt ba ca cal da ea eal rar ral cb cbl rev rb fl xb xc xcl xd xe xel xr xrl yb yc ycl yd ye yel yr yrl) z) args s 0 0 (inW (wDb g qdb qte qteb qpa qpae qpar qpau qpab qsu qdp qdpe qdpr qdpu qdpb qpr qpro qprf qprs qprb qprn qprt qbe qci qrd qrs qrsr ua qse qct qre qreb qpst qkpt qfil qbp qbk dv t tb w0 w1 w2 w3 w4 su d0 d1 d2 d3 d4 pi po pf ps pb pn pt ba ca cal da ea eal rar ral cb cbl rev rb fl xb xc xcl xd xe xel xr xrl yb yc ycl yd ye yel yr yrl))) (F0 m 129 ls [])
def HL_Db_part_95 (p : Program) (l : Launch) (e : Env) (s : State) (m : MethodId) (args : Array Value) (below : List Frame) (meth : Method) (c : Code) (g : GX) (qdb : Nat) (qte : Nat) (qteb : Nat) (qpa : Nat) (qpae : Nat) (qpar : Nat) (qpau : Nat) (qpab : Nat) (qsu : Nat) (qdp : Nat) (qdpe : Nat) (qdpr : Nat) (qdpu : Nat) (qdpb : Nat) (qpr : Nat) (qpro : Nat) (qprf : Nat) (qprs : Nat) (qprb : Nat) (qprn : Nat) (qprt : Nat) (qbe : Nat) (qci : Nat) (qrd : Nat) (qrs : Nat) (qrsr : Nat) (ua : Nat → Nat) (qse : Nat) (qct : Nat) (qre : Nat) (qreb : Nat) (qpst : Nat) (qkpt : Nat) (qfil : Nat) (qbp : Nat → Nat → Nat) (qbk : Nat → Nat → Nat) (dv : IV) (t : IV) (tb : IV) (w0 : IV) (w1 : IV) (w2 : IV) (w3 : IV) (w4 : IV) (su : IV) (d0 : IV) (d1 : IV) (d2 : IV) (d3 : IV) (d4 : IV) (pi : IV) (po : IV) (pf : IV) (ps : IV) (pb : IV) (pn : IV) (pt : IV) (ba : IV) (ca : IV) (cal : LV) (da : IV) (ea : IV) (eal : LV) (rar : NI) (ral : NL) (cb : IV) (cbl : LV) (rev : IV) (rb : IV) (fl : IV) (xb : NI) (xc : NI) (xcl : NL) (xd : NI) (xe : NI) (xel : NL) (xr : NNI) (xrl : NNL) (yb : NI) (yc : NI) (ycl : NL) (yd : NI) (ye : NI) (yel : NL) (yr : NNI) (yrl : NNL) (p1 : Int32) (sp : Int32) (ok : Prop) : Prop := ∀ (_ : Unit), ok → ∀ z : Int32, z = sp → ∀ (H : Heap) (locs : List Loc) (ls : Array Slot), va_P g.1 vwCl (wDb g qdb qte qteb qpa qpae qpar qpau qpab qsu qdp qdpe qdpr qdpu qdpb qpr qpro qprf qprs qprb qprn qprt qbe qci qrd qrs qrsr ua qse qct qre qreb qpst qkpt qfil qbp qbk dv t tb w0 w1 w2 w3 w4 su d0 d1 d2 d3 d4 pi po pf ps pb pn pt ba ca cal da ea eal rar ral cb cbl rev rb fl xb xc xcl xd xe xel xr xrl yb yc ycl yd ye yel yr yrl) H → va_D (inW (wDb g qdb qte qteb qpa qpae qpar qpau qpab qsu qdp qdpe qdpr qdpu qdpb qpr qpro qprf qprs qprb qprn qprt qbe qci qrd qrs qrsr ua qse qct qre qreb qpst qkpt qfil qbp qbk dv t tb w0 w1 w2 w3 w4 su d0 d1 d2 d3 d4 pi po pf ps pb pn pt ba ca cal da ea eal rar ral cb cbl rev rb fl xb xc xcl xd xe xel xr xrl yb yc ycl yd ye yel yr yrl)) (wDb g qdb qte qteb qpa qpae qpar qpau qpab qsu qdp qdpe qdpr qdpu qdpb qpr qpro qprf qprs qprb qprn qprt qbe qci qrd qrs qrsr ua qse qct qre qreb qpst qkpt qfil qbp qbk dv t tb w0 w1 w2 w3 w4 su d0 d1 d2 d3 d4 pi po pf ps pb pn pt ba ca cal da ea eal rar ral cb cbl rev rb fl xb xc xcl xd xe xel xr xrl yb yc ycl yd ye yel yr yrl) → va_S (inW (wDb g qdb qte qteb qpa qpae qpar qpau qpab qsu qdp qdpe qdpr qdpu qdpb qpr qpro qprf qprs qprb qprn qprt qbe qci qrd qrs qrsr ua qse qct qre qreb qpst qkpt qfil qbp qbk dv t tb w0 w1 w2 w3 w4 su d0 d1 d2 d3 d4 pi po pf ps pb pn pt ba ca cal da ea eal rar ral cb cbl rev rb fl xb xc xcl xd xe xel xr xrl yb yc ycl yd ye yel yr yrl)) s.heap H locs → lv_has ls 5 [(1, .int p1), (3, .ref qci)] → W p l e rm_Db_part s m args below meth c H locs 0 0 (MQ below (CI0 g (wDb g qdb qte qteb qpa qpae qpar qpau qpab qsu qdp qdpe qdpr qdpu qdpb qpr qpro qprf qprs qprb qprn qprt qbe qci qrd qrs qrsr ua qse qct qre qreb qpst qkpt qfil qbp qbk dv t tb w0 w1 w2 w3 w4 su d0 d1 d2 d3 d4 pi po pf ps pb pn pt ba ca cal da ea eal rar ral cb cbl rev rb fl xb xc xcl xd xe xel xr xrl yb yc ycl yd ye yel yr yrl) z) args s 0 0 (inW (wDb g qdb qte qteb qpa qpae qpar qpau qpab qsu qdp qdpe qdpr qdpu qdpb qpr qpro qprf qprs qprb qprn qprt qbe qci qrd qrs qrsr ua qse qct qre qreb qpst qkpt qfil qbp qbk dv t tb w0 w1 w2 w3 w4 su d0 d1 d2 d3 d4 pi po pf ps pb pn pt ba ca cal da ea eal rar ral cb cbl rev rb fl xb xc xcl xd xe xel xr xrl yb yc ycl yd ye yel yr yrl))) (F0 m 95 ls [])
def HL_Db_part_76 (p : Program) (l : Launch) (e : Env) (s : State) (m : MethodId) (args : Array Value) (below : List Frame) (meth : Method) (c : Code) (g : GX) (qdb : Nat) (qte : Nat) (qteb : Nat) (qpa : Nat) (qpae : Nat) (qpar : Nat) (qpau : Nat) (qpab : Nat) (qsu : Nat) (qdp : Nat) (qdpe : Nat) (qdpr : Nat) (qdpu : Nat) (qdpb : Nat) (qpr : Nat) (qpro : Nat) (qprf : Nat) (qprs : Nat) (qprb : Nat) (qprn : Nat) (qprt : Nat) (qbe : Nat) (qci : Nat) (qrd : Nat) (qrs : Nat) (qrsr : Nat) (ua : Nat → Nat) (qse : Nat) (qct : Nat) (qre : Nat) (qreb : Nat) (qpst : Nat) (qkpt : Nat) (qfil : Nat) (qbp : Nat → Nat → Nat) (qbk : Nat → Nat → Nat) (dv : IV) (t : IV) (tb : IV) (w0 : IV) (w1 : IV) (w2 : IV) (w3 : IV) (w4 : IV) (su : IV) (d0 : IV) (d1 : IV) (d2 : IV) (d3 : IV) (d4 : IV) (pi : IV) (po : IV) (pf : IV) (ps : IV) (pb : IV) (pn : IV) (pt : IV) (ba : IV) (ca : IV) (cal : LV) (da : IV) (ea : IV) (eal : LV) (rar : NI) (ral : NL) (cb : IV) (cbl : LV) (rev : IV) (rb : IV) (fl : IV) (xb : NI) (xc : NI) (xcl : NL) (xd : NI) (xe : NI) (xel : NL) (xr : NNI) (xrl : NNL) (yb : NI) (yc : NI) (ycl : NL) (yd : NI) (ye : NI) (yel : NL) (yr : NNI) (yrl : NNL) (p1 : Int32) (sp : Int32) (ok : Prop) : Prop := ∀ (_ : Unit), ok → ∀ z : Int32, z = sp → ∀ (H : Heap) (locs : List Loc) (ls : Array Slot), va_P g.1 vwCl (wDb g qdb qte qteb qpa qpae qpar qpau qpab qsu qdp qdpe qdpr qdpu qdpb qpr qpro qprf qprs qprb qprn qprt qbe qci qrd qrs qrsr ua qse qct qre qreb qpst qkpt qfil qbp qbk dv t tb w0 w1 w2 w3 w4 su d0 d1 d2 d3 d4 pi po pf ps pb pn pt ba ca cal da ea eal rar ral cb cbl rev rb fl xb xc xcl xd xe xel xr xrl yb yc ycl yd ye yel yr yrl) H → va_D (inW (wDb g qdb qte qteb qpa qpae qpar qpau qpab qsu qdp qdpe qdpr qdpu qdpb qpr qpro qprf qprs qprb qprn qprt qbe qci qrd qrs qrsr ua qse qct qre qreb qpst qkpt qfil qbp qbk dv t tb w0 w1 w2 w3 w4 su d0 d1 d2 d3 d4 pi po pf ps pb pn pt ba ca cal da ea eal rar ral cb cbl rev rb fl xb xc xcl xd xe xel xr xrl yb yc ycl yd ye yel yr yrl)) (wDb g qdb qte qteb qpa qpae qpar qpau qpab qsu qdp qdpe qdpr qdpu qdpb qpr qpro qprf qprs qprb qprn qprt qbe qci qrd qrs qrsr ua qse qct qre qreb qpst qkpt qfil qbp qbk dv t tb w0 w1 w2 w3 w4 su d0 d1 d2 d3 d4 pi po pf ps pb pn pt ba ca cal da ea eal rar ral cb cbl rev rb fl xb xc xcl xd xe xel xr xrl yb yc ycl yd ye yel yr yrl) → va_S (inW (wDb g qdb qte qteb qpa qpae qpar qpau qpab qsu qdp qdpe qdpr qdpu qdpb qpr qpro qprf qprs qprb qprn qprt qbe qci qrd qrs qrsr ua qse qct qre qreb qpst qkpt qfil qbp qbk dv t tb w0 w1 w2 w3 w4 su d0 d1 d2 d3 d4 pi po pf ps pb pn pt ba ca cal da ea eal rar ral cb cbl rev rb fl xb xc xcl xd xe xel xr xrl yb yc ycl yd ye yel yr yrl)) s.heap H locs → lv_has ls 5 [(0, .ref qdb), (1, .int p1), (3, .ref qci)] → W p l e rm_Db_part s m args below meth c H locs 0 0 (MQ below (CI0 g (wDb g qdb qte qteb qpa qpae qpar qpau qpab qsu qdp qdpe qdpr qdpu qdpb qpr qpro qprf qprs qprb qprn qprt qbe qci qrd qrs qrsr ua qse qct qre qreb qpst qkpt qfil qbp qbk dv t tb w0 w1 w2 w3 w4 su d0 d1 d2 d3 d4 pi po pf ps pb pn pt ba ca cal da ea eal rar ral cb cbl rev rb fl xb xc xcl xd xe xel xr xrl yb yc ycl yd ye yel yr yrl) z) args s 0 0 (inW (wDb g qdb qte qteb qpa qpae qpar qpau qpab qsu qdp qdpe qdpr qdpu qdpb qpr qpro qprf qprs qprb qprn qprt qbe qci qrd qrs qrsr ua qse qct qre qreb qpst qkpt qfil qbp qbk dv t tb w0 w1 w2 w3 w4 su d0 d1 d2 d3 d4 pi po pf ps pb pn pt ba ca cal da ea eal rar ral cb cbl rev rb fl xb xc xcl xd xe xel xr xrl yb yc ycl yd ye yel yr yrl))) (F0 m 76 ls [])
noncomputable def sp_Db_part_76 (p1 : Int32) (w0 : IV) (ca : IV)   : Int32 := if p1 = 0 then (w0 5) else (ca 14)
def ok_Db_part_76 (p1 : Int32) (w0 : IV) (ca : IV)    : Prop := True
set_option maxRecDepth 100000 in
set_option maxHeartbeats 4000000 in
theorem k_Db_part_76 {p : Program} {l : Launch} {e : Env} {s : State} {m : MethodId} {args : Array Value} {below : List Frame} {meth : Method} {c : Code} {g : GX} {qdb : Nat} {qte : Nat} {qteb : Nat} {qpa : Nat} {qpae : Nat} {qpar : Nat} {qpau : Nat} {qpab : Nat} {qsu : Nat} {qdp : Nat} {qdpe : Nat} {qdpr : Nat} {qdpu : Nat} {qdpb : Nat} {qpr : Nat} {qpro : Nat} {qprf : Nat} {qprs : Nat} {qprb : Nat} {qprn : Nat} {qprt : Nat} {qbe : Nat} {qci : Nat} {qrd : Nat} {qrs : Nat} {qrsr : Nat} {ua : Nat → Nat} {qse : Nat} {qct : Nat} {qre : Nat} {qreb : Nat} {qpst : Nat} {qkpt : Nat} {qfil : Nat} {qbp : Nat → Nat → Nat} {qbk : Nat → Nat → Nat} {dv : IV} {t : IV} {tb : IV} {w0 : IV} {w1 : IV} {w2 : IV} {w3 : IV} {w4 : IV} {su : IV} {d0 : IV} {d1 : IV} {d2 : IV} {d3 : IV} {d4 : IV} {pi : IV} {po : IV} {pf : IV} {ps : IV} {pb : IV} {pn : IV} {pt : IV} {ba : IV} {ca : IV} {cal : LV} {da : IV} {ea : IV} {eal : LV} {rar : NI} {ral : NL} {cb : IV} {cbl : LV} {rev : IV} {rb : IV} {fl : IV} {xb : NI} {xc : NI} {xcl : NL} {xd : NI} {xe : NI} {xel : NL} {xr : NNI} {xrl : NNL} {yb : NI} {yc : NI} {ycl : NL} {yd : NI} {ye : NI} {yel : NL} {yr : NNI} {yrl : NNL} {p1 : Int32}  (C : Cx p s m args meth c (inW (wDb g qdb qte qteb qpa qpae qpar qpau qpab qsu qdp qdpe qdpr qdpu qdpb qpr qpro qprf qprs qprb qprn qprt qbe qci qrd qrs qrsr ua qse qct qre qreb qpst qkpt qfil qbp qbk dv t tb w0 w1 w2 w3 w4 su d0 d1 d2 d3 d4 pi po pf ps pb pn pt ba ca cal da ea eal rar ral cb cbl rev rb fl xb xc xcl xd xe xel xr xrl yb yc ycl yd ye yel yr yrl)) g "DecadeBridge" b_Db_part (some .int) 5)  : HL_Db_part_76 p l e s m args below meth c g qdb qte qteb qpa qpae qpar qpau qpab qsu qdp qdpe qdpr qdpu qdpb qpr qpro qprf qprs qprb qprn qprt qbe qci qrd qrs qrsr ua qse qct qre qreb qpst qkpt qfil qbp qbk dv t tb w0 w1 w2 w3 w4 su d0 d1 d2 d3 d4 pi po pf ps pb pn pt ba ca cal da ea eal rar ral cb cbl rev rb fl xb xc xcl xd xe xel xr xrl yb yc ycl yd ye yel yr yrl p1 (sp_Db_part_76 p1 w0 ca ) (ok_Db_part_76 p1 w0 ca  ) := by
  intro _ hok z hz H locs ls hP hD hS hl
  obtain ⟨hx, hb, hr, hml, hown, hlk, hts, hK, hZo, hZ⟩ := id C
  unfold sp_Db_part_76 at hz
  refine lv_iload_n hx hb d_Db_part_76 rfl (lv_at hl 1 rfl) ?_
  refine lv_if_eq (tgt := 87) hx hb d_Db_part_77 (by decide) (fun c9 => ?_) (fun c9 => ?_)
  · have hz := hz.trans (if_pos c9)
    refine lv_aload_n hx hb d_Db_part_87 rfl (lv_at hl 0 rfl) ?_
    refine gf C hP 0 1 fkDb rfl (by decide) rfl qf_Db_19 (gDb_1 _ _ _ _ _ _ _ _ _ _ _) d_Db_part_88 ?_
    refine gf C hP 3 5 fkPa rfl (by decide) rfl qf_Db_248 (gPa_5 _ _ _ _ _) d_Db_part_91 ?_
    exact endI0 C hz hP hS d_Db_part_94
  · have hz := hz.trans (if_neg c9)
    refine lv_aload_n hx hb d_Db_part_80 rfl (lv_at hl 2 rfl) ?_
    refine gf C hP 22 14 fkCi rfl (by decide) rfl qf_Db_245 (gCi_14 _ _ _) d_Db_part_81 ?_
    refine lv_goto (tgt := 94) hx hb d_Db_part_84 (by decide) ?_
    exact endI0 C hz hP hS d_Db_part_94
noncomputable def sp_Db_part_95 (p1 : Int32) (ca : IV)   : Int32 := if p1 = 0 then (ca 15) else (ca 16)
def ok_Db_part_95 (p1 : Int32) (ca : IV)    : Prop := True
set_option maxRecDepth 100000 in
set_option maxHeartbeats 4000000 in
theorem k_Db_part_95 {p : Program} {l : Launch} {e : Env} {s : State} {m : MethodId} {args : Array Value} {below : List Frame} {meth : Method} {c : Code} {g : GX} {qdb : Nat} {qte : Nat} {qteb : Nat} {qpa : Nat} {qpae : Nat} {qpar : Nat} {qpau : Nat} {qpab : Nat} {qsu : Nat} {qdp : Nat} {qdpe : Nat} {qdpr : Nat} {qdpu : Nat} {qdpb : Nat} {qpr : Nat} {qpro : Nat} {qprf : Nat} {qprs : Nat} {qprb : Nat} {qprn : Nat} {qprt : Nat} {qbe : Nat} {qci : Nat} {qrd : Nat} {qrs : Nat} {qrsr : Nat} {ua : Nat → Nat} {qse : Nat} {qct : Nat} {qre : Nat} {qreb : Nat} {qpst : Nat} {qkpt : Nat} {qfil : Nat} {qbp : Nat → Nat → Nat} {qbk : Nat → Nat → Nat} {dv : IV} {t : IV} {tb : IV} {w0 : IV} {w1 : IV} {w2 : IV} {w3 : IV} {w4 : IV} {su : IV} {d0 : IV} {d1 : IV} {d2 : IV} {d3 : IV} {d4 : IV} {pi : IV} {po : IV} {pf : IV} {ps : IV} {pb : IV} {pn : IV} {pt : IV} {ba : IV} {ca : IV} {cal : LV} {da : IV} {ea : IV} {eal : LV} {rar : NI} {ral : NL} {cb : IV} {cbl : LV} {rev : IV} {rb : IV} {fl : IV} {xb : NI} {xc : NI} {xcl : NL} {xd : NI} {xe : NI} {xel : NL} {xr : NNI} {xrl : NNL} {yb : NI} {yc : NI} {ycl : NL} {yd : NI} {ye : NI} {yel : NL} {yr : NNI} {yrl : NNL} {p1 : Int32}  (C : Cx p s m args meth c (inW (wDb g qdb qte qteb qpa qpae qpar qpau qpab qsu qdp qdpe qdpr qdpu qdpb qpr qpro qprf qprs qprb qprn qprt qbe qci qrd qrs qrsr ua qse qct qre qreb qpst qkpt qfil qbp qbk dv t tb w0 w1 w2 w3 w4 su d0 d1 d2 d3 d4 pi po pf ps pb pn pt ba ca cal da ea eal rar ral cb cbl rev rb fl xb xc xcl xd xe xel xr xrl yb yc ycl yd ye yel yr yrl)) g "DecadeBridge" b_Db_part (some .int) 5)  : HL_Db_part_95 p l e s m args below meth c g qdb qte qteb qpa qpae qpar qpau qpab qsu qdp qdpe qdpr qdpu qdpb qpr qpro qprf qprs qprb qprn qprt qbe qci qrd qrs qrsr ua qse qct qre qreb qpst qkpt qfil qbp qbk dv t tb w0 w1 w2 w3 w4 su d0 d1 d2 d3 d4 pi po pf ps pb pn pt ba ca cal da ea eal rar ral cb cbl rev rb fl xb xc xcl xd xe xel xr xrl yb yc ycl yd ye yel yr yrl p1 (sp_Db_part_95 p1 ca ) (ok_Db_part_95 p1 ca  ) := by
  intro _ hok z hz H locs ls hP hD hS hl
  obtain ⟨hx, hb, hr, hml, hown, hlk, hts, hK, hZo, hZ⟩ := id C
  unfold sp_Db_part_95 at hz
  refine lv_iload_n hx hb d_Db_part_95 rfl (lv_at hl 0 rfl) ?_
  refine lv_if_eq (tgt := 106) hx hb d_Db_part_96 (by decide) (fun c8 => ?_) (fun c8 => ?_)
  · have hz := hz.trans (if_pos c8)
    refine lv_aload_n hx hb d_Db_part_106 rfl (lv_at hl 1 rfl) ?_
    refine gf C hP 22 15 fkCi rfl (by decide) rfl qf_Db_254 (gCi_15 _ _ _) d_Db_part_107 ?_
    exact endI0 C hz hP hS d_Db_part_110
  · have hz := hz.trans (if_neg c8)
    refine lv_aload_n hx hb d_Db_part_99 rfl (lv_at hl 1 rfl) ?_
    refine gf C hP 22 16 fkCi rfl (by decide) rfl qf_Db_251 (gCi_16 _ _ _) d_Db_part_100 ?_
    refine lv_goto (tgt := 110) hx hb d_Db_part_103 (by decide) ?_
    exact endI0 C hz hP hS d_Db_part_110
noncomputable def sp_Db_part_129 (p1 : Int32) (ca : IV)   : Int32 := if p1 = 0 then (ca 7) else (ca 8)
def ok_Db_part_129 (p1 : Int32) (ca : IV)    : Prop := True
set_option maxRecDepth 100000 in
set_option maxHeartbeats 4000000 in
theorem k_Db_part_129 {p : Program} {l : Launch} {e : Env} {s : State} {m : MethodId} {args : Array Value} {below : List Frame} {meth : Method} {c : Code} {g : GX} {qdb : Nat} {qte : Nat} {qteb : Nat} {qpa : Nat} {qpae : Nat} {qpar : Nat} {qpau : Nat} {qpab : Nat} {qsu : Nat} {qdp : Nat} {qdpe : Nat} {qdpr : Nat} {qdpu : Nat} {qdpb : Nat} {qpr : Nat} {qpro : Nat} {qprf : Nat} {qprs : Nat} {qprb : Nat} {qprn : Nat} {qprt : Nat} {qbe : Nat} {qci : Nat} {qrd : Nat} {qrs : Nat} {qrsr : Nat} {ua : Nat → Nat} {qse : Nat} {qct : Nat} {qre : Nat} {qreb : Nat} {qpst : Nat} {qkpt : Nat} {qfil : Nat} {qbp : Nat → Nat → Nat} {qbk : Nat → Nat → Nat} {dv : IV} {t : IV} {tb : IV} {w0 : IV} {w1 : IV} {w2 : IV} {w3 : IV} {w4 : IV} {su : IV} {d0 : IV} {d1 : IV} {d2 : IV} {d3 : IV} {d4 : IV} {pi : IV} {po : IV} {pf : IV} {ps : IV} {pb : IV} {pn : IV} {pt : IV} {ba : IV} {ca : IV} {cal : LV} {da : IV} {ea : IV} {eal : LV} {rar : NI} {ral : NL} {cb : IV} {cbl : LV} {rev : IV} {rb : IV} {fl : IV} {xb : NI} {xc : NI} {xcl : NL} {xd : NI} {xe : NI} {xel : NL} {xr : NNI} {xrl : NNL} {yb : NI} {yc : NI} {ycl : NL} {yd : NI} {ye : NI} {yel : NL} {yr : NNI} {yrl : NNL} {p1 : Int32}  (C : Cx p s m args meth c (inW (wDb g qdb qte qteb qpa qpae qpar qpau qpab qsu qdp qdpe qdpr qdpu qdpb qpr qpro qprf qprs qprb qprn qprt qbe qci qrd qrs qrsr ua qse qct qre qreb qpst qkpt qfil qbp qbk dv t tb w0 w1 w2 w3 w4 su d0 d1 d2 d3 d4 pi po pf ps pb pn pt ba ca cal da ea eal rar ral cb cbl rev rb fl xb xc xcl xd xe xel xr xrl yb yc ycl yd ye yel yr yrl)) g "DecadeBridge" b_Db_part (some .int) 5)  : HL_Db_part_129 p l e s m args below meth c g qdb qte qteb qpa qpae qpar qpau qpab qsu qdp qdpe qdpr qdpu qdpb qpr qpro qprf qprs qprb qprn qprt qbe qci qrd qrs qrsr ua qse qct qre qreb qpst qkpt qfil qbp qbk dv t tb w0 w1 w2 w3 w4 su d0 d1 d2 d3 d4 pi po pf ps pb pn pt ba ca cal da ea eal rar ral cb cbl rev rb fl xb xc xcl xd xe xel xr xrl yb yc ycl yd ye yel yr yrl p1 (sp_Db_part_129 p1 ca ) (ok_Db_part_129 p1 ca  ) := by
  intro _ hok z hz H locs ls hP hD hS hl
  obtain ⟨hx, hb, hr, hml, hown, hlk, hts, hK, hZo, hZ⟩ := id C
  unfold sp_Db_part_129 at hz
  refine lv_iload_n hx hb d_Db_part_129 rfl (lv_at hl 0 rfl) ?_
  refine lv_if_eq (tgt := 140) hx hb d_Db_part_130 (by decide) (fun c7 => ?_) (fun c7 => ?_)
  · have hz := hz.trans (if_pos c7)
    refine lv_aload_n hx hb d_Db_part_140 rfl (lv_at hl 1 rfl) ?_
    refine gf C hP 22 7 fkCi rfl (by decide) rfl qf_Db_271 (gCi_7 _ _ _) d_Db_part_141 ?_
    exact endI0 C hz hP hS d_Db_part_144
  · have hz := hz.trans (if_neg c7)
    refine lv_aload_n hx hb d_Db_part_133 rfl (lv_at hl 1 rfl) ?_
    refine gf C hP 22 8 fkCi rfl (by decide) rfl qf_Db_268 (gCi_8 _ _ _) d_Db_part_134 ?_
    refine lv_goto (tgt := 144) hx hb d_Db_part_137 (by decide) ?_
    exact endI0 C hz hP hS d_Db_part_144
noncomputable def sp_Db_part_145 (p1 : Int32) (ca : IV)   : Int32 := if p1 = 0 then (ca 17) else (ca 18)
def ok_Db_part_145 (p1 : Int32) (ca : IV)    : Prop := True
set_option maxRecDepth 100000 in
set_option maxHeartbeats 4000000 in
theorem k_Db_part_145 {p : Program} {l : Launch} {e : Env} {s : State} {m : MethodId} {args : Array Value} {below : List Frame} {meth : Method} {c : Code} {g : GX} {qdb : Nat} {qte : Nat} {qteb : Nat} {qpa : Nat} {qpae : Nat} {qpar : Nat} {qpau : Nat} {qpab : Nat} {qsu : Nat} {qdp : Nat} {qdpe : Nat} {qdpr : Nat} {qdpu : Nat} {qdpb : Nat} {qpr : Nat} {qpro : Nat} {qprf : Nat} {qprs : Nat} {qprb : Nat} {qprn : Nat} {qprt : Nat} {qbe : Nat} {qci : Nat} {qrd : Nat} {qrs : Nat} {qrsr : Nat} {ua : Nat → Nat} {qse : Nat} {qct : Nat} {qre : Nat} {qreb : Nat} {qpst : Nat} {qkpt : Nat} {qfil : Nat} {qbp : Nat → Nat → Nat} {qbk : Nat → Nat → Nat} {dv : IV} {t : IV} {tb : IV} {w0 : IV} {w1 : IV} {w2 : IV} {w3 : IV} {w4 : IV} {su : IV} {d0 : IV} {d1 : IV} {d2 : IV} {d3 : IV} {d4 : IV} {pi : IV} {po : IV} {pf : IV} {ps : IV} {pb : IV} {pn : IV} {pt : IV} {ba : IV} {ca : IV} {cal : LV} {da : IV} {ea : IV} {eal : LV} {rar : NI} {ral : NL} {cb : IV} {cbl : LV} {rev : IV} {rb : IV} {fl : IV} {xb : NI} {xc : NI} {xcl : NL} {xd : NI} {xe : NI} {xel : NL} {xr : NNI} {xrl : NNL} {yb : NI} {yc : NI} {ycl : NL} {yd : NI} {ye : NI} {yel : NL} {yr : NNI} {yrl : NNL} {p1 : Int32}  (C : Cx p s m args meth c (inW (wDb g qdb qte qteb qpa qpae qpar qpau qpab qsu qdp qdpe qdpr qdpu qdpb qpr qpro qprf qprs qprb qprn qprt qbe qci qrd qrs qrsr ua qse qct qre qreb qpst qkpt qfil qbp qbk dv t tb w0 w1 w2 w3 w4 su d0 d1 d2 d3 d4 pi po pf ps pb pn pt ba ca cal da ea eal rar ral cb cbl rev rb fl xb xc xcl xd xe xel xr xrl yb yc ycl yd ye yel yr yrl)) g "DecadeBridge" b_Db_part (some .int) 5)  : HL_Db_part_145 p l e s m args below meth c g qdb qte qteb qpa qpae qpar qpau qpab qsu qdp qdpe qdpr qdpu qdpb qpr qpro qprf qprs qprb qprn qprt qbe qci qrd qrs qrsr ua qse qct qre qreb qpst qkpt qfil qbp qbk dv t tb w0 w1 w2 w3 w4 su d0 d1 d2 d3 d4 pi po pf ps pb pn pt ba ca cal da ea eal rar ral cb cbl rev rb fl xb xc xcl xd xe xel xr xrl yb yc ycl yd ye yel yr yrl p1 (sp_Db_part_145 p1 ca ) (ok_Db_part_145 p1 ca  ) := by
  intro _ hok z hz H locs ls hP hD hS hl
  obtain ⟨hx, hb, hr, hml, hown, hlk, hts, hK, hZo, hZ⟩ := id C
  unfold sp_Db_part_145 at hz
  refine lv_iload_n hx hb d_Db_part_145 rfl (lv_at hl 0 rfl) ?_
  refine lv_if_eq (tgt := 156) hx hb d_Db_part_146 (by decide) (fun c6 => ?_) (fun c6 => ?_)
  · have hz := hz.trans (if_pos c6)
    refine lv_aload_n hx hb d_Db_part_156 rfl (lv_at hl 1 rfl) ?_
    refine gf C hP 22 17 fkCi rfl (by decide) rfl qf_Db_277 (gCi_17 _ _ _) d_Db_part_157 ?_
    exact endI0 C hz hP hS d_Db_part_160
  · have hz := hz.trans (if_neg c6)
    refine lv_aload_n hx hb d_Db_part_149 rfl (lv_at hl 1 rfl) ?_
    refine gf C hP 22 18 fkCi rfl (by decide) rfl qf_Db_274 (gCi_18 _ _ _) d_Db_part_150 ?_
    refine lv_goto (tgt := 160) hx hb d_Db_part_153 (by decide) ?_
    exact endI0 C hz hP hS d_Db_part_160
noncomputable def sp_Db_part (p1 : Int32) (p2 : Int32) (w0 : IV) (w3 : IV) (w4 : IV) (ca : IV) : Int32 := lett (sp_Db_checkRange p2 (0 : Int32) (6 : Int32)) fun (y2 : Unit) => if p1 = 0 then (if p2 = (0 : Int32) then (sp_Db_part_76 p1 w0 ca) else (if p2 = (1 : Int32) then (sp_Db_part_95 p1 ca) else (if p2 = (2 : Int32) then (w3 0) else (if p2 = (3 : Int32) then (w3 1) else (if p2 = (4 : Int32) then (w3 2) else (if p2 = (5 : Int32) then (sp_Db_part_129 p1 ca) else (sp_Db_part_145 p1 ca))))))) else (if p2 = (0 : Int32) then (sp_Db_part_76 p1 w0 ca) else (if p2 = (1 : Int32) then (sp_Db_part_95 p1 ca) else (if p2 = (2 : Int32) then (w4 0) else (if p2 = (3 : Int32) then (w4 1) else (if p2 = (4 : Int32) then (w4 2) else (if p2 = (5 : Int32) then (sp_Db_part_129 p1 ca) else (sp_Db_part_145 p1 ca)))))))
def ok_Db_part (p1 : Int32) (p2 : Int32) : Prop := (ok_Db_checkRange p2 (0 : Int32) (6 : Int32)) ∧ True
set_option maxRecDepth 100000 in
set_option maxHeartbeats 4000000 in
theorem c_Db_part (l : Launch) (g : GX) (qdb : Nat) (qte : Nat) (qteb : Nat) (qpa : Nat) (qpae : Nat) (qpar : Nat) (qpau : Nat) (qpab : Nat) (qsu : Nat) (qdp : Nat) (qdpe : Nat) (qdpr : Nat) (qdpu : Nat) (qdpb : Nat) (qpr : Nat) (qpro : Nat) (qprf : Nat) (qprs : Nat) (qprb : Nat) (qprn : Nat) (qprt : Nat) (qbe : Nat) (qci : Nat) (qrd : Nat) (qrs : Nat) (qrsr : Nat) (ua : Nat → Nat) (qse : Nat) (qct : Nat) (qre : Nat) (qreb : Nat) (qpst : Nat) (qkpt : Nat) (qfil : Nat) (qbp : Nat → Nat → Nat) (qbk : Nat → Nat → Nat) (dv : IV) (t : IV) (tb : IV) (w0 : IV) (w1 : IV) (w2 : IV) (w3 : IV) (w4 : IV) (su : IV) (d0 : IV) (d1 : IV) (d2 : IV) (d3 : IV) (d4 : IV) (pi : IV) (po : IV) (pf : IV) (ps : IV) (pb : IV) (pn : IV) (pt : IV) (ba : IV) (ca : IV) (cal : LV) (da : IV) (ea : IV) (eal : LV) (rar : NI) (ral : NL) (cb : IV) (cbl : LV) (rev : IV) (rb : IV) (fl : IV) (xb : NI) (xc : NI) (xcl : NL) (xd : NI) (xe : NI) (xel : NL) (xr : NNI) (xrl : NNL) (yb : NI) (yc : NI) (ycl : NL) (yd : NI) (ye : NI) (yel : NL) (yr : NNI) (yrl : NNL) (p1 : Int32) (p2 : Int32) (hok : ok_Db_part p1 p2) : Met l y_Db_part (wsY y_Db_part b_Db_part 5 (some .int)) rm_Db_part (CP g [.ref qdb, .int p1, .int p2] (wDb g qdb qte qteb qpa qpae qpar qpau qpab qsu qdp qdpe qdpr qdpu qdpb qpr qpro qprf qprs qprb qprn qprt qbe qci qrd qrs qrsr ua qse qct qre qreb qpst qkpt qfil qbp qbk dv t tb w0 w1 w2 w3 w4 su d0 d1 d2 d3 d4 pi po pf ps pb pn pt ba ca cal da ea eal rar ral cb cbl rev rb fl xb xc xcl xd xe xel xr xrl yb yc ycl yd ye yel yr yrl)) (CI0 g (wDb g qdb qte qteb qpa qpae qpar qpau qpab qsu qdp qdpe qdpr qdpu qdpb qpr qpro qprf qprs qprb qprn qprt qbe qci qrd qrs qrsr ua qse qct qre qreb qpst qkpt qfil qbp qbk dv t tb w0 w1 w2 w3 w4 su d0 d1 d2 d3 d4 pi po pf ps pb pn pt ba ca cal da ea eal rar ral cb cbl rev rb fl xb xc xcl xd xe xel xr xrl yb yc ycl yd ye yel yr yrl) (sp_Db_part p1 p2 w0 w3 w4 ca)) 0 0 (inW (wDb g qdb qte qteb qpa qpae qpar qpau qpab qsu qdp qdpe qdpr qdpu qdpb qpr qpro qprf qprs qprb qprn qprt qbe qci qrd qrs qrsr ua qse qct qre qreb qpst qkpt qfil qbp qbk dv t tb w0 w1 w2 w3 w4 su d0 d1 d2 d3 d4 pi po pf ps pb pn pt ba ca cal da ea eal rar ral cb cbl rev rb fl xb xc xcl xd xe xel xr xrl yb yc ycl yd ye yel yr yrl)) := by
  refine Met.ofW (cc := b_Db_part) (maxL := 5) (ret := (some .int)) pn_Db rfl ?_
  intro p e s m args below meth c s₁ B hml hv
  obtain ⟨rfl, C, hP, hD, hS⟩ := enter "DecadeBridge" rfl B hml hv
  obtain ⟨hx, hb, hr, hml, hown, hlk, hts, hK, hZo, hZ⟩ := id C
  refine entryW (lv := [(0, .ref qdb), (1, .int p1), (2, .int p2)]) rfl (Nat.le_of_ble_eq_true rfl) (fun ls hl => ?_)
  obtain ⟨z, hz⟩ : ∃ z, z = sp_Db_part p1 p2 w0 w3 w4 ca := ⟨_, rfl⟩
  rw [← hz]
  unfold sp_Db_part at hz
  unfold ok_Db_part at hok
  refine lv_iload_n hx hb d_Db_part_0 rfl (lv_at hl 2 rfl) ?_
  refine lv_iconst (v := 0) hx hb d_Db_part_1 (by decide) ?_
  refine lv_bipush (v := 6) hx hb d_Db_part_2 (by decide) ?_
  have hs1 := hok.1
  have hok := hok.2
  have hB : SubW g (inW (wDb g qdb qte qteb qpa qpae qpar qpau qpab qsu qdp qdpe qdpr qdpu qdpb qpr qpro qprf qprs qprb qprn qprt qbe qci qrd qrs qrsr ua qse qct qre qreb qpst qkpt qfil qbp qbk dv t tb w0 w1 w2 w3 w4 su d0 d1 d2 d3 d4 pi po pf ps pb pn pt ba ca cal da ea eal rar ral cb cbl rev rb fl xb xc xcl xd xe xel xr xrl yb yc ycl yd ye yel yr yrl)) s (wDb g qdb qte qteb qpa qpae qpar qpau qpab qsu qdp qdpe qdpr qdpu qdpb qpr qpro qprf qprs qprb qprn qprt qbe qci qrd qrs qrsr ua qse qct qre qreb qpst qkpt qfil qbp qbk dv t tb w0 w1 w2 w3 w4 su d0 d1 d2 d3 d4 pi po pf ps pb pn pt ba ca cal da ea eal rar ral cb cbl rev rb fl xb xc xcl xd xe xel xr xrl yb yc ycl yd ye yel yr yrl) (wNil g ) [] _ _ := ⟨rfl, rfl, hP, hD, hS⟩
  refine goV0 hB (run_s C mf_Db_checkRange qm_Db_131 (c_Db_checkRange l g p2 (0 : Int32) (6 : Int32) hs1) rfl rfl ⟨Nat.le_of_ble_eq_true rfl, Nat.le_of_ble_eq_true rfl⟩ ⟨Nat.le_of_ble_eq_true rfl, Nat.le_of_ble_eq_true rfl⟩ hB hl rfl rfl (Nat.le_of_ble_eq_true rfl) d_Db_part_4) (fun y2 ey2 H locs hP hS => ?_)
  have hz := lett_z hz ey2
  refine lv_aload_n hx hb d_Db_part_7 rfl (lv_at hl 0 rfl) ?_
  refine gf C hP 0 4 fkDb rfl (by decide) rfl qf_Db_44 (gDb_4 _ _ _ _ _ _ _ _ _ _ _) d_Db_part_8 ?_
  refine gf C hP 21 0 fkBe rfl (by decide) rfl qf_Db_141 (gBe_0 _ _ _ _ _) d_Db_part_11 ?_
  refine lv_astore_n (lv' := [(3, .ref qci), (0, .ref qdb), (1, .int p1), (2, .int p2)]) hx hb d_Db_part_14 rfl hl (by decide) rfl (fun ls hl => ?_)
  refine lv_iload_n hx hb d_Db_part_15 rfl (lv_at hl 2 rfl) ?_
  refine lv_if_eq (tgt := 29) hx hb d_Db_part_16 (by decide) (fun c3 => ?_) (fun c3 => ?_)
  · have hz := hz.trans (if_pos c3)
    refine lv_aload_n hx hb d_Db_part_29 rfl (lv_at hl 1 rfl) ?_
    refine gf C hP 0 1 fkDb rfl (by decide) rfl qf_Db_19 (gDb_1 _ _ _ _ _ _ _ _ _ _ _) d_Db_part_30 ?_
    refine gf C hP 3 6 fkPa rfl (by decide) rfl qf_Db_242 (gPa_6 _ _ _ _ _) d_Db_part_33 ?_
    refine lv_astore (lv' := [(4, .ref qpau), (3, .ref qci), (0, .ref qdb), (1, .int p1), (2, .int p2)]) hx hb d_Db_part_36 hl (by decide) rfl (fun ls hl => ?_)
    refine lv_iload_n hx hb d_Db_part_38 rfl (lv_at hl 4 rfl) ?_
    by_cases c4_0 : p2 = (0 : Int32)
    · have hz := hz.trans (if_pos c4_0)
      refine lv_tableIn (x := p2) (off := 37) (tgt := 76) hx hb d_Db_part_39 (by rw [c4_0]; decide) (by rw [c4_0]; decide) (by rw [c4_0]; rfl) (by decide) ?_
      exact k_Db_part_76 C () trivial _ hz _ _ ls hP hD hS (lv_sub hl [2, 3, 1] rfl)
    have hz := hz.trans (if_neg c4_0)
    by_cases c4_1 : p2 = (1 : Int32)
    · have hz := hz.trans (if_pos c4_1)
      refine lv_tableIn (x := p2) (off := 56) (tgt := 95) hx hb d_Db_part_39 (by rw [c4_1]; decide) (by rw [c4_1]; decide) (by rw [c4_1]; rfl) (by decide) ?_
      exact k_Db_part_95 C () trivial _ hz _ _ ls hP hD hS (lv_sub hl [3, 1] rfl)
    have hz := hz.trans (if_neg c4_1)
    by_cases c4_2 : p2 = (2 : Int32)
    · have hz := hz.trans (if_pos c4_2)
      refine lv_tableIn (x := p2) (off := 72) (tgt := 111) hx hb d_Db_part_39 (by rw [c4_2]; decide) (by rw [c4_2]; decide) (by rw [c4_2]; rfl) (by decide) ?_
      refine lv_aload hx hb d_Db_part_111 (lv_at hl 0 rfl) ?_
      refine gf C hP 6 0 fkHe rfl (by decide) rfl qf_Db_257 (gHe_0 _) d_Db_part_113 ?_
      exact endI0 C hz hP hS d_Db_part_116
    have hz := hz.trans (if_neg c4_2)
    by_cases c4_3 : p2 = (3 : Int32)
    · have hz := hz.trans (if_pos c4_3)
      refine lv_tableIn (x := p2) (off := 78) (tgt := 117) hx hb d_Db_part_39 (by rw [c4_3]; decide) (by rw [c4_3]; decide) (by rw [c4_3]; rfl) (by decide) ?_
      refine lv_aload hx hb d_Db_part_117 (lv_at hl 0 rfl) ?_
      refine gf C hP 6 1 fkHe rfl (by decide) rfl qf_Db_262 (gHe_1 _) d_Db_part_119 ?_
      exact endI0 C hz hP hS d_Db_part_122
    have hz := hz.trans (if_neg c4_3)
    by_cases c4_4 : p2 = (4 : Int32)
    · have hz := hz.trans (if_pos c4_4)
      refine lv_tableIn (x := p2) (off := 84) (tgt := 123) hx hb d_Db_part_39 (by rw [c4_4]; decide) (by rw [c4_4]; decide) (by rw [c4_4]; rfl) (by decide) ?_
      refine lv_aload hx hb d_Db_part_123 (lv_at hl 0 rfl) ?_
      refine gf C hP 6 2 fkHe rfl (by decide) rfl qf_Db_265 (gHe_2 _) d_Db_part_125 ?_
      exact endI0 C hz hP hS d_Db_part_128
    have hz := hz.trans (if_neg c4_4)
    by_cases c4_5 : p2 = (5 : Int32)
    · have hz := hz.trans (if_pos c4_5)
      refine lv_tableIn (x := p2) (off := 90) (tgt := 129) hx hb d_Db_part_39 (by rw [c4_5]; decide) (by rw [c4_5]; decide) (by rw [c4_5]; rfl) (by decide) ?_
      exact k_Db_part_129 C () trivial _ hz _ _ ls hP hD hS (lv_sub hl [3, 1] rfl)
    have hz := hz.trans (if_neg c4_5)
    refine lv_tableOut (x := p2) (tgt := 145) hx hb d_Db_part_39 (tswL (x := p2) (lo := 0) (hi := 5) 6 [(0 : Int32), (1 : Int32), (2 : Int32), (3 : Int32), (4 : Int32), (5 : Int32)] (by decide) (by decide) (List.forall_mem_cons.mpr ⟨c4_0, List.forall_mem_cons.mpr ⟨c4_1, List.forall_mem_cons.mpr ⟨c4_2, List.forall_mem_cons.mpr ⟨c4_3, List.forall_mem_cons.mpr ⟨c4_4, List.forall_mem_cons.mpr ⟨c4_5, fun _ h => absurd h List.not_mem_nil⟩⟩⟩⟩⟩⟩)) (by decide) ?_
    exact k_Db_part_145 C () trivial _ hz _ _ ls hP hD hS (lv_sub hl [3, 1] rfl)
  · have hz := hz.trans (if_neg c3)
    refine lv_aload_n hx hb d_Db_part_19 rfl (lv_at hl 1 rfl) ?_
    refine gf C hP 0 1 fkDb rfl (by decide) rfl qf_Db_19 (gDb_1 _ _ _ _ _ _ _ _ _ _ _) d_Db_part_20 ?_
    refine gf C hP 3 7 fkPa rfl (by decide) rfl qf_Db_238 (gPa_7 _ _ _ _ _) d_Db_part_23 ?_
    refine lv_goto (tgt := 36) hx hb d_Db_part_26 (by decide) ?_
    refine lv_astore (lv' := [(4, .ref qpab), (3, .ref qci), (0, .ref qdb), (1, .int p1), (2, .int p2)]) hx hb d_Db_part_36 hl (by decide) rfl (fun ls hl => ?_)
    refine lv_iload_n hx hb d_Db_part_38 rfl (lv_at hl 4 rfl) ?_
    by_cases c5_0 : p2 = (0 : Int32)
    · have hz := hz.trans (if_pos c5_0)
      refine lv_tableIn (x := p2) (off := 37) (tgt := 76) hx hb d_Db_part_39 (by rw [c5_0]; decide) (by rw [c5_0]; decide) (by rw [c5_0]; rfl) (by decide) ?_
      exact k_Db_part_76 C () trivial _ hz _ _ ls hP hD hS (lv_sub hl [2, 3, 1] rfl)
    have hz := hz.trans (if_neg c5_0)
    by_cases c5_1 : p2 = (1 : Int32)
    · have hz := hz.trans (if_pos c5_1)
      refine lv_tableIn (x := p2) (off := 56) (tgt := 95) hx hb d_Db_part_39 (by rw [c5_1]; decide) (by rw [c5_1]; decide) (by rw [c5_1]; rfl) (by decide) ?_
      exact k_Db_part_95 C () trivial _ hz _ _ ls hP hD hS (lv_sub hl [3, 1] rfl)
    have hz := hz.trans (if_neg c5_1)
    by_cases c5_2 : p2 = (2 : Int32)
    · have hz := hz.trans (if_pos c5_2)
      refine lv_tableIn (x := p2) (off := 72) (tgt := 111) hx hb d_Db_part_39 (by rw [c5_2]; decide) (by rw [c5_2]; decide) (by rw [c5_2]; rfl) (by decide) ?_
      refine lv_aload hx hb d_Db_part_111 (lv_at hl 0 rfl) ?_
      refine gf C hP 7 0 fkHe rfl (by decide) rfl qf_Db_257 (gHe_0 _) d_Db_part_113 ?_
      exact endI0 C hz hP hS d_Db_part_116
    have hz := hz.trans (if_neg c5_2)
    by_cases c5_3 : p2 = (3 : Int32)
    · have hz := hz.trans (if_pos c5_3)
      refine lv_tableIn (x := p2) (off := 78) (tgt := 117) hx hb d_Db_part_39 (by rw [c5_3]; decide) (by rw [c5_3]; decide) (by rw [c5_3]; rfl) (by decide) ?_
      refine lv_aload hx hb d_Db_part_117 (lv_at hl 0 rfl) ?_
      refine gf C hP 7 1 fkHe rfl (by decide) rfl qf_Db_262 (gHe_1 _) d_Db_part_119 ?_
      exact endI0 C hz hP hS d_Db_part_122
    have hz := hz.trans (if_neg c5_3)
    by_cases c5_4 : p2 = (4 : Int32)
    · have hz := hz.trans (if_pos c5_4)
      refine lv_tableIn (x := p2) (off := 84) (tgt := 123) hx hb d_Db_part_39 (by rw [c5_4]; decide) (by rw [c5_4]; decide) (by rw [c5_4]; rfl) (by decide) ?_
      refine lv_aload hx hb d_Db_part_123 (lv_at hl 0 rfl) ?_
      refine gf C hP 7 2 fkHe rfl (by decide) rfl qf_Db_265 (gHe_2 _) d_Db_part_125 ?_
      exact endI0 C hz hP hS d_Db_part_128
    have hz := hz.trans (if_neg c5_4)
    by_cases c5_5 : p2 = (5 : Int32)
    · have hz := hz.trans (if_pos c5_5)
      refine lv_tableIn (x := p2) (off := 90) (tgt := 129) hx hb d_Db_part_39 (by rw [c5_5]; decide) (by rw [c5_5]; decide) (by rw [c5_5]; rfl) (by decide) ?_
      exact k_Db_part_129 C () trivial _ hz _ _ ls hP hD hS (lv_sub hl [3, 1] rfl)
    have hz := hz.trans (if_neg c5_5)
    refine lv_tableOut (x := p2) (tgt := 145) hx hb d_Db_part_39 (tswL (x := p2) (lo := 0) (hi := 5) 6 [(0 : Int32), (1 : Int32), (2 : Int32), (3 : Int32), (4 : Int32), (5 : Int32)] (by decide) (by decide) (List.forall_mem_cons.mpr ⟨c5_0, List.forall_mem_cons.mpr ⟨c5_1, List.forall_mem_cons.mpr ⟨c5_2, List.forall_mem_cons.mpr ⟨c5_3, List.forall_mem_cons.mpr ⟨c5_4, List.forall_mem_cons.mpr ⟨c5_5, fun _ h => absurd h List.not_mem_nil⟩⟩⟩⟩⟩⟩)) (by decide) ?_
    exact k_Db_part_145 C () trivial _ hz _ _ ls hP hD hS (lv_sub hl [3, 1] rfl)
