section TZD2
section
variable {l : Launch} {g : GX} {T : Int} {q mo qo : Nat} {X M : va_W} {p1 p2 p3 p4 p5 : Int32} {fo : LV} {fd : Nat → UInt64}
variable {qte qteb qpa qpae qpar qpau qpab qsu qdp qdpe qdpr qdpu qdpb qpr qpro qprf qprs qprb qprn qprt qbe qci qrd qrs qrsr : Nat} {ua : Nat → Nat} {qse qct qre qreb qpst qkpt qfil : Nat} {qbp qbk : Nat → Nat → Nat} {dv t tb w0 w1 w2 w3 w4 su d0 d1 d2 d3 d4 pi po pf ps pb pn pt ba ca : IV} {cal : LV} {da ea : IV} {eal : LV} {rar : NI} {ral : NL} {cb : IV} {cbl : LV} {rev rb fl : IV} {xb xc : NI} {xcl : NL} {xd xe : NI} {xel : NL} {xr : NNI} {xrl : NNL} {yb yc : NI} {ycl : NL} {yd ye : NI} {yel : NL} {yr : NNI} {yrl : NNL} {a : Nat → Nat} {o : IV} {now dr pa sa : LV} {iS bu tq rT wT sK sA sB sE oq bS bE bL rp : IV}
set_option maxRecDepth 100000 in
set_option maxHeartbeats 4000000 in
theorem sv_reading (hT : 0 ≤ T ∧ T ≤ 200000000) (h : Inv T dv t tb w0 w1 w2 w3 w4 ba ca cal da ea rar ral rev rb fl xb xc xcl xd xe xr xrl yb yc ycl yd ye yr yrl o now pa sa iS bu rp) : StepI l g (T + 9000) q mo (wDb g q qte qteb qpa qpae qpar qpau qpab qsu qdp qdpe qdpr qdpu qdpb qpr qpro qprf qprs qprb qprn qprt qbe qci qrd qrs qrsr ua qse qct qre qreb qpst qkpt qfil qbp qbk dv t tb w0 w1 w2 w3 w4 su d0 d1 d2 d3 d4 pi po pf ps pb pn pt ba ca cal da ea eal rar ral cb cbl rev rb fl xb xc xcl xd xe xel xr xrl yb yc ycl yd ye yel yr yrl) (wMo g mo a o now dr pa sa iS bu tq rT wT sK sA sB sE oq bS bE bL rp) y_Db_reading b_Db_reading 2 rm_Db_reading y_Mo_reading b_Mo_reading 2 rm_Mo_reading [.int p1] := by
  obtain ⟨ht, hp, hr, hb, hpa, hsa, hre⟩ := id h
  unfold StepI
  obtain ⟨m1, k⟩ := reading_Q (p := p1) (o := o) hr hb.1
  have cD := c_Db_reading l g q qte qteb qpa qpae qpar qpau qpab qsu qdp qdpe qdpr qdpu qdpb qpr qpro qprf qprs qprb qprn qprt qbe qci qrd qrs qrsr ua qse qct qre qreb qpst qkpt qfil qbp qbk dv t tb w0 w1 w2 w3 w4 su d0 d1 d2 d3 d4 pi po pf ps pb pn pt ba ca cal da ea eal rar ral cb cbl rev rb fl xb xc xcl xd xe xel xr xrl yb yc ycl yd ye yel yr yrl p1
  have cM := c_Mo_reading l g mo a o now dr pa sa iS bu tq rT wT sK sA sB sE oq bS bE bL rp p1 m1
  rw [k] at cM
  exact ⟨sp_Db_reading p1 ba da, wDb g q qte qteb qpa qpae qpar qpau qpab qsu qdp qdpe qdpr qdpu qdpb qpr qpro qprf qprs qprb qprn qprt qbe qci qrd qrs qrsr ua qse qct qre qreb qpst qkpt qfil qbp qbk dv t tb w0 w1 w2 w3 w4 su d0 d1 d2 d3 d4 pi po pf ps pb pn pt ba ca cal da ea eal rar ral cb cbl rev rb fl xb xc xcl xd xe xel xr xrl yb yc ycl yd ye yel yr yrl, wMo g mo a (upd o 6 0) now dr pa sa iS bu tq rT wT sK sA sB sE oq bS bE bL rp, amet cD rfl rfl, amet cM rfl rfl, hadD, hadM, pr_mk (inv_T (inv_6 h 0) (by omega))⟩
theorem s_reading (hT : 0 ≤ T ∧ T ≤ 200000000) (hR : PRel g T q mo X M) : StepI l g (T + 9000) q mo X M y_Db_reading b_Db_reading 2 rm_Db_reading y_Mo_reading b_Mo_reading 2 rm_Mo_reading [.int p1] := by
  obtain ⟨aN, ua, qbp, qbk, vI, vL, vN, vM, vP, vQ, a, mI, mL, rfl, rfl, h⟩ := hR
  exact sv_reading hT h
set_option maxRecDepth 100000 in
set_option maxHeartbeats 4000000 in
theorem sv_meanReading (hT : 0 ≤ T ∧ T ≤ 200000000) (h : Inv T dv t tb w0 w1 w2 w3 w4 ba ca cal da ea rar ral rev rb fl xb xc xcl xd xe xr xrl yb yc ycl yd ye yr yrl o now pa sa iS bu rp) : StepD l g (T + 9000) q mo (wDb g q qte qteb qpa qpae qpar qpau qpab qsu qdp qdpe qdpr qdpu qdpb qpr qpro qprf qprs qprb qprn qprt qbe qci qrd qrs qrsr ua qse qct qre qreb qpst qkpt qfil qbp qbk dv t tb w0 w1 w2 w3 w4 su d0 d1 d2 d3 d4 pi po pf ps pb pn pt ba ca cal da ea eal rar ral cb cbl rev rb fl xb xc xcl xd xe xel xr xrl yb yc ycl yd ye yel yr yrl) (wMo g mo a o now dr pa sa iS bu tq rT wT sK sA sB sE oq bS bE bL rp) y_Db_meanReading b_Db_meanReading 1 rm_Db_meanReading y_Mo_meanReading b_Mo_meanReading 4 rm_Mo_meanReading [] := by
  obtain ⟨ht, hp, hr, hb, hpa, hsa, hre⟩ := id h
  unfold StepD
  obtain ⟨m1, m2, k, _⟩ := meanReading_Q (o := o) hr hb.1
  have cD := c_Db_meanReading l g q qte qteb qpa qpae qpar qpau qpab qsu qdp qdpe qdpr qdpu qdpb qpr qpro qprf qprs qprb qprn qprt qbe qci qrd qrs qrsr ua qse qct qre qreb qpst qkpt qfil qbp qbk dv t tb w0 w1 w2 w3 w4 su d0 d1 d2 d3 d4 pi po pf ps pb pn pt ba ca cal da ea eal rar ral cb cbl rev rb fl xb xc xcl xd xe xel xr xrl yb yc ycl yd ye yel yr yrl  m2
  have cM := c_Mo_meanReading l g mo a o now dr pa sa iS bu tq rT wT sK sA sB sE oq bS bE bL rp  m1
  rw [k] at cM
  exact ⟨sp_Db_meanReading ba da, wDb g q qte qteb qpa qpae qpar qpau qpab qsu qdp qdpe qdpr qdpu qdpb qpr qpro qprf qprs qprb qprn qprt qbe qci qrd qrs qrsr ua qse qct qre qreb qpst qkpt qfil qbp qbk dv t tb w0 w1 w2 w3 w4 su d0 d1 d2 d3 d4 pi po pf ps pb pn pt ba ca cal da ea eal rar ral cb cbl rev rb fl xb xc xcl xd xe xel xr xrl yb yc ycl yd ye yel yr yrl, wMo g mo a (upd o 6 0) now dr pa sa iS bu tq rT wT sK sA sB sE oq bS bE bL rp, amet cD rfl rfl, amet cM rfl rfl, hadD, hadM, pr_mk (inv_T (inv_6 h 0) (by omega))⟩
theorem s_meanReading (hT : 0 ≤ T ∧ T ≤ 200000000) (hR : PRel g T q mo X M) : StepD l g (T + 9000) q mo X M y_Db_meanReading b_Db_meanReading 1 rm_Db_meanReading y_Mo_meanReading b_Mo_meanReading 4 rm_Mo_meanReading [] := by
  obtain ⟨aN, ua, qbp, qbk, vI, vL, vN, vM, vP, vQ, a, mI, mL, rfl, rfl, h⟩ := hR
  exact sv_meanReading hT h
set_option maxRecDepth 100000 in
set_option maxHeartbeats 4000000 in
theorem sv_spread (hT : 0 ≤ T ∧ T ≤ 200000000) (h : Inv T dv t tb w0 w1 w2 w3 w4 ba ca cal da ea rar ral rev rb fl xb xc xcl xd xe xr xrl yb yc ycl yd ye yr yrl o now pa sa iS bu rp) : StepF l g (T + 9000) q mo (wDb g q qte qteb qpa qpae qpar qpau qpab qsu qdp qdpe qdpr qdpu qdpb qpr qpro qprf qprs qprb qprn qprt qbe qci qrd qrs qrsr ua qse qct qre qreb qpst qkpt qfil qbp qbk dv t tb w0 w1 w2 w3 w4 su d0 d1 d2 d3 d4 pi po pf ps pb pn pt ba ca cal da ea eal rar ral cb cbl rev rb fl xb xc xcl xd xe xel xr xrl yb yc ycl yd ye yel yr yrl) (wMo g mo a o now dr pa sa iS bu tq rT wT sK sA sB sE oq bS bE bL rp) y_Db_spread b_Db_spread 1 rm_Db_spread y_Mo_spread b_Mo_spread 6 rm_Mo_spread [] := by
  obtain ⟨ht, hp, hr, hb, hpa, hsa, hre⟩ := id h
  unfold StepF
  obtain ⟨m1, m2, k⟩ := spread_Q (o := o) hr hb.1
  have cD := c_Db_spread l g q qte qteb qpa qpae qpar qpau qpab qsu qdp qdpe qdpr qdpu qdpb qpr qpro qprf qprs qprb qprn qprt qbe qci qrd qrs qrsr ua qse qct qre qreb qpst qkpt qfil qbp qbk dv t tb w0 w1 w2 w3 w4 su d0 d1 d2 d3 d4 pi po pf ps pb pn pt ba ca cal da ea eal rar ral cb cbl rev rb fl xb xc xcl xd xe xel xr xrl yb yc ycl yd ye yel yr yrl  m2
  have cM := c_Mo_spread l g mo a o now dr pa sa iS bu tq rT wT sK sA sB sE oq bS bE bL rp  m1
  rw [k] at cM
  exact ⟨sp_Db_spread ba da, wDb g q qte qteb qpa qpae qpar qpau qpab qsu qdp qdpe qdpr qdpu qdpb qpr qpro qprf qprs qprb qprn qprt qbe qci qrd qrs qrsr ua qse qct qre qreb qpst qkpt qfil qbp qbk dv t tb w0 w1 w2 w3 w4 su d0 d1 d2 d3 d4 pi po pf ps pb pn pt ba ca cal da ea eal rar ral cb cbl rev rb fl xb xc xcl xd xe xel xr xrl yb yc ycl yd ye yel yr yrl, wMo g mo a (upd o 6 0) now dr pa sa iS bu tq rT wT sK sA sB sE oq bS bE bL rp, amet cD rfl rfl, amet cM rfl rfl, hadD, hadM, pr_mk (inv_T (inv_6 h 0) (by omega)), spread_n64 ba da⟩
theorem s_spread (hT : 0 ≤ T ∧ T ≤ 200000000) (hR : PRel g T q mo X M) : StepF l g (T + 9000) q mo X M y_Db_spread b_Db_spread 1 rm_Db_spread y_Mo_spread b_Mo_spread 6 rm_Mo_spread [] := by
  obtain ⟨aN, ua, qbp, qbk, vI, vL, vN, vM, vP, vQ, a, mI, mL, rfl, rfl, h⟩ := hR
  exact sv_spread hT h
set_option maxRecDepth 100000 in
set_option maxHeartbeats 4000000 in
theorem sv_reportByte (hT : 0 ≤ T ∧ T ≤ 200000000) (h : Inv T dv t tb w0 w1 w2 w3 w4 ba ca cal da ea rar ral rev rb fl xb xc xcl xd xe xr xrl yb yc ycl yd ye yr yrl o now pa sa iS bu rp) : StepI l g (T + 9000) q mo (wDb g q qte qteb qpa qpae qpar qpau qpab qsu qdp qdpe qdpr qdpu qdpb qpr qpro qprf qprs qprb qprn qprt qbe qci qrd qrs qrsr ua qse qct qre qreb qpst qkpt qfil qbp qbk dv t tb w0 w1 w2 w3 w4 su d0 d1 d2 d3 d4 pi po pf ps pb pn pt ba ca cal da ea eal rar ral cb cbl rev rb fl xb xc xcl xd xe xel xr xrl yb yc ycl yd ye yel yr yrl) (wMo g mo a o now dr pa sa iS bu tq rT wT sK sA sB sE oq bS bE bL rp) y_Db_reportByte b_Db_reportByte 2 rm_Db_reportByte y_Mo_reportByte b_Mo_reportByte 2 rm_Mo_reportByte [.int p1] := by
  obtain ⟨ht, hp, hr, hb, hpa, hsa, hre⟩ := id h
  unfold StepI
  obtain ⟨m1, k⟩ := reportByte_Q (p := p1) hre
  have cD := c_Db_reportByte l g q qte qteb qpa qpae qpar qpau qpab qsu qdp qdpe qdpr qdpu qdpb qpr qpro qprf qprs qprb qprn qprt qbe qci qrd qrs qrsr ua qse qct qre qreb qpst qkpt qfil qbp qbk dv t tb w0 w1 w2 w3 w4 su d0 d1 d2 d3 d4 pi po pf ps pb pn pt ba ca cal da ea eal rar ral cb cbl rev rb fl xb xc xcl xd xe xel xr xrl yb yc ycl yd ye yel yr yrl p1
  have cM := c_Mo_reportByte l g mo a o now dr pa sa iS bu tq rT wT sK sA sB sE oq bS bE bL rp p1 m1
  rw [k] at cM
  exact ⟨sp_Db_reportByte p1 rev rb, wDb g q qte qteb qpa qpae qpar qpau qpab qsu qdp qdpe qdpr qdpu qdpb qpr qpro qprf qprs qprb qprn qprt qbe qci qrd qrs qrsr ua qse qct qre qreb qpst qkpt qfil qbp qbk dv t tb w0 w1 w2 w3 w4 su d0 d1 d2 d3 d4 pi po pf ps pb pn pt ba ca cal da ea eal rar ral cb cbl rev rb fl xb xc xcl xd xe xel xr xrl yb yc ycl yd ye yel yr yrl, wMo g mo a (upd o 6 0) now dr pa sa iS bu tq rT wT sK sA sB sE oq bS bE bL rp, amet cD rfl rfl, amet cM rfl rfl, hadD, hadM, pr_mk (inv_T (inv_6 h 0) (by omega))⟩
theorem s_reportByte (hT : 0 ≤ T ∧ T ≤ 200000000) (hR : PRel g T q mo X M) : StepI l g (T + 9000) q mo X M y_Db_reportByte b_Db_reportByte 2 rm_Db_reportByte y_Mo_reportByte b_Mo_reportByte 2 rm_Mo_reportByte [.int p1] := by
  obtain ⟨aN, ua, qbp, qbk, vI, vL, vN, vM, vP, vQ, a, mI, mL, rfl, rfl, h⟩ := hR
  exact sv_reportByte hT h
set_option maxRecDepth 100000 in
set_option maxHeartbeats 4000000 in
theorem sv_steadiest (hT : 0 ≤ T ∧ T ≤ 200000000) (h : Inv T dv t tb w0 w1 w2 w3 w4 ba ca cal da ea rar ral rev rb fl xb xc xcl xd xe xr xrl yb yc ycl yd ye yr yrl o now pa sa iS bu rp) : StepI l g (T + 9000) q mo (wDb g q qte qteb qpa qpae qpar qpau qpab qsu qdp qdpe qdpr qdpu qdpb qpr qpro qprf qprs qprb qprn qprt qbe qci qrd qrs qrsr ua qse qct qre qreb qpst qkpt qfil qbp qbk dv t tb w0 w1 w2 w3 w4 su d0 d1 d2 d3 d4 pi po pf ps pb pn pt ba ca cal da ea eal rar ral cb cbl rev rb fl xb xc xcl xd xe xel xr xrl yb yc ycl yd ye yel yr yrl) (wMo g mo a o now dr pa sa iS bu tq rT wT sK sA sB sE oq bS bE bL rp) y_Db_steadiest b_Db_steadiest 1 rm_Db_steadiest y_Mo_steadiest b_Mo_steadiest 4 rm_Mo_steadiest [] := by
  obtain ⟨ht, hp, hr, hb, hpa, hsa, hre⟩ := id h
  unfold StepI
  obtain ⟨n, hn⟩ := row_RN hr
  obtain ⟨m1, m2, v, ra', al', k1, k2, k3⟩ := steadiest_Q (o := o) (eal := eal) hb.2 hn
  have cD := c_Db_steadiest l g q qte qteb qpa qpae qpar qpau qpab qsu qdp qdpe qdpr qdpu qdpb qpr qpro qprf qprs qprb qprn qprt qbe qci qrd qrs qrsr ua qse qct qre qreb qpst qkpt qfil qbp qbk dv t tb w0 w1 w2 w3 w4 su d0 d1 d2 d3 d4 pi po pf ps pb pn pt ba ca cal da ea eal rar ral cb cbl rev rb fl xb xc xcl xd xe xel xr xrl yb yc ycl yd ye yel yr yrl  m2
  have cM := c_Mo_steadiest l g mo a o now dr pa sa iS bu tq rT wT sK sA sB sE oq bS bE bL rp  m1
  rw [k2] at cD
  rw [k1] at cM
  exact ⟨v, wDb g q qte qteb qpa qpae qpar qpau qpab qsu qdp qdpe qdpr qdpu qdpb qpr qpro qprf qprs qprb qprn qprt qbe qci qrd qrs qrsr ua qse qct qre qreb qpst qkpt qfil qbp qbk dv t tb w0 w1 w2 w3 w4 su d0 d1 d2 d3 d4 pi po pf ps pb pn pt ba ca cal da ra' al' rar ral cb cbl rev rb fl xb xc xcl xd xe xel xr xrl yb yc ycl yd ye yel yr yrl, wMo g mo a (upd o 6 0) now dr pa sa iS bu tq rT wT sK sA sB sE oq bS bE bL rp, amet cD rfl rfl, amet cM rfl rfl, hadD, hadM, pr_mk (inv_T (inv_6 (inv_ea h k3) 0) (by omega))⟩
theorem s_steadiest (hT : 0 ≤ T ∧ T ≤ 200000000) (hR : PRel g T q mo X M) : StepI l g (T + 9000) q mo X M y_Db_steadiest b_Db_steadiest 1 rm_Db_steadiest y_Mo_steadiest b_Mo_steadiest 4 rm_Mo_steadiest [] := by
  obtain ⟨aN, ua, qbp, qbk, vI, vL, vN, vM, vP, vQ, a, mI, mL, rfl, rfl, h⟩ := hR
  exact sv_steadiest hT h
set_option maxRecDepth 100000 in
set_option maxHeartbeats 4000000 in
theorem sv_best (hT : 0 ≤ T ∧ T ≤ 200000000) (h : Inv T dv t tb w0 w1 w2 w3 w4 ba ca cal da ea rar ral rev rb fl xb xc xcl xd xe xr xrl yb yc ycl yd ye yr yrl o now pa sa iS bu rp) : StepI l g (T + 9000) q mo (wDb g q qte qteb qpa qpae qpar qpau qpab qsu qdp qdpe qdpr qdpu qdpb qpr qpro qprf qprs qprb qprn qprt qbe qci qrd qrs qrsr ua qse qct qre qreb qpst qkpt qfil qbp qbk dv t tb w0 w1 w2 w3 w4 su d0 d1 d2 d3 d4 pi po pf ps pb pn pt ba ca cal da ea eal rar ral cb cbl rev rb fl xb xc xcl xd xe xel xr xrl yb yc ycl yd ye yel yr yrl) (wMo g mo a o now dr pa sa iS bu tq rT wT sK sA sB sE oq bS bE bL rp) y_Db_best b_Db_best 1 rm_Db_best y_Mo_best b_Mo_best 1 rm_Mo_best [] := by
  obtain ⟨ht, hp, hr, hb, hpa, hsa, hre⟩ := id h
  unfold StepI
  obtain ⟨m2, m1, k1, k2⟩ := best_D hp hr hb.1.1 cb cbl o
  exact ⟨(sp_Mo_best o now).1, wDb g q qte qteb qpa qpae qpar qpau qpab qsu qdp qdpe qdpr qdpu qdpb qpr qpro qprf qprs qprb qprn qprt qbe qci qrd qrs qrsr ua qse qct qre qreb qpst qkpt qfil qbp qbk dv t tb w0 w1 w2 w3 w4 su d0 d1 d2 d3 d4 pi po pf ps pb pn pt ba ca cal da ea eal rar ral ((sp_Db_best w0 w1 w3 w4 ca cal cb cbl).2.1) ((sp_Db_best w0 w1 w3 w4 ca cal cb cbl).2.2) rev rb fl xb xc xcl xd xe xel xr xrl yb yc ycl yd ye yel yr yrl, wMo g mo a (upd o 6 0) now dr pa sa iS bu tq rT wT sK sA sB sE oq bS bE bL rp, amet (c_Db_best l g q qte qteb qpa qpae qpar qpau qpab qsu qdp qdpe qdpr qdpu qdpb qpr qpro qprf qprs qprb qprn qprt qbe qci qrd qrs qrsr ua qse qct qre qreb qpst qkpt qfil qbp qbk dv t tb w0 w1 w2 w3 w4 su d0 d1 d2 d3 d4 pi po pf ps pb pn pt ba ca cal da ea eal rar ral cb cbl rev rb fl xb xc xcl xd xe xel xr xrl yb yc ycl yd ye yel yr yrl  m2) (congrArg (fun x => some (Value.int x)) k1) rfl, amet (c_Mo_best l g mo a o now dr pa sa iS bu tq rT wT sK sA sB sE oq bS bE bL rp  m1) rfl (congrArg (fun u : IV => wMo g mo a u now dr pa sa iS bu tq rT wT sK sA sB sE oq bS bE bL rp) k2), hadD, hadM, pr_mk (inv_T (inv_6 h 0) (by omega))⟩
theorem s_best (hT : 0 ≤ T ∧ T ≤ 200000000) (hR : PRel g T q mo X M) : StepI l g (T + 9000) q mo X M y_Db_best b_Db_best 1 rm_Db_best y_Mo_best b_Mo_best 1 rm_Mo_best [] := by
  obtain ⟨aN, ua, qbp, qbk, vI, vL, vN, vM, vP, vQ, a, mI, mL, rfl, rfl, h⟩ := hR
  exact sv_best hT h
set_option maxRecDepth 100000 in
set_option maxHeartbeats 4000000 in
theorem sv_ideal (hT : 0 ≤ T ∧ T ≤ 200000000) (h : Inv T dv t tb w0 w1 w2 w3 w4 ba ca cal da ea rar ral rev rb fl xb xc xcl xd xe xr xrl yb yc ycl yd ye yr yrl o now pa sa iS bu rp) : StepI l g (T + 9000) q mo (wDb g q qte qteb qpa qpae qpar qpau qpab qsu qdp qdpe qdpr qdpu qdpb qpr qpro qprf qprs qprb qprn qprt qbe qci qrd qrs qrsr ua qse qct qre qreb qpst qkpt qfil qbp qbk dv t tb w0 w1 w2 w3 w4 su d0 d1 d2 d3 d4 pi po pf ps pb pn pt ba ca cal da ea eal rar ral cb cbl rev rb fl xb xc xcl xd xe xel xr xrl yb yc ycl yd ye yel yr yrl) (wMo g mo a o now dr pa sa iS bu tq rT wT sK sA sB sE oq bS bE bL rp) y_Db_ideal b_Db_ideal 1 rm_Db_ideal y_Mo_ideal b_Mo_ideal 1 rm_Mo_ideal [] := by
  obtain ⟨ht, hp, hr, hb, hpa, hsa, hre⟩ := id h
  unfold StepI
  obtain ⟨m2, m1, k1, k2⟩ := ideal_D hp hr hb.1.1 cb cbl o
  exact ⟨(sp_Mo_ideal o now).1, wDb g q qte qteb qpa qpae qpar qpau qpab qsu qdp qdpe qdpr qdpu qdpb qpr qpro qprf qprs qprb qprn qprt qbe qci qrd qrs qrsr ua qse qct qre qreb qpst qkpt qfil qbp qbk dv t tb w0 w1 w2 w3 w4 su d0 d1 d2 d3 d4 pi po pf ps pb pn pt ba ca cal da ea eal rar ral ((sp_Db_ideal w0 w1 w3 w4 ca cal cb cbl).2.1) ((sp_Db_ideal w0 w1 w3 w4 ca cal cb cbl).2.2) rev rb fl xb xc xcl xd xe xel xr xrl yb yc ycl yd ye yel yr yrl, wMo g mo a (upd o 6 0) now dr pa sa iS bu tq rT wT sK sA sB sE oq bS bE bL rp, amet (c_Db_ideal l g q qte qteb qpa qpae qpar qpau qpab qsu qdp qdpe qdpr qdpu qdpb qpr qpro qprf qprs qprb qprn qprt qbe qci qrd qrs qrsr ua qse qct qre qreb qpst qkpt qfil qbp qbk dv t tb w0 w1 w2 w3 w4 su d0 d1 d2 d3 d4 pi po pf ps pb pn pt ba ca cal da ea eal rar ral cb cbl rev rb fl xb xc xcl xd xe xel xr xrl yb yc ycl yd ye yel yr yrl  m2) (congrArg (fun x => some (Value.int x)) k1) rfl, amet (c_Mo_ideal l g mo a o now dr pa sa iS bu tq rT wT sK sA sB sE oq bS bE bL rp  m1) rfl (congrArg (fun u : IV => wMo g mo a u now dr pa sa iS bu tq rT wT sK sA sB sE oq bS bE bL rp) k2), hadD, hadM, pr_mk (inv_T (inv_6 h 0) (by omega))⟩
theorem s_ideal (hT : 0 ≤ T ∧ T ≤ 200000000) (hR : PRel g T q mo X M) : StepI l g (T + 9000) q mo X M y_Db_ideal b_Db_ideal 1 rm_Db_ideal y_Mo_ideal b_Mo_ideal 1 rm_Mo_ideal [] := by
  obtain ⟨aN, ua, qbp, qbk, vI, vL, vN, vM, vP, vQ, a, mI, mL, rfl, rfl, h⟩ := hR
  exact sv_ideal hT h
end
end TZD2
