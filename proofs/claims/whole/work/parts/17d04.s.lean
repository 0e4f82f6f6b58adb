section TZD4
section
variable {l : Launch} {g : GX} {T : Int} {q mo qo : Nat} {X M : va_W} {p1 p2 p3 p4 p5 : Int32} {fo : LV} {fd : Nat → UInt64}
variable {qte qteb qpa qpae qpar qpau qpab qsu qdp qdpe qdpr qdpu qdpb qpr qpro qprf qprs qprb qprn qprt qbe qci qrd qrs qrsr : Nat} {ua : Nat → Nat} {qse qct qre qreb qpst qkpt qfil : Nat} {qbp qbk : Nat → Nat → Nat} {dv t tb w0 w1 w2 w3 w4 su d0 d1 d2 d3 d4 pi po pf ps pb pn pt ba ca : IV} {cal : LV} {da ea : IV} {eal : LV} {rar : NI} {ral : NL} {cb : IV} {cbl : LV} {rev rb fl : IV} {xb xc : NI} {xcl : NL} {xd xe : NI} {xel : NL} {xr : NNI} {xrl : NNL} {yb yc : NI} {ycl : NL} {yd ye : NI} {yel : NL} {yr : NNI} {yrl : NNL} {a : Nat → Nat} {o : IV} {now dr pa sa : LV} {iS bu tq rT wT sK sA sB sE oq bS bE bL rp : IV}
set_option maxRecDepth 100000 in
set_option maxHeartbeats 4000000 in
theorem sv_run (hT : 0 ≤ T ∧ T ≤ 200000000) (h : Inv T dv t tb w0 w1 w2 w3 w4 ba ca cal da ea rar ral rev rb fl xb xc xcl xd xe xr xrl yb yc ycl yd ye yr yrl o now pa sa iS bu rp) : StepI l g (T + 9000) q mo (wDb g q qte qteb qpa qpae qpar qpau qpab qsu qdp qdpe qdpr qdpu qdpb qpr qpro qprf qprs qprb qprn qprt qbe qci qrd qrs qrsr ua qse qct qre qreb qpst qkpt qfil qbp qbk dv t tb w0 w1 w2 w3 w4 su d0 d1 d2 d3 d4 pi po pf ps pb pn pt ba ca cal da ea eal rar ral cb cbl rev rb fl xb xc xcl xd xe xel xr xrl yb yc ycl yd ye yel yr yrl) (wMo g mo a o now dr pa sa iS bu tq rT wT sK sA sB sE oq bS bE bL rp) y_Db_run b_Db_run 5 rm_Db_run y_Mo_run b_Mo_run 1 rm_Mo_run [] := by
  obtain ⟨ht, hp, hr, hb, hpa, hsa, hre⟩ := id h
  unfold StepI
  obtain ⟨m1, m2, v, dv', t', pi', po', pf', ps', pb', pn', pt', ba', ca', cal', da', ea', rar', ral', xb', xc', xcl', xd', xe', xr', xrl', o', now', pa', sK', sA', sB', sE', oq', bS', bE', bL', k1, k2, k3⟩ := run_D (pi := pi) (po := po) (pf := pf) (ps := ps) (pb := pb) (pn := pn) (pt := pt) (sK := sK) (sA := sA) (sB := sB) (sE := sE) (oq := oq) (bS := bS) (bE := bE) (bL := bL) h (by omega)
  have cD := c_Db_run l g q qte qteb qpa qpae qpar qpau qpab qsu qdp qdpe qdpr qdpu qdpb qpr qpro qprf qprs qprb qprn qprt qbe qci qrd qrs qrsr ua qse qct qre qreb qpst qkpt qfil qbp qbk dv t tb w0 w1 w2 w3 w4 su d0 d1 d2 d3 d4 pi po pf ps pb pn pt ba ca cal da ea eal rar ral cb cbl rev rb fl xb xc xcl xd xe xel xr xrl yb yc ycl yd ye yel yr yrl  m1
  have cM := c_Mo_run l g mo a o now dr pa sa iS bu tq rT wT sK sA sB sE oq bS bE bL rp  m2
  rw [k1] at cD
  rw [k2] at cM
  exact ⟨v, wDb g q qte qteb qpa qpae qpar qpau qpab qsu qdp qdpe qdpr qdpu qdpb qpr qpro qprf qprs qprb qprn qprt qbe qci qrd qrs qrsr ua qse qct qre qreb qpst qkpt qfil qbp qbk dv' t' tb w0 w1 w2 w3 w4 su d0 d1 d2 d3 d4 pi' po' pf' ps' pb' pn' pt' ba' ca' cal' da' ea' eal rar' ral' cb cbl rev rb fl xb' xc' xcl' xd' xe' xel xr' xrl' yb yc ycl yd ye yel yr yrl, wMo g mo a o' now' dr pa' sa iS bu tq rT wT sK' sA' sB' sE' oq' bS' bE' bL' rp, amet cD rfl rfl, amet cM rfl rfl, hadD, hadM, pr_mk (inv_T k3 (by omega))⟩
theorem s_run (hT : 0 ≤ T ∧ T ≤ 200000000) (hR : PRel g T q mo X M) : StepI l g (T + 9000) q mo X M y_Db_run b_Db_run 5 rm_Db_run y_Mo_run b_Mo_run 1 rm_Mo_run [] := by
  obtain ⟨aN, ua, qbp, qbk, vI, vL, vN, vM, vP, vQ, a, mI, mL, rfl, rfl, h⟩ := hR
  exact sv_run hT h
set_option maxRecDepth 100000 in
set_option maxHeartbeats 4000000 in
theorem sv_turn (hT : 0 ≤ T ∧ T ≤ 200000000) (h : Inv T dv t tb w0 w1 w2 w3 w4 ba ca cal da ea rar ral rev rb fl xb xc xcl xd xe xr xrl yb yc ycl yd ye yr yrl o now pa sa iS bu rp) : StepI l g (T + 9000) q mo (wDb g q qte qteb qpa qpae qpar qpau qpab qsu qdp qdpe qdpr qdpu qdpb qpr qpro qprf qprs qprb qprn qprt qbe qci qrd qrs qrsr ua qse qct qre qreb qpst qkpt qfil qbp qbk dv t tb w0 w1 w2 w3 w4 su d0 d1 d2 d3 d4 pi po pf ps pb pn pt ba ca cal da ea eal rar ral cb cbl rev rb fl xb xc xcl xd xe xel xr xrl yb yc ycl yd ye yel yr yrl) (wMo g mo a o now dr pa sa iS bu tq rT wT sK sA sB sE oq bS bE bL rp) y_Db_turn b_Db_turn 1 rm_Db_turn y_Mo_turn b_Mo_turn 1 rm_Mo_turn [] := by
  obtain ⟨ht, hp, hr, hb, hpa, hsa, hre⟩ := id h
  unfold StepI
  obtain ⟨m2, m1, v, dv', ca', xb', xc', xcl', xd', xe', xr', xrl', o', now', pa', k1, k2, k3⟩ := turn_D h
  have cD := c_Db_turn l g q qte qteb qpa qpae qpar qpau qpab qsu qdp qdpe qdpr qdpu qdpb qpr qpro qprf qprs qprb qprn qprt qbe qci qrd qrs qrsr ua qse qct qre qreb qpst qkpt qfil qbp qbk dv t tb w0 w1 w2 w3 w4 su d0 d1 d2 d3 d4 pi po pf ps pb pn pt ba ca cal da ea eal rar ral cb cbl rev rb fl xb xc xcl xd xe xel xr xrl yb yc ycl yd ye yel yr yrl  m1
  have cM := c_Mo_turn l g mo a o now dr pa sa iS bu tq rT wT sK sA sB sE oq bS bE bL rp  m2
  rw [k1] at cD
  rw [k2] at cM
  exact ⟨v, wDb g q qte qteb qpa qpae qpar qpau qpab qsu qdp qdpe qdpr qdpu qdpb qpr qpro qprf qprs qprb qprn qprt qbe qci qrd qrs qrsr ua qse qct qre qreb qpst qkpt qfil qbp qbk dv' t tb w0 w1 w2 w3 w4 su d0 d1 d2 d3 d4 pi po pf ps pb pn pt ba ca' cal da ea eal rar ral cb cbl rev rb fl xb' xc' xcl' xd' xe' xel xr' xrl' yb yc ycl yd ye yel yr yrl, wMo g mo a o' now' dr pa' sa iS bu tq rT wT sK sA sB sE oq bS bE bL rp, amet cD rfl rfl, amet cM rfl rfl, hadD, hadM, pr_mk (inv_T k3 (by omega))⟩
theorem s_turn (hT : 0 ≤ T ∧ T ≤ 200000000) (hR : PRel g T q mo X M) : StepI l g (T + 9000) q mo X M y_Db_turn b_Db_turn 1 rm_Db_turn y_Mo_turn b_Mo_turn 1 rm_Mo_turn [] := by
  obtain ⟨aN, ua, qbp, qbk, vI, vL, vN, vM, vP, vQ, a, mI, mL, rfl, rfl, h⟩ := hR
  exact sv_turn hT h
set_option maxRecDepth 100000 in
set_option maxHeartbeats 4000000 in
theorem sv_read (hT : 0 ≤ T ∧ T ≤ 200000000) (h : Inv T dv t tb w0 w1 w2 w3 w4 ba ca cal da ea rar ral rev rb fl xb xc xcl xd xe xr xrl yb yc ycl yd ye yr yrl o now pa sa iS bu rp) : StepI l g (T + 9000) q mo (wDb g q qte qteb qpa qpae qpar qpau qpab qsu qdp qdpe qdpr qdpu qdpb qpr qpro qprf qprs qprb qprn qprt qbe qci qrd qrs qrsr ua qse qct qre qreb qpst qkpt qfil qbp qbk dv t tb w0 w1 w2 w3 w4 su d0 d1 d2 d3 d4 pi po pf ps pb pn pt ba ca cal da ea eal rar ral cb cbl rev rb fl xb xc xcl xd xe xel xr xrl yb yc ycl yd ye yel yr yrl) (wMo g mo a o now dr pa sa iS bu tq rT wT sK sA sB sE oq bS bE bL rp) y_Db_read b_Db_read 2 rm_Db_read y_Mo_read b_Mo_read 3 rm_Mo_read [] := by
  obtain ⟨ht, hp, hr, hb, hpa, hsa, hre⟩ := id h
  unfold StepI
  obtain ⟨m2, m1, v, dv', ba', ca', cal', da', xb', xc', xcl', xd', xe', xr', xrl', o', now', pa', k1, k2, k3⟩ := read_D h (by omega)
  have cD := c_Db_read l g q qte qteb qpa qpae qpar qpau qpab qsu qdp qdpe qdpr qdpu qdpb qpr qpro qprf qprs qprb qprn qprt qbe qci qrd qrs qrsr ua qse qct qre qreb qpst qkpt qfil qbp qbk dv t tb w0 w1 w2 w3 w4 su d0 d1 d2 d3 d4 pi po pf ps pb pn pt ba ca cal da ea eal rar ral cb cbl rev rb fl xb xc xcl xd xe xel xr xrl yb yc ycl yd ye yel yr yrl  m1
  have cM := c_Mo_read l g mo a o now dr pa sa iS bu tq rT wT sK sA sB sE oq bS bE bL rp  m2
  rw [k1] at cD
  rw [k2] at cM
  exact ⟨v, wDb g q qte qteb qpa qpae qpar qpau qpab qsu qdp qdpe qdpr qdpu qdpb qpr qpro qprf qprs qprb qprn qprt qbe qci qrd qrs qrsr ua qse qct qre qreb qpst qkpt qfil qbp qbk dv' t tb w0 w1 w2 w3 w4 su d0 d1 d2 d3 d4 pi po pf ps pb pn pt ba' ca' cal' da' ea eal rar ral cb cbl rev rb fl xb' xc' xcl' xd' xe' xel xr' xrl' yb yc ycl yd ye yel yr yrl, wMo g mo a o' now' dr pa' sa iS bu tq rT wT sK sA sB sE oq bS bE bL rp, amet cD rfl rfl, amet cM rfl rfl, hadD, hadM, pr_mk (inv_T k3 (by omega))⟩
theorem s_read (hT : 0 ≤ T ∧ T ≤ 200000000) (hR : PRel g T q mo X M) : StepI l g (T + 9000) q mo X M y_Db_read b_Db_read 2 rm_Db_read y_Mo_read b_Mo_read 3 rm_Mo_read [] := by
  obtain ⟨aN, ua, qbp, qbk, vI, vL, vN, vM, vP, vQ, a, mI, mL, rfl, rfl, h⟩ := hR
  exact sv_read hT h
set_option maxRecDepth 100000 in
set_option maxHeartbeats 4000000 in
theorem sv_balance (hT : 0 ≤ T ∧ T ≤ 200000000) (h : Inv T dv t tb w0 w1 w2 w3 w4 ba ca cal da ea rar ral rev rb fl xb xc xcl xd xe xr xrl yb yc ycl yd ye yr yrl o now pa sa iS bu rp) : StepI l g (T + 9000) q mo (wDb g q qte qteb qpa qpae qpar qpau qpab qsu qdp qdpe qdpr qdpu qdpb qpr qpro qprf qprs qprb qprn qprt qbe qci qrd qrs qrsr ua qse qct qre qreb qpst qkpt qfil qbp qbk dv t tb w0 w1 w2 w3 w4 su d0 d1 d2 d3 d4 pi po pf ps pb pn pt ba ca cal da ea eal rar ral cb cbl rev rb fl xb xc xcl xd xe xel xr xrl yb yc ycl yd ye yel yr yrl) (wMo g mo a o now dr pa sa iS bu tq rT wT sK sA sB sE oq bS bE bL rp) y_Db_balance b_Db_balance 2 rm_Db_balance y_Mo_balance b_Mo_balance 2 rm_Mo_balance [.int p1] := by
  obtain ⟨ht, hp, hr, hb, hpa, hsa, hre⟩ := id h
  unfold StepI
  obtain ⟨m2, m1, v, dv', ba', ca', cal', da', ea', rar', ral', xb', xc', xcl', xd', xe', xr', xrl', o', now', pa', k1, k2, k3⟩ := balance_D (p := p1) h (by omega)
  have cD := c_Db_balance l g q qte qteb qpa qpae qpar qpau qpab qsu qdp qdpe qdpr qdpu qdpb qpr qpro qprf qprs qprb qprn qprt qbe qci qrd qrs qrsr ua qse qct qre qreb qpst qkpt qfil qbp qbk dv t tb w0 w1 w2 w3 w4 su d0 d1 d2 d3 d4 pi po pf ps pb pn pt ba ca cal da ea eal rar ral cb cbl rev rb fl xb xc xcl xd xe xel xr xrl yb yc ycl yd ye yel yr yrl p1 m1
  have cM := c_Mo_balance l g mo a o now dr pa sa iS bu tq rT wT sK sA sB sE oq bS bE bL rp p1 m2
  rw [k1] at cD
  rw [k2] at cM
  exact ⟨v, wDb g q qte qteb qpa qpae qpar qpau qpab qsu qdp qdpe qdpr qdpu qdpb qpr qpro qprf qprs qprb qprn qprt qbe qci qrd qrs qrsr ua qse qct qre qreb qpst qkpt qfil qbp qbk dv' t tb w0 w1 w2 w3 w4 su d0 d1 d2 d3 d4 pi po pf ps pb pn pt ba' ca' cal' da' ea' eal rar' ral' cb cbl rev rb fl xb' xc' xcl' xd' xe' xel xr' xrl' yb yc ycl yd ye yel yr yrl, wMo g mo a o' now' dr pa' sa iS bu tq rT wT sK sA sB sE oq bS bE bL rp, amet cD rfl rfl, amet cM rfl rfl, hadD, hadM, pr_mk (inv_T k3 (by omega))⟩
theorem s_balance (hT : 0 ≤ T ∧ T ≤ 200000000) (hR : PRel g T q mo X M) : StepI l g (T + 9000) q mo X M y_Db_balance b_Db_balance 2 rm_Db_balance y_Mo_balance b_Mo_balance 2 rm_Mo_balance [.int p1] := by
  obtain ⟨aN, ua, qbp, qbk, vI, vL, vN, vM, vP, vQ, a, mI, mL, rfl, rfl, h⟩ := hR
  exact sv_balance hT h
set_option maxRecDepth 100000 in
set_option maxHeartbeats 4000000 in
theorem sv_undo (hT : 0 ≤ T ∧ T ≤ 200000000) (h : Inv T dv t tb w0 w1 w2 w3 w4 ba ca cal da ea rar ral rev rb fl xb xc xcl xd xe xr xrl yb yc ycl yd ye yr yrl o now pa sa iS bu rp) : StepI l g (T + 9000) q mo (wDb g q qte qteb qpa qpae qpar qpau qpab qsu qdp qdpe qdpr qdpu qdpb qpr qpro qprf qprs qprb qprn qprt qbe qci qrd qrs qrsr ua qse qct qre qreb qpst qkpt qfil qbp qbk dv t tb w0 w1 w2 w3 w4 su d0 d1 d2 d3 d4 pi po pf ps pb pn pt ba ca cal da ea eal rar ral cb cbl rev rb fl xb xc xcl xd xe xel xr xrl yb yc ycl yd ye yel yr yrl) (wMo g mo a o now dr pa sa iS bu tq rT wT sK sA sB sE oq bS bE bL rp) y_Db_undo b_Db_undo 2 rm_Db_undo y_Mo_undo b_Mo_undo 1 rm_Mo_undo [] := by
  obtain ⟨ht, hp, hr, hb, hpa, hsa, hre⟩ := id h
  unfold StepI
  obtain ⟨m2, m1, v, dv', ba', ca', cal', da', ea', rar', ral', o', now', k1, k2, k3⟩ := undo_D h
  have cD := c_Db_undo l g q qte qteb qpa qpae qpar qpau qpab qsu qdp qdpe qdpr qdpu qdpb qpr qpro qprf qprs qprb qprn qprt qbe qci qrd qrs qrsr ua qse qct qre qreb qpst qkpt qfil qbp qbk dv t tb w0 w1 w2 w3 w4 su d0 d1 d2 d3 d4 pi po pf ps pb pn pt ba ca cal da ea eal rar ral cb cbl rev rb fl xb xc xcl xd xe xel xr xrl yb yc ycl yd ye yel yr yrl  m1
  have cM := c_Mo_undo l g mo a o now dr pa sa iS bu tq rT wT sK sA sB sE oq bS bE bL rp  m2
  rw [k1] at cD
  rw [k2] at cM
  exact ⟨v, wDb g q qte qteb qpa qpae qpar qpau qpab qsu qdp qdpe qdpr qdpu qdpb qpr qpro qprf qprs qprb qprn qprt qbe qci qrd qrs qrsr ua qse qct qre qreb qpst qkpt qfil qbp qbk dv' t tb w0 w1 w2 w3 w4 su d0 d1 d2 d3 d4 pi po pf ps pb pn pt ba' ca' cal' da' ea' eal rar' ral' cb cbl rev rb fl xb xc xcl xd xe xel xr xrl yb yc ycl yd ye yel yr yrl, wMo g mo a o' now' dr pa sa iS bu tq rT wT sK sA sB sE oq bS bE bL rp, amet cD rfl rfl, amet cM rfl rfl, hadD, hadM, pr_mk (inv_T k3 (by omega))⟩
theorem s_undo (hT : 0 ≤ T ∧ T ≤ 200000000) (hR : PRel g T q mo X M) : StepI l g (T + 9000) q mo X M y_Db_undo b_Db_undo 2 rm_Db_undo y_Mo_undo b_Mo_undo 1 rm_Mo_undo [] := by
  obtain ⟨aN, ua, qbp, qbk, vI, vL, vN, vM, vP, vQ, a, mI, mL, rfl, rfl, h⟩ := hR
  exact sv_undo hT h
set_option maxRecDepth 100000 in
set_option maxHeartbeats 4000000 in
theorem sv_report (hT : 0 ≤ T ∧ T ≤ 200000000) (h : Inv T dv t tb w0 w1 w2 w3 w4 ba ca cal da ea rar ral rev rb fl xb xc xcl xd xe xr xrl yb yc ycl yd ye yr yrl o now pa sa iS bu rp) : StepI l g (T + 9000) q mo (wDb g q qte qteb qpa qpae qpar qpau qpab qsu qdp qdpe qdpr qdpu qdpb qpr qpro qprf qprs qprb qprn qprt qbe qci qrd qrs qrsr ua qse qct qre qreb qpst qkpt qfil qbp qbk dv t tb w0 w1 w2 w3 w4 su d0 d1 d2 d3 d4 pi po pf ps pb pn pt ba ca cal da ea eal rar ral cb cbl rev rb fl xb xc xcl xd xe xel xr xrl yb yc ycl yd ye yel yr yrl) (wMo g mo a o now dr pa sa iS bu tq rT wT sK sA sB sE oq bS bE bL rp) y_Db_report b_Db_report 1 rm_Db_report y_Mo_report b_Mo_report 2 rm_Mo_report [] := by
  obtain ⟨ht, hp, hr, hb, hpa, hsa, hre⟩ := id h
  unfold StepI
  obtain ⟨m1, m2, v, rev', rb', o', rp', k1, k2, k3⟩ := report_D h
  have cD := c_Db_report l g q qte qteb qpa qpae qpar qpau qpab qsu qdp qdpe qdpr qdpu qdpb qpr qpro qprf qprs qprb qprn qprt qbe qci qrd qrs qrsr ua qse qct qre qreb qpst qkpt qfil qbp qbk dv t tb w0 w1 w2 w3 w4 su d0 d1 d2 d3 d4 pi po pf ps pb pn pt ba ca cal da ea eal rar ral cb cbl rev rb fl xb xc xcl xd xe xel xr xrl yb yc ycl yd ye yel yr yrl  m1
  have cM := c_Mo_report l g mo a o now dr pa sa iS bu tq rT wT sK sA sB sE oq bS bE bL rp  m2
  rw [k1] at cD
  rw [k2] at cM
  exact ⟨v, wDb g q qte qteb qpa qpae qpar qpau qpab qsu qdp qdpe qdpr qdpu qdpb qpr qpro qprf qprs qprb qprn qprt qbe qci qrd qrs qrsr ua qse qct qre qreb qpst qkpt qfil qbp qbk dv t tb w0 w1 w2 w3 w4 su d0 d1 d2 d3 d4 pi po pf ps pb pn pt ba ca cal da ea eal rar ral cb cbl rev' rb' fl xb xc xcl xd xe xel xr xrl yb yc ycl yd ye yel yr yrl, wMo g mo a o' now dr pa sa iS bu tq rT wT sK sA sB sE oq bS bE bL rp', amet cD rfl rfl, amet cM rfl rfl, hadD, hadM, pr_mk (inv_T k3 (by omega))⟩
theorem s_report (hT : 0 ≤ T ∧ T ≤ 200000000) (hR : PRel g T q mo X M) : StepI l g (T + 9000) q mo X M y_Db_report b_Db_report 1 rm_Db_report y_Mo_report b_Mo_report 2 rm_Mo_report [] := by
  obtain ⟨aN, ua, qbp, qbk, vI, vL, vN, vM, vP, vQ, a, mI, mL, rfl, rfl, h⟩ := hR
  exact sv_report hT h
set_option maxRecDepth 100000 in
set_option maxHeartbeats 4000000 in
theorem sv_size (hfl : l.stackTraces = false) (hT : 0 ≤ T ∧ T ≤ 200000000) (h : Inv T dv t tb w0 w1 w2 w3 w4 ba ca cal da ea rar ral rev rb fl xb xc xcl xd xe xr xrl yb yc ycl yd ye yr yrl o now pa sa iS bu rp) : StepWI l g (T + 9000) q mo qo fo (wDb g q qte qteb qpa qpae qpar qpau qpab qsu qdp qdpe qdpr qdpu qdpb qpr qpro qprf qprs qprb qprn qprt qbe qci qrd qrs qrsr ua qse qct qre qreb qpst qkpt qfil qbp qbk dv t tb w0 w1 w2 w3 w4 su d0 d1 d2 d3 d4 pi po pf ps pb pn pt ba ca cal da ea eal rar ral cb cbl rev rb fl xb xc xcl xd xe xel xr xrl yb yc ycl yd ye yel yr yrl) (wMo g mo a o now dr pa sa iS bu tq rT wT sK sA sB sE oq bS bE bL rp) y_La_size b_La_size 4 [(0, 9, 12, 13)] y_Mo_size b_Mo_size 2 rm_Mo_size [.int p1] := by
  obtain ⟨ht, hp, hr, hb, hpa, hsa, hre⟩ := id h
  unfold StepWI
  obtain ⟨m1, k9⟩ := size_Q (p := p1) hp hr hb.1 hb.2 (dv := dv) (o := o) (by
    obtain ⟨_, _, _, _, _, y2, y3, _⟩ := hpa
    exact y2.trans y3.symm)
  rcases k9 with k9 | k9
  · obtain ⟨e0, e2, e1⟩ := k9
    have cD := c_Db_size l g q qte qteb qpa qpae qpar qpau qpab qsu qdp qdpe qdpr qdpu qdpb qpr qpro qprf qprs qprb qprn qprt qbe qci qrd qrs qrsr ua qse qct qre qreb qpst qkpt qfil qbp qbk dv t tb w0 w1 w2 w3 w4 su d0 d1 d2 d3 d4 pi po pf ps pb pn pt ba ca cal da ea eal rar ral cb cbl rev rb fl xb xc xcl xd xe xel xr xrl yb yc ycl yd ye yel yr yrl p1 e2
    have cM := c_Mo_size l g mo a o now dr pa sa iS bu tq rT wT sK sA sB sE oq bS bE bL rp p1 m1
    rw [e1] at cM
    obtain ⟨v, ev⟩ : ∃ v, v = sp_Db_size p1 dv w0 ba ca ea rar := ⟨_, rfl⟩
    rw [← ev] at cD cM
    have cD2 := amet (v := some (.int v)) (X' := wDb g q qte qteb qpa qpae qpar qpau qpab qsu qdp qdpe qdpr qdpu qdpb qpr qpro qprf qprs qprb qprn qprt qbe qci qrd qrs qrsr ua qse qct qre qreb qpst qkpt qfil qbp qbk dv t tb w0 w1 w2 w3 w4 su d0 d1 d2 d3 d4 pi po pf ps pb pn pt ba ca cal da ea eal rar ral cb cbl rev rb fl xb xc xcl xd xe xel xr xrl yb yc ycl yd ye yel yr yrl) cD rfl rfl
    exact ⟨0, v, wDb g q qte qteb qpa qpae qpar qpau qpab qsu qdp qdpe qdpr qdpu qdpb qpr qpro qprf qprs qprb qprn qprt qbe qci qrd qrs qrsr ua qse qct qre qreb qpst qkpt qfil qbp qbk dv t tb w0 w1 w2 w3 w4 su d0 d1 d2 d3 d4 pi po pf ps pb pn pt ba ca cal da ea eal rar ral cb cbl rev rb fl xb xc xcl xd xe xel xr xrl yb yc ycl yd ye yel yr yrl, wMo g mo a (upd o 6 0) now dr pa sa iS bu tq rT wT sK sA sB sE oq bS bE bL rp, vp_updL fo 0 v.toInt64, w_La_size (α := Unit) (vf := fun _ => some (.int v)) (wf := fun _ => wDb g q qte qteb qpa qpae qpar qpau qpab qsu qdp qdpe qdpr qdpu qdpb qpr qpro qprf qprs qprb qprn qprt qbe qci qrd qrs qrsr ua qse qct qre qreb qpst qkpt qfil qbp qbk dv t tb w0 w1 w2 w3 w4 su d0 d1 d2 d3 d4 pi po pf ps pb pn pt ba ca cal da ea eal rar ral cb cbl rev rb fl xb xc xcl xd xe xel xr xrl yb yc ycl yd ye yel yr yrl) (z := ()) l g cD2 rfl hadD rfl rfl, amet cM rfl rfl, thr_m (o6a _ _), fun _ => rfl, hadD, hadM, pr_mk (inv_T (inv_6 h 0) (by omega))⟩
  · obtain ⟨c1, e1⟩ := k9
    have cM := c_Mo_size l g mo a o now dr pa sa iS bu tq rT wT sK sA sB sE oq bS bE bL rp p1 m1
    rw [e1] at cM
    exact ⟨1, 0, wDb g q qte qteb qpa qpae qpar qpau qpab qsu qdp qdpe qdpr qdpu qdpb qpr qpro qprf qprs qprb qprn qprt qbe qci qrd qrs qrsr ua qse qct qre qreb qpst qkpt qfil qbp qbk dv t tb w0 w1 w2 w3 w4 su d0 d1 d2 d3 d4 pi po pf ps pb pn pt ba ca cal da ea eal rar ral cb cbl rev rb fl xb xc xcl xd xe xel xr xrl yb yc ycl yd ye yel yr yrl, wMo g mo a (upd o 6 1) now dr pa sa iS bu tq rT wT sK sA sB sE oq bS bE bL rp, fo, x_La_size_1 l g (t_Db_size_1 l g q qte qteb qpa qpae qpar qpau qpab qsu qdp qdpe qdpr qdpu qdpb qpr qpro qprf qprs qprb qprn qprt qbe qci qrd qrs qrsr ua qse qct qre qreb qpst qkpt qfil qbp qbk dv t tb w0 w1 w2 w3 w4 su d0 d1 d2 d3 d4 pi po pf ps pb pn pt ba ca cal da ea eal rar ral cb cbl rev rb fl xb xc xcl xd xe xel xr xrl yb yc ycl yd ye yel yr yrl p1 hfl c1) hadD rfl rfl, amet cM rfl rfl, thr_m (o6a _ _), fun w => absurd w (by decide), hadD, hadM, pr_mk (inv_T (inv_6 h 1) (by omega))⟩
theorem s_size (hfl : l.stackTraces = false) (hT : 0 ≤ T ∧ T ≤ 200000000) (hR : PRel g T q mo X M) : StepWI l g (T + 9000) q mo qo fo X M y_La_size b_La_size 4 [(0, 9, 12, 13)] y_Mo_size b_Mo_size 2 rm_Mo_size [.int p1] := by
  obtain ⟨aN, ua, qbp, qbk, vI, vL, vN, vM, vP, vQ, a, mI, mL, rfl, rfl, h⟩ := hR
  exact sv_size hfl hT h
end
end TZD4
