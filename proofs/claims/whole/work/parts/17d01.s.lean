section TZD1
section
variable {l : Launch} {g : GX} {T : Int} {q mo qo : Nat} {X M : va_W} {p1 p2 p3 p4 p5 : Int32} {fo : LV} {fd : Nat → UInt64}
variable {qte qteb qpa qpae qpar qpau qpab qsu qdp qdpe qdpr qdpu qdpb qpr qpro qprf qprs qprb qprn qprt qbe qci qrd qrs qrsr : Nat} {ua : Nat → Nat} {qse qct qre qreb qpst qkpt qfil : Nat} {qbp qbk : Nat → Nat → Nat} {dv t tb w0 w1 w2 w3 w4 su d0 d1 d2 d3 d4 pi po pf ps pb pn pt ba ca : IV} {cal : LV} {da ea : IV} {eal : LV} {rar : NI} {ral : NL} {cb : IV} {cbl : LV} {rev rb fl : IV} {xb xc : NI} {xcl : NL} {xd xe : NI} {xel : NL} {xr : NNI} {xrl : NNL} {yb yc : NI} {ycl : NL} {yd ye : NI} {yel : NL} {yr : NNI} {yrl : NNL} {a : Nat → Nat} {o : IV} {now dr pa sa : LV} {iS bu tq rT wT sK sA sB sE oq bS bE bL rp : IV}
theorem thr_m {k : Int32} (h : o 6 = k) : AMet l y_Mo_thrown b_Mo_thrown 1 (some .int) rm_Mo_thrown g [.ref mo] (wMo g mo a o now dr pa sa iS bu tq rT wT sK sA sB sE oq bS bE bL rp) (wMo g mo a o now dr pa sa iS bu tq rT wT sK sA sB sE oq bS bE bL rp) (some (.int k)) := amet (c_Mo_thrown l g mo a o now dr pa sa iS bu tq rT wT sK sA sB sE oq bS bE bL rp) (by show some (Value.int (sp_Mo_thrown o)) = _; unfold sp_Mo_thrown; rw [h]) rfl
set_option maxRecDepth 100000 in
set_option maxHeartbeats 4000000 in
theorem sv_errorPosition (hT : 0 ≤ T ∧ T ≤ 200000000) (h : Inv T dv t tb w0 w1 w2 w3 w4 ba ca cal da ea rar ral rev rb fl xb xc xcl xd xe xr xrl yb yc ycl yd ye yr yrl o now pa sa iS bu rp) : StepI l g (T + 9000) q mo (wDb g q qte qteb qpa qpae qpar qpau qpab qsu qdp qdpe qdpr qdpu qdpb qpr qpro qprf qprs qprb qprn qprt qbe qci qrd qrs qrsr ua qse qct qre qreb qpst qkpt qfil qbp qbk dv t tb w0 w1 w2 w3 w4 su d0 d1 d2 d3 d4 pi po pf ps pb pn pt ba ca cal da ea eal rar ral cb cbl rev rb fl xb xc xcl xd xe xel xr xrl yb yc ycl yd ye yel yr yrl) (wMo g mo a o now dr pa sa iS bu tq rT wT sK sA sB sE oq bS bE bL rp) y_Db_errorPosition b_Db_errorPosition 1 rm_Db_errorPosition y_Mo_errorPosition b_Mo_errorPosition 1 rm_Mo_errorPosition [] := by
  obtain ⟨ht, hp, hr, hb, hpa, hsa, hre⟩ := id h
  unfold StepI
  have k := errorPosition_Q (o := o) ht.choose_spec.choose_spec.2
  have cD := c_Db_errorPosition l g q qte qteb qpa qpae qpar qpau qpab qsu qdp qdpe qdpr qdpu qdpb qpr qpro qprf qprs qprb qprn qprt qbe qci qrd qrs qrsr ua qse qct qre qreb qpst qkpt qfil qbp qbk dv t tb w0 w1 w2 w3 w4 su d0 d1 d2 d3 d4 pi po pf ps pb pn pt ba ca cal da ea eal rar ral cb cbl rev rb fl xb xc xcl xd xe xel xr xrl yb yc ycl yd ye yel yr yrl 
  have cM := c_Mo_errorPosition l g mo a o now dr pa sa iS bu tq rT wT sK sA sB sE oq bS bE bL rp 
  rw [k] at cM
  exact ⟨sp_Db_errorPosition t, wDb g q qte qteb qpa qpae qpar qpau qpab qsu qdp qdpe qdpr qdpu qdpb qpr qpro qprf qprs qprb qprn qprt qbe qci qrd qrs qrsr ua qse qct qre qreb qpst qkpt qfil qbp qbk dv t tb w0 w1 w2 w3 w4 su d0 d1 d2 d3 d4 pi po pf ps pb pn pt ba ca cal da ea eal rar ral cb cbl rev rb fl xb xc xcl xd xe xel xr xrl yb yc ycl yd ye yel yr yrl, wMo g mo a (upd o 6 0) now dr pa sa iS bu tq rT wT sK sA sB sE oq bS bE bL rp, amet cD rfl rfl, amet cM rfl rfl, hadD, hadM, pr_mk (inv_T (inv_6 h 0) (by omega))⟩
theorem s_errorPosition (hT : 0 ≤ T ∧ T ≤ 200000000) (hR : PRel g T q mo X M) : StepI l g (T + 9000) q mo X M y_Db_errorPosition b_Db_errorPosition 1 rm_Db_errorPosition y_Mo_errorPosition b_Mo_errorPosition 1 rm_Mo_errorPosition [] := by
  obtain ⟨aN, ua, qbp, qbk, vI, vL, vN, vM, vP, vQ, a, mI, mL, rfl, rfl, h⟩ := hR
  exact sv_errorPosition hT h
set_option maxRecDepth 100000 in
set_option maxHeartbeats 4000000 in
theorem sv_share (hT : 0 ≤ T ∧ T ≤ 200000000) (h : Inv T dv t tb w0 w1 w2 w3 w4 ba ca cal da ea rar ral rev rb fl xb xc xcl xd xe xr xrl yb yc ycl yd ye yr yrl o now pa sa iS bu rp) : StepI l g (T + 9000) q mo (wDb g q qte qteb qpa qpae qpar qpau qpab qsu qdp qdpe qdpr qdpu qdpb qpr qpro qprf qprs qprb qprn qprt qbe qci qrd qrs qrsr ua qse qct qre qreb qpst qkpt qfil qbp qbk dv t tb w0 w1 w2 w3 w4 su d0 d1 d2 d3 d4 pi po pf ps pb pn pt ba ca cal da ea eal rar ral cb cbl rev rb fl xb xc xcl xd xe xel xr xrl yb yc ycl yd ye yel yr yrl) (wMo g mo a o now dr pa sa iS bu tq rT wT sK sA sB sE oq bS bE bL rp) y_Db_share b_Db_share 2 rm_Db_share y_Mo_share b_Mo_share 2 rm_Mo_share [.int p1] := by
  obtain ⟨ht, hp, hr, hb, hpa, hsa, hre⟩ := id h
  unfold StepI
  obtain ⟨m1, k⟩ := share_Q (p := p1) (o := o) hr hb.1.1
  have cD := c_Db_share l g q qte qteb qpa qpae qpar qpau qpab qsu qdp qdpe qdpr qdpu qdpb qpr qpro qprf qprs qprb qprn qprt qbe qci qrd qrs qrsr ua qse qct qre qreb qpst qkpt qfil qbp qbk dv t tb w0 w1 w2 w3 w4 su d0 d1 d2 d3 d4 pi po pf ps pb pn pt ba ca cal da ea eal rar ral cb cbl rev rb fl xb xc xcl xd xe xel xr xrl yb yc ycl yd ye yel yr yrl p1
  have cM := c_Mo_share l g mo a o now dr pa sa iS bu tq rT wT sK sA sB sE oq bS bE bL rp p1 m1
  rw [k] at cM
  exact ⟨sp_Db_share p1 ca, wDb g q qte qteb qpa qpae qpar qpau qpab qsu qdp qdpe qdpr qdpu qdpb qpr qpro qprf qprs qprb qprn qprt qbe qci qrd qrs qrsr ua qse qct qre qreb qpst qkpt qfil qbp qbk dv t tb w0 w1 w2 w3 w4 su d0 d1 d2 d3 d4 pi po pf ps pb pn pt ba ca cal da ea eal rar ral cb cbl rev rb fl xb xc xcl xd xe xel xr xrl yb yc ycl yd ye yel yr yrl, wMo g mo a (upd o 6 0) now dr pa sa iS bu tq rT wT sK sA sB sE oq bS bE bL rp, amet cD rfl rfl, amet cM rfl rfl, hadD, hadM, pr_mk (inv_T (inv_6 h 0) (by omega))⟩
theorem s_share (hT : 0 ≤ T ∧ T ≤ 200000000) (hR : PRel g T q mo X M) : StepI l g (T + 9000) q mo X M y_Db_share b_Db_share 2 rm_Db_share y_Mo_share b_Mo_share 2 rm_Mo_share [.int p1] := by
  obtain ⟨aN, ua, qbp, qbk, vI, vL, vN, vM, vP, vQ, a, mI, mL, rfl, rfl, h⟩ := hR
  exact sv_share hT h
set_option maxRecDepth 100000 in
set_option maxHeartbeats 4000000 in
theorem sv_deflection (hT : 0 ≤ T ∧ T ≤ 200000000) (h : Inv T dv t tb w0 w1 w2 w3 w4 ba ca cal da ea rar ral rev rb fl xb xc xcl xd xe xr xrl yb yc ycl yd ye yr yrl o now pa sa iS bu rp) : StepL l g (T + 9000) q mo (wDb g q qte qteb qpa qpae qpar qpau qpab qsu qdp qdpe qdpr qdpu qdpb qpr qpro qprf qprs qprb qprn qprt qbe qci qrd qrs qrsr ua qse qct qre qreb qpst qkpt qfil qbp qbk dv t tb w0 w1 w2 w3 w4 su d0 d1 d2 d3 d4 pi po pf ps pb pn pt ba ca cal da ea eal rar ral cb cbl rev rb fl xb xc xcl xd xe xel xr xrl yb yc ycl yd ye yel yr yrl) (wMo g mo a o now dr pa sa iS bu tq rT wT sK sA sB sE oq bS bE bL rp) y_Db_deflection b_Db_deflection 1 rm_Db_deflection y_Mo_deflection b_Mo_deflection 1 rm_Mo_deflection [] := by
  obtain ⟨ht, hp, hr, hb, hpa, hsa, hre⟩ := id h
  unfold StepL
  obtain ⟨m1, k⟩ := deflection_Q (o := o) hr hb.1.1
  have cD := c_Db_deflection l g q qte qteb qpa qpae qpar qpau qpab qsu qdp qdpe qdpr qdpu qdpb qpr qpro qprf qprs qprb qprn qprt qbe qci qrd qrs qrsr ua qse qct qre qreb qpst qkpt qfil qbp qbk dv t tb w0 w1 w2 w3 w4 su d0 d1 d2 d3 d4 pi po pf ps pb pn pt ba ca cal da ea eal rar ral cb cbl rev rb fl xb xc xcl xd xe xel xr xrl yb yc ycl yd ye yel yr yrl 
  have cM := c_Mo_deflection l g mo a o now dr pa sa iS bu tq rT wT sK sA sB sE oq bS bE bL rp  m1
  rw [k] at cM
  exact ⟨sp_Db_deflection ca, wDb g q qte qteb qpa qpae qpar qpau qpab qsu qdp qdpe qdpr qdpu qdpb qpr qpro qprf qprs qprb qprn qprt qbe qci qrd qrs qrsr ua qse qct qre qreb qpst qkpt qfil qbp qbk dv t tb w0 w1 w2 w3 w4 su d0 d1 d2 d3 d4 pi po pf ps pb pn pt ba ca cal da ea eal rar ral cb cbl rev rb fl xb xc xcl xd xe xel xr xrl yb yc ycl yd ye yel yr yrl, wMo g mo a (upd o 6 0) now dr pa sa iS bu tq rT wT sK sA sB sE oq bS bE bL rp, amet cD rfl rfl, amet cM rfl rfl, hadD, hadM, pr_mk (inv_T (inv_6 h 0) (by omega))⟩
theorem s_deflection (hT : 0 ≤ T ∧ T ≤ 200000000) (hR : PRel g T q mo X M) : StepL l g (T + 9000) q mo X M y_Db_deflection b_Db_deflection 1 rm_Db_deflection y_Mo_deflection b_Mo_deflection 1 rm_Mo_deflection [] := by
  obtain ⟨aN, ua, qbp, qbk, vI, vL, vN, vM, vP, vQ, a, mI, mL, rfl, rfl, h⟩ := hR
  exact sv_deflection hT h
set_option maxRecDepth 100000 in
set_option maxHeartbeats 4000000 in
theorem sv_current (hT : 0 ≤ T ∧ T ≤ 200000000) (h : Inv T dv t tb w0 w1 w2 w3 w4 ba ca cal da ea rar ral rev rb fl xb xc xcl xd xe xr xrl yb yc ycl yd ye yr yrl o now pa sa iS bu rp) : StepL l g (T + 9000) q mo (wDb g q qte qteb qpa qpae qpar qpau qpab qsu qdp qdpe qdpr qdpu qdpb qpr qpro qprf qprs qprb qprn qprt qbe qci qrd qrs qrsr ua qse qct qre qreb qpst qkpt qfil qbp qbk dv t tb w0 w1 w2 w3 w4 su d0 d1 d2 d3 d4 pi po pf ps pb pn pt ba ca cal da ea eal rar ral cb cbl rev rb fl xb xc xcl xd xe xel xr xrl yb yc ycl yd ye yel yr yrl) (wMo g mo a o now dr pa sa iS bu tq rT wT sK sA sB sE oq bS bE bL rp) y_Db_current b_Db_current 1 rm_Db_current y_Mo_current b_Mo_current 1 rm_Mo_current [] := by
  obtain ⟨ht, hp, hr, hb, hpa, hsa, hre⟩ := id h
  unfold StepL
  obtain ⟨m1, k⟩ := current_Q (o := o) hr hb.1.1
  have cD := c_Db_current l g q qte qteb qpa qpae qpar qpau qpab qsu qdp qdpe qdpr qdpu qdpb qpr qpro qprf qprs qprb qprn qprt qbe qci qrd qrs qrsr ua qse qct qre qreb qpst qkpt qfil qbp qbk dv t tb w0 w1 w2 w3 w4 su d0 d1 d2 d3 d4 pi po pf ps pb pn pt ba ca cal da ea eal rar ral cb cbl rev rb fl xb xc xcl xd xe xel xr xrl yb yc ycl yd ye yel yr yrl 
  have cM := c_Mo_current l g mo a o now dr pa sa iS bu tq rT wT sK sA sB sE oq bS bE bL rp  m1
  rw [k] at cM
  exact ⟨sp_Db_current ca, wDb g q qte qteb qpa qpae qpar qpau qpab qsu qdp qdpe qdpr qdpu qdpb qpr qpro qprf qprs qprb qprn qprt qbe qci qrd qrs qrsr ua qse qct qre qreb qpst qkpt qfil qbp qbk dv t tb w0 w1 w2 w3 w4 su d0 d1 d2 d3 d4 pi po pf ps pb pn pt ba ca cal da ea eal rar ral cb cbl rev rb fl xb xc xcl xd xe xel xr xrl yb yc ycl yd ye yel yr yrl, wMo g mo a (upd o 6 0) now dr pa sa iS bu tq rT wT sK sA sB sE oq bS bE bL rp, amet cD rfl rfl, amet cM rfl rfl, hadD, hadM, pr_mk (inv_T (inv_6 h 0) (by omega))⟩
theorem s_current (hT : 0 ≤ T ∧ T ≤ 200000000) (hR : PRel g T q mo X M) : StepL l g (T + 9000) q mo X M y_Db_current b_Db_current 1 rm_Db_current y_Mo_current b_Mo_current 1 rm_Mo_current [] := by
  obtain ⟨aN, ua, qbp, qbk, vI, vL, vN, vM, vP, vQ, a, mI, mL, rfl, rfl, h⟩ := hR
  exact sv_current hT h
set_option maxRecDepth 100000 in
set_option maxHeartbeats 4000000 in
theorem sv_power (hT : 0 ≤ T ∧ T ≤ 200000000) (h : Inv T dv t tb w0 w1 w2 w3 w4 ba ca cal da ea rar ral rev rb fl xb xc xcl xd xe xr xrl yb yc ycl yd ye yr yrl o now pa sa iS bu rp) : StepL l g (T + 9000) q mo (wDb g q qte qteb qpa qpae qpar qpau qpab qsu qdp qdpe qdpr qdpu qdpb qpr qpro qprf qprs qprb qprn qprt qbe qci qrd qrs qrsr ua qse qct qre qreb qpst qkpt qfil qbp qbk dv t tb w0 w1 w2 w3 w4 su d0 d1 d2 d3 d4 pi po pf ps pb pn pt ba ca cal da ea eal rar ral cb cbl rev rb fl xb xc xcl xd xe xel xr xrl yb yc ycl yd ye yel yr yrl) (wMo g mo a o now dr pa sa iS bu tq rT wT sK sA sB sE oq bS bE bL rp) y_Db_power b_Db_power 3 rm_Db_power y_Mo_power b_Mo_power 2 rm_Mo_power [.int p1] := by
  obtain ⟨ht, hp, hr, hb, hpa, hsa, hre⟩ := id h
  unfold StepL
  obtain ⟨m1, k⟩ := power_Q (p := p1) (o := o) hr hb.1.1
  have cD := c_Db_power l g q qte qteb qpa qpae qpar qpau qpab qsu qdp qdpe qdpr qdpu qdpb qpr qpro qprf qprs qprb qprn qprt qbe qci qrd qrs qrsr ua qse qct qre qreb qpst qkpt qfil qbp qbk dv t tb w0 w1 w2 w3 w4 su d0 d1 d2 d3 d4 pi po pf ps pb pn pt ba ca cal da ea eal rar ral cb cbl rev rb fl xb xc xcl xd xe xel xr xrl yb yc ycl yd ye yel yr yrl p1
  have cM := c_Mo_power l g mo a o now dr pa sa iS bu tq rT wT sK sA sB sE oq bS bE bL rp p1 m1
  rw [k] at cM
  exact ⟨sp_Db_power p1 ca, wDb g q qte qteb qpa qpae qpar qpau qpab qsu qdp qdpe qdpr qdpu qdpb qpr qpro qprf qprs qprb qprn qprt qbe qci qrd qrs qrsr ua qse qct qre qreb qpst qkpt qfil qbp qbk dv t tb w0 w1 w2 w3 w4 su d0 d1 d2 d3 d4 pi po pf ps pb pn pt ba ca cal da ea eal rar ral cb cbl rev rb fl xb xc xcl xd xe xel xr xrl yb yc ycl yd ye yel yr yrl, wMo g mo a (upd o 6 0) now dr pa sa iS bu tq rT wT sK sA sB sE oq bS bE bL rp, amet cD rfl rfl, amet cM rfl rfl, hadD, hadM, pr_mk (inv_T (inv_6 h 0) (by omega))⟩
theorem s_power (hT : 0 ≤ T ∧ T ≤ 200000000) (hR : PRel g T q mo X M) : StepL l g (T + 9000) q mo X M y_Db_power b_Db_power 3 rm_Db_power y_Mo_power b_Mo_power 2 rm_Mo_power [.int p1] := by
  obtain ⟨aN, ua, qbp, qbk, vI, vL, vN, vM, vP, vQ, a, mI, mL, rfl, rfl, h⟩ := hR
  exact sv_power hT h
set_option maxRecDepth 100000 in
set_option maxHeartbeats 4000000 in
theorem sv_whyNot (hT : 0 ≤ T ∧ T ≤ 200000000) (h : Inv T dv t tb w0 w1 w2 w3 w4 ba ca cal da ea rar ral rev rb fl xb xc xcl xd xe xr xrl yb yc ycl yd ye yr yrl o now pa sa iS bu rp) : StepI l g (T + 9000) q mo (wDb g q qte qteb qpa qpae qpar qpau qpab qsu qdp qdpe qdpr qdpu qdpb qpr qpro qprf qprs qprb qprn qprt qbe qci qrd qrs qrsr ua qse qct qre qreb qpst qkpt qfil qbp qbk dv t tb w0 w1 w2 w3 w4 su d0 d1 d2 d3 d4 pi po pf ps pb pn pt ba ca cal da ea eal rar ral cb cbl rev rb fl xb xc xcl xd xe xel xr xrl yb yc ycl yd ye yel yr yrl) (wMo g mo a o now dr pa sa iS bu tq rT wT sK sA sB sE oq bS bE bL rp) y_Db_whyNot b_Db_whyNot 1 rm_Db_whyNot y_Mo_whyNot b_Mo_whyNot 1 rm_Mo_whyNot [] := by
  obtain ⟨ht, hp, hr, hb, hpa, hsa, hre⟩ := id h
  unfold StepI
  obtain ⟨m1, k⟩ := whyNot_Q (o := o) hp hr hb.1.1
  have cD := c_Db_whyNot l g q qte qteb qpa qpae qpar qpau qpab qsu qdp qdpe qdpr qdpu qdpb qpr qpro qprf qprs qprb qprn qprt qbe qci qrd qrs qrsr ua qse qct qre qreb qpst qkpt qfil qbp qbk dv t tb w0 w1 w2 w3 w4 su d0 d1 d2 d3 d4 pi po pf ps pb pn pt ba ca cal da ea eal rar ral cb cbl rev rb fl xb xc xcl xd xe xel xr xrl yb yc ycl yd ye yel yr yrl 
  have cM := c_Mo_whyNot l g mo a o now dr pa sa iS bu tq rT wT sK sA sB sE oq bS bE bL rp  m1
  rw [k] at cM
  exact ⟨sp_Db_whyNot w0 ca, wDb g q qte qteb qpa qpae qpar qpau qpab qsu qdp qdpe qdpr qdpu qdpb qpr qpro qprf qprs qprb qprn qprt qbe qci qrd qrs qrsr ua qse qct qre qreb qpst qkpt qfil qbp qbk dv t tb w0 w1 w2 w3 w4 su d0 d1 d2 d3 d4 pi po pf ps pb pn pt ba ca cal da ea eal rar ral cb cbl rev rb fl xb xc xcl xd xe xel xr xrl yb yc ycl yd ye yel yr yrl, wMo g mo a (upd o 6 0) now dr pa sa iS bu tq rT wT sK sA sB sE oq bS bE bL rp, amet cD rfl rfl, amet cM rfl rfl, hadD, hadM, pr_mk (inv_T (inv_6 h 0) (by omega))⟩
theorem s_whyNot (hT : 0 ≤ T ∧ T ≤ 200000000) (hR : PRel g T q mo X M) : StepI l g (T + 9000) q mo X M y_Db_whyNot b_Db_whyNot 1 rm_Db_whyNot y_Mo_whyNot b_Mo_whyNot 1 rm_Mo_whyNot [] := by
  obtain ⟨aN, ua, qbp, qbk, vI, vL, vN, vM, vP, vQ, a, mI, mL, rfl, rfl, h⟩ := hR
  exact sv_whyNot hT h
set_option maxRecDepth 100000 in
set_option maxHeartbeats 4000000 in
theorem sv_energy (hT : 0 ≤ T ∧ T ≤ 200000000) (h : Inv T dv t tb w0 w1 w2 w3 w4 ba ca cal da ea rar ral rev rb fl xb xc xcl xd xe xr xrl yb yc ycl yd ye yr yrl o now pa sa iS bu rp) : StepL l g (T + 9000) q mo (wDb g q qte qteb qpa qpae qpar qpau qpab qsu qdp qdpe qdpr qdpu qdpb qpr qpro qprf qprs qprb qprn qprt qbe qci qrd qrs qrsr ua qse qct qre qreb qpst qkpt qfil qbp qbk dv t tb w0 w1 w2 w3 w4 su d0 d1 d2 d3 d4 pi po pf ps pb pn pt ba ca cal da ea eal rar ral cb cbl rev rb fl xb xc xcl xd xe xel xr xrl yb yc ycl yd ye yel yr yrl) (wMo g mo a o now dr pa sa iS bu tq rT wT sK sA sB sE oq bS bE bL rp) y_Db_energy b_Db_energy 1 rm_Db_energy y_Mo_energy b_Mo_energy 1 rm_Mo_energy [] := by
  obtain ⟨ht, hp, hr, hb, hpa, hsa, hre⟩ := id h
  unfold StepL
  have k := energy_Q (o := o) hb.1.1
  have cD := c_Db_energy l g q qte qteb qpa qpae qpar qpau qpab qsu qdp qdpe qdpr qdpu qdpb qpr qpro qprf qprs qprb qprn qprt qbe qci qrd qrs qrsr ua qse qct qre qreb qpst qkpt qfil qbp qbk dv t tb w0 w1 w2 w3 w4 su d0 d1 d2 d3 d4 pi po pf ps pb pn pt ba ca cal da ea eal rar ral cb cbl rev rb fl xb xc xcl xd xe xel xr xrl yb yc ycl yd ye yel yr yrl 
  have cM := c_Mo_energy l g mo a o now dr pa sa iS bu tq rT wT sK sA sB sE oq bS bE bL rp 
  rw [k] at cM
  exact ⟨sp_Db_energy cal, wDb g q qte qteb qpa qpae qpar qpau qpab qsu qdp qdpe qdpr qdpu qdpb qpr qpro qprf qprs qprb qprn qprt qbe qci qrd qrs qrsr ua qse qct qre qreb qpst qkpt qfil qbp qbk dv t tb w0 w1 w2 w3 w4 su d0 d1 d2 d3 d4 pi po pf ps pb pn pt ba ca cal da ea eal rar ral cb cbl rev rb fl xb xc xcl xd xe xel xr xrl yb yc ycl yd ye yel yr yrl, wMo g mo a (upd o 6 0) now dr pa sa iS bu tq rT wT sK sA sB sE oq bS bE bL rp, amet cD rfl rfl, amet cM rfl rfl, hadD, hadM, pr_mk (inv_T (inv_6 h 0) (by omega))⟩
theorem s_energy (hT : 0 ≤ T ∧ T ≤ 200000000) (hR : PRel g T q mo X M) : StepL l g (T + 9000) q mo X M y_Db_energy b_Db_energy 1 rm_Db_energy y_Mo_energy b_Mo_energy 1 rm_Mo_energy [] := by
  obtain ⟨aN, ua, qbp, qbk, vI, vL, vN, vM, vP, vQ, a, mI, mL, rfl, rfl, h⟩ := hR
  exact sv_energy hT h
end
end TZD1
