abbrev rm_Db_manner : Room := { frames := 6, cells := 0, slots := 0, locals := 133 }
noncomputable def sp_Db_manner (p1 : Int32) (p2 : Int32) (ea : IV) (eal : LV) (rar : NI) (ral : NL) : Int32 × IV × LV := lett (sp_Db_checkManner p1 ea eal rar ral) fun (y2 : IV × LV) => lett (sp_Db_checkRange p2 (0 : Int32) (5 : Int32)) fun (y4 : Unit) => lett (sp_Rs_at (y2.1 2) y2.1) fun (y5 : Option Nat) => optt y5 (((-1 : Int32), (y2.1, y2.2))) (fun (k6 : Nat) => if p2 = (0 : Int32) then ((rar k6 0, (y2.1, y2.2))) else (if p2 = (1 : Int32) then ((rar k6 1, (y2.1, y2.2))) else (if p2 = (2 : Int32) then ((rar k6 2, (y2.1, y2.2))) else (if p2 = (3 : Int32) then ((y2.1 4, (y2.1, y2.2))) else (if p2 = (4 : Int32) then ((y2.1 2, (y2.1, y2.2))) else ((y2.1 3, (y2.1, y2.2))))))))
def ok_Db_manner (p1 : Int32) (p2 : Int32) (ea : IV) (eal : LV) (rar : NI) (ral : NL) : Prop := (ok_Db_checkManner p1 ea eal rar ral) ∧ lett (sp_Db_checkManner p1 ea eal rar ral) fun (y2 : IV × LV) => (ok_Db_checkRange p2 (0 : Int32) (5 : Int32)) ∧ lett (sp_Db_checkRange p2 (0 : Int32) (5 : Int32)) fun (y4 : Unit) => lett (sp_Rs_at (y2.1 2) y2.1) fun (y5 : Option Nat) => ((y5 = none → True) ∧ (∀ k6 : Nat, y5 = some k6 → ((p2 = (0 : Int32) → (k6 < 20) ∧ True) ∧ (¬ (p2 = (0 : Int32)) → ((p2 = (1 : Int32) → (k6 < 20) ∧ True) ∧ (¬ (p2 = (1 : Int32)) → ((p2 = (2 : Int32) → (k6 < 20) ∧ True) ∧ (¬ (p2 = (2 : Int32)) → ((p2 = (3 : Int32) → True) ∧ (¬ (p2 = (3 : Int32)) → ((p2 = (4 : Int32) → True) ∧ (¬ (p2 = (4 : Int32)) → True))))))))))))
set_option maxRecDepth 100000 in
set_option maxHeartbeats 4000000 in
theorem c_Db_manner (l : Launch) (g : GX) (qdb : Nat) (qte : Nat) (qteb : Nat) (qpa : Nat) (qpae : Nat) (qpar : Nat) (qpau : Nat) (qpab : Nat) (qsu : Nat) (qdp : Nat) (qdpe : Nat) (qdpr : Nat) (qdpu : Nat) (qdpb : Nat) (qpr : Nat) (qpro : Nat) (qprf : Nat) (qprs : Nat) (qprb : Nat) (qprn : Nat) (qprt : Nat) (qbe : Nat) (qci : Nat) (qrd : Nat) (qrs : Nat) (qrsr : Nat) (ua : Nat → Nat) (qse : Nat) (qct : Nat) (qre : Nat) (qreb : Nat) (qpst : Nat) (qkpt : Nat) (qfil : Nat) (qbp : Nat → Nat → Nat) (qbk : Nat → Nat → Nat) (dv : IV) (t : IV) (tb : IV) (w0 : IV) (w1 : IV) (w2 : IV) (w3 : IV) (w4 : IV) (su : IV) (d0 : IV) (d1 : IV) (d2 : IV) (d3 : IV) (d4 : IV) (pi : IV) (po : IV) (pf : IV) (ps : IV) (pb : IV) (pn : IV) (pt : IV) (ba : IV) (ca : IV) (cal : LV) (da : IV) (ea : IV) (eal : LV) (rar : NI) (ral : NL) (cb : IV) (cbl : LV) (rev : IV) (rb : IV) (fl : IV) (xb : NI) (xc : NI) (xcl : NL) (xd : NI) (xe : NI) (xel : NL) (xr : NNI) (xrl : NNL) (yb : NI) (yc : NI) (ycl : NL) (yd : NI) (ye : NI) (yel : NL) (yr : NNI) (yrl : NNL) (p1 : Int32) (p2 : Int32) (hok : ok_Db_manner p1 p2 ea eal rar ral) : Met l y_Db_manner (wsY y_Db_manner b_Db_manner 5 (some .int)) rm_Db_manner (CP g [.ref qdb, .int p1, .int p2] (wDb g qdb qte qteb qpa qpae qpar qpau qpab qsu qdp qdpe qdpr qdpu qdpb qpr qpro qprf qprs qprb qprn qprt qbe qci qrd qrs qrsr ua qse qct qre qreb qpst qkpt qfil qbp qbk dv t tb w0 w1 w2 w3 w4 su d0 d1 d2 d3 d4 pi po pf ps pb pn pt ba ca cal da ea eal rar ral cb cbl rev rb fl xb xc xcl xd xe xel xr xrl yb yc ycl yd ye yel yr yrl)) (CI g (wDb g qdb qte qteb qpa qpae qpar qpau qpab qsu qdp qdpe qdpr qdpu qdpb qpr qpro qprf qprs qprb qprn qprt qbe qci qrd qrs qrsr ua qse qct qre qreb qpst qkpt qfil qbp qbk dv t tb w0 w1 w2 w3 w4 su d0 d1 d2 d3 d4 pi po pf ps pb pn pt ba ca cal da ea eal rar ral cb cbl rev rb fl xb xc xcl xd xe xel xr xrl yb yc ycl yd ye yel yr yrl) (fun u : IV × LV => wDb g qdb qte qteb qpa qpae qpar qpau qpab qsu qdp qdpe qdpr qdpu qdpb qpr qpro qprf qprs qprb qprn qprt qbe qci qrd qrs qrsr ua qse qct qre qreb qpst qkpt qfil qbp qbk dv t tb w0 w1 w2 w3 w4 su d0 d1 d2 d3 d4 pi po pf ps pb pn pt ba ca cal da u.1 u.2 rar ral cb cbl rev rb fl xb xc xcl xd xe xel xr xrl yb yc ycl yd ye yel yr yrl) (sp_Db_manner p1 p2 ea eal rar ral)) 0 0 (inW (wDb g qdb qte qteb qpa qpae qpar qpau qpab qsu qdp qdpe qdpr qdpu qdpb qpr qpro qprf qprs qprb qprn qprt qbe qci qrd qrs qrsr ua qse qct qre qreb qpst qkpt qfil qbp qbk dv t tb w0 w1 w2 w3 w4 su d0 d1 d2 d3 d4 pi po pf ps pb pn pt ba ca cal da ea eal rar ral cb cbl rev rb fl xb xc xcl xd xe xel xr xrl yb yc ycl yd ye yel yr yrl)) := by
  refine Met.ofW (cc := b_Db_manner) (maxL := 5) (ret := (some .int)) pn_Db rfl ?_
  intro p e s m args below meth c s₁ B hml hv
  obtain ⟨rfl, C, hP, hD, hS⟩ := enter "DecadeBridge" rfl B hml hv
  obtain ⟨hx, hb, hr, hml, hown, hlk, hts, hK, hZo, hZ⟩ := id C
  refine entryW (lv := [(0, .ref qdb), (1, .int p1), (2, .int p2)]) rfl (Nat.le_of_ble_eq_true rfl) (fun ls hl => ?_)
  obtain ⟨z, hz⟩ : ∃ z, z = sp_Db_manner p1 p2 ea eal rar ral := ⟨_, rfl⟩
  rw [← hz]
  unfold sp_Db_manner at hz
  unfold ok_Db_manner at hok
  refine lv_aload_n hx hb d_Db_manner_0 rfl (lv_at hl 0 rfl) ?_
  refine lv_iload_n hx hb d_Db_manner_1 rfl (lv_at hl 1 rfl) ?_
  have hs1 := hok.1
  have hok := hok.2
  have hB : SubW g (inW (wDb g qdb qte qteb qpa qpae qpar qpau qpab qsu qdp qdpe qdpr qdpu qdpb qpr qpro qprf qprs qprb qprn qprt qbe qci qrd qrs qrsr ua qse qct qre qreb qpst qkpt qfil qbp qbk dv t tb w0 w1 w2 w3 w4 su d0 d1 d2 d3 d4 pi po pf ps pb pn pt ba ca cal da ea eal rar ral cb cbl rev rb fl xb xc xcl xd xe xel xr xrl yb yc ycl yd ye yel yr yrl)) s (wDb g qdb qte qteb qpa qpae qpar qpau qpab qsu qdp qdpe qdpr qdpu qdpb qpr qpro qprf qprs qprb qprn qprt qbe qci qrd qrs qrsr ua qse qct qre qreb qpst qkpt qfil qbp qbk dv t tb w0 w1 w2 w3 w4 su d0 d1 d2 d3 d4 pi po pf ps pb pn pt ba ca cal da ea eal rar ral cb cbl rev rb fl xb xc xcl xd xe xel xr xrl yb yc ycl yd ye yel yr yrl) _ (List.range _) _ _ := (subF hP hD hS)
  refine goVF hB (run_v C mf_Db_checkManner qm_Db_346 (c_Db_checkManner l g qdb qte qteb qpa qpae qpar qpau qpab qsu qdp qdpe qdpr qdpu qdpb qpr qpro qprf qprs qprb qprn qprt qbe qci qrd qrs qrsr ua qse qct qre qreb qpst qkpt qfil qbp qbk dv t tb w0 w1 w2 w3 w4 su d0 d1 d2 d3 d4 pi po pf ps pb pn pt ba ca cal da ea eal rar ral cb cbl rev rb fl xb xc xcl xd xe xel xr xrl yb yc ycl yd ye yel yr yrl p1 hs1) rfl rfl ⟨Nat.le_of_ble_eq_true rfl, Nat.le_of_ble_eq_true rfl⟩ ⟨Nat.le_of_ble_eq_true rfl, Nat.le_of_ble_eq_true rfl⟩ hB rfl rfl hl rfl rfl (Nat.le_of_ble_eq_true rfl) d_Db_manner_2) (fun _ => rfl) (fun y2 ey2 H locs hP hD hS => ?_)
  have hP : va_P g.1 vwCl (wDb g qdb qte qteb qpa qpae qpar qpau qpab qsu qdp qdpe qdpr qdpu qdpb qpr qpro qprf qprs qprb qprn qprt qbe qci qrd qrs qrsr ua qse qct qre qreb qpst qkpt qfil qbp qbk dv t tb w0 w1 w2 w3 w4 su d0 d1 d2 d3 d4 pi po pf ps pb pn pt ba ca cal da y2.1 y2.2 rar ral cb cbl rev rb fl xb xc xcl xd xe xel xr xrl yb yc ycl yd ye yel yr yrl) H := hP
  have hD : va_D (inW (wDb g qdb qte qteb qpa qpae qpar qpau qpab qsu qdp qdpe qdpr qdpu qdpb qpr qpro qprf qprs qprb qprn qprt qbe qci qrd qrs qrsr ua qse qct qre qreb qpst qkpt qfil qbp qbk dv t tb w0 w1 w2 w3 w4 su d0 d1 d2 d3 d4 pi po pf ps pb pn pt ba ca cal da ea eal rar ral cb cbl rev rb fl xb xc xcl xd xe xel xr xrl yb yc ycl yd ye yel yr yrl)) (wDb g qdb qte qteb qpa qpae qpar qpau qpab qsu qdp qdpe qdpr qdpu qdpb qpr qpro qprf qprs qprb qprn qprt qbe qci qrd qrs qrsr ua qse qct qre qreb qpst qkpt qfil qbp qbk dv t tb w0 w1 w2 w3 w4 su d0 d1 d2 d3 d4 pi po pf ps pb pn pt ba ca cal da y2.1 y2.2 rar ral cb cbl rev rb fl xb xc xcl xd xe xel xr xrl yb yc ycl yd ye yel yr yrl) := hD
  have hz := lett_z hz ey2
  have hok := lett_o hok ey2
  refine lv_iload_n hx hb d_Db_manner_5 rfl (lv_at hl 2 rfl) ?_
  refine lv_iconst (v := 0) hx hb d_Db_manner_6 (by decide) ?_
  refine lv_iconst (v := 5) hx hb d_Db_manner_7 (by decide) ?_
  have hs3 := hok.1
  have hok := hok.2
  have hB : SubW g (inW (wDb g qdb qte qteb qpa qpae qpar qpau qpab qsu qdp qdpe qdpr qdpu qdpb qpr qpro qprf qprs qprb qprn qprt qbe qci qrd qrs qrsr ua qse qct qre qreb qpst qkpt qfil qbp qbk dv t tb w0 w1 w2 w3 w4 su d0 d1 d2 d3 d4 pi po pf ps pb pn pt ba ca cal da ea eal rar ral cb cbl rev rb fl xb xc xcl xd xe xel xr xrl yb yc ycl yd ye yel yr yrl)) s (wDb g qdb qte qteb qpa qpae qpar qpau qpab qsu qdp qdpe qdpr qdpu qdpb qpr qpro qprf qprs qprb qprn qprt qbe qci qrd qrs qrsr ua qse qct qre qreb qpst qkpt qfil qbp qbk dv t tb w0 w1 w2 w3 w4 su d0 d1 d2 d3 d4 pi po pf ps pb pn pt ba ca cal da y2.1 y2.2 rar ral cb cbl rev rb fl xb xc xcl xd xe xel xr xrl yb yc ycl yd ye yel yr yrl) (wNil g ) [] _ _ := ⟨rfl, rfl, hP, hD, hS⟩
  refine goV0 hB (run_s C mf_Db_checkRange qm_Db_131 (c_Db_checkRange l g p2 (0 : Int32) (5 : Int32) hs3) rfl rfl ⟨Nat.le_of_ble_eq_true rfl, Nat.le_of_ble_eq_true rfl⟩ ⟨Nat.le_of_ble_eq_true rfl, Nat.le_of_ble_eq_true rfl⟩ hB hl rfl rfl (Nat.le_of_ble_eq_true rfl) d_Db_manner_8) (fun y4 ey4 H locs hP hS => ?_)
  have hz := lett_z hz ey4
  have hok := lett_o hok ey4
  refine lv_aload_n hx hb d_Db_manner_11 rfl (lv_at hl 0 rfl) ?_
  refine gf C hP 0 4 fkDb rfl (by decide) rfl qf_Db_44 (gDb_4 _ _ _ _ _ _ _ _ _ _ _) d_Db_manner_12 ?_
  refine gf C hP 21 6 fkBe rfl (by decide) rfl qf_Db_190 (gBe_6 _ _ _ _ _) d_Db_manner_15 ?_
  refine lv_astore_n (lv' := [(3, .ref qrs), (0, .ref qdb), (1, .int p1), (2, .int p2)]) hx hb d_Db_manner_18 rfl hl (by decide) rfl (fun ls hl => ?_)
  refine lv_aload_n hx hb d_Db_manner_19 rfl (lv_at hl 0 rfl) ?_
  refine lv_aload_n hx hb d_Db_manner_20 rfl (lv_at hl 0 rfl) ?_
  refine gf C hP 24 2 fkRs rfl (by decide) rfl qf_Db_349 (gRs_2 _ _ _) d_Db_manner_21 ?_
  have hB : SubW g (inW (wDb g qdb qte qteb qpa qpae qpar qpau qpab qsu qdp qdpe qdpr qdpu qdpb qpr qpro qprf qprs qprb qprn qprt qbe qci qrd qrs qrsr ua qse qct qre qreb qpst qkpt qfil qbp qbk dv t tb w0 w1 w2 w3 w4 su d0 d1 d2 d3 d4 pi po pf ps pb pn pt ba ca cal da ea eal rar ral cb cbl rev rb fl xb xc xcl xd xe xel xr xrl yb yc ycl yd ye yel yr yrl)) s (wDb g qdb qte qteb qpa qpae qpar qpau qpab qsu qdp qdpe qdpr qdpu qdpb qpr qpro qprf qprs qprb qprn qprt qbe qci qrd qrs qrsr ua qse qct qre qreb qpst qkpt qfil qbp qbk dv t tb w0 w1 w2 w3 w4 su d0 d1 d2 d3 d4 pi po pf ps pb pn pt ba ca cal da y2.1 y2.2 rar ral cb cbl rev rb fl xb xc xcl xd xe xel xr xrl yb yc ycl yd ye yel yr yrl) (wRs g qrs qrsr ua y2.1 y2.2 rar ral) [24, 25, 26, 27, 28, 29, 30, 31, 32, 33, 34, 35, 36, 37, 38, 39, 40, 41, 42, 43, 44, 45] _ _ := ⟨rfl, rfl, hP, hD, hS⟩
  refine goO0 hB (run_v C mf_Rs_at qm_Db_321 (c_Rs_at l g qrs qrsr ua y2.1 y2.2 rar ral (y2.1 2)) rfl rfl ⟨Nat.le_of_ble_eq_true rfl, Nat.le_of_ble_eq_true rfl⟩ ⟨Nat.le_of_ble_eq_true rfl, Nat.le_of_ble_eq_true rfl⟩ hB rfl rfl hl rfl rfl (Nat.le_of_ble_eq_true rfl) d_Db_manner_24) (fun y5 ey5 H locs hP hS => ?_)
  have hz := lett_z hz ey5
  have hok := lett_o hok ey5
  refine lv_astoreQ (Rf := ua) (o := y5) (lv' := [(4, va_rf (Option.map ua y5)), (3, .ref qrs), (0, .ref qdb), (1, .int p1), (2, .int p2)]) hx hb d_Db_manner_27 hl (by decide) rfl (fun ls hl => ?_)
  refine lv_aloadQ (Rf := ua) (o := y5) hx hb d_Db_manner_29 (lv_at hl 0 rfl) ?_
  rcases y5 with _ | k6
  · have hz := optt_n hz
    refine lv_ifnonnullN hx hb d_Db_manner_31 ?_
    refine lv_iconst (v := -1) hx hb d_Db_manner_34 (by decide) ?_
    exact endI1 C hz hP hS d_Db_manner_35
  · have hz := optt_s hz
    have hok := hok.2 _ rfl
    refine lv_ifnonnull (tgt := 36) hx hb d_Db_manner_31 (by decide) ?_
    refine lv_iload_n hx hb d_Db_manner_36 rfl (lv_at hl 4 rfl) ?_
    by_cases c10_0 : p2 = (0 : Int32)
    · have hz := hz.trans (if_pos c10_0)
      have hok := hok.1 c10_0
      refine lv_tableIn (x := p2) (off := 35) (tgt := 72) hx hb d_Db_manner_37 (by rw [c10_0]; decide) (by rw [c10_0]; decide) (by rw [c10_0]; rfl) (by decide) ?_
      refine lv_aload hx hb d_Db_manner_72 (lv_at hl 0 rfl) ?_
      have hs7 := hok.1
      have hok := hok.2
      refine gf C hP (k6 + 26) 0 fkRt (pg_Db_rp hs7) (by decide) rfl qf_Db_325 (gRt_0 _ _) d_Db_manner_74 ?_
      exact endI1 C hz hP hS d_Db_manner_77
    have hz := hz.trans (if_neg c10_0)
    have hok := hok.2 c10_0
    by_cases c10_1 : p2 = (1 : Int32)
    · have hz := hz.trans (if_pos c10_1)
      have hok := hok.1 c10_1
      refine lv_tableIn (x := p2) (off := 41) (tgt := 78) hx hb d_Db_manner_37 (by rw [c10_1]; decide) (by rw [c10_1]; decide) (by rw [c10_1]; rfl) (by decide) ?_
      refine lv_aload hx hb d_Db_manner_78 (lv_at hl 0 rfl) ?_
      have hs8 := hok.1
      have hok := hok.2
      refine gf C hP (k6 + 26) 1 fkRt (pg_Db_rp hs8) (by decide) rfl qf_Db_328 (gRt_1 _ _) d_Db_manner_80 ?_
      exact endI1 C hz hP hS d_Db_manner_83
    have hz := hz.trans (if_neg c10_1)
    have hok := hok.2 c10_1
    by_cases c10_2 : p2 = (2 : Int32)
    · have hz := hz.trans (if_pos c10_2)
      have hok := hok.1 c10_2
      refine lv_tableIn (x := p2) (off := 47) (tgt := 84) hx hb d_Db_manner_37 (by rw [c10_2]; decide) (by rw [c10_2]; decide) (by rw [c10_2]; rfl) (by decide) ?_
      refine lv_aload hx hb d_Db_manner_84 (lv_at hl 0 rfl) ?_
      have hs9 := hok.1
      have hok := hok.2
      refine gf C hP (k6 + 26) 2 fkRt (pg_Db_rp hs9) (by decide) rfl qf_Db_329 (gRt_2 _ _) d_Db_manner_86 ?_
      exact endI1 C hz hP hS d_Db_manner_89
    have hz := hz.trans (if_neg c10_2)
    have hok := hok.2 c10_2
    by_cases c10_3 : p2 = (3 : Int32)
    · have hz := hz.trans (if_pos c10_3)
      have hok := hok.1 c10_3
      refine lv_tableIn (x := p2) (off := 53) (tgt := 90) hx hb d_Db_manner_37 (by rw [c10_3]; decide) (by rw [c10_3]; decide) (by rw [c10_3]; rfl) (by decide) ?_
      refine lv_aload_n hx hb d_Db_manner_90 rfl (lv_at hl 1 rfl) ?_
      refine gf C hP 24 4 fkRs rfl (by decide) rfl qf_Db_352 (gRs_4 _ _ _) d_Db_manner_91 ?_
      exact endI1 C hz hP hS d_Db_manner_94
    have hz := hz.trans (if_neg c10_3)
    have hok := hok.2 c10_3
    by_cases c10_4 : p2 = (4 : Int32)
    · have hz := hz.trans (if_pos c10_4)
      have hok := hok.1 c10_4
      refine lv_tableIn (x := p2) (off := 58) (tgt := 95) hx hb d_Db_manner_37 (by rw [c10_4]; decide) (by rw [c10_4]; decide) (by rw [c10_4]; rfl) (by decide) ?_
      refine lv_aload_n hx hb d_Db_manner_95 rfl (lv_at hl 1 rfl) ?_
      refine gf C hP 24 2 fkRs rfl (by decide) rfl qf_Db_349 (gRs_2 _ _ _) d_Db_manner_96 ?_
      exact endI1 C hz hP hS d_Db_manner_99
    have hz := hz.trans (if_neg c10_4)
    have hok := hok.2 c10_4
    refine lv_tableOut (x := p2) (tgt := 100) hx hb d_Db_manner_37 (tswL (x := p2) (lo := 0) (hi := 4) 5 [(0 : Int32), (1 : Int32), (2 : Int32), (3 : Int32), (4 : Int32)] (by decide) (by decide) (List.forall_mem_cons.mpr ⟨c10_0, List.forall_mem_cons.mpr ⟨c10_1, List.forall_mem_cons.mpr ⟨c10_2, List.forall_mem_cons.mpr ⟨c10_3, List.forall_mem_cons.mpr ⟨c10_4, fun _ h => absurd h List.not_mem_nil⟩⟩⟩⟩⟩)) (by decide) ?_
    refine lv_aload_n hx hb d_Db_manner_100 rfl (lv_at hl 1 rfl) ?_
    refine gf C hP 24 3 fkRs rfl (by decide) rfl qf_Db_355 (gRs_3 _ _ _) d_Db_manner_101 ?_
    exact endI1 C hz hP hS d_Db_manner_104
