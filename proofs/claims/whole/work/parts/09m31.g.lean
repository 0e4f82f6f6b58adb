abbrev rm_Db_size : Room := { frames := 4, cells := 0, slots := 0, locals := 88 }
noncomputable def sp_Db_size (p1 : Int32) (dv : IV) (w0 : IV) (ba : IV) (ca : IV) (ea : IV) (rar : NI) : Int32 := lett (sp_Db_checkRange p1 (0 : Int32) (19 : Int32)) fun (y2 : Unit) => if p1 = (0 : Int32) then (w0 0) else (if p1 = (1 : Int32) then (w0 1) else (if p1 = (2 : Int32) then (w0 2) else (if p1 = (3 : Int32) then (ca 3) else (if p1 = (4 : Int32) then (w0 12) else (if p1 = (5 : Int32) then (w0 13) else (if p1 = (6 : Int32) then (w0 14) else (if p1 = (7 : Int32) then (w0 15) else (if p1 = (8 : Int32) then (ca 9) else (if p1 = (9 : Int32) then (ca 10) else (if p1 = (10 : Int32) then (ca 1) else (if p1 = (11 : Int32) then (ca 2) else (if p1 = (12 : Int32) then (if (ca 6) = 0 then ((0 : Int32)) else ((1 : Int32))) else (if p1 = (13 : Int32) then (ca 4) else (if p1 = (14 : Int32) then (ca 5) else (if p1 = (15 : Int32) then (ba 4) else (if p1 = (16 : Int32) then (ba 5) else (if p1 = (17 : Int32) then (ea 1) else (if p1 = (18 : Int32) then (lett (sp_Rs_manners ea rar) fun (y5 : Int32) => y5) else (dv 11)))))))))))))))))))
def ok_Db_size (p1 : Int32) (ea : IV) (rar : NI) : Prop := (ok_Db_checkRange p1 (0 : Int32) (19 : Int32)) ∧ lett (sp_Db_checkRange p1 (0 : Int32) (19 : Int32)) fun (y2 : Unit) => ((p1 = (0 : Int32) → True) ∧ (¬ (p1 = (0 : Int32)) → ((p1 = (1 : Int32) → True) ∧ (¬ (p1 = (1 : Int32)) → ((p1 = (2 : Int32) → True) ∧ (¬ (p1 = (2 : Int32)) → ((p1 = (3 : Int32) → True) ∧ (¬ (p1 = (3 : Int32)) → ((p1 = (4 : Int32) → True) ∧ (¬ (p1 = (4 : Int32)) → ((p1 = (5 : Int32) → True) ∧ (¬ (p1 = (5 : Int32)) → ((p1 = (6 : Int32) → True) ∧ (¬ (p1 = (6 : Int32)) → ((p1 = (7 : Int32) → True) ∧ (¬ (p1 = (7 : Int32)) → ((p1 = (8 : Int32) → True) ∧ (¬ (p1 = (8 : Int32)) → ((p1 = (9 : Int32) → True) ∧ (¬ (p1 = (9 : Int32)) → ((p1 = (10 : Int32) → True) ∧ (¬ (p1 = (10 : Int32)) → ((p1 = (11 : Int32) → True) ∧ (¬ (p1 = (11 : Int32)) → ((p1 = (12 : Int32) → True) ∧ (¬ (p1 = (12 : Int32)) → ((p1 = (13 : Int32) → True) ∧ (¬ (p1 = (13 : Int32)) → ((p1 = (14 : Int32) → True) ∧ (¬ (p1 = (14 : Int32)) → ((p1 = (15 : Int32) → True) ∧ (¬ (p1 = (15 : Int32)) → ((p1 = (16 : Int32) → True) ∧ (¬ (p1 = (16 : Int32)) → ((p1 = (17 : Int32) → True) ∧ (¬ (p1 = (17 : Int32)) → ((p1 = (18 : Int32) → (ok_Rs_manners ea rar) ∧ True) ∧ (¬ (p1 = (18 : Int32)) → True))))))))))))))))))))))))))))))))))))))
set_option maxRecDepth 100000 in
set_option maxHeartbeats 4000000 in
theorem c_Db_size (l : Launch) (g : GX) (qdb : Nat) (qte : Nat) (qteb : Nat) (qpa : Nat) (qpae : Nat) (qpar : Nat) (qpau : Nat) (qpab : Nat) (qsu : Nat) (qdp : Nat) (qdpe : Nat) (qdpr : Nat) (qdpu : Nat) (qdpb : Nat) (qpr : Nat) (qpro : Nat) (qprf : Nat) (qprs : Nat) (qprb : Nat) (qprn : Nat) (qprt : Nat) (qbe : Nat) (qci : Nat) (qrd : Nat) (qrs : Nat) (qrsr : Nat) (ua : Nat → Nat) (qse : Nat) (qct : Nat) (qre : Nat) (qreb : Nat) (qpst : Nat) (qkpt : Nat) (qfil : Nat) (qbp : Nat → Nat → Nat) (qbk : Nat → Nat → Nat) (dv : IV) (t : IV) (tb : IV) (w0 : IV) (w1 : IV) (w2 : IV) (w3 : IV) (w4 : IV) (su : IV) (d0 : IV) (d1 : IV) (d2 : IV) (d3 : IV) (d4 : IV) (pi : IV) (po : IV) (pf : IV) (ps : IV) (pb : IV) (pn : IV) (pt : IV) (ba : IV) (ca : IV) (cal : LV) (da : IV) (ea : IV) (eal : LV) (rar : NI) (ral : NL) (cb : IV) (cbl : LV) (rev : IV) (rb : IV) (fl : IV) (xb : NI) (xc : NI) (xcl : NL) (xd : NI) (xe : NI) (xel : NL) (xr : NNI) (xrl : NNL) (yb : NI) (yc : NI) (ycl : NL) (yd : NI) (ye : NI) (yel : NL) (yr : NNI) (yrl : NNL) (p1 : Int32) (hok : ok_Db_size p1 ea rar) : Met l y_Db_size (wsY y_Db_size b_Db_size 2 (some .int)) rm_Db_size (CP g [.ref qdb, .int p1] (wDb g qdb qte qteb qpa qpae qpar qpau qpab qsu qdp qdpe qdpr qdpu qdpb qpr qpro qprf qprs qprb qprn qprt qbe qci qrd qrs qrsr ua qse qct qre qreb qpst qkpt qfil qbp qbk dv t tb w0 w1 w2 w3 w4 su d0 d1 d2 d3 d4 pi po pf ps pb pn pt ba ca cal da ea eal rar ral cb cbl rev rb fl xb xc xcl xd xe xel xr xrl yb yc ycl yd ye yel yr yrl)) (CI0 g (wDb g qdb qte qteb qpa qpae qpar qpau qpab qsu qdp qdpe qdpr qdpu qdpb qpr qpro qprf qprs qprb qprn qprt qbe qci qrd qrs qrsr ua qse qct qre qreb qpst qkpt qfil qbp qbk dv t tb w0 w1 w2 w3 w4 su d0 d1 d2 d3 d4 pi po pf ps pb pn pt ba ca cal da ea eal rar ral cb cbl rev rb fl xb xc xcl xd xe xel xr xrl yb yc ycl yd ye yel yr yrl) (sp_Db_size p1 dv w0 ba ca ea rar)) 0 0 (inW (wDb g qdb qte qteb qpa qpae qpar qpau qpab qsu qdp qdpe qdpr qdpu qdpb qpr qpro qprf qprs qprb qprn qprt qbe qci qrd qrs qrsr ua qse qct qre qreb qpst qkpt qfil qbp qbk dv t tb w0 w1 w2 w3 w4 su d0 d1 d2 d3 d4 pi po pf ps pb pn pt ba ca cal da ea eal rar ral cb cbl rev rb fl xb xc xcl xd xe xel xr xrl yb yc ycl yd ye yel yr yrl)) := by
  refine Met.ofW (cc := b_Db_size) (maxL := 2) (ret := (some .int)) pn_Db rfl ?_
  intro p e s m args below meth c s₁ B hml hv
  obtain ⟨rfl, C, hP, hD, hS⟩ := enter "DecadeBridge" rfl B hml hv
  obtain ⟨hx, hb, hr, hml, hown, hlk, hts, hK, hZo, hZ⟩ := id C
  refine entryW (lv := [(0, .ref qdb), (1, .int p1)]) rfl (Nat.le_of_ble_eq_true rfl) (fun ls hl => ?_)
  obtain ⟨z, hz⟩ : ∃ z, z = sp_Db_size p1 dv w0 ba ca ea rar := ⟨_, rfl⟩
  rw [← hz]
  unfold sp_Db_size at hz
  unfold ok_Db_size at hok
  refine lv_iload_n hx hb d_Db_size_0 rfl (lv_at hl 1 rfl) ?_
  refine lv_iconst (v := 0) hx hb d_Db_size_1 (by decide) ?_
  refine lv_bipush (v := 19) hx hb d_Db_size_2 (by decide) ?_
  have hs1 := hok.1
  have hok := hok.2
  have hB : SubW g (inW (wDb g qdb qte qteb qpa qpae qpar qpau qpab qsu qdp qdpe qdpr qdpu qdpb qpr qpro qprf qprs qprb qprn qprt qbe qci qrd qrs qrsr ua qse qct qre qreb qpst qkpt qfil qbp qbk dv t tb w0 w1 w2 w3 w4 su d0 d1 d2 d3 d4 pi po pf ps pb pn pt ba ca cal da ea eal rar ral cb cbl rev rb fl xb xc xcl xd xe xel xr xrl yb yc ycl yd ye yel yr yrl)) s (wDb g qdb qte qteb qpa qpae qpar qpau qpab qsu qdp qdpe qdpr qdpu qdpb qpr qpro qprf qprs qprb qprn qprt qbe qci qrd qrs qrsr ua qse qct qre qreb qpst qkpt qfil qbp qbk dv t tb w0 w1 w2 w3 w4 su d0 d1 d2 d3 d4 pi po pf ps pb pn pt ba ca cal da ea eal rar ral cb cbl rev rb fl xb xc xcl xd xe xel xr xrl yb yc ycl yd ye yel yr yrl) (wNil g ) [] _ _ := ⟨rfl, rfl, hP, hD, hS⟩
  refine goV0 hB (run_s C mf_Db_checkRange qm_Db_131 (c_Db_checkRange l g p1 (0 : Int32) (19 : Int32) hs1) rfl rfl ⟨Nat.le_of_ble_eq_true rfl, Nat.le_of_ble_eq_true rfl⟩ ⟨Nat.le_of_ble_eq_true rfl, Nat.le_of_ble_eq_true rfl⟩ hB hl rfl rfl (Nat.le_of_ble_eq_true rfl) d_Db_size_4) (fun y2 ey2 H locs hP hS => ?_)
  have hz := lett_z hz ey2
  have hok := lett_o hok ey2
  refine lv_iload_n hx hb d_Db_size_7 rfl (lv_at hl 1 rfl) ?_
  by_cases c6_0 : p1 = (0 : Int32)
  · have hz := hz.trans (if_pos c6_0)
    have hok := hok.1 c6_0
    refine lv_tableIn (x := p1) (off := 92) (tgt := 100) hx hb d_Db_size_8 (by rw [c6_0]; decide) (by rw [c6_0]; decide) (by rw [c6_0]; rfl) (by decide) ?_
    refine lv_aload_n hx hb d_Db_size_100 rfl (lv_at hl 0 rfl) ?_
    refine gf C hP 0 1 fkDb rfl (by decide) rfl qf_Db_19 (gDb_1 _ _ _ _ _ _ _ _ _ _ _) d_Db_size_101 ?_
    refine gf C hP 3 0 fkPa rfl (by decide) rfl qf_Db_107 (gPa_0 _ _ _ _ _) d_Db_size_104 ?_
    exact endI0 C hz hP hS d_Db_size_107
  have hz := hz.trans (if_neg c6_0)
  have hok := hok.2 c6_0
  by_cases c6_1 : p1 = (1 : Int32)
  · have hz := hz.trans (if_pos c6_1)
    have hok := hok.1 c6_1
    refine lv_tableIn (x := p1) (off := 100) (tgt := 108) hx hb d_Db_size_8 (by rw [c6_1]; decide) (by rw [c6_1]; decide) (by rw [c6_1]; rfl) (by decide) ?_
    refine lv_aload_n hx hb d_Db_size_108 rfl (lv_at hl 0 rfl) ?_
    refine gf C hP 0 1 fkDb rfl (by decide) rfl qf_Db_19 (gDb_1 _ _ _ _ _ _ _ _ _ _ _) d_Db_size_109 ?_
    refine gf C hP 3 1 fkPa rfl (by decide) rfl qf_Db_135 (gPa_1 _ _ _ _ _) d_Db_size_112 ?_
    exact endI0 C hz hP hS d_Db_size_115
  have hz := hz.trans (if_neg c6_1)
  have hok := hok.2 c6_1
  by_cases c6_2 : p1 = (2 : Int32)
  · have hz := hz.trans (if_pos c6_2)
    have hok := hok.1 c6_2
    refine lv_tableIn (x := p1) (off := 108) (tgt := 116) hx hb d_Db_size_8 (by rw [c6_2]; decide) (by rw [c6_2]; decide) (by rw [c6_2]; rfl) (by decide) ?_
    refine lv_aload_n hx hb d_Db_size_116 rfl (lv_at hl 0 rfl) ?_
    refine gf C hP 0 1 fkDb rfl (by decide) rfl qf_Db_19 (gDb_1 _ _ _ _ _ _ _ _ _ _ _) d_Db_size_117 ?_
    refine gf C hP 3 2 fkPa rfl (by decide) rfl qf_Db_138 (gPa_2 _ _ _ _ _) d_Db_size_120 ?_
    exact endI0 C hz hP hS d_Db_size_123
  have hz := hz.trans (if_neg c6_2)
  have hok := hok.2 c6_2
  by_cases c6_3 : p1 = (3 : Int32)
  · have hz := hz.trans (if_pos c6_3)
    have hok := hok.1 c6_3
    refine lv_tableIn (x := p1) (off := 116) (tgt := 124) hx hb d_Db_size_8 (by rw [c6_3]; decide) (by rw [c6_3]; decide) (by rw [c6_3]; rfl) (by decide) ?_
    refine lv_aload_n hx hb d_Db_size_124 rfl (lv_at hl 0 rfl) ?_
    refine gf C hP 0 4 fkDb rfl (by decide) rfl qf_Db_44 (gDb_4 _ _ _ _ _ _ _ _ _ _ _) d_Db_size_125 ?_
    refine gf C hP 21 0 fkBe rfl (by decide) rfl qf_Db_141 (gBe_0 _ _ _ _ _) d_Db_size_128 ?_
    refine gf C hP 22 3 fkCi rfl (by decide) rfl qf_Db_145 (gCi_3 _ _ _) d_Db_size_131 ?_
    exact endI0 C hz hP hS d_Db_size_134
  have hz := hz.trans (if_neg c6_3)
  have hok := hok.2 c6_3
  by_cases c6_4 : p1 = (4 : Int32)
  · have hz := hz.trans (if_pos c6_4)
    have hok := hok.1 c6_4
    refine lv_tableIn (x := p1) (off := 127) (tgt := 135) hx hb d_Db_size_8 (by rw [c6_4]; decide) (by rw [c6_4]; decide) (by rw [c6_4]; rfl) (by decide) ?_
    refine lv_aload_n hx hb d_Db_size_135 rfl (lv_at hl 0 rfl) ?_
    refine gf C hP 0 1 fkDb rfl (by decide) rfl qf_Db_19 (gDb_1 _ _ _ _ _ _ _ _ _ _ _) d_Db_size_136 ?_
    refine gf C hP 3 12 fkPa rfl (by decide) rfl qf_Db_150 (gPa_12 _ _ _ _ _) d_Db_size_139 ?_
    exact endI0 C hz hP hS d_Db_size_142
  have hz := hz.trans (if_neg c6_4)
  have hok := hok.2 c6_4
  by_cases c6_5 : p1 = (5 : Int32)
  · have hz := hz.trans (if_pos c6_5)
    have hok := hok.1 c6_5
    refine lv_tableIn (x := p1) (off := 135) (tgt := 143) hx hb d_Db_size_8 (by rw [c6_5]; decide) (by rw [c6_5]; decide) (by rw [c6_5]; rfl) (by decide) ?_
    refine lv_aload_n hx hb d_Db_size_143 rfl (lv_at hl 0 rfl) ?_
    refine gf C hP 0 1 fkDb rfl (by decide) rfl qf_Db_19 (gDb_1 _ _ _ _ _ _ _ _ _ _ _) d_Db_size_144 ?_
    refine gf C hP 3 13 fkPa rfl (by decide) rfl qf_Db_153 (gPa_13 _ _ _ _ _) d_Db_size_147 ?_
    exact endI0 C hz hP hS d_Db_size_150
  have hz := hz.trans (if_neg c6_5)
  have hok := hok.2 c6_5
  by_cases c6_6 : p1 = (6 : Int32)
  · have hz := hz.trans (if_pos c6_6)
    have hok := hok.1 c6_6
    refine lv_tableIn (x := p1) (off := 143) (tgt := 151) hx hb d_Db_size_8 (by rw [c6_6]; decide) (by rw [c6_6]; decide) (by rw [c6_6]; rfl) (by decide) ?_
    refine lv_aload_n hx hb d_Db_size_151 rfl (lv_at hl 0 rfl) ?_
    refine gf C hP 0 1 fkDb rfl (by decide) rfl qf_Db_19 (gDb_1 _ _ _ _ _ _ _ _ _ _ _) d_Db_size_152 ?_
    refine gf C hP 3 14 fkPa rfl (by decide) rfl qf_Db_156 (gPa_14 _ _ _ _ _) d_Db_size_155 ?_
    exact endI0 C hz hP hS d_Db_size_158
  have hz := hz.trans (if_neg c6_6)
  have hok := hok.2 c6_6
  by_cases c6_7 : p1 = (7 : Int32)
  · have hz := hz.trans (if_pos c6_7)
    have hok := hok.1 c6_7
    refine lv_tableIn (x := p1) (off := 151) (tgt := 159) hx hb d_Db_size_8 (by rw [c6_7]; decide) (by rw [c6_7]; decide) (by rw [c6_7]; rfl) (by decide) ?_
    refine lv_aload_n hx hb d_Db_size_159 rfl (lv_at hl 0 rfl) ?_
    refine gf C hP 0 1 fkDb rfl (by decide) rfl qf_Db_19 (gDb_1 _ _ _ _ _ _ _ _ _ _ _) d_Db_size_160 ?_
    refine gf C hP 3 15 fkPa rfl (by decide) rfl qf_Db_159 (gPa_15 _ _ _ _ _) d_Db_size_163 ?_
    exact endI0 C hz hP hS d_Db_size_166
  have hz := hz.trans (if_neg c6_7)
  have hok := hok.2 c6_7
  by_cases c6_8 : p1 = (8 : Int32)
  · have hz := hz.trans (if_pos c6_8)
    have hok := hok.1 c6_8
    refine lv_tableIn (x := p1) (off := 159) (tgt := 167) hx hb d_Db_size_8 (by rw [c6_8]; decide) (by rw [c6_8]; decide) (by rw [c6_8]; rfl) (by decide) ?_
    refine lv_aload_n hx hb d_Db_size_167 rfl (lv_at hl 0 rfl) ?_
    refine gf C hP 0 4 fkDb rfl (by decide) rfl qf_Db_44 (gDb_4 _ _ _ _ _ _ _ _ _ _ _) d_Db_size_168 ?_
    refine gf C hP 21 0 fkBe rfl (by decide) rfl qf_Db_141 (gBe_0 _ _ _ _ _) d_Db_size_171 ?_
    refine gf C hP 22 9 fkCi rfl (by decide) rfl qf_Db_162 (gCi_9 _ _ _) d_Db_size_174 ?_
    exact endI0 C hz hP hS d_Db_size_177
  have hz := hz.trans (if_neg c6_8)
  have hok := hok.2 c6_8
  by_cases c6_9 : p1 = (9 : Int32)
  · have hz := hz.trans (if_pos c6_9)
    have hok := hok.1 c6_9
    refine lv_tableIn (x := p1) (off := 170) (tgt := 178) hx hb d_Db_size_8 (by rw [c6_9]; decide) (by rw [c6_9]; decide) (by rw [c6_9]; rfl) (by decide) ?_
    refine lv_aload_n hx hb d_Db_size_178 rfl (lv_at hl 0 rfl) ?_
    refine gf C hP 0 4 fkDb rfl (by decide) rfl qf_Db_44 (gDb_4 _ _ _ _ _ _ _ _ _ _ _) d_Db_size_179 ?_
    refine gf C hP 21 0 fkBe rfl (by decide) rfl qf_Db_141 (gBe_0 _ _ _ _ _) d_Db_size_182 ?_
    refine gf C hP 22 10 fkCi rfl (by decide) rfl qf_Db_165 (gCi_10 _ _ _) d_Db_size_185 ?_
    exact endI0 C hz hP hS d_Db_size_188
  have hz := hz.trans (if_neg c6_9)
  have hok := hok.2 c6_9
  by_cases c6_10 : p1 = (10 : Int32)
  · have hz := hz.trans (if_pos c6_10)
    have hok := hok.1 c6_10
    refine lv_tableIn (x := p1) (off := 181) (tgt := 189) hx hb d_Db_size_8 (by rw [c6_10]; decide) (by rw [c6_10]; decide) (by rw [c6_10]; rfl) (by decide) ?_
    refine lv_aload_n hx hb d_Db_size_189 rfl (lv_at hl 0 rfl) ?_
    refine gf C hP 0 4 fkDb rfl (by decide) rfl qf_Db_44 (gDb_4 _ _ _ _ _ _ _ _ _ _ _) d_Db_size_190 ?_
    refine gf C hP 21 0 fkBe rfl (by decide) rfl qf_Db_141 (gBe_0 _ _ _ _ _) d_Db_size_193 ?_
    refine gf C hP 22 1 fkCi rfl (by decide) rfl qf_Db_168 (gCi_1 _ _ _) d_Db_size_196 ?_
    exact endI0 C hz hP hS d_Db_size_199
  have hz := hz.trans (if_neg c6_10)
  have hok := hok.2 c6_10
  by_cases c6_11 : p1 = (11 : Int32)
  · have hz := hz.trans (if_pos c6_11)
    have hok := hok.1 c6_11
    refine lv_tableIn (x := p1) (off := 192) (tgt := 200) hx hb d_Db_size_8 (by rw [c6_11]; decide) (by rw [c6_11]; decide) (by rw [c6_11]; rfl) (by decide) ?_
    refine lv_aload_n hx hb d_Db_size_200 rfl (lv_at hl 0 rfl) ?_
    refine gf C hP 0 4 fkDb rfl (by decide) rfl qf_Db_44 (gDb_4 _ _ _ _ _ _ _ _ _ _ _) d_Db_size_201 ?_
    refine gf C hP 21 0 fkBe rfl (by decide) rfl qf_Db_141 (gBe_0 _ _ _ _ _) d_Db_size_204 ?_
    refine gf C hP 22 2 fkCi rfl (by decide) rfl qf_Db_171 (gCi_2 _ _ _) d_Db_size_207 ?_
    exact endI0 C hz hP hS d_Db_size_210
  have hz := hz.trans (if_neg c6_11)
  have hok := hok.2 c6_11
  by_cases c6_12 : p1 = (12 : Int32)
  · have hz := hz.trans (if_pos c6_12)
    have hok := hok.1 c6_12
    refine lv_tableIn (x := p1) (off := 203) (tgt := 211) hx hb d_Db_size_8 (by rw [c6_12]; decide) (by rw [c6_12]; decide) (by rw [c6_12]; rfl) (by decide) ?_
    refine lv_aload_n hx hb d_Db_size_211 rfl (lv_at hl 0 rfl) ?_
    refine gf C hP 0 4 fkDb rfl (by decide) rfl qf_Db_44 (gDb_4 _ _ _ _ _ _ _ _ _ _ _) d_Db_size_212 ?_
    refine gf C hP 21 0 fkBe rfl (by decide) rfl qf_Db_141 (gBe_0 _ _ _ _ _) d_Db_size_215 ?_
    refine gf C hP 22 6 fkCi rfl (by decide) rfl qf_Db_174 (gCi_6 _ _ _) d_Db_size_218 ?_
    refine lv_if_eq (tgt := 228) hx hb d_Db_size_221 (by decide) (fun c3 => ?_) (fun c3 => ?_)
    · have hz := hz.trans (if_pos c3)
      refine lv_iconst (v := 0) hx hb d_Db_size_228 (by decide) ?_
      exact endI0 C hz hP hS d_Db_size_229
    · have hz := hz.trans (if_neg c3)
      refine lv_iconst (v := 1) hx hb d_Db_size_224 (by decide) ?_
      refine lv_goto (tgt := 229) hx hb d_Db_size_225 (by decide) ?_
      exact endI0 C hz hP hS d_Db_size_229
  have hz := hz.trans (if_neg c6_12)
  have hok := hok.2 c6_12
  by_cases c6_13 : p1 = (13 : Int32)
  · have hz := hz.trans (if_pos c6_13)
    have hok := hok.1 c6_13
    refine lv_tableIn (x := p1) (off := 222) (tgt := 230) hx hb d_Db_size_8 (by rw [c6_13]; decide) (by rw [c6_13]; decide) (by rw [c6_13]; rfl) (by decide) ?_
    refine lv_aload_n hx hb d_Db_size_230 rfl (lv_at hl 0 rfl) ?_
    refine gf C hP 0 4 fkDb rfl (by decide) rfl qf_Db_44 (gDb_4 _ _ _ _ _ _ _ _ _ _ _) d_Db_size_231 ?_
    refine gf C hP 21 0 fkBe rfl (by decide) rfl qf_Db_141 (gBe_0 _ _ _ _ _) d_Db_size_234 ?_
    refine gf C hP 22 4 fkCi rfl (by decide) rfl qf_Db_178 (gCi_4 _ _ _) d_Db_size_237 ?_
    exact endI0 C hz hP hS d_Db_size_240
  have hz := hz.trans (if_neg c6_13)
  have hok := hok.2 c6_13
  by_cases c6_14 : p1 = (14 : Int32)
  · have hz := hz.trans (if_pos c6_14)
    have hok := hok.1 c6_14
    refine lv_tableIn (x := p1) (off := 233) (tgt := 241) hx hb d_Db_size_8 (by rw [c6_14]; decide) (by rw [c6_14]; decide) (by rw [c6_14]; rfl) (by decide) ?_
    refine lv_aload_n hx hb d_Db_size_241 rfl (lv_at hl 0 rfl) ?_
    refine gf C hP 0 4 fkDb rfl (by decide) rfl qf_Db_44 (gDb_4 _ _ _ _ _ _ _ _ _ _ _) d_Db_size_242 ?_
    refine gf C hP 21 0 fkBe rfl (by decide) rfl qf_Db_141 (gBe_0 _ _ _ _ _) d_Db_size_245 ?_
    refine gf C hP 22 5 fkCi rfl (by decide) rfl qf_Db_181 (gCi_5 _ _ _) d_Db_size_248 ?_
    exact endI0 C hz hP hS d_Db_size_251
  have hz := hz.trans (if_neg c6_14)
  have hok := hok.2 c6_14
  by_cases c6_15 : p1 = (15 : Int32)
  · have hz := hz.trans (if_pos c6_15)
    have hok := hok.1 c6_15
    refine lv_tableIn (x := p1) (off := 244) (tgt := 252) hx hb d_Db_size_8 (by rw [c6_15]; decide) (by rw [c6_15]; decide) (by rw [c6_15]; rfl) (by decide) ?_
    refine lv_aload_n hx hb d_Db_size_252 rfl (lv_at hl 0 rfl) ?_
    refine gf C hP 0 4 fkDb rfl (by decide) rfl qf_Db_44 (gDb_4 _ _ _ _ _ _ _ _ _ _ _) d_Db_size_253 ?_
    refine gf C hP 21 4 fkBe rfl (by decide) rfl qf_Db_184 (gBe_4 _ _ _ _ _) d_Db_size_256 ?_
    exact endI0 C hz hP hS d_Db_size_259
  have hz := hz.trans (if_neg c6_15)
  have hok := hok.2 c6_15
  by_cases c6_16 : p1 = (16 : Int32)
  · have hz := hz.trans (if_pos c6_16)
    have hok := hok.1 c6_16
    refine lv_tableIn (x := p1) (off := 252) (tgt := 260) hx hb d_Db_size_8 (by rw [c6_16]; decide) (by rw [c6_16]; decide) (by rw [c6_16]; rfl) (by decide) ?_
    refine lv_aload_n hx hb d_Db_size_260 rfl (lv_at hl 0 rfl) ?_
    refine gf C hP 0 4 fkDb rfl (by decide) rfl qf_Db_44 (gDb_4 _ _ _ _ _ _ _ _ _ _ _) d_Db_size_261 ?_
    refine gf C hP 21 5 fkBe rfl (by decide) rfl qf_Db_187 (gBe_5 _ _ _ _ _) d_Db_size_264 ?_
    exact endI0 C hz hP hS d_Db_size_267
  have hz := hz.trans (if_neg c6_16)
  have hok := hok.2 c6_16
  by_cases c6_17 : p1 = (17 : Int32)
  · have hz := hz.trans (if_pos c6_17)
    have hok := hok.1 c6_17
    refine lv_tableIn (x := p1) (off := 260) (tgt := 268) hx hb d_Db_size_8 (by rw [c6_17]; decide) (by rw [c6_17]; decide) (by rw [c6_17]; rfl) (by decide) ?_
    refine lv_aload_n hx hb d_Db_size_268 rfl (lv_at hl 0 rfl) ?_
    refine gf C hP 0 4 fkDb rfl (by decide) rfl qf_Db_44 (gDb_4 _ _ _ _ _ _ _ _ _ _ _) d_Db_size_269 ?_
    refine gf C hP 21 6 fkBe rfl (by decide) rfl qf_Db_190 (gBe_6 _ _ _ _ _) d_Db_size_272 ?_
    refine gf C hP 24 1 fkRs rfl (by decide) rfl qf_Db_194 (gRs_1 _ _ _) d_Db_size_275 ?_
    exact endI0 C hz hP hS d_Db_size_278
  have hz := hz.trans (if_neg c6_17)
  have hok := hok.2 c6_17
  by_cases c6_18 : p1 = (18 : Int32)
  · have hz := hz.trans (if_pos c6_18)
    have hok := hok.1 c6_18
    refine lv_tableIn (x := p1) (off := 271) (tgt := 279) hx hb d_Db_size_8 (by rw [c6_18]; decide) (by rw [c6_18]; decide) (by rw [c6_18]; rfl) (by decide) ?_
    refine lv_aload_n hx hb d_Db_size_279 rfl (lv_at hl 0 rfl) ?_
    refine gf C hP 0 4 fkDb rfl (by decide) rfl qf_Db_44 (gDb_4 _ _ _ _ _ _ _ _ _ _ _) d_Db_size_280 ?_
    refine gf C hP 21 6 fkBe rfl (by decide) rfl qf_Db_190 (gBe_6 _ _ _ _ _) d_Db_size_283 ?_
    have hs4 := hok.1
    have hok := hok.2
    have hB : SubW g (inW (wDb g qdb qte qteb qpa qpae qpar qpau qpab qsu qdp qdpe qdpr qdpu qdpb qpr qpro qprf qprs qprb qprn qprt qbe qci qrd qrs qrsr ua qse qct qre qreb qpst qkpt qfil qbp qbk dv t tb w0 w1 w2 w3 w4 su d0 d1 d2 d3 d4 pi po pf ps pb pn pt ba ca cal da ea eal rar ral cb cbl rev rb fl xb xc xcl xd xe xel xr xrl yb yc ycl yd ye yel yr yrl)) s (wDb g qdb qte qteb qpa qpae qpar qpau qpab qsu qdp qdpe qdpr qdpu qdpb qpr qpro qprf qprs qprb qprn qprt qbe qci qrd qrs qrsr ua qse qct qre qreb qpst qkpt qfil qbp qbk dv t tb w0 w1 w2 w3 w4 su d0 d1 d2 d3 d4 pi po pf ps pb pn pt ba ca cal da ea eal rar ral cb cbl rev rb fl xb xc xcl xd xe xel xr xrl yb yc ycl yd ye yel yr yrl) (wRs g qrs qrsr ua ea eal rar ral) [24, 25, 26, 27, 28, 29, 30, 31, 32, 33, 34, 35, 36, 37, 38, 39, 40, 41, 42, 43, 44, 45] _ _ := ⟨rfl, rfl, hP, hD, hS⟩
    refine goI0 hB (run_v C mf_Rs_manners qm_Db_199 (c_Rs_manners l g qrs qrsr ua ea eal rar ral hs4) rfl rfl ⟨Nat.le_of_ble_eq_true rfl, Nat.le_of_ble_eq_true rfl⟩ ⟨Nat.le_of_ble_eq_true rfl, Nat.le_of_ble_eq_true rfl⟩ hB rfl rfl hl rfl rfl (Nat.le_of_ble_eq_true rfl) d_Db_size_286) (fun y5 ey5 H locs hP hS => ?_)
    have hz := lett_z hz ey5
    exact endI0 C hz hP hS d_Db_size_289
  have hz := hz.trans (if_neg c6_18)
  have hok := hok.2 c6_18
  refine lv_tableOut (x := p1) (tgt := 290) hx hb d_Db_size_8 (tswL (x := p1) (lo := 0) (hi := 18) 19 [(0 : Int32), (1 : Int32), (2 : Int32), (3 : Int32), (4 : Int32), (5 : Int32), (6 : Int32), (7 : Int32), (8 : Int32), (9 : Int32), (10 : Int32), (11 : Int32), (12 : Int32), (13 : Int32), (14 : Int32), (15 : Int32), (16 : Int32), (17 : Int32), (18 : Int32)] (by decide) (by decide) (List.forall_mem_cons.mpr ⟨c6_0, List.forall_mem_cons.mpr ⟨c6_1, List.forall_mem_cons.mpr ⟨c6_2, List.forall_mem_cons.mpr ⟨c6_3, List.forall_mem_cons.mpr ⟨c6_4, List.forall_mem_cons.mpr ⟨c6_5, List.forall_mem_cons.mpr ⟨c6_6, List.forall_mem_cons.mpr ⟨c6_7, List.forall_mem_cons.mpr ⟨c6_8, List.forall_mem_cons.mpr ⟨c6_9, List.forall_mem_cons.mpr ⟨c6_10, List.forall_mem_cons.mpr ⟨c6_11, List.forall_mem_cons.mpr ⟨c6_12, List.forall_mem_cons.mpr ⟨c6_13, List.forall_mem_cons.mpr ⟨c6_14, List.forall_mem_cons.mpr ⟨c6_15, List.forall_mem_cons.mpr ⟨c6_16, List.forall_mem_cons.mpr ⟨c6_17, List.forall_mem_cons.mpr ⟨c6_18, fun _ h => absurd h List.not_mem_nil⟩⟩⟩⟩⟩⟩⟩⟩⟩⟩⟩⟩⟩⟩⟩⟩⟩⟩⟩)) (by decide) ?_
  refine lv_aload_n hx hb d_Db_size_290 rfl (lv_at hl 0 rfl) ?_
  refine gf C hP 0 11 fkDb rfl (by decide) rfl qf_Db_203 (gDb_11 _ _ _ _ _ _ _ _ _ _ _) d_Db_size_291 ?_
  exact endI0 C hz hP hS d_Db_size_294
