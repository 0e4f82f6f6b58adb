section TYD
/-! ===== constructors: the parts that hold parts ===== -/
theorem rngmap (w : va_W) : (List.range w.length).map (fun i => w[i]?) = w.map some := by
  refine List.ext_getElem (by simp) fun i h1 h2 => ?_
  simp at h1
  simp [h1]
theorem perm_is {w w' : va_W} (n : Nat) (js : List Nat) (hn : w.length = n) (h1 : js.isPerm (List.range n) = true) (h2 : js.map (fun i => w[i]?) = w'.map some) : w.Perm w' := by
  have a : (js.map (fun i => w[i]?)).Perm ((List.range n).map (fun i => w[i]?)) := (List.isPerm_iff.mp h1).map _
  subst hn
  rw [rngmap, h2] at a
  have c := (a.filterMap id).symm
  rw [List.filterMap_map, List.filterMap_map] at c
  have d : ∀ l : va_W, List.filterMap (id ∘ some) l = l := fun l => List.filterMap_some
  rw [d, d] at c
  exact c
section
variable {g : GX} {A : Nat → Prop} {H : Heap} {ws : va_W} {a : Nat} {e0 e1 : va_E}
theorem va_setf (hP : va_P g.1 vwCl ws H) (hD : va_D A ws) (q0 : Nat) (he : ws[q0]? = some (a, e0)) (hat : va_at g.1 vwCl (a, e0) H → va_at g.1 vwCl (a, e1) H) : va_P g.1 vwCl (ws.set q0 (a, e1)) H ∧ va_D A (ws.set q0 (a, e1)) :=
  ⟨va_P.set hP hD he (hat (hP q0 _ he)) (fun _ _ => rfl), va_D.set hD he⟩
theorem aR_at {k n : Nat} {f f' : Nat → Option Nat} (h : ∀ j, j < n → f j = f' j) (w : va_at g.1 vwCl (a, aR g k n f) H) : va_at g.1 vwCl (a, aR g k n f') H := by
  have w1 : H[a]? = some (vp_cell (g.2.1 k) (n, .inr (.inr (.inr (.inr f))))) := w
  show H[a]? = some (vp_cell (g.2.1 k) (n, .inr (.inr (.inr (.inr f')))))
  rw [w1, vp_cell_q, vp_cell_q]
  unfold arrV
  congr 3
  funext j
  show va_rf (f j.1) = va_rf (f' j.1)
  rw [h j.1 j.2]
end
/-- the plain parts of a fresh object -/
noncomputable def P0 : IV := (sp_Pa_clear (fun _ => 0) (fun _ => 0) (fun _ => 0) (fun _ => 0) (fun _ => 0)).1
noncomputable def P1 : IV := (sp_Pa_clear (fun _ => 0) (fun _ => 0) (fun _ => 0) (fun _ => 0) (fun _ => 0)).2.1
noncomputable def P2 : IV := (sp_Pa_clear (fun _ => 0) (fun _ => 0) (fun _ => 0) (fun _ => 0) (fun _ => 0)).2.2.1
noncomputable def P3 : IV := (sp_Pa_clear (fun _ => 0) (fun _ => 0) (fun _ => 0) (fun _ => 0) (fun _ => 0)).2.2.2.1
noncomputable def P4 : IV := (sp_Pa_clear (fun _ => 0) (fun _ => 0) (fun _ => 0) (fun _ => 0) (fun _ => 0)).2.2.2.2
noncomputable def zC : IV := (sp_Ci_reset (fun _ => 0) (fun _ => 0) P0 P1 P2 P3 P4).1
noncomputable def zCl : LV := (sp_Ci_reset (fun _ => 0) (fun _ => 0) P0 P1 P2 P3 P4).2
/-- a fresh row -/
def r0 (k : Nat) : Int64 := if k = 0 then 2 else if k = 1 then 1 else if k = 12 then 1000 else plM k
theorem r0_b : ∀ k, k < 29 → (plC k).toInt = (r0 k).toInt ∧ rLo k ≤ (r0 k).toInt ∧ (r0 k).toInt ≤ rHi 0 k := by decide +kernel
theorem r0_h : ∀ k, 29 ≤ k → r0 k = if k = 32 then 2 else 0 := fun k h => by
  unfold r0 plM
  rw [if_neg (by omega), if_neg (by omega), if_neg (by omega), if_neg (by omega), if_neg (by omega), if_neg (by omega), if_neg (by omega)]
section
variable {r : LV}
theorem fresh_r (h : ∀ k, k < 215 → r k = r0 k) : Fresh r ∧ PR P0 P1 P2 P3 P4 r ∧ RowOK 0 r ∧ P0 11 = nI 1000 ∧ (P0 11).toInt = zr r 22 ∧ (P0 16).toInt = zr r 27 ∧ (P0 17).toInt = zr r 28 := by
  have hk : ∀ k, k < 29 → (pw P0 P1 P2 P3 P4 k).toInt = zr r k ∧ rLo k ≤ zr r k ∧ zr r k ≤ rHi 0 k := fun k hk => by
    rw [zr, h k (by omega)]
    refine ⟨?_, (r0_b k hk).2⟩
    rw [← (r0_b k hk).1]
    exact congrArg _ (clear_R.2 k hk)
  have hF : Fresh r := fun k k1 k2 => by rw [h k k2]; exact r0_h k k1
  exact ⟨hF, fun k k1 _ => (hk k (by omega)).1, fresh_row hF (fun k k1 => (hk k k1).2), (clear_R (d0 := fun _ => 0) (d1 := fun _ => 0) (d2 := fun _ => 0) (d3 := fun _ => 0) (d4 := fun _ => 0)).2 22 (by decide), (hk 22 (by decide)).1, (hk 27 (by decide)).1, (hk 28 (by decide)).1⟩
theorem fresh_b (h : ∀ k, k < 215 → r k = r0 k) (rar : NI) (ral : NL) : BR (fun _ => 0) zC zCl (fun _ => 0) (fun _ => 0) rar ral r := by
  obtain ⟨a1, a2, a3, _, a4, a5, a6⟩ := fresh_r h
  have b := (breset_R a2 a3 a1 a4 a5 a6 (fun _ => 0) (fun _ => 0) (fun _ => 0) (fun _ => 0) (fun _ => 0) rar ral).2
  have e : ∀ k : Nat, upd (fun _ => (0 : Int32)) k 0 = fun _ => 0 := fun k => by
    funext j
    show (if j = k then (0 : Int32) else 0) = 0
    rw [ite_self]
  unfold sp_Be_reset at b
  simp only [lettn] at b
  rw [e, e, e, e] at b
  exact b
theorem fresh_ok : ok_Ci_reset (fun _ => 0) (fun _ => 0) P0 P1 P2 := by
  obtain ⟨a1, a2, a3, _, a4, a5, a6⟩ := fresh_r (r := r0) (fun _ _ => rfl)
  exact (creset_R a2 a3 a1 a4 a5 a6 (fun _ => 0) (fun _ => 0)).1
end
section
variable {g : GX}

abbrev rn_Su : Room := { frames := 4, cells := 5, slots := 33, locals := 90 }
theorem n_Su (l : Launch) (g : GX) (q qt : Nat) (sz : Nat) : NMet l y_Su_init b_Su_init 2 rn_Su g [.ref q, .ref qt] [(q, .inr (9, f0Su))] sz (fun w => ∃ qd qe qr qu qb, w = (q, oSu qt qd (fun _ => 0)) :: wPa g qd qe qr qu qb P0 P1 P2 P3 P4) 5 33 := by
  refine Met.ofW (cc := b_Su_init) (maxL := 2) (ret := none) pn_Su rfl ?_
  intro p e s m args below meth c s₁ B hml hv
  obtain ⟨hsz, rfl, C, hin, hAO, hP, hD, hS, hA⟩ := enterN "DecadeBridge$SetupReader" rfl rfl B hml hv
  obtain ⟨hx, hb, hr, hml, hown, hlk, hts, hK, hZo, hZ⟩ := id C
  refine entryW (lv := [(0, .ref q), (1, .ref qt)]) rfl (Nat.le_of_ble_eq_true rfl) (fun ls hl => ?_)
  refine lv_aload_n hx hb d_Su_init_0 rfl (lv_at hl 0 rfl) ?_
  refine objI C ob_Su hl d_Su_init_1 ⟨Nat.le_of_ble_eq_true rfl, Nat.le_of_ble_eq_true rfl⟩ ?_
  refine lv_aload_n hx hb d_Su_init_4 rfl (lv_at hl 0 rfl) ?_
  refine newO C fkPa hP hD hS hA kc_Su_9 it_Pa in_Pa df_Pa (Nat.le_of_ble_eq_true rfl) (Nat.le_of_ble_eq_true rfl) d_Su_init_5 (fun qd H hP hD hS => ?_)
  refine lv_dup hx hb d_Su_init_8 rfl ?_
  obtain ⟨hP, hD⟩ := va_perm (w' := [(qd, .inr (3, f0Pa))] ++ _) List.perm_append_comm hP hD
  refine ncall C hAO hA mf_Pa_init kn_Su_11 im_Pa rfl (fun sz => n_Pa l g qd sz) rfl rfl ⟨Nat.le_of_ble_eq_true rfl, Nat.le_of_ble_eq_true rfl⟩ ⟨Nat.le_of_ble_eq_true rfl, Nat.le_of_ble_eq_true rfl⟩ hP hD hS hl rfl rfl (Nat.le_of_ble_eq_true rfl) d_Su_init_9 (fun wn H locs ho hP hD hS => ?_)
  obtain ⟨qe, qr, qu, qb, rfl⟩ := ho
  refine pfF C hin hP hD hS 5 1 fkSu rfl (by decide) rfl rfl qf_Su_12 rfl rfl rfl (Nat.le_of_ble_eq_true rfl) d_Su_init_12 (fun H locs hP hD hS => ?_)
  refine lv_aload_n hx hb d_Su_init_15 rfl (lv_at hl 0 rfl) ?_
  refine lv_aload_n hx hb d_Su_init_16 rfl (lv_at hl 1 rfl) ?_
  refine pfF C hin hP hD hS 5 0 fkSu rfl (by decide) rfl rfl qf_Su_18 rfl rfl rfl (Nat.le_of_ble_eq_true rfl) d_Su_init_17 (fun H locs hP hD hS => ?_)
  obtain ⟨hP, hD⟩ := va_perm (w' := (q, oSu qt qd (fun _ => 0)) :: wPa g qd qe qr qu qb P0 P1 P2 P3 P4) (perm_is 6 [5, 0, 1, 2, 3, 4] rfl (by decide +kernel) rfl) hP hD
  exact endN hsz C ⟨qd, qe, qr, qu, qb, rfl⟩ hP hD hS d_Su_init_20

abbrev rn_Pr : Room := { frames := 1, cells := 6, slots := 124, locals := 20 }
theorem n_Pr (l : Launch) (g : GX) (q qt : Nat) (sz : Nat) : NMet l y_Pr_init b_Pr_init 2 rn_Pr g [.ref q, .ref qt] [(q, .inr (4, f0Pr))] sz (fun w => ∃ qo qf qs qb qn qi, w = [(q, oPr qt qo qf qs qb qn qi (fun _ => 0)), (qo, aI g 30 (fun _ => 0)), (qf, aI g 30 (fun _ => 0)), (qs, aI g 30 (fun _ => 0)), (qb, aI g 30 (fun _ => 0)), (qn, aI g 2 (fun _ => 0)), (qi, aI g 2 (fun _ => 0))]) 6 124 := by
  refine Met.ofW (cc := b_Pr_init) (maxL := 2) (ret := none) pn_Pr rfl ?_
  intro p e s m args below meth c s₁ B hml hv
  obtain ⟨hsz, rfl, C, hin, hAO, hP, hD, hS, hA⟩ := enterN "DecadeBridge$Protocol" rfl rfl B hml hv
  obtain ⟨hx, hb, hr, hml, hown, hlk, hts, hK, hZo, hZ⟩ := id C
  refine entryW (lv := [(0, .ref q), (1, .ref qt)]) rfl (Nat.le_of_ble_eq_true rfl) (fun ls hl => ?_)
  refine lv_aload_n hx hb d_Pr_init_0 rfl (lv_at hl 0 rfl) ?_
  refine objI C ob_Pr hl d_Pr_init_1 ⟨Nat.le_of_ble_eq_true rfl, Nat.le_of_ble_eq_true rfl⟩ ?_
  refine lv_aload_n hx hb d_Pr_init_4 rfl (lv_at hl 0 rfl) ?_
  refine lv_bipush (v := 30) hx hb d_Pr_init_5 (by decide) ?_
  refine newI C hP hD hS hA ac_I (by decide) rfl (by decide) (Nat.le_of_ble_eq_true rfl) (Nat.le_of_ble_eq_true rfl) d_Pr_init_7 (fun qo H hP hD hS => ?_)
  refine pfF C hin hP hD hS 0 1 fkPr rfl (by decide) rfl rfl qf_Pr_11 rfl rfl rfl (Nat.le_of_ble_eq_true rfl) d_Pr_init_9 (fun H locs hP hD hS => ?_)
  refine lv_aload_n hx hb d_Pr_init_12 rfl (lv_at hl 0 rfl) ?_
  refine lv_bipush (v := 30) hx hb d_Pr_init_13 (by decide) ?_
  refine newI C hP hD hS hA ac_I (by decide) rfl (by decide) (Nat.le_of_ble_eq_true rfl) (Nat.le_of_ble_eq_true rfl) d_Pr_init_15 (fun qf H hP hD hS => ?_)
  refine pfF C hin hP hD hS 0 2 fkPr rfl (by decide) rfl rfl qf_Pr_15 rfl rfl rfl (Nat.le_of_ble_eq_true rfl) d_Pr_init_17 (fun H locs hP hD hS => ?_)
  refine lv_aload_n hx hb d_Pr_init_20 rfl (lv_at hl 0 rfl) ?_
  refine lv_bipush (v := 30) hx hb d_Pr_init_21 (by decide) ?_
  refine newI C hP hD hS hA ac_I (by decide) rfl (by decide) (Nat.le_of_ble_eq_true rfl) (Nat.le_of_ble_eq_true rfl) d_Pr_init_23 (fun qs H hP hD hS => ?_)
  refine pfF C hin hP hD hS 0 3 fkPr rfl (by decide) rfl rfl qf_Pr_18 rfl rfl rfl (Nat.le_of_ble_eq_true rfl) d_Pr_init_25 (fun H locs hP hD hS => ?_)
  refine lv_aload_n hx hb d_Pr_init_28 rfl (lv_at hl 0 rfl) ?_
  refine lv_bipush (v := 30) hx hb d_Pr_init_29 (by decide) ?_
  refine newI C hP hD hS hA ac_I (by decide) rfl (by decide) (Nat.le_of_ble_eq_true rfl) (Nat.le_of_ble_eq_true rfl) d_Pr_init_31 (fun qb H hP hD hS => ?_)
  refine pfF C hin hP hD hS 0 4 fkPr rfl (by decide) rfl rfl qf_Pr_21 rfl rfl rfl (Nat.le_of_ble_eq_true rfl) d_Pr_init_33 (fun H locs hP hD hS => ?_)
  refine lv_aload_n hx hb d_Pr_init_36 rfl (lv_at hl 0 rfl) ?_
  refine lv_iconst (v := 2) hx hb d_Pr_init_37 (by decide) ?_
  refine newI C hP hD hS hA ac_I (by decide) rfl (by decide) (Nat.le_of_ble_eq_true rfl) (Nat.le_of_ble_eq_true rfl) d_Pr_init_38 (fun qn H hP hD hS => ?_)
  refine pfF C hin hP hD hS 0 5 fkPr rfl (by decide) rfl rfl qf_Pr_24 rfl rfl rfl (Nat.le_of_ble_eq_true rfl) d_Pr_init_40 (fun H locs hP hD hS => ?_)
  refine lv_aload_n hx hb d_Pr_init_43 rfl (lv_at hl 0 rfl) ?_
  refine lv_iconst (v := 2) hx hb d_Pr_init_44 (by decide) ?_
  refine newI C hP hD hS hA ac_I (by decide) rfl (by decide) (Nat.le_of_ble_eq_true rfl) (Nat.le_of_ble_eq_true rfl) d_Pr_init_45 (fun qi H hP hD hS => ?_)
  refine pfF C hin hP hD hS 0 6 fkPr rfl (by decide) rfl rfl qf_Pr_27 rfl rfl rfl (Nat.le_of_ble_eq_true rfl) d_Pr_init_47 (fun H locs hP hD hS => ?_)
  refine lv_aload_n hx hb d_Pr_init_50 rfl (lv_at hl 0 rfl) ?_
  refine lv_aload_n hx hb d_Pr_init_51 rfl (lv_at hl 1 rfl) ?_
  refine pfF C hin hP hD hS 0 0 fkPr rfl (by decide) rfl rfl qf_Pr_30 rfl rfl rfl (Nat.le_of_ble_eq_true rfl) d_Pr_init_52 (fun H locs hP hD hS => ?_)
  exact endN hsz C ⟨qo, qf, qs, qb, qn, qi, rfl⟩ hP hD hS d_Pr_init_55

abbrev rn_Ci : Room := { frames := 3, cells := 0, slots := 0, locals := 90 }
theorem n_Ci (l : Launch) (g : GX) (q qpa qpae qpar qpau qpab : Nat) (sz : Nat) : NMet l y_Ci_init b_Ci_init 2 rn_Ci g [.ref q, .ref qpa] [(q, .inr (1, f0Ci)), (qpa, oPa qpae qpar qpau qpab P0), (qpae, aI g 4 P1), (qpar, aI g 5 P2), (qpau, oHe P3), (qpab, oHe P4)] sz (fun w => w = wCi g q qpa qpae qpar qpau qpab zC zCl P0 P1 P2 P3 P4) 0 0 := by
  refine Met.ofW (cc := b_Ci_init) (maxL := 2) (ret := none) pn_Ci rfl ?_
  intro p e s m args below meth c s₁ B hml hv
  obtain ⟨hsz, rfl, C, hin, hAO, hP, hD, hS, hA⟩ := enterN "DecadeBridge$Circuit" rfl rfl B hml hv
  obtain ⟨hx, hb, hr, hml, hown, hlk, hts, hK, hZo, hZ⟩ := id C
  refine entryW (lv := [(0, .ref q), (1, .ref qpa)]) rfl (Nat.le_of_ble_eq_true rfl) (fun ls hl => ?_)
  refine lv_aload_n hx hb d_Ci_init_0 rfl (lv_at hl 0 rfl) ?_
  refine objI C ob_Ci hl d_Ci_init_1 ⟨Nat.le_of_ble_eq_true rfl, Nat.le_of_ble_eq_true rfl⟩ ?_
  refine lv_aload_n hx hb d_Ci_init_4 rfl (lv_at hl 0 rfl) ?_
  refine lv_aload_n hx hb d_Ci_init_5 rfl (lv_at hl 1 rfl) ?_
  refine pfF C hin hP hD hS 0 0 fkCi rfl (by decide) rfl rfl qf_Ci_7 rfl rfl rfl (Nat.le_of_ble_eq_true rfl) d_Ci_init_6 (fun H locs hP hD hS => ?_)
  refine lv_aload_n hx hb d_Ci_init_9 rfl (lv_at hl 0 rfl) ?_
  refine ocall (wx := wCi g q qpa qpae qpar qpau qpab (fun _ => 0) (fun _ => 0) P0 P1 P2 P3 P4) (r := []) C mf_Ci_reset qm_Ci_13 (c_Ci_reset l g q qpa qpae qpar qpau qpab _ _ _ _ _ _ _ fresh_ok) rfl rfl ⟨Nat.le_of_ble_eq_true rfl, Nat.le_of_ble_eq_true rfl⟩ ⟨Nat.le_of_ble_eq_true rfl, Nat.le_of_ble_eq_true rfl⟩ hP hD hS rfl rfl rfl hl rfl rfl (Nat.le_of_ble_eq_true rfl) d_Ci_init_10 (fun H locs hP hD hS => ?_)
  rw [List.append_nil] at hP hD
  exact endN hsz C rfl hP hD hS d_Ci_init_13

abbrev rn_Se : Room := { frames := 4, cells := 1, slots := 19, locals := 120 }
theorem n_Se (l : Launch) (g : GX) (q qpa qpae qpar qpau qpab : Nat) (sz : Nat) : NMet l y_Se_init b_Se_init 2 rn_Se g [.ref q, .ref qpa] [(q, .inr (8, f0Se)), (qpa, oPa qpae qpar qpau qpab P0), (qpae, aI g 4 P1), (qpar, aI g 5 P2), (qpau, oHe P3), (qpab, oHe P4)] sz (fun w => ∃ qc, w = wSe g q qc qpa qpae qpar qpau qpab zC zCl P0 P1 P2 P3 P4) 1 19 := by
  refine Met.ofW (cc := b_Se_init) (maxL := 2) (ret := none) pn_Se rfl ?_
  intro p e s m args below meth c s₁ B hml hv
  obtain ⟨hsz, rfl, C, hin, hAO, hP, hD, hS, hA⟩ := enterN "DecadeBridge$Search" rfl rfl B hml hv
  obtain ⟨hx, hb, hr, hml, hown, hlk, hts, hK, hZo, hZ⟩ := id C
  refine entryW (lv := [(0, .ref q), (1, .ref qpa)]) rfl (Nat.le_of_ble_eq_true rfl) (fun ls hl => ?_)
  refine lv_aload_n hx hb d_Se_init_0 rfl (lv_at hl 0 rfl) ?_
  refine objI C ob_Se hl d_Se_init_1 ⟨Nat.le_of_ble_eq_true rfl, Nat.le_of_ble_eq_true rfl⟩ ?_
  refine lv_aload_n hx hb d_Se_init_4 rfl (lv_at hl 0 rfl) ?_
  refine lv_aload_n hx hb d_Se_init_5 rfl (lv_at hl 1 rfl) ?_
  refine pfF C hin hP hD hS 0 1 fkSe rfl (by decide) rfl rfl qf_Se_9 rfl rfl rfl (Nat.le_of_ble_eq_true rfl) d_Se_init_6 (fun H locs hP hD hS => ?_)
  refine lv_aload_n hx hb d_Se_init_9 rfl (lv_at hl 0 rfl) ?_
  refine newO C fkCi hP hD hS hA kc_Se_15 it_Ci in_Ci df_Ci (Nat.le_of_ble_eq_true rfl) (Nat.le_of_ble_eq_true rfl) d_Se_init_10 (fun qc H hP hD hS => ?_)
  refine lv_dup hx hb d_Se_init_13 rfl ?_
  refine lv_aload_n hx hb d_Se_init_14 rfl (lv_at hl 1 rfl) ?_
  obtain ⟨hP, hD⟩ := va_perm (w' := [(qc, .inr (1, f0Ci)), (qpa, oPa qpae qpar qpau qpab P0), (qpae, aI g 4 P1), (qpar, aI g 5 P2), (qpau, oHe P3), (qpab, oHe P4)] ++ [(q, .inr (8, [.null, .ref qpa]))]) (perm_is 7 [6, 1, 2, 3, 4, 5, 0] rfl (by decide +kernel) rfl) hP hD
  refine ncall C hAO hA mf_Ci_init kn_Se_17 im_Ci rfl (fun sz => n_Ci l g qc qpa qpae qpar qpau qpab sz) rfl rfl ⟨Nat.le_of_ble_eq_true rfl, Nat.le_of_ble_eq_true rfl⟩ ⟨Nat.le_of_ble_eq_true rfl, Nat.le_of_ble_eq_true rfl⟩ hP hD hS hl rfl rfl (Nat.le_of_ble_eq_true rfl) d_Se_init_15 (fun wn H locs ho hP hD hS => ?_)
  subst ho
  refine pfF C hin hP hD hS 6 0 fkSe rfl (by decide) rfl rfl qf_Se_20 rfl rfl rfl (Nat.le_of_ble_eq_true rfl) d_Se_init_18 (fun H locs hP hD hS => ?_)
  obtain ⟨hP, hD⟩ := va_perm (w' := wSe g q qc qpa qpae qpar qpau qpab zC zCl P0 P1 P2 P3 P4) (perm_is 7 [6, 0, 1, 2, 3, 4, 5] rfl (by decide +kernel) rfl) hP hD
  exact endN hsz C ⟨qc, rfl⟩ hP hD hS d_Se_init_21

abbrev rn_Rs : Room := { frames := 2, cells := 21, slots := 180, locals := 60 }
section
variable {p : Program} {l : Launch} {e : Env} {R : Room} {s : State} {m : MethodId} {args : Array Value} {below : List Frame} {meth : Method} {c : Code} {Q : State → Prop} {A : Nat → Prop} {q qr cT sT : Nat}
theorem lp_Rs (C : Cx p s m args meth c A g "DecadeBridge$Results" b_Rs_init none 2) (hAO : AOW s) (hA : ∀ q : Nat, s.heap.size ≤ q → A q) (hR : 2 ≤ R.frames ∧ 40 ≤ R.locals) (hcT : cT ≤ R.cells) (hsT : sT ≤ R.slots)
    (kk : ∀ (u : Nat → Nat) (f : Nat → Option Nat) (H : Heap) (locs : List Loc) (ls : Array Slot), (∀ j, j < 20 → f j = some (u j)) → va_P g.1 vwCl ((q, .inr (7, (f0Rs.set 0 (.ref qr)))) :: (qr, aR g 5 20 f) :: (List.range 20).map (fun j => (u j, .inr (6, f0Rt)))) H → va_D A ((q, .inr (7, (f0Rs.set 0 (.ref qr)))) :: (qr, aR g 5 20 f) :: (List.range 20).map (fun j => (u j, .inr (6, f0Rt)))) → va_S A s.heap H locs → W p l e R s m args below meth c H locs cT sT Q (F0 m 40 ls [])) :
    ∀ (n i : Nat) (u : Nat → Nat) (f : Nat → Option Nat) (H : Heap) (locs : List Loc) (ls : Array Slot) (cells slots : Nat), i + n = 20 → cells + n = cT → slots + 8 * n = sT → (∀ j, j < i → f j = some (u j)) → lv_has ls 2 [(1, .int (nI i)), (0, .ref q)] → va_P g.1 vwCl ((q, .inr (7, (f0Rs.set 0 (.ref qr)))) :: (qr, aR g 5 20 f) :: (List.range i).map (fun j => (u j, .inr (6, f0Rt)))) H → va_D A ((q, .inr (7, (f0Rs.set 0 (.ref qr)))) :: (qr, aR g 5 20 f) :: (List.range i).map (fun j => (u j, .inr (6, f0Rt)))) → va_S A s.heap H locs → W p l e R s m args below meth c H locs cells slots Q (F0 m 15 ls []) := by
  obtain ⟨hx, hb, hr, hml, hown, hlk, hts, hK, hZo, hZ⟩ := id C
  intro n
  induction n with
  | zero =>
    intro i u f H locs ls cells slots hi hc hs hf hl hP hD hS
    obtain rfl : i = 20 := by omega
    obtain rfl : cells = cT := by omega
    obtain rfl : slots = sT := by omega
    refine lv_iload_n hx hb d_Rs_init_15 rfl (lv_at hl 0 rfl) ?_
    refine lv_bipush (v := 20) hx hb d_Rs_init_16 (by decide) ?_
    refine lv_icmp_ge (tgt := 40) hx hb d_Rs_init_18 (by decide) (fun c4 => ?_) (fun c4 => absurd (by decide) c4)
    exact kk u f H locs ls hf hP hD hS
  | succ n ih =>
    intro i u f H locs ls cells slots hi hc hs hf hl hP hD hS
    refine lv_iload_n hx hb d_Rs_init_15 rfl (lv_at hl 0 rfl) ?_
    refine lv_bipush (v := 20) hx hb d_Rs_init_16 (by decide) ?_
    refine lv_icmp_ge (tgt := 40) hx hb d_Rs_init_18 (by decide) (fun c4 => absurd c4 (by rw [show (20 : Int32) = nI 20 from rfl, nzle (by omega) (by omega)]; omega)) (fun c4 => ?_)
    refine lv_aload_n hx hb d_Rs_init_21 rfl (lv_at hl 1 rfl) ?_
    refine gf C hP 0 0 fkRs rfl (by decide) rfl qf_Rs_13 rfl d_Rs_init_22 ?_
    refine lv_iload_n hx hb d_Rs_init_25 rfl (lv_at hl 0 rfl) ?_
    refine newO C fkRt hP hD hS hA kc_Rs_11 it_Rt in_Rt df_Rt (by omega) (by omega) d_Rs_init_26 (fun qn H hP hD hS => ?_)
    refine lv_dup hx hb d_Rs_init_29 rfl ?_
    obtain ⟨hP, hD⟩ := va_perm (w' := [(qn, .inr (6, f0Rt))] ++ _) List.perm_append_comm hP hD
    refine ncallN C hAO hA mf_Rt_init hAO.2.2.2.1 im_Rt rfl (fun sz => n_Rt l g qn sz) rfl rfl ⟨hR.1, hR.2⟩ ⟨by omega, by omega⟩ hP hD hS hl rfl rfl (Nat.le_of_ble_eq_true rfl) d_Rs_init_30 (fun wn H locs ho hP hD hS => ?_)
    subst ho
    refine stQ (q0 := 2) (qk := 0) (k := 5) C hP hD hS rfl rfl rfl (r := (vwCl[6])) rfl (vp_nI (by omega) (by decide)) d_Rs_init_33 (fun H locs hP hD hS => ?_)
    rw [cl_nI (by omega)] at hP hD
    obtain ⟨hP, hD⟩ := va_perm (w := [(qn, .inr (6, f0Rt))] ++ _) List.perm_append_comm hP hD
    refine lv_iinc (v := nI (i + 1)) (lv' := [(1, .int (nI (i + 1))), (0, .ref q)]) hx hb d_Rs_init_34 hl (k := 0) rfl (nzadd1 i (by omega)) (by decide) rfl (fun ls hl => ?_)
    refine lv_goto (tgt := 15) hx hb d_Rs_init_37 (by decide) ?_
    have ew : (List.range (i + 1)).map (fun j => ((if j = i then qn else u j), (.inr (6, f0Rt) : va_E))) = (List.range i).map (fun j => (u j, .inr (6, f0Rt))) ++ [(qn, .inr (6, f0Rt))] := by
      rw [List.range_succ, List.map_append]
      congr 1
      · refine List.map_congr_left fun j hj => ?_
        rw [if_neg (by have := List.mem_range.mp hj; omega)]
      · show [((if i = i then qn else u i), _)] = _
        rw [if_pos rfl]
    refine ih (i + 1) (fun j => if j = i then qn else u j) (va_up f i (some qn)) _ _ _ _ _ (by omega) (by omega) (by omega) (fun j hj => ?_) hl ?_ ?_ hS
    · unfold va_up
      by_cases w : j = i
      · rw [if_pos w, if_pos w]
      · rw [if_neg w, if_neg w]; exact hf j (by omega)
    · rw [ew]; exact hP
    · rw [ew]; exact hD
end
theorem n_Rs (l : Launch) (g : GX) (q : Nat) (sz : Nat) : NMet l y_Rs_init b_Rs_init 2 rn_Rs g [.ref q] [(q, .inr (7, f0Rs))] sz (fun w => ∃ qr u, w = wRs g q qr u (fun _ => 0) (fun _ => 0) (fun _ _ => 0) (fun _ _ => 0)) 21 180 := by
  refine Met.ofW (cc := b_Rs_init) (maxL := 2) (ret := none) pn_Rs rfl ?_
  intro p e s m args below meth c s₁ B hml hv
  obtain ⟨hsz, rfl, C, hin, hAO, hP, hD, hS, hA⟩ := enterN "DecadeBridge$Results" rfl rfl B hml hv
  obtain ⟨hx, hb, hr, hml, hown, hlk, hts, hK, hZo, hZ⟩ := id C
  refine entryW (lv := [(0, .ref q)]) rfl (Nat.le_of_ble_eq_true rfl) (fun ls hl => ?_)
  refine lv_aload_n hx hb d_Rs_init_0 rfl (lv_at hl 0 rfl) ?_
  refine objI C ob_Rs hl d_Rs_init_1 ⟨Nat.le_of_ble_eq_true rfl, Nat.le_of_ble_eq_true rfl⟩ ?_
  refine lv_aload_n hx hb d_Rs_init_4 rfl (lv_at hl 0 rfl) ?_
  refine lv_bipush (v := 20) hx hb d_Rs_init_5 (by decide) ?_
  refine newQ (k := 5) C hP hD hS hA kc_Rs_11 hAO.1.1 rfl (by decide) rfl (by decide) (Nat.le_of_ble_eq_true rfl) (Nat.le_of_ble_eq_true rfl) d_Rs_init_7 (fun qr H hP hD hS => ?_)
  refine pfF C hin hP hD hS 0 0 fkRs rfl (by decide) rfl rfl qf_Rs_13 rfl rfl rfl (Nat.le_of_ble_eq_true rfl) d_Rs_init_10 (fun H locs hP hD hS => ?_)
  refine lv_iconst (v := 0) hx hb d_Rs_init_13 (by decide) ?_
  refine lv_istore_n (lv' := [(1, .int 0), (0, .ref q)]) hx hb d_Rs_init_14 rfl hl (by decide) rfl (fun ls hl => ?_)
  refine lp_Rs (q := q) (qr := qr) C hAO hA ⟨(Nat.le_of_ble_eq_true rfl), (Nat.le_of_ble_eq_true rfl)⟩ (Nat.le_of_ble_eq_true rfl) (Nat.le_of_ble_eq_true rfl) (fun u f H locs ls hf hP hD hS => ?_) 20 0 (fun _ => 0) (fun _ => none) _ _ _ _ _ rfl rfl rfl (fun j hj => absurd hj (by omega)) hl hP hD hS
  obtain ⟨hP, hD⟩ := va_setf hP hD 1 rfl (aR_at hf)
  exact endN hsz C ⟨qr, u, rfl⟩ hP hD hS d_Rs_init_40

abbrev rn_Be : Room := { frames := 4, cells := 24, slots := 217, locals := 140 }
theorem n_Be (l : Launch) (g : GX) (q qpa qpae qpar qpau qpab : Nat) (sz : Nat) : NMet l y_Be_init b_Be_init 2 rn_Be g [.ref q, .ref qpa] [(q, .inr (0, f0Be)), (qpa, oPa qpae qpar qpau qpab P0), (qpae, aI g 4 P1), (qpar, aI g 5 P2), (qpau, oHe P3), (qpab, oHe P4)] sz (fun w => ∃ qc qrd qrs qrsr u, w = wBe g q qc qrd qrs qrsr u qpa qpae qpar qpau qpab (fun _ => 0) zC zCl (fun _ => 0) (fun _ => 0) (fun _ => 0) (fun _ _ => 0) (fun _ _ => 0) P0 P1 P2 P3 P4) 24 217 := by
  refine Met.ofW (cc := b_Be_init) (maxL := 2) (ret := none) pn_Be rfl ?_
  intro p e s m args below meth c s₁ B hml hv
  obtain ⟨hsz, rfl, C, hin, hAO, hP, hD, hS, hA⟩ := enterN "DecadeBridge$Bench" rfl rfl B hml hv
  obtain ⟨hx, hb, hr, hml, hown, hlk, hts, hK, hZo, hZ⟩ := id C
  refine entryW (lv := [(0, .ref q), (1, .ref qpa)]) rfl (Nat.le_of_ble_eq_true rfl) (fun ls hl => ?_)
  refine lv_aload_n hx hb d_Be_init_0 rfl (lv_at hl 0 rfl) ?_
  refine objI C ob_Be hl d_Be_init_1 ⟨Nat.le_of_ble_eq_true rfl, Nat.le_of_ble_eq_true rfl⟩ ?_
  refine lv_aload_n hx hb d_Be_init_4 rfl (lv_at hl 0 rfl) ?_
  refine lv_bipush (v := 10) hx hb d_Be_init_5 (by decide) ?_
  refine newI C hP hD hS hA ac_I (by decide) rfl (by decide) (Nat.le_of_ble_eq_true rfl) (Nat.le_of_ble_eq_true rfl) d_Be_init_7 (fun qrd H hP hD hS => ?_)
  refine pfF C hin hP hD hS 0 2 fkBe rfl (by decide) rfl rfl qf_Be_11 rfl rfl rfl (Nat.le_of_ble_eq_true rfl) d_Be_init_9 (fun H locs hP hD hS => ?_)
  refine lv_aload_n hx hb d_Be_init_12 rfl (lv_at hl 0 rfl) ?_
  refine newO C fkRs hP hD hS hA kc_Be_15 it_Rs in_Rs df_Rs (Nat.le_of_ble_eq_true rfl) (Nat.le_of_ble_eq_true rfl) d_Be_init_13 (fun qrs H hP hD hS => ?_)
  refine lv_dup hx hb d_Be_init_16 rfl ?_
  obtain ⟨hP, hD⟩ := va_perm (w' := [(qrs, .inr (7, f0Rs))] ++ _) List.perm_append_comm hP hD
  refine ncall C hAO hA mf_Rs_init kn_Be_17 im_Rs rfl (fun sz => n_Rs l g qrs sz) rfl rfl ⟨Nat.le_of_ble_eq_true rfl, Nat.le_of_ble_eq_true rfl⟩ ⟨Nat.le_of_ble_eq_true rfl, Nat.le_of_ble_eq_true rfl⟩ hP hD hS hl rfl rfl (Nat.le_of_ble_eq_true rfl) d_Be_init_17 (fun wn H locs ho hP hD hS => ?_)
  obtain ⟨qrsr, u, rfl⟩ := ho
  refine pfF C hin hP hD hS 22 6 fkBe rfl (by decide) rfl rfl qf_Be_18 rfl rfl rfl (Nat.le_of_ble_eq_true rfl) d_Be_init_20 (fun H locs hP hD hS => ?_)
  refine lv_aload_n hx hb d_Be_init_23 rfl (lv_at hl 0 rfl) ?_
  refine lv_aload_n hx hb d_Be_init_24 rfl (lv_at hl 1 rfl) ?_
  refine pfF C hin hP hD hS 22 1 fkBe rfl (by decide) rfl rfl qf_Be_22 rfl rfl rfl (Nat.le_of_ble_eq_true rfl) d_Be_init_25 (fun H locs hP hD hS => ?_)
  refine lv_aload_n hx hb d_Be_init_28 rfl (lv_at hl 0 rfl) ?_
  refine newO C fkCi hP hD hS hA kc_Be_26 it_Ci in_Ci df_Ci (Nat.le_of_ble_eq_true rfl) (Nat.le_of_ble_eq_true rfl) d_Be_init_29 (fun qc H hP hD hS => ?_)
  refine lv_dup hx hb d_Be_init_32 rfl ?_
  refine lv_aload_n hx hb d_Be_init_33 rfl (lv_at hl 1 rfl) ?_
  obtain ⟨hP, hD⟩ := va_perm (w' := [(qc, .inr (1, f0Ci)), (qpa, oPa qpae qpar qpau qpab P0), (qpae, aI g 4 P1), (qpar, aI g 5 P2), (qpau, oHe P3), (qpab, oHe P4)] ++ (wRs g qrs qrsr u (fun _ => 0) (fun _ => 0) (fun _ _ => 0) (fun _ _ => 0) ++ [(q, .inr (0, [.null, .ref qpa, .ref qrd, .int 0, .int 0, .int 0, .ref qrs])), (qrd, aI g 10 (fun _ => 0))])) (perm_is 30 [29, 23, 24, 25, 26, 27, 0, 1, 2, 3, 4, 5, 6, 7, 8, 9, 10, 11, 12, 13, 14, 15, 16, 17, 18, 19, 20, 21, 22, 28] rfl (by decide +kernel) rfl) hP hD
  refine ncall C hAO hA mf_Ci_init kn_Be_28 im_Ci rfl (fun sz => n_Ci l g qc qpa qpae qpar qpau qpab sz) rfl rfl ⟨Nat.le_of_ble_eq_true rfl, Nat.le_of_ble_eq_true rfl⟩ ⟨Nat.le_of_ble_eq_true rfl, Nat.le_of_ble_eq_true rfl⟩ hP hD hS hl rfl rfl (Nat.le_of_ble_eq_true rfl) d_Be_init_34 (fun wn H locs ho hP hD hS => ?_)
  subst ho
  refine pfF C hin hP hD hS 28 0 fkBe rfl (by decide) rfl rfl qf_Be_31 rfl rfl rfl (Nat.le_of_ble_eq_true rfl) d_Be_init_37 (fun H locs hP hD hS => ?_)
  obtain ⟨hP, hD⟩ := va_perm (w' := wBe g q qc qrd qrs qrsr u qpa qpae qpar qpau qpab (fun _ => 0) zC zCl (fun _ => 0) (fun _ => 0) (fun _ => 0) (fun _ _ => 0) (fun _ _ => 0) P0 P1 P2 P3 P4) (perm_is 30 [28, 0, 29, 6, 7, 8, 9, 10, 11, 12, 13, 14, 15, 16, 17, 18, 19, 20, 21, 22, 23, 24, 25, 26, 27, 1, 2, 3, 4, 5] rfl (by decide +kernel) rfl) hP hD
  exact endN hsz C ⟨qc, qrd, qrs, qrsr, u, rfl⟩ hP hD hS d_Be_init_40

end
end TYD
