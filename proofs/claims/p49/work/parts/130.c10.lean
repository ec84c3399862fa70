set_option maxHeartbeats 800000 in
set_option maxRecDepth 100000 in
theorem cC_X10_arrival (l : Launch) (hlt : l.stackTraces = false) (G : GT) (A : Nat → Prop) (h : AH) (b : BA) (u : MM) (hR : RC G.2.2.1 h b u) (hw : WFc u) (x : Int32) : cxI l G A yX10_arrival cX10_arrival 3 (Option.some FieldType.int) 8 133 2 12 [.ref (b 14 0), .int (x)] h (fun r h' => xSc u x = none ∧ r = cArv u x ∧ RC G.2.2.1 h' b (cSr u x) ∧ WFc (cSr u x)) (fun E h' => xSc u x = some E ∧ RC G.2.2.1 h' b (cSr u x) ∧ WFc (cSr u x)) := by
  refine cx_of "Routepost" rfl (by decide) (Nat.le_of_ble_eq_true rfl) ?_
  intro pr e s m9 below meth c C0 hxt hr hH ls hl
  obtain ⟨hx, hb, hml, hown, hts, hK, hA, -⟩ := id C0
  have hl : lv_has ls 3 [(0, .ref (b 14 0)), (1, .int (x))] := hl
  have hc7 := hw.cnt6 7
  have hc8 := hw.cnt6 8
  have hc9 := hw.cnt6 9
  have hw00 := hw
  refine lv_aload_n hx hb dX10_arrival_0 rfl (lv_at hl 0 rfl) ?_
  refine c_getR C0 hH hR ci_14 (i := 0) (j := 6) rfl rfl (by decide) rfl fl_X10_38 (v := some (b 11 0)) rfl dX10_arrival_1 ?_
  refine lv_aload_n hx hb dX10_arrival_4 rfl (lv_at hl 0 rfl) ?_
  refine c_getR C0 hH hR ci_14 (i := 0) (j := 1) rfl rfl (by decide) rfl fl_X10_16 (v := some (b 3 1)) rfl dX10_arrival_5 ?_
  refine lv_aload_n hx hb dX10_arrival_8 rfl (lv_at hl 0 rfl) ?_
  refine lv_iload_n hx hb dX10_arrival_9 rfl (lv_at hl 1 rfl) ?_
  refine k_xq C0 hxt hH (k_xrunV (rest := [.ref (b 3 1), .ref (b 11 0)]) C0 hH (cC_X10_scannedParcel l hlt G A _ b _ hR hw x ) mv_X10_scannedParcel ml_X10_219 ci_14 (hR.kind (K := 14) (i := 0) rfl) rfl ⟨Nat.le_of_ble_eq_true rfl, Nat.le_of_ble_eq_true rfl⟩ hl.1 rfl (Nat.le_of_ble_eq_true rfl) dX10_arrival_10 ⟨Nat.le_of_ble_eq_true rfl, Nat.le_of_ble_eq_true rfl⟩) (fun E h9 z => ⟨z.1, by rw [z.2, show cSr u x = u from if_neg (fun y => by rw [y] at z; exact nomatch z.1)]; exact ⟨hR, hw⟩⟩) (Nat.le_of_ble_eq_true rfl) (Nat.le_of_ble_eq_true rfl) (fun r_1 h1 H locs hp hH => ?_)
  obtain ⟨exr_1, er_1, eh⟩ := hp
  rw [eh] at hH
  clear eh
  have vpv_2 : vp_in (x) (npN u) := xSc_vp hw exr_1
  obtain ⟨v_2, hv_2, ev_2⟩ := vp_ex vpv_2 (by have := hw.nh; have := hw.nl; have := hw.np; omega)
  have kv_2 : (x).toNatClampNeg = v_2 := by rw [ev_2]; exact nI_clamp (by have := hw.nh; have := hw.nl; have := hw.np; omega)
  rw [show dec b 9 (x) = some (b 9 v_2) from by rw [ev_2]; exact dec_nI (by have := hw.nh; have := hw.nl; have := hw.np; omega)] at er_1
  subst er_1
  have hq00 := hv_2
  refine lv_aload_n hx hb dX10_arrival_13 rfl (lv_at hl 0 rfl) ?_
  refine c_getI C0 hH hR ci_14 (i := 0) (j := 9) rfl rfl (by decide) rfl fl_X10_56 (v := u 41 0) rfl dX10_arrival_14 ?_
  refine k_q hH (k_runV (rest := []) C0 hH (cC_X7_bestPath l G A _ b _ hR hw v_2 (u 41 0) hv_2) mv_X7_bestPath ml_X10_273 ci_11 (hR.kind (K := 11) (i := 0) rfl) rfl ⟨Nat.le_of_ble_eq_true rfl, Nat.le_of_ble_eq_true rfl⟩ hl.1 rfl (Nat.le_of_ble_eq_true rfl) dX10_arrival_17 ⟨Nat.le_of_ble_eq_true rfl, Nat.le_of_ble_eq_true rfl⟩) (fun r_3 h H locs hp hH => ?_)
  obtain ⟨er_3, hR, hw⟩ := hp
  subst er_3
  obtain ⟨U1, hU1⟩ : ∃ z, z = ((cBp u v_2 (u 41 0)).2) := ⟨_, rfl⟩
  rw [← hU1] at hR hw
  have hnU1 : nhN U1 = nhN u ∧ nlN U1 = nlN u ∧ npN U1 = npN u := by rw [hU1]; exact cBp_n _ _ _
  have hc7 := hw.cnt6 7
  have hc8 := hw.cnt6 8
  have hc9 := hw.cnt6 9
  replace hv_2 : v_2 < npN U1 := by rw [hnU1.2.2]; exact hv_2
  refine o_astore_n_q (lv' := [(2, va_rf (dec b 10 ((cBp u v_2 (u 41 0)).1))), (0, .ref (b 14 0)), (1, .int (x))]) hx hb dX10_arrival_20 rfl hl (by decide) rfl (fun ls hl => ?_)
  refine o_aload_n_q hx hb dX10_arrival_21 rfl (lv_at hl 0 rfl) ?_
  rcases (cBp_ok hw00 hq00 _) with es_4 | ⟨s_4, hs_4, es_4⟩
  · have eds_4 : dec b 10 ((cBp u v_2 (u 41 0)).1) = none := by rw [es_4]; exact dec_m1
    rw [eds_4]
    rw [eds_4] at hl
    refine lv_ifnonnullN hx hb dX10_arrival_22 ?_
    refine lv_iconst (v := (-1)) hx hb dX10_arrival_25 (by decide) ?_
    refine lv_goto (tgt := 33) hx hb dX10_arrival_26 (by decide) ?_
    refine vx_ret ?_
    have eR : ((-1) : Int32) = cArv u x := by unfold cArv cBq; rw [kv_2, ← hU1, if_pos es_4]
    have eM : (cSr u x) = U1 := by unfold cSr cBq; rw [if_pos exr_1, kv_2]; exact hU1.symm
    exact e_I C0 hr hH ⟨exr_1, eR, by rw [eM]; exact ⟨hR, hw⟩⟩ (Nat.le_of_ble_eq_true rfl) (Nat.le_of_ble_eq_true rfl) dX10_arrival_33
  · have eds_4 : dec b 10 ((cBp u v_2 (u 41 0)).1) = some (b 10 s_4) := by rw [es_4]; exact dec_nI (by have := hc8; omega)
    have ks_4 : ((cBp u v_2 (u 41 0)).1).toNatClampNeg = s_4 := by rw [es_4]; exact nI_clamp (by have := hc8; omega)
    have ns_4 : ¬ ((cBp u v_2 (u 41 0)).1) = -1 := by rw [es_4]; exact nI_nm (by have := hc8; omega)
    rw [eds_4]
    rw [eds_4] at hl
    refine lv_ifnonnull (tgt := 29) hx hb dX10_arrival_22 (by decide) ?_
    refine lv_aload_n hx hb dX10_arrival_29 rfl (lv_at hl 0 rfl) ?_
    refine c_getI C0 hH hR ci_10 (i := s_4) (j := 2) hs_4 rfl (by decide) rfl fl_X10_289 (v := U1 132 s_4) rfl dX10_arrival_30 ?_
    refine vx_ret ?_
    have eR : (U1 132 s_4 : Int32) = cArv u x := by unfold cArv cBq; rw [kv_2, ← hU1, if_neg ns_4, ks_4]
    have eM : (cSr u x) = U1 := by unfold cSr cBq; rw [if_pos exr_1, kv_2]; exact hU1.symm
    exact e_I C0 hr hH ⟨exr_1, eR, by rw [eM]; exact ⟨hR, hw⟩⟩ (Nat.le_of_ble_eq_true rfl) (Nat.le_of_ble_eq_true rfl) dX10_arrival_33
set_option maxHeartbeats 800000 in
set_option maxRecDepth 100000 in
theorem cC_X10_nextLineByPaths (l : Launch) (hlt : l.stackTraces = false) (G : GT) (A : Nat → Prop) (h : AH) (b : BA) (u : MM) (hR : RC G.2.2.1 h b u) (hw : WFc u) (x : Int32) : cxI l G A yX10_nextLineByPaths cX10_nextLineByPaths 2 (Option.some FieldType.int) 11 304 2 12 [.ref (b 14 0), .int (x)] h (fun r h' => xSc u x = none ∧ r = cAll u x.toNatClampNeg (u 41 0) 154 0 ∧ RC G.2.2.1 h' b (cTr u x) ∧ WFc (cTr u x)) (fun E h' => xSc u x = some E ∧ RC G.2.2.1 h' b (cTr u x) ∧ WFc (cTr u x)) := by
  refine cx_of "Routepost" rfl (by decide) (Nat.le_of_ble_eq_true rfl) ?_
  intro pr e s m9 below meth c C0 hxt hr hH ls hl
  obtain ⟨hx, hb, hml, hown, hts, hK, hA, -⟩ := id C0
  have hl : lv_has ls 2 [(0, .ref (b 14 0)), (1, .int (x))] := hl
  have hc7 := hw.cnt6 7
  have hc8 := hw.cnt6 8
  have hc9 := hw.cnt6 9
  have hw00 := hw
  refine lv_aload_n hx hb dX10_nextLineByPaths_0 rfl (lv_at hl 0 rfl) ?_
  refine c_getR C0 hH hR ci_14 (i := 0) (j := 7) rfl rfl (by decide) rfl fl_X10_45 (v := some (b 12 0)) rfl dX10_nextLineByPaths_1 ?_
  refine lv_aload_n hx hb dX10_nextLineByPaths_4 rfl (lv_at hl 0 rfl) ?_
  refine c_getR C0 hH hR ci_14 (i := 0) (j := 1) rfl rfl (by decide) rfl fl_X10_16 (v := some (b 3 1)) rfl dX10_nextLineByPaths_5 ?_
  refine lv_aload_n hx hb dX10_nextLineByPaths_8 rfl (lv_at hl 0 rfl) ?_
  refine lv_iload_n hx hb dX10_nextLineByPaths_9 rfl (lv_at hl 1 rfl) ?_
  refine k_xq C0 hxt hH (k_xrunV (rest := [.ref (b 3 1), .ref (b 12 0)]) C0 hH (cC_X10_scannedParcel l hlt G A _ b _ hR hw x ) mv_X10_scannedParcel ml_X10_219 ci_14 (hR.kind (K := 14) (i := 0) rfl) rfl ⟨Nat.le_of_ble_eq_true rfl, Nat.le_of_ble_eq_true rfl⟩ hl.1 rfl (Nat.le_of_ble_eq_true rfl) dX10_nextLineByPaths_10 ⟨Nat.le_of_ble_eq_true rfl, Nat.le_of_ble_eq_true rfl⟩) (fun E h9 z => ⟨z.1, by rw [z.2, show cTr u x = u from if_neg (fun y => by rw [y] at z; exact nomatch z.1)]; exact ⟨hR, hw⟩⟩) (Nat.le_of_ble_eq_true rfl) (Nat.le_of_ble_eq_true rfl) (fun r_1 h1 H locs hp hH => ?_)
  obtain ⟨exr_1, er_1, eh⟩ := hp
  rw [eh] at hH
  clear eh
  have vpv_2 : vp_in (x) (npN u) := xSc_vp hw exr_1
  obtain ⟨v_2, hv_2, ev_2⟩ := vp_ex vpv_2 (by have := hw.nh; have := hw.nl; have := hw.np; omega)
  have kv_2 : (x).toNatClampNeg = v_2 := by rw [ev_2]; exact nI_clamp (by have := hw.nh; have := hw.nl; have := hw.np; omega)
  rw [show dec b 9 (x) = some (b 9 v_2) from by rw [ev_2]; exact dec_nI (by have := hw.nh; have := hw.nl; have := hw.np; omega)] at er_1
  subst er_1
  have hq00 := hv_2
  refine lv_aload_n hx hb dX10_nextLineByPaths_13 rfl (lv_at hl 0 rfl) ?_
  refine c_getI C0 hH hR ci_14 (i := 0) (j := 9) rfl rfl (by decide) rfl fl_X10_56 (v := u 41 0) rfl dX10_nextLineByPaths_14 ?_
  refine k_v hH (k_runV (rest := []) C0 hH (cC_X8_tryAll l G A _ b _ hR hw v_2 (u 41 0) hv_2) mv_X8_tryAll ml_X10_266 ci_12 (hR.kind (K := 12) (i := 0) rfl) rfl ⟨Nat.le_of_ble_eq_true rfl, Nat.le_of_ble_eq_true rfl⟩ hl.1 rfl (Nat.le_of_ble_eq_true rfl) dX10_nextLineByPaths_17 ⟨Nat.le_of_ble_eq_true rfl, Nat.le_of_ble_eq_true rfl⟩) (fun h H locs hp hH => ?_)
  obtain ⟨hR, hw⟩ := hp
  refine lv_aload_n hx hb dX10_nextLineByPaths_20 rfl (lv_at hl 0 rfl) ?_
  refine c_getR C0 hH hR ci_14 (i := 0) (j := 7) rfl rfl (by decide) rfl fl_X10_45 (v := some (b 12 0)) rfl dX10_nextLineByPaths_21 ?_
  refine c_getR C0 hH hR ci_12 (i := 0) (j := 4) rfl rfl (by decide) rfl fl_X10_270 (v := dec b 8 ((cAll u v_2 (u 41 0)) 154 0)) (show dec b 8 ((cAll u v_2 (u 41 0)) 154 0) = dec b 8 ((cAll u v_2 (u 41 0)) 154 0) from congrArg _ rfl) dX10_nextLineByPaths_24 ?_
  refine k_i hH (k_runS (rest := []) C0 hH (cC_X10_numberOf_ l G A _ b _ hR hw ((cAll u v_2 (u 41 0)) 154 0) (hw.exL (hw.rg (k := 154) (by decide) _))) mv_X10_numberOf_ ml_X10_264 rfl ⟨Nat.le_of_ble_eq_true rfl, Nat.le_of_ble_eq_true rfl⟩ hl.1 rfl (Nat.le_of_ble_eq_true rfl) dX10_nextLineByPaths_27 ⟨Nat.le_of_ble_eq_true rfl, Nat.le_of_ble_eq_true rfl⟩) (fun r_4 h1 H locs hp hH => ?_)
  obtain ⟨er_4, eh⟩ := hp
  rw [eh] at hH
  clear eh
  subst er_4
  refine vx_ret ?_
  have eR : (((cAll u v_2 (u 41 0)) 154 0) : Int32) = cAll u x.toNatClampNeg (u 41 0) 154 0 := by rw [kv_2]
  have eM : (cTr u x) = (cAll u v_2 (u 41 0)) := by unfold cTr; rw [if_pos exr_1, kv_2]
  exact e_I C0 hr hH ⟨exr_1, eR, by rw [eM]; exact ⟨hR, hw⟩⟩ (Nat.le_of_ble_eq_true rfl) (Nat.le_of_ble_eq_true rfl) dX10_nextLineByPaths_30
