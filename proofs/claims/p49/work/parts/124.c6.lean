set_option maxHeartbeats 800000 in
set_option maxRecDepth 100000 in
theorem cC_X10_hubNumbered_in (l : Launch) (hlt : l.stackTraces = false) (G : GT) (A : Nat → Prop) (h : AH) (b : BA) (u : MM) (hR : RC G.2.2.1 h b u) (hw : WFc u) (v : Nat) (hv0 : v < nhN u) : cxQ l G A yX10_hubNumbered cX10_hubNumbered 2 (Option.some (FieldType.object "Routepost$Hub")) 6 90 1 6 [.ref (b 14 0), .int (nI v)] h (fun r h' => xHb u (nI v) = none ∧ r = dec b 7 (nI v) ∧ h' = h) (fun E h' => xHb u (nI v) = some E ∧ h' = h) := by
  refine cx_of "Routepost" rfl (by decide) (Nat.le_of_ble_eq_true rfl) ?_
  intro pr e s m9 below meth c C0 hxt hr hH ls hl
  obtain ⟨hx, hb, hml, hown, hts, hK, hA, -⟩ := id C0
  have hl : lv_has ls 2 [(0, .ref (b 14 0)), (1, .int (nI v))] := hl
  have hc7 := hw.cnt6 7
  have hc8 := hw.cnt6 8
  have hc9 := hw.cnt6 9
  have hn40 := hw.nh
  refine lv_iload_n hx hb dX10_hubNumbered_0 rfl (lv_at hl 1 rfl) ?_
  refine lv_if_lt (tgt := 15) hx hb dX10_hubNumbered_1 (by decide) (fun c1_1 => ?_) (fun c1_1 => ?_)
  · exact absurd c1_1 (nI_pos (by omega))
  · refine lv_iload_n hx hb dX10_hubNumbered_4 rfl (lv_at hl 1 rfl) ?_
    refine lv_aload_n hx hb dX10_hubNumbered_5 rfl (lv_at hl 0 rfl) ?_
    refine c_getR C0 hH hR ci_14 (i := 0) (j := 0) rfl rfl (by decide) rfl fl_X10_12 (v := some (b 3 0)) rfl dX10_hubNumbered_6 ?_
    refine k_i hH (k_runV (rest := [.int (nI v)]) C0 hH (cL_size l G A _ b _ hR hw 0 (show 0 < 6 + npN _ by omega)) mv_Jx4a65c_size_8abf5 ml_X10_79 ci_3 (hR.kind (K := 3) (i := 0) (show 0 < 6 + npN _ by omega)) rfl ⟨Nat.le_of_ble_eq_true rfl, Nat.le_of_ble_eq_true rfl⟩ hl.1 rfl (Nat.le_of_ble_eq_true rfl) dX10_hubNumbered_9 ⟨Nat.le_of_ble_eq_true rfl, Nat.le_of_ble_eq_true rfl⟩) (fun r9 h1 H locs hp hH => ?_)
    obtain ⟨er9, eh⟩ := hp
    rw [eh] at hH
    clear eh
    rw [hw.sz0] at er9
    subst er9
    refine lv_icmp_lt (tgt := 26) hx hb dX10_hubNumbered_12 (by decide) (fun c12_2 => ?_) (fun c12_2 => ?_)
    · refine lv_aload_n hx hb dX10_hubNumbered_26 rfl (lv_at hl 0 rfl) ?_
      refine c_getR C0 hH hR ci_14 (i := 0) (j := 0) rfl rfl (by decide) rfl fl_X10_12 (v := some (b 3 0)) rfl dX10_hubNumbered_27 ?_
      refine lv_iload_n hx hb dX10_hubNumbered_30 rfl (lv_at hl 1 rfl) ?_
      refine k_q hH (k_runV (rest := []) C0 hH (cL_get l G A _ b _ hR hw 0 v (show 0 < 6 + npN _ by omega) (by rw [hw.sz0]; exact hv0) (a := b 7 v) rfl) mv_Jx4a65c_get_915e3 ml_X10_143 ci_3 (hR.kind (K := 3) (i := 0) (show 0 < 6 + npN _ by omega)) rfl ⟨Nat.le_of_ble_eq_true rfl, Nat.le_of_ble_eq_true rfl⟩ hl.1 rfl (Nat.le_of_ble_eq_true rfl) dX10_hubNumbered_31 ⟨Nat.le_of_ble_eq_true rfl, Nat.le_of_ble_eq_true rfl⟩) (fun r9 h1 H locs hp hH => ?_)
      obtain ⟨er9, eh⟩ := hp
      rw [eh] at hH
      clear eh
      subst er9
      refine k_chk C0 hH ci_7 (hR.kind (K := 7) (i := v) hv0) cl_X10_88 dX10_hubNumbered_34 ?_
      refine vx_ret ?_
      have eR : (some (b 7 v) : Option Nat) = dec b 7 (nI v) := (dec_nI (by omega)).symm
      exact e_Q (v := some (b 7 v)) C0 hr (Or.inl ⟨_, rfl⟩) hH ⟨((xHb_n hw).mpr (vp_in_nI hv0 (by omega))), eR, rfl⟩ (Nat.le_of_ble_eq_true rfl) (Nat.le_of_ble_eq_true rfl) dX10_hubNumbered_37
    · exact absurd (Int32.not_le.mp (nI_ge hv0 (by omega))) c12_2
set_option maxHeartbeats 800000 in
set_option maxRecDepth 100000 in
theorem cC_X10_hubNumbered_no (l : Launch) (hlt : l.stackTraces = false) (G : GT) (A : Nat → Prop) (h : AH) (b : BA) (u : MM) (hR : RC G.2.2.1 h b u) (hw : WFc u) (x : Int32) (hno : ¬ vp_in x (nhN u)) : cxQ l G A yX10_hubNumbered cX10_hubNumbered 2 (Option.some (FieldType.object "Routepost$Hub")) 6 90 1 6 [.ref (b 14 0), .int (x)] h (fun r h' => xHb u x = none ∧ r = dec b 7 x ∧ h' = h) (fun E h' => xHb u x = some E ∧ h' = h) := by
  refine cx_of "Routepost" rfl (by decide) (Nat.le_of_ble_eq_true rfl) ?_
  intro pr e s m9 below meth c C0 hxt hr hH ls hl
  obtain ⟨hx, hb, hml, hown, hts, hK, hA, -⟩ := id C0
  have hl : lv_has ls 2 [(0, .ref (b 14 0)), (1, .int (x))] := hl
  have hc7 := hw.cnt6 7
  have hc8 := hw.cnt6 8
  have hc9 := hw.cnt6 9
  have hn40 := hw.nh
  refine lv_iload_n hx hb dX10_hubNumbered_0 rfl (lv_at hl 1 rfl) ?_
  refine lv_if_lt (tgt := 15) hx hb dX10_hubNumbered_1 (by decide) (fun c1_1 => ?_) (fun c1_1 => ?_)
  · exact k_throwN C0 hxt hlt hH (is := 364) (text := "no such hub") (by decide) hl.1 dX10_hubNumbered_15 dX10_hubNumbered_18 dX10_hubNumbered_19 dX10_hubNumbered_22 dX10_hubNumbered_25 (Nat.le_of_ble_eq_true rfl) (Nat.le_of_ble_eq_true rfl) (Nat.le_of_ble_eq_true rfl) (Nat.le_of_ble_eq_true rfl) ⟨xHb_s hw hno, rfl⟩ (Nat.le_of_ble_eq_true rfl) (Nat.le_of_ble_eq_true rfl)
  · refine lv_iload_n hx hb dX10_hubNumbered_4 rfl (lv_at hl 1 rfl) ?_
    refine lv_aload_n hx hb dX10_hubNumbered_5 rfl (lv_at hl 0 rfl) ?_
    refine c_getR C0 hH hR ci_14 (i := 0) (j := 0) rfl rfl (by decide) rfl fl_X10_12 (v := some (b 3 0)) rfl dX10_hubNumbered_6 ?_
    refine k_i hH (k_runV (rest := [.int (x)]) C0 hH (cL_size l G A _ b _ hR hw 0 (show 0 < 6 + npN _ by omega)) mv_Jx4a65c_size_8abf5 ml_X10_79 ci_3 (hR.kind (K := 3) (i := 0) (show 0 < 6 + npN _ by omega)) rfl ⟨Nat.le_of_ble_eq_true rfl, Nat.le_of_ble_eq_true rfl⟩ hl.1 rfl (Nat.le_of_ble_eq_true rfl) dX10_hubNumbered_9 ⟨Nat.le_of_ble_eq_true rfl, Nat.le_of_ble_eq_true rfl⟩) (fun r9 h1 H locs hp hH => ?_)
    obtain ⟨er9, eh⟩ := hp
    rw [eh] at hH
    clear eh
    rw [hw.sz0] at er9
    subst er9
    refine lv_icmp_lt (tgt := 26) hx hb dX10_hubNumbered_12 (by decide) (fun c12_2 => ?_) (fun c12_2 => ?_)
    · exact absurd (vp_of (by omega) c1_1 c12_2) hno
    · exact k_throwN C0 hxt hlt hH (is := 364) (text := "no such hub") (by decide) hl.1 dX10_hubNumbered_15 dX10_hubNumbered_18 dX10_hubNumbered_19 dX10_hubNumbered_22 dX10_hubNumbered_25 (Nat.le_of_ble_eq_true rfl) (Nat.le_of_ble_eq_true rfl) (Nat.le_of_ble_eq_true rfl) (Nat.le_of_ble_eq_true rfl) ⟨xHb_s hw hno, rfl⟩ (Nat.le_of_ble_eq_true rfl) (Nat.le_of_ble_eq_true rfl)
theorem cC_X10_hubNumbered (l : Launch) (hlt : l.stackTraces = false) (G : GT) (A : Nat → Prop) (h : AH) (b : BA) (u : MM) (hR : RC G.2.2.1 h b u) (hw : WFc u) (x : Int32) : cxQ l G A yX10_hubNumbered cX10_hubNumbered 2 (Option.some (FieldType.object "Routepost$Hub")) 6 90 1 6 [.ref (b 14 0), .int (x)] h (fun r h' => xHb u x = none ∧ r = dec b 7 x ∧ h' = h) (fun E h' => xHb u x = some E ∧ h' = h) := by
  by_cases hx : vp_in x (nhN u)
  · obtain ⟨v, hv, rfl⟩ := vp_ex hx (by have := hw.nh; omega)
    exact cC_X10_hubNumbered_in l hlt G A h b u hR hw v hv
  · exact cC_X10_hubNumbered_no l hlt G A h b u hR hw x hx
set_option maxHeartbeats 800000 in
set_option maxRecDepth 100000 in
theorem cC_X10_lineNumbered_in (l : Launch) (hlt : l.stackTraces = false) (G : GT) (A : Nat → Prop) (h : AH) (b : BA) (u : MM) (hR : RC G.2.2.1 h b u) (hw : WFc u) (v : Nat) (hv0 : v < nlN u) : cxQ l G A yX10_lineNumbered cX10_lineNumbered 2 (Option.some (FieldType.object "Routepost$Line")) 6 90 1 6 [.ref (b 14 0), .int (nI v)] h (fun r h' => xLn u (nI v) = none ∧ r = dec b 8 (nI v) ∧ h' = h) (fun E h' => xLn u (nI v) = some E ∧ h' = h) := by
  refine cx_of "Routepost" rfl (by decide) (Nat.le_of_ble_eq_true rfl) ?_
  intro pr e s m9 below meth c C0 hxt hr hH ls hl
  obtain ⟨hx, hb, hml, hown, hts, hK, hA, -⟩ := id C0
  have hl : lv_has ls 2 [(0, .ref (b 14 0)), (1, .int (nI v))] := hl
  have hc7 := hw.cnt6 7
  have hc8 := hw.cnt6 8
  have hc9 := hw.cnt6 9
  have hn40 := hw.nl
  refine lv_iload_n hx hb dX10_lineNumbered_0 rfl (lv_at hl 1 rfl) ?_
  refine lv_if_lt (tgt := 15) hx hb dX10_lineNumbered_1 (by decide) (fun c1_1 => ?_) (fun c1_1 => ?_)
  · exact absurd c1_1 (nI_pos (by omega))
  · refine lv_iload_n hx hb dX10_lineNumbered_4 rfl (lv_at hl 1 rfl) ?_
    refine lv_aload_n hx hb dX10_lineNumbered_5 rfl (lv_at hl 0 rfl) ?_
    refine c_getR C0 hH hR ci_14 (i := 0) (j := 1) rfl rfl (by decide) rfl fl_X10_16 (v := some (b 3 1)) rfl dX10_lineNumbered_6 ?_
    refine k_i hH (k_runV (rest := [.int (nI v)]) C0 hH (cL_size l G A _ b _ hR hw 1 (show 1 < 6 + npN _ by omega)) mv_Jx4a65c_size_8abf5 ml_X10_79 ci_3 (hR.kind (K := 3) (i := 1) (show 1 < 6 + npN _ by omega)) rfl ⟨Nat.le_of_ble_eq_true rfl, Nat.le_of_ble_eq_true rfl⟩ hl.1 rfl (Nat.le_of_ble_eq_true rfl) dX10_lineNumbered_9 ⟨Nat.le_of_ble_eq_true rfl, Nat.le_of_ble_eq_true rfl⟩) (fun r9 h1 H locs hp hH => ?_)
    obtain ⟨er9, eh⟩ := hp
    rw [eh] at hH
    clear eh
    rw [hw.sz1] at er9
    subst er9
    refine lv_icmp_lt (tgt := 26) hx hb dX10_lineNumbered_12 (by decide) (fun c12_2 => ?_) (fun c12_2 => ?_)
    · refine lv_aload_n hx hb dX10_lineNumbered_26 rfl (lv_at hl 0 rfl) ?_
      refine c_getR C0 hH hR ci_14 (i := 0) (j := 1) rfl rfl (by decide) rfl fl_X10_16 (v := some (b 3 1)) rfl dX10_lineNumbered_27 ?_
      refine lv_iload_n hx hb dX10_lineNumbered_30 rfl (lv_at hl 1 rfl) ?_
      refine k_q hH (k_runV (rest := []) C0 hH (cL_get l G A _ b _ hR hw 1 v (show 1 < 6 + npN _ by omega) (by rw [hw.sz1]; exact hv0) (a := b 8 v) rfl) mv_Jx4a65c_get_915e3 ml_X10_143 ci_3 (hR.kind (K := 3) (i := 1) (show 1 < 6 + npN _ by omega)) rfl ⟨Nat.le_of_ble_eq_true rfl, Nat.le_of_ble_eq_true rfl⟩ hl.1 rfl (Nat.le_of_ble_eq_true rfl) dX10_lineNumbered_31 ⟨Nat.le_of_ble_eq_true rfl, Nat.le_of_ble_eq_true rfl⟩) (fun r9 h1 H locs hp hH => ?_)
      obtain ⟨er9, eh⟩ := hp
      rw [eh] at hH
      clear eh
      subst er9
      refine k_chk C0 hH ci_8 (hR.kind (K := 8) (i := v) hv0) cl_X10_107 dX10_lineNumbered_34 ?_
      refine vx_ret ?_
      have eR : (some (b 8 v) : Option Nat) = dec b 8 (nI v) := (dec_nI (by omega)).symm
      exact e_Q (v := some (b 8 v)) C0 hr (Or.inl ⟨_, rfl⟩) hH ⟨((xLn_n hw).mpr (vp_in_nI hv0 (by omega))), eR, rfl⟩ (Nat.le_of_ble_eq_true rfl) (Nat.le_of_ble_eq_true rfl) dX10_lineNumbered_37
    · exact absurd (Int32.not_le.mp (nI_ge hv0 (by omega))) c12_2
set_option maxHeartbeats 800000 in
set_option maxRecDepth 100000 in
theorem cC_X10_lineNumbered_no (l : Launch) (hlt : l.stackTraces = false) (G : GT) (A : Nat → Prop) (h : AH) (b : BA) (u : MM) (hR : RC G.2.2.1 h b u) (hw : WFc u) (x : Int32) (hno : ¬ vp_in x (nlN u)) : cxQ l G A yX10_lineNumbered cX10_lineNumbered 2 (Option.some (FieldType.object "Routepost$Line")) 6 90 1 6 [.ref (b 14 0), .int (x)] h (fun r h' => xLn u x = none ∧ r = dec b 8 x ∧ h' = h) (fun E h' => xLn u x = some E ∧ h' = h) := by
  refine cx_of "Routepost" rfl (by decide) (Nat.le_of_ble_eq_true rfl) ?_
  intro pr e s m9 below meth c C0 hxt hr hH ls hl
  obtain ⟨hx, hb, hml, hown, hts, hK, hA, -⟩ := id C0
  have hl : lv_has ls 2 [(0, .ref (b 14 0)), (1, .int (x))] := hl
  have hc7 := hw.cnt6 7
  have hc8 := hw.cnt6 8
  have hc9 := hw.cnt6 9
  have hn40 := hw.nl
  refine lv_iload_n hx hb dX10_lineNumbered_0 rfl (lv_at hl 1 rfl) ?_
  refine lv_if_lt (tgt := 15) hx hb dX10_lineNumbered_1 (by decide) (fun c1_1 => ?_) (fun c1_1 => ?_)
  · exact k_throwN C0 hxt hlt hH (is := 367) (text := "no such line") (by decide) hl.1 dX10_lineNumbered_15 dX10_lineNumbered_18 dX10_lineNumbered_19 dX10_lineNumbered_22 dX10_lineNumbered_25 (Nat.le_of_ble_eq_true rfl) (Nat.le_of_ble_eq_true rfl) (Nat.le_of_ble_eq_true rfl) (Nat.le_of_ble_eq_true rfl) ⟨xLn_s hw hno, rfl⟩ (Nat.le_of_ble_eq_true rfl) (Nat.le_of_ble_eq_true rfl)
  · refine lv_iload_n hx hb dX10_lineNumbered_4 rfl (lv_at hl 1 rfl) ?_
    refine lv_aload_n hx hb dX10_lineNumbered_5 rfl (lv_at hl 0 rfl) ?_
    refine c_getR C0 hH hR ci_14 (i := 0) (j := 1) rfl rfl (by decide) rfl fl_X10_16 (v := some (b 3 1)) rfl dX10_lineNumbered_6 ?_
    refine k_i hH (k_runV (rest := [.int (x)]) C0 hH (cL_size l G A _ b _ hR hw 1 (show 1 < 6 + npN _ by omega)) mv_Jx4a65c_size_8abf5 ml_X10_79 ci_3 (hR.kind (K := 3) (i := 1) (show 1 < 6 + npN _ by omega)) rfl ⟨Nat.le_of_ble_eq_true rfl, Nat.le_of_ble_eq_true rfl⟩ hl.1 rfl (Nat.le_of_ble_eq_true rfl) dX10_lineNumbered_9 ⟨Nat.le_of_ble_eq_true rfl, Nat.le_of_ble_eq_true rfl⟩) (fun r9 h1 H locs hp hH => ?_)
    obtain ⟨er9, eh⟩ := hp
    rw [eh] at hH
    clear eh
    rw [hw.sz1] at er9
    subst er9
    refine lv_icmp_lt (tgt := 26) hx hb dX10_lineNumbered_12 (by decide) (fun c12_2 => ?_) (fun c12_2 => ?_)
    · exact absurd (vp_of (by omega) c1_1 c12_2) hno
    · exact k_throwN C0 hxt hlt hH (is := 367) (text := "no such line") (by decide) hl.1 dX10_lineNumbered_15 dX10_lineNumbered_18 dX10_lineNumbered_19 dX10_lineNumbered_22 dX10_lineNumbered_25 (Nat.le_of_ble_eq_true rfl) (Nat.le_of_ble_eq_true rfl) (Nat.le_of_ble_eq_true rfl) (Nat.le_of_ble_eq_true rfl) ⟨xLn_s hw hno, rfl⟩ (Nat.le_of_ble_eq_true rfl) (Nat.le_of_ble_eq_true rfl)
theorem cC_X10_lineNumbered (l : Launch) (hlt : l.stackTraces = false) (G : GT) (A : Nat → Prop) (h : AH) (b : BA) (u : MM) (hR : RC G.2.2.1 h b u) (hw : WFc u) (x : Int32) : cxQ l G A yX10_lineNumbered cX10_lineNumbered 2 (Option.some (FieldType.object "Routepost$Line")) 6 90 1 6 [.ref (b 14 0), .int (x)] h (fun r h' => xLn u x = none ∧ r = dec b 8 x ∧ h' = h) (fun E h' => xLn u x = some E ∧ h' = h) := by
  by_cases hx : vp_in x (nlN u)
  · obtain ⟨v, hv, rfl⟩ := vp_ex hx (by have := hw.nl; omega)
    exact cC_X10_lineNumbered_in l hlt G A h b u hR hw v hv
  · exact cC_X10_lineNumbered_no l hlt G A h b u hR hw x hx
set_option maxHeartbeats 800000 in
set_option maxRecDepth 100000 in
theorem cC_X10_parcelNumbered_in (l : Launch) (hlt : l.stackTraces = false) (G : GT) (A : Nat → Prop) (h : AH) (b : BA) (u : MM) (hR : RC G.2.2.1 h b u) (hw : WFc u) (v : Nat) (hv0 : v < npN u) : cxQ l G A yX10_parcelNumbered cX10_parcelNumbered 2 (Option.some (FieldType.object "Routepost$Parcel")) 6 90 1 6 [.ref (b 14 0), .int (nI v)] h (fun r h' => xPa u (nI v) = none ∧ r = dec b 9 (nI v) ∧ h' = h) (fun E h' => xPa u (nI v) = some E ∧ h' = h) := by
  refine cx_of "Routepost" rfl (by decide) (Nat.le_of_ble_eq_true rfl) ?_
  intro pr e s m9 below meth c C0 hxt hr hH ls hl
  obtain ⟨hx, hb, hml, hown, hts, hK, hA, -⟩ := id C0
  have hl : lv_has ls 2 [(0, .ref (b 14 0)), (1, .int (nI v))] := hl
  have hc7 := hw.cnt6 7
  have hc8 := hw.cnt6 8
  have hc9 := hw.cnt6 9
  have hn40 := hw.np
  refine lv_iload_n hx hb dX10_parcelNumbered_0 rfl (lv_at hl 1 rfl) ?_
  refine lv_if_lt (tgt := 15) hx hb dX10_parcelNumbered_1 (by decide) (fun c1_1 => ?_) (fun c1_1 => ?_)
  · exact absurd c1_1 (nI_pos (by omega))
  · refine lv_iload_n hx hb dX10_parcelNumbered_4 rfl (lv_at hl 1 rfl) ?_
    refine lv_aload_n hx hb dX10_parcelNumbered_5 rfl (lv_at hl 0 rfl) ?_
    refine c_getR C0 hH hR ci_14 (i := 0) (j := 2) rfl rfl (by decide) rfl fl_X10_19 (v := some (b 3 2)) rfl dX10_parcelNumbered_6 ?_
    refine k_i hH (k_runV (rest := [.int (nI v)]) C0 hH (cL_size l G A _ b _ hR hw 2 (show 2 < 6 + npN _ by omega)) mv_Jx4a65c_size_8abf5 ml_X10_79 ci_3 (hR.kind (K := 3) (i := 2) (show 2 < 6 + npN _ by omega)) rfl ⟨Nat.le_of_ble_eq_true rfl, Nat.le_of_ble_eq_true rfl⟩ hl.1 rfl (Nat.le_of_ble_eq_true rfl) dX10_parcelNumbered_9 ⟨Nat.le_of_ble_eq_true rfl, Nat.le_of_ble_eq_true rfl⟩) (fun r9 h1 H locs hp hH => ?_)
    obtain ⟨er9, eh⟩ := hp
    rw [eh] at hH
    clear eh
    rw [hw.sz2] at er9
    subst er9
    refine lv_icmp_lt (tgt := 26) hx hb dX10_parcelNumbered_12 (by decide) (fun c12_2 => ?_) (fun c12_2 => ?_)
    · refine lv_aload_n hx hb dX10_parcelNumbered_26 rfl (lv_at hl 0 rfl) ?_
      refine c_getR C0 hH hR ci_14 (i := 0) (j := 2) rfl rfl (by decide) rfl fl_X10_19 (v := some (b 3 2)) rfl dX10_parcelNumbered_27 ?_
      refine lv_iload_n hx hb dX10_parcelNumbered_30 rfl (lv_at hl 1 rfl) ?_
      refine k_q hH (k_runV (rest := []) C0 hH (cL_get l G A _ b _ hR hw 2 v (show 2 < 6 + npN _ by omega) (by rw [hw.sz2]; exact hv0) (a := b 9 v) rfl) mv_Jx4a65c_get_915e3 ml_X10_143 ci_3 (hR.kind (K := 3) (i := 2) (show 2 < 6 + npN _ by omega)) rfl ⟨Nat.le_of_ble_eq_true rfl, Nat.le_of_ble_eq_true rfl⟩ hl.1 rfl (Nat.le_of_ble_eq_true rfl) dX10_parcelNumbered_31 ⟨Nat.le_of_ble_eq_true rfl, Nat.le_of_ble_eq_true rfl⟩) (fun r9 h1 H locs hp hH => ?_)
      obtain ⟨er9, eh⟩ := hp
      rw [eh] at hH
      clear eh
      subst er9
      refine k_chk C0 hH ci_9 (hR.kind (K := 9) (i := v) hv0) cl_X10_162 dX10_parcelNumbered_34 ?_
      refine vx_ret ?_
      have eR : (some (b 9 v) : Option Nat) = dec b 9 (nI v) := (dec_nI (by omega)).symm
      exact e_Q (v := some (b 9 v)) C0 hr (Or.inl ⟨_, rfl⟩) hH ⟨((xPa_n hw).mpr (vp_in_nI hv0 (by omega))), eR, rfl⟩ (Nat.le_of_ble_eq_true rfl) (Nat.le_of_ble_eq_true rfl) dX10_parcelNumbered_37
    · exact absurd (Int32.not_le.mp (nI_ge hv0 (by omega))) c12_2
set_option maxHeartbeats 800000 in
set_option maxRecDepth 100000 in
theorem cC_X10_parcelNumbered_no (l : Launch) (hlt : l.stackTraces = false) (G : GT) (A : Nat → Prop) (h : AH) (b : BA) (u : MM) (hR : RC G.2.2.1 h b u) (hw : WFc u) (x : Int32) (hno : ¬ vp_in x (npN u)) : cxQ l G A yX10_parcelNumbered cX10_parcelNumbered 2 (Option.some (FieldType.object "Routepost$Parcel")) 6 90 1 6 [.ref (b 14 0), .int (x)] h (fun r h' => xPa u x = none ∧ r = dec b 9 x ∧ h' = h) (fun E h' => xPa u x = some E ∧ h' = h) := by
  refine cx_of "Routepost" rfl (by decide) (Nat.le_of_ble_eq_true rfl) ?_
  intro pr e s m9 below meth c C0 hxt hr hH ls hl
  obtain ⟨hx, hb, hml, hown, hts, hK, hA, -⟩ := id C0
  have hl : lv_has ls 2 [(0, .ref (b 14 0)), (1, .int (x))] := hl
  have hc7 := hw.cnt6 7
  have hc8 := hw.cnt6 8
  have hc9 := hw.cnt6 9
  have hn40 := hw.np
  refine lv_iload_n hx hb dX10_parcelNumbered_0 rfl (lv_at hl 1 rfl) ?_
  refine lv_if_lt (tgt := 15) hx hb dX10_parcelNumbered_1 (by decide) (fun c1_1 => ?_) (fun c1_1 => ?_)
  · exact k_throwN C0 hxt hlt hH (is := 371) (text := "no such parcel") (by decide) hl.1 dX10_parcelNumbered_15 dX10_parcelNumbered_18 dX10_parcelNumbered_19 dX10_parcelNumbered_22 dX10_parcelNumbered_25 (Nat.le_of_ble_eq_true rfl) (Nat.le_of_ble_eq_true rfl) (Nat.le_of_ble_eq_true rfl) (Nat.le_of_ble_eq_true rfl) ⟨xPa_s hw hno, rfl⟩ (Nat.le_of_ble_eq_true rfl) (Nat.le_of_ble_eq_true rfl)
  · refine lv_iload_n hx hb dX10_parcelNumbered_4 rfl (lv_at hl 1 rfl) ?_
    refine lv_aload_n hx hb dX10_parcelNumbered_5 rfl (lv_at hl 0 rfl) ?_
    refine c_getR C0 hH hR ci_14 (i := 0) (j := 2) rfl rfl (by decide) rfl fl_X10_19 (v := some (b 3 2)) rfl dX10_parcelNumbered_6 ?_
    refine k_i hH (k_runV (rest := [.int (x)]) C0 hH (cL_size l G A _ b _ hR hw 2 (show 2 < 6 + npN _ by omega)) mv_Jx4a65c_size_8abf5 ml_X10_79 ci_3 (hR.kind (K := 3) (i := 2) (show 2 < 6 + npN _ by omega)) rfl ⟨Nat.le_of_ble_eq_true rfl, Nat.le_of_ble_eq_true rfl⟩ hl.1 rfl (Nat.le_of_ble_eq_true rfl) dX10_parcelNumbered_9 ⟨Nat.le_of_ble_eq_true rfl, Nat.le_of_ble_eq_true rfl⟩) (fun r9 h1 H locs hp hH => ?_)
    obtain ⟨er9, eh⟩ := hp
    rw [eh] at hH
    clear eh
    rw [hw.sz2] at er9
    subst er9
    refine lv_icmp_lt (tgt := 26) hx hb dX10_parcelNumbered_12 (by decide) (fun c12_2 => ?_) (fun c12_2 => ?_)
    · exact absurd (vp_of (by omega) c1_1 c12_2) hno
    · exact k_throwN C0 hxt hlt hH (is := 371) (text := "no such parcel") (by decide) hl.1 dX10_parcelNumbered_15 dX10_parcelNumbered_18 dX10_parcelNumbered_19 dX10_parcelNumbered_22 dX10_parcelNumbered_25 (Nat.le_of_ble_eq_true rfl) (Nat.le_of_ble_eq_true rfl) (Nat.le_of_ble_eq_true rfl) (Nat.le_of_ble_eq_true rfl) ⟨xPa_s hw hno, rfl⟩ (Nat.le_of_ble_eq_true rfl) (Nat.le_of_ble_eq_true rfl)
theorem cC_X10_parcelNumbered (l : Launch) (hlt : l.stackTraces = false) (G : GT) (A : Nat → Prop) (h : AH) (b : BA) (u : MM) (hR : RC G.2.2.1 h b u) (hw : WFc u) (x : Int32) : cxQ l G A yX10_parcelNumbered cX10_parcelNumbered 2 (Option.some (FieldType.object "Routepost$Parcel")) 6 90 1 6 [.ref (b 14 0), .int (x)] h (fun r h' => xPa u x = none ∧ r = dec b 9 x ∧ h' = h) (fun E h' => xPa u x = some E ∧ h' = h) := by
  by_cases hx : vp_in x (npN u)
  · obtain ⟨v, hv, rfl⟩ := vp_ex hx (by have := hw.np; omega)
    exact cC_X10_parcelNumbered_in l hlt G A h b u hR hw v hv
  · exact cC_X10_parcelNumbered_no l hlt G A h b u hR hw x hx
set_option maxHeartbeats 800000 in
set_option maxRecDepth 100000 in
theorem cC_X10_openLineNumbered (l : Launch) (hlt : l.stackTraces = false) (G : GT) (A : Nat → Prop) (h : AH) (b : BA) (u : MM) (hR : RC G.2.2.1 h b u) (hw : WFc u) (x : Int32) : cxQ l G A yX10_openLineNumbered cX10_openLineNumbered 3 (Option.some (FieldType.object "Routepost$Line")) 7 111 2 12 [.ref (b 14 0), .int (x)] h (fun r h' => xOpn u x = none ∧ r = dec b 8 x ∧ h' = h) (fun E h' => xOpn u x = some E ∧ h' = h) := by
  refine cx_of "Routepost" rfl (by decide) (Nat.le_of_ble_eq_true rfl) ?_
  intro pr e s m9 below meth c C0 hxt hr hH ls hl
  obtain ⟨hx, hb, hml, hown, hts, hK, hA, -⟩ := id C0
  have hl : lv_has ls 3 [(0, .ref (b 14 0)), (1, .int (x))] := hl
  have hc7 := hw.cnt6 7
  have hc8 := hw.cnt6 8
  have hc9 := hw.cnt6 9
  refine lv_aload_n hx hb dX10_openLineNumbered_0 rfl (lv_at hl 0 rfl) ?_
  refine lv_iload_n hx hb dX10_openLineNumbered_1 rfl (lv_at hl 1 rfl) ?_
  refine k_xq C0 hxt hH (k_xrunV (rest := []) C0 hH (cC_X10_lineNumbered l hlt G A _ b _ hR hw x ) mv_X10_lineNumbered ml_X10_299 ci_14 (hR.kind (K := 14) (i := 0) rfl) rfl ⟨Nat.le_of_ble_eq_true rfl, Nat.le_of_ble_eq_true rfl⟩ hl.1 rfl (Nat.le_of_ble_eq_true rfl) dX10_openLineNumbered_2 ⟨Nat.le_of_ble_eq_true rfl, Nat.le_of_ble_eq_true rfl⟩) (fun E h9 z => ⟨by unfold xOpn; exact xo_s z.1, z.2⟩) (Nat.le_of_ble_eq_true rfl) (Nat.le_of_ble_eq_true rfl) (fun r_1 h1 H locs hp hH => ?_)
  obtain ⟨exr_1, er_1, eh⟩ := hp
  rw [eh] at hH
  clear eh
  have vpv_2 : vp_in (x) (nlN u) := (xLn_n hw).mp exr_1
  obtain ⟨v_2, hv_2, ev_2⟩ := vp_ex vpv_2 (by have := hw.nh; have := hw.nl; have := hw.np; omega)
  have kv_2 : (x).toNatClampNeg = v_2 := by rw [ev_2]; exact nI_clamp (by have := hw.nh; have := hw.nl; have := hw.np; omega)
  rw [show dec b 8 (x) = some (b 8 v_2) from by rw [ev_2]; exact dec_nI (by have := hw.nh; have := hw.nl; have := hw.np; omega)] at er_1
  subst er_1
  refine lv_astore_n (lv' := [(2, .ref (b 8 v_2)), (0, .ref (b 14 0)), (1, .int (x))]) hx hb dX10_openLineNumbered_5 rfl hl (by decide) rfl (fun ls hl => ?_)
  refine lv_aload_n hx hb dX10_openLineNumbered_6 rfl (lv_at hl 0 rfl) ?_
  refine c_getI C0 hH hR ci_8 (i := v_2) (j := 8) hv_2 rfl (by decide) rfl fl_X10_127 (v := u 108 v_2) rfl dX10_openLineNumbered_7 ?_
  refine lv_if_ne (tgt := 24) hx hb dX10_openLineNumbered_10 (by decide) (fun c10_3 => ?_) (fun c10_3 => ?_)
  · refine lv_aload_n hx hb dX10_openLineNumbered_24 rfl (lv_at hl 0 rfl) ?_
    refine vx_ret ?_
    have eR : (some (b 8 v_2) : Option Nat) = dec b 8 x := (by rw [ev_2]; exact (dec_nI (by have := hw.nl; have := hw.np; omega)).symm)
    exact e_Q (v := some (b 8 v_2)) C0 hr (Or.inl ⟨_, rfl⟩) hH ⟨(by unfold xOpn; rw [xo_n exr_1]; simp [kv_2, eq_false c10_3]), eR, rfl⟩ (Nat.le_of_ble_eq_true rfl) (Nat.le_of_ble_eq_true rfl) dX10_openLineNumbered_25
  · exact k_throwSW C0 hxt hlt hH thr_ISE (is := 369) (text := "it is closed") (by decide) hl.1 dX10_openLineNumbered_13 dX10_openLineNumbered_16 dX10_openLineNumbered_17 dX10_openLineNumbered_20 dX10_openLineNumbered_23 (Nat.le_of_ble_eq_true rfl) (Nat.le_of_ble_eq_true rfl) (Nat.le_of_ble_eq_true rfl) (Nat.le_of_ble_eq_true rfl) ⟨by unfold xOpn; rw [xo_n exr_1]; simp [kv_2, eq_true c10_3]; rfl, rfl⟩ (Nat.le_of_ble_eq_true rfl) (Nat.le_of_ble_eq_true rfl)
set_option maxHeartbeats 800000 in
set_option maxRecDepth 100000 in
theorem cC_X10_scannedParcel (l : Launch) (hlt : l.stackTraces = false) (G : GT) (A : Nat → Prop) (h : AH) (b : BA) (u : MM) (hR : RC G.2.2.1 h b u) (hw : WFc u) (x : Int32) : cxQ l G A yX10_scannedParcel cX10_scannedParcel 3 (Option.some (FieldType.object "Routepost$Parcel")) 7 111 2 12 [.ref (b 14 0), .int (x)] h (fun r h' => xSc u x = none ∧ r = dec b 9 x ∧ h' = h) (fun E h' => xSc u x = some E ∧ h' = h) := by
  refine cx_of "Routepost" rfl (by decide) (Nat.le_of_ble_eq_true rfl) ?_
  intro pr e s m9 below meth c C0 hxt hr hH ls hl
  obtain ⟨hx, hb, hml, hown, hts, hK, hA, -⟩ := id C0
  have hl : lv_has ls 3 [(0, .ref (b 14 0)), (1, .int (x))] := hl
  have hc7 := hw.cnt6 7
  have hc8 := hw.cnt6 8
  have hc9 := hw.cnt6 9
  refine lv_aload_n hx hb dX10_scannedParcel_0 rfl (lv_at hl 0 rfl) ?_
  refine lv_iload_n hx hb dX10_scannedParcel_1 rfl (lv_at hl 1 rfl) ?_
  refine k_xq C0 hxt hH (k_xrunV (rest := []) C0 hH (cC_X10_parcelNumbered l hlt G A _ b _ hR hw x ) mv_X10_parcelNumbered ml_X10_186 ci_14 (hR.kind (K := 14) (i := 0) rfl) rfl ⟨Nat.le_of_ble_eq_true rfl, Nat.le_of_ble_eq_true rfl⟩ hl.1 rfl (Nat.le_of_ble_eq_true rfl) dX10_scannedParcel_2 ⟨Nat.le_of_ble_eq_true rfl, Nat.le_of_ble_eq_true rfl⟩) (fun E h9 z => ⟨by unfold xSc; exact xo_s z.1, z.2⟩) (Nat.le_of_ble_eq_true rfl) (Nat.le_of_ble_eq_true rfl) (fun r_1 h1 H locs hp hH => ?_)
  obtain ⟨exr_1, er_1, eh⟩ := hp
  rw [eh] at hH
  clear eh
  have vpv_2 : vp_in (x) (npN u) := (xPa_n hw).mp exr_1
  obtain ⟨v_2, hv_2, ev_2⟩ := vp_ex vpv_2 (by have := hw.nh; have := hw.nl; have := hw.np; omega)
  have kv_2 : (x).toNatClampNeg = v_2 := by rw [ev_2]; exact nI_clamp (by have := hw.nh; have := hw.nl; have := hw.np; omega)
  rw [show dec b 9 (x) = some (b 9 v_2) from by rw [ev_2]; exact dec_nI (by have := hw.nh; have := hw.nl; have := hw.np; omega)] at er_1
  subst er_1
  refine lv_astore_n (lv' := [(2, .ref (b 9 v_2)), (0, .ref (b 14 0)), (1, .int (x))]) hx hb dX10_scannedParcel_5 rfl hl (by decide) rfl (fun ls hl => ?_)
  refine lv_aload_n hx hb dX10_scannedParcel_6 rfl (lv_at hl 0 rfl) ?_
  refine c_getI C0 hH hR ci_9 (i := v_2) (j := 8) hv_2 rfl (by decide) rfl fl_X10_190 (v := u 28 v_2) rfl dX10_scannedParcel_7 ?_
  refine lv_bipush (v := 115) hx hb dX10_scannedParcel_10 (by decide) ?_
  refine lv_icmp_eq (tgt := 26) hx hb dX10_scannedParcel_12 (by decide) (fun c12_3 => ?_) (fun c12_3 => ?_)
  · refine lv_aload_n hx hb dX10_scannedParcel_26 rfl (lv_at hl 0 rfl) ?_
    refine vx_ret ?_
    have eR : (some (b 9 v_2) : Option Nat) = dec b 9 x := (by rw [ev_2]; exact (dec_nI (by have := hw.nl; have := hw.np; omega)).symm)
    exact e_Q (v := some (b 9 v_2)) C0 hr (Or.inl ⟨_, rfl⟩) hH ⟨(by unfold xSc; rw [xo_n exr_1]; simp [kv_2, eq_true c12_3]), eR, rfl⟩ (Nat.le_of_ble_eq_true rfl) (Nat.le_of_ble_eq_true rfl) dX10_scannedParcel_27
  · exact k_throwSW C0 hxt hlt hH thr_ISE (is := 373) (text := "it is not scanned at a hub") (by decide) hl.1 dX10_scannedParcel_15 dX10_scannedParcel_18 dX10_scannedParcel_19 dX10_scannedParcel_22 dX10_scannedParcel_25 (Nat.le_of_ble_eq_true rfl) (Nat.le_of_ble_eq_true rfl) (Nat.le_of_ble_eq_true rfl) (Nat.le_of_ble_eq_true rfl) ⟨by unfold xSc; rw [xo_n exr_1]; simp [kv_2, eq_false c12_3]; rfl, rfl⟩ (Nat.le_of_ble_eq_true rfl) (Nat.le_of_ble_eq_true rfl)
set_option maxHeartbeats 800000 in
set_option maxRecDepth 100000 in
theorem cC_X10_state (l : Launch) (hlt : l.stackTraces = false) (G : GT) (A : Nat → Prop) (h : AH) (b : BA) (u : MM) (hR : RC G.2.2.1 h b u) (hw : WFc u) (x : Int32) (hns : narrow .char (.int (u 28 x.toNatClampNeg)) = .int (u 28 x.toNatClampNeg)) : cxI l G A yX10_state cX10_state 2 (Option.some FieldType.char) 7 111 1 6 [.ref (b 14 0), .int (x)] h (fun r h' => xPa u x = none ∧ r = u 28 x.toNatClampNeg ∧ h' = h) (fun E h' => xPa u x = some E ∧ h' = h) := by
  refine cx_of "Routepost" rfl (by decide) (Nat.le_of_ble_eq_true rfl) ?_
  intro pr e s m9 below meth c C0 hxt hr hH ls hl
  obtain ⟨hx, hb, hml, hown, hts, hK, hA, -⟩ := id C0
  have hl : lv_has ls 2 [(0, .ref (b 14 0)), (1, .int (x))] := hl
  have hc7 := hw.cnt6 7
  have hc8 := hw.cnt6 8
  have hc9 := hw.cnt6 9
  refine lv_aload_n hx hb dX10_state_0 rfl (lv_at hl 0 rfl) ?_
  refine lv_iload_n hx hb dX10_state_1 rfl (lv_at hl 1 rfl) ?_
  refine k_xq C0 hxt hH (k_xrunV (rest := []) C0 hH (cC_X10_parcelNumbered l hlt G A _ b _ hR hw x ) mv_X10_parcelNumbered ml_X10_186 ci_14 (hR.kind (K := 14) (i := 0) rfl) rfl ⟨Nat.le_of_ble_eq_true rfl, Nat.le_of_ble_eq_true rfl⟩ hl.1 rfl (Nat.le_of_ble_eq_true rfl) dX10_state_2 ⟨Nat.le_of_ble_eq_true rfl, Nat.le_of_ble_eq_true rfl⟩) (fun _ _ z => z) (Nat.le_of_ble_eq_true rfl) (Nat.le_of_ble_eq_true rfl) (fun r_1 h1 H locs hp hH => ?_)
  obtain ⟨exr_1, er_1, eh⟩ := hp
  rw [eh] at hH
  clear eh
  have vpv_2 : vp_in (x) (npN u) := (xPa_n hw).mp exr_1
  obtain ⟨v_2, hv_2, ev_2⟩ := vp_ex vpv_2 (by have := hw.nh; have := hw.nl; have := hw.np; omega)
  have kv_2 : (x).toNatClampNeg = v_2 := by rw [ev_2]; exact nI_clamp (by have := hw.nh; have := hw.nl; have := hw.np; omega)
  rw [show dec b 9 (x) = some (b 9 v_2) from by rw [ev_2]; exact dec_nI (by have := hw.nh; have := hw.nl; have := hw.np; omega)] at er_1
  subst er_1
  refine c_getI C0 hH hR ci_9 (i := v_2) (j := 8) hv_2 rfl (by decide) rfl fl_X10_190 (v := u 28 v_2) rfl dX10_state_5 ?_
  refine vx_ret ?_
  have eR : (u 28 v_2 : Int32) = u 28 x.toNatClampNeg := by rw [kv_2]
  exact e_Z C0 hr (by rw [← kv_2]; exact hns) hH ⟨exr_1, eR, rfl⟩ (Nat.le_of_ble_eq_true rfl) (Nat.le_of_ble_eq_true rfl) dX10_state_8
set_option maxHeartbeats 800000 in
set_option maxRecDepth 100000 in
theorem cC_X10_isReturn (l : Launch) (hlt : l.stackTraces = false) (G : GT) (A : Nat → Prop) (h : AH) (b : BA) (u : MM) (hR : RC G.2.2.1 h b u) (hw : WFc u) (x : Int32) (hns : narrow .boolean (.int (u 29 x.toNatClampNeg)) = .int (u 29 x.toNatClampNeg)) : cxI l G A yX10_isReturn cX10_isReturn 2 (Option.some FieldType.boolean) 7 111 1 6 [.ref (b 14 0), .int (x)] h (fun r h' => xPa u x = none ∧ r = u 29 x.toNatClampNeg ∧ h' = h) (fun E h' => xPa u x = some E ∧ h' = h) := by
  refine cx_of "Routepost" rfl (by decide) (Nat.le_of_ble_eq_true rfl) ?_
  intro pr e s m9 below meth c C0 hxt hr hH ls hl
  obtain ⟨hx, hb, hml, hown, hts, hK, hA, -⟩ := id C0
  have hl : lv_has ls 2 [(0, .ref (b 14 0)), (1, .int (x))] := hl
  have hc7 := hw.cnt6 7
  have hc8 := hw.cnt6 8
  have hc9 := hw.cnt6 9
  refine lv_aload_n hx hb dX10_isReturn_0 rfl (lv_at hl 0 rfl) ?_
  refine lv_iload_n hx hb dX10_isReturn_1 rfl (lv_at hl 1 rfl) ?_
  refine k_xq C0 hxt hH (k_xrunV (rest := []) C0 hH (cC_X10_parcelNumbered l hlt G A _ b _ hR hw x ) mv_X10_parcelNumbered ml_X10_186 ci_14 (hR.kind (K := 14) (i := 0) rfl) rfl ⟨Nat.le_of_ble_eq_true rfl, Nat.le_of_ble_eq_true rfl⟩ hl.1 rfl (Nat.le_of_ble_eq_true rfl) dX10_isReturn_2 ⟨Nat.le_of_ble_eq_true rfl, Nat.le_of_ble_eq_true rfl⟩) (fun _ _ z => z) (Nat.le_of_ble_eq_true rfl) (Nat.le_of_ble_eq_true rfl) (fun r_1 h1 H locs hp hH => ?_)
  obtain ⟨exr_1, er_1, eh⟩ := hp
  rw [eh] at hH
  clear eh
  have vpv_2 : vp_in (x) (npN u) := (xPa_n hw).mp exr_1
  obtain ⟨v_2, hv_2, ev_2⟩ := vp_ex vpv_2 (by have := hw.nh; have := hw.nl; have := hw.np; omega)
  have kv_2 : (x).toNatClampNeg = v_2 := by rw [ev_2]; exact nI_clamp (by have := hw.nh; have := hw.nl; have := hw.np; omega)
  rw [show dec b 9 (x) = some (b 9 v_2) from by rw [ev_2]; exact dec_nI (by have := hw.nh; have := hw.nl; have := hw.np; omega)] at er_1
  subst er_1
  refine c_getI C0 hH hR ci_9 (i := v_2) (j := 19) hv_2 rfl (by decide) rfl fl_X10_222 (v := u 29 v_2) rfl dX10_isReturn_5 ?_
  refine vx_ret ?_
  have eR : (u 29 v_2 : Int32) = u 29 x.toNatClampNeg := by rw [kv_2]
  exact e_Z C0 hr (by rw [← kv_2]; exact hns) hH ⟨exr_1, eR, rfl⟩ (Nat.le_of_ble_eq_true rfl) (Nat.le_of_ble_eq_true rfl) dX10_isReturn_8
set_option maxHeartbeats 800000 in
set_option maxRecDepth 100000 in
theorem cC_X10_promise (l : Launch) (hlt : l.stackTraces = false) (G : GT) (A : Nat → Prop) (h : AH) (b : BA) (u : MM) (hR : RC G.2.2.1 h b u) (hw : WFc u) (x : Int32) : cxI l G A yX10_promise cX10_promise 2 (Option.some FieldType.int) 7 111 1 6 [.ref (b 14 0), .int (x)] h (fun r h' => xPa u x = none ∧ r = u 20 x.toNatClampNeg ∧ h' = h) (fun E h' => xPa u x = some E ∧ h' = h) := by
  refine cx_of "Routepost" rfl (by decide) (Nat.le_of_ble_eq_true rfl) ?_
  intro pr e s m9 below meth c C0 hxt hr hH ls hl
  obtain ⟨hx, hb, hml, hown, hts, hK, hA, -⟩ := id C0
  have hl : lv_has ls 2 [(0, .ref (b 14 0)), (1, .int (x))] := hl
  have hc7 := hw.cnt6 7
  have hc8 := hw.cnt6 8
  have hc9 := hw.cnt6 9
  refine lv_aload_n hx hb dX10_promise_0 rfl (lv_at hl 0 rfl) ?_
  refine lv_iload_n hx hb dX10_promise_1 rfl (lv_at hl 1 rfl) ?_
  refine k_xq C0 hxt hH (k_xrunV (rest := []) C0 hH (cC_X10_parcelNumbered l hlt G A _ b _ hR hw x ) mv_X10_parcelNumbered ml_X10_186 ci_14 (hR.kind (K := 14) (i := 0) rfl) rfl ⟨Nat.le_of_ble_eq_true rfl, Nat.le_of_ble_eq_true rfl⟩ hl.1 rfl (Nat.le_of_ble_eq_true rfl) dX10_promise_2 ⟨Nat.le_of_ble_eq_true rfl, Nat.le_of_ble_eq_true rfl⟩) (fun _ _ z => z) (Nat.le_of_ble_eq_true rfl) (Nat.le_of_ble_eq_true rfl) (fun r_1 h1 H locs hp hH => ?_)
  obtain ⟨exr_1, er_1, eh⟩ := hp
  rw [eh] at hH
  clear eh
  have vpv_2 : vp_in (x) (npN u) := (xPa_n hw).mp exr_1
  obtain ⟨v_2, hv_2, ev_2⟩ := vp_ex vpv_2 (by have := hw.nh; have := hw.nl; have := hw.np; omega)
  have kv_2 : (x).toNatClampNeg = v_2 := by rw [ev_2]; exact nI_clamp (by have := hw.nh; have := hw.nl; have := hw.np; omega)
  rw [show dec b 9 (x) = some (b 9 v_2) from by rw [ev_2]; exact dec_nI (by have := hw.nh; have := hw.nl; have := hw.np; omega)] at er_1
  subst er_1
  refine c_getI C0 hH hR ci_9 (i := v_2) (j := 15) hv_2 rfl (by decide) rfl fl_X10_230 (v := u 20 v_2) rfl dX10_promise_5 ?_
  refine vx_ret ?_
  have eR : (u 20 v_2 : Int32) = u 20 x.toNatClampNeg := by rw [kv_2]
  exact e_I C0 hr hH ⟨exr_1, eR, rfl⟩ (Nat.le_of_ble_eq_true rfl) (Nat.le_of_ble_eq_true rfl) dX10_promise_8
set_option maxHeartbeats 800000 in
set_option maxRecDepth 100000 in
theorem cC_X10_misroutes (l : Launch) (hlt : l.stackTraces = false) (G : GT) (A : Nat → Prop) (h : AH) (b : BA) (u : MM) (hR : RC G.2.2.1 h b u) (hw : WFc u) (x : Int32) : cxI l G A yX10_misroutes cX10_misroutes 2 (Option.some FieldType.int) 7 111 1 6 [.ref (b 14 0), .int (x)] h (fun r h' => xPa u x = none ∧ r = u 22 x.toNatClampNeg ∧ h' = h) (fun E h' => xPa u x = some E ∧ h' = h) := by
  refine cx_of "Routepost" rfl (by decide) (Nat.le_of_ble_eq_true rfl) ?_
  intro pr e s m9 below meth c C0 hxt hr hH ls hl
  obtain ⟨hx, hb, hml, hown, hts, hK, hA, -⟩ := id C0
  have hl : lv_has ls 2 [(0, .ref (b 14 0)), (1, .int (x))] := hl
  have hc7 := hw.cnt6 7
  have hc8 := hw.cnt6 8
  have hc9 := hw.cnt6 9
  refine lv_aload_n hx hb dX10_misroutes_0 rfl (lv_at hl 0 rfl) ?_
  refine lv_iload_n hx hb dX10_misroutes_1 rfl (lv_at hl 1 rfl) ?_
  refine k_xq C0 hxt hH (k_xrunV (rest := []) C0 hH (cC_X10_parcelNumbered l hlt G A _ b _ hR hw x ) mv_X10_parcelNumbered ml_X10_186 ci_14 (hR.kind (K := 14) (i := 0) rfl) rfl ⟨Nat.le_of_ble_eq_true rfl, Nat.le_of_ble_eq_true rfl⟩ hl.1 rfl (Nat.le_of_ble_eq_true rfl) dX10_misroutes_2 ⟨Nat.le_of_ble_eq_true rfl, Nat.le_of_ble_eq_true rfl⟩) (fun _ _ z => z) (Nat.le_of_ble_eq_true rfl) (Nat.le_of_ble_eq_true rfl) (fun r_1 h1 H locs hp hH => ?_)
  obtain ⟨exr_1, er_1, eh⟩ := hp
  rw [eh] at hH
  clear eh
  have vpv_2 : vp_in (x) (npN u) := (xPa_n hw).mp exr_1
  obtain ⟨v_2, hv_2, ev_2⟩ := vp_ex vpv_2 (by have := hw.nh; have := hw.nl; have := hw.np; omega)
  have kv_2 : (x).toNatClampNeg = v_2 := by rw [ev_2]; exact nI_clamp (by have := hw.nh; have := hw.nl; have := hw.np; omega)
  rw [show dec b 9 (x) = some (b 9 v_2) from by rw [ev_2]; exact dec_nI (by have := hw.nh; have := hw.nl; have := hw.np; omega)] at er_1
  subst er_1
  refine c_getI C0 hH hR ci_9 (i := v_2) (j := 16) hv_2 rfl (by decide) rfl fl_X10_252 (v := u 22 v_2) rfl dX10_misroutes_5 ?_
  refine vx_ret ?_
  have eR : (u 22 v_2 : Int32) = u 22 x.toNatClampNeg := by rw [kv_2]
  exact e_I C0 hr hH ⟨exr_1, eR, rfl⟩ (Nat.le_of_ble_eq_true rfl) (Nat.le_of_ble_eq_true rfl) dX10_misroutes_8
set_option maxHeartbeats 800000 in
set_option maxRecDepth 100000 in
theorem cC_X10_attempts (l : Launch) (hlt : l.stackTraces = false) (G : GT) (A : Nat → Prop) (h : AH) (b : BA) (u : MM) (hR : RC G.2.2.1 h b u) (hw : WFc u) (x : Int32) : cxI l G A yX10_attempts cX10_attempts 2 (Option.some FieldType.int) 7 111 1 6 [.ref (b 14 0), .int (x)] h (fun r h' => xPa u x = none ∧ r = u 23 x.toNatClampNeg ∧ h' = h) (fun E h' => xPa u x = some E ∧ h' = h) := by
  refine cx_of "Routepost" rfl (by decide) (Nat.le_of_ble_eq_true rfl) ?_
  intro pr e s m9 below meth c C0 hxt hr hH ls hl
  obtain ⟨hx, hb, hml, hown, hts, hK, hA, -⟩ := id C0
  have hl : lv_has ls 2 [(0, .ref (b 14 0)), (1, .int (x))] := hl
  have hc7 := hw.cnt6 7
  have hc8 := hw.cnt6 8
  have hc9 := hw.cnt6 9
  refine lv_aload_n hx hb dX10_attempts_0 rfl (lv_at hl 0 rfl) ?_
  refine lv_iload_n hx hb dX10_attempts_1 rfl (lv_at hl 1 rfl) ?_
  refine k_xq C0 hxt hH (k_xrunV (rest := []) C0 hH (cC_X10_parcelNumbered l hlt G A _ b _ hR hw x ) mv_X10_parcelNumbered ml_X10_186 ci_14 (hR.kind (K := 14) (i := 0) rfl) rfl ⟨Nat.le_of_ble_eq_true rfl, Nat.le_of_ble_eq_true rfl⟩ hl.1 rfl (Nat.le_of_ble_eq_true rfl) dX10_attempts_2 ⟨Nat.le_of_ble_eq_true rfl, Nat.le_of_ble_eq_true rfl⟩) (fun _ _ z => z) (Nat.le_of_ble_eq_true rfl) (Nat.le_of_ble_eq_true rfl) (fun r_1 h1 H locs hp hH => ?_)
  obtain ⟨exr_1, er_1, eh⟩ := hp
  rw [eh] at hH
  clear eh
  have vpv_2 : vp_in (x) (npN u) := (xPa_n hw).mp exr_1
  obtain ⟨v_2, hv_2, ev_2⟩ := vp_ex vpv_2 (by have := hw.nh; have := hw.nl; have := hw.np; omega)
  have kv_2 : (x).toNatClampNeg = v_2 := by rw [ev_2]; exact nI_clamp (by have := hw.nh; have := hw.nl; have := hw.np; omega)
  rw [show dec b 9 (x) = some (b 9 v_2) from by rw [ev_2]; exact dec_nI (by have := hw.nh; have := hw.nl; have := hw.np; omega)] at er_1
  subst er_1
  refine c_getI C0 hH hR ci_9 (i := v_2) (j := 17) hv_2 rfl (by decide) rfl fl_X10_255 (v := u 23 v_2) rfl dX10_attempts_5 ?_
  refine vx_ret ?_
  have eR : (u 23 v_2 : Int32) = u 23 x.toNatClampNeg := by rw [kv_2]
  exact e_I C0 hr hH ⟨exr_1, eR, rfl⟩ (Nat.le_of_ble_eq_true rfl) (Nat.le_of_ble_eq_true rfl) dX10_attempts_8
set_option maxHeartbeats 800000 in
set_option maxRecDepth 100000 in
theorem cC_X10_missed (l : Launch) (hlt : l.stackTraces = false) (G : GT) (A : Nat → Prop) (h : AH) (b : BA) (u : MM) (hR : RC G.2.2.1 h b u) (hw : WFc u) (x : Int32) : cxI l G A yX10_missed cX10_missed 2 (Option.some FieldType.int) 7 111 1 6 [.ref (b 14 0), .int (x)] h (fun r h' => xPa u x = none ∧ r = u 24 x.toNatClampNeg ∧ h' = h) (fun E h' => xPa u x = some E ∧ h' = h) := by
  refine cx_of "Routepost" rfl (by decide) (Nat.le_of_ble_eq_true rfl) ?_
  intro pr e s m9 below meth c C0 hxt hr hH ls hl
  obtain ⟨hx, hb, hml, hown, hts, hK, hA, -⟩ := id C0
  have hl : lv_has ls 2 [(0, .ref (b 14 0)), (1, .int (x))] := hl
  have hc7 := hw.cnt6 7
  have hc8 := hw.cnt6 8
  have hc9 := hw.cnt6 9
  refine lv_aload_n hx hb dX10_missed_0 rfl (lv_at hl 0 rfl) ?_
  refine lv_iload_n hx hb dX10_missed_1 rfl (lv_at hl 1 rfl) ?_
  refine k_xq C0 hxt hH (k_xrunV (rest := []) C0 hH (cC_X10_parcelNumbered l hlt G A _ b _ hR hw x ) mv_X10_parcelNumbered ml_X10_186 ci_14 (hR.kind (K := 14) (i := 0) rfl) rfl ⟨Nat.le_of_ble_eq_true rfl, Nat.le_of_ble_eq_true rfl⟩ hl.1 rfl (Nat.le_of_ble_eq_true rfl) dX10_missed_2 ⟨Nat.le_of_ble_eq_true rfl, Nat.le_of_ble_eq_true rfl⟩) (fun _ _ z => z) (Nat.le_of_ble_eq_true rfl) (Nat.le_of_ble_eq_true rfl) (fun r_1 h1 H locs hp hH => ?_)
  obtain ⟨exr_1, er_1, eh⟩ := hp
  rw [eh] at hH
  clear eh
  have vpv_2 : vp_in (x) (npN u) := (xPa_n hw).mp exr_1
  obtain ⟨v_2, hv_2, ev_2⟩ := vp_ex vpv_2 (by have := hw.nh; have := hw.nl; have := hw.np; omega)
  have kv_2 : (x).toNatClampNeg = v_2 := by rw [ev_2]; exact nI_clamp (by have := hw.nh; have := hw.nl; have := hw.np; omega)
  rw [show dec b 9 (x) = some (b 9 v_2) from by rw [ev_2]; exact dec_nI (by have := hw.nh; have := hw.nl; have := hw.np; omega)] at er_1
  subst er_1
  refine c_getI C0 hH hR ci_9 (i := v_2) (j := 18) hv_2 rfl (by decide) rfl fl_X10_258 (v := u 24 v_2) rfl dX10_missed_5 ?_
  refine vx_ret ?_
  have eR : (u 24 v_2 : Int32) = u 24 x.toNatClampNeg := by rw [kv_2]
  exact e_I C0 hr hH ⟨exr_1, eR, rfl⟩ (Nat.le_of_ble_eq_true rfl) (Nat.le_of_ble_eq_true rfl) dX10_missed_8
set_option maxHeartbeats 800000 in
set_option maxRecDepth 100000 in
theorem cC_X10_destination (l : Launch) (hlt : l.stackTraces = false) (G : GT) (A : Nat → Prop) (h : AH) (b : BA) (u : MM) (hR : RC G.2.2.1 h b u) (hw : WFc u) (x : Int32) : cxI l G A yX10_destination cX10_destination 2 (Option.some FieldType.int) 7 111 1 6 [.ref (b 14 0), .int (x)] h (fun r h' => xPa u x = none ∧ r = u 14 x.toNatClampNeg ∧ h' = h) (fun E h' => xPa u x = some E ∧ h' = h) := by
  refine cx_of "Routepost" rfl (by decide) (Nat.le_of_ble_eq_true rfl) ?_
  intro pr e s m9 below meth c C0 hxt hr hH ls hl
  obtain ⟨hx, hb, hml, hown, hts, hK, hA, -⟩ := id C0
  have hl : lv_has ls 2 [(0, .ref (b 14 0)), (1, .int (x))] := hl
  have hc7 := hw.cnt6 7
  have hc8 := hw.cnt6 8
  have hc9 := hw.cnt6 9
  refine lv_aload_n hx hb dX10_destination_0 rfl (lv_at hl 0 rfl) ?_
  refine lv_iload_n hx hb dX10_destination_1 rfl (lv_at hl 1 rfl) ?_
  refine k_xq C0 hxt hH (k_xrunV (rest := []) C0 hH (cC_X10_parcelNumbered l hlt G A _ b _ hR hw x ) mv_X10_parcelNumbered ml_X10_186 ci_14 (hR.kind (K := 14) (i := 0) rfl) rfl ⟨Nat.le_of_ble_eq_true rfl, Nat.le_of_ble_eq_true rfl⟩ hl.1 rfl (Nat.le_of_ble_eq_true rfl) dX10_destination_2 ⟨Nat.le_of_ble_eq_true rfl, Nat.le_of_ble_eq_true rfl⟩) (fun _ _ z => z) (Nat.le_of_ble_eq_true rfl) (Nat.le_of_ble_eq_true rfl) (fun r_1 h1 H locs hp hH => ?_)
  obtain ⟨exr_1, er_1, eh⟩ := hp
  rw [eh] at hH
  clear eh
  have vpv_2 : vp_in (x) (npN u) := (xPa_n hw).mp exr_1
  obtain ⟨v_2, hv_2, ev_2⟩ := vp_ex vpv_2 (by have := hw.nh; have := hw.nl; have := hw.np; omega)
  have kv_2 : (x).toNatClampNeg = v_2 := by rw [ev_2]; exact nI_clamp (by have := hw.nh; have := hw.nl; have := hw.np; omega)
  rw [show dec b 9 (x) = some (b 9 v_2) from by rw [ev_2]; exact dec_nI (by have := hw.nh; have := hw.nl; have := hw.np; omega)] at er_1
  subst er_1
  obtain ⟨v_3, hv_3, ev_3⟩ := hw.exH (show vp_in (u 14 v_2) _ from (hw.pa hv_2).2.1)
  have kv_3 : (u 14 v_2).toNatClampNeg = v_3 := by rw [ev_3]; exact nI_clamp (by have := hw.nh; have := hw.np; omega)
  refine c_getR C0 hH hR ci_9 (i := v_2) (j := 6) hv_2 rfl (by decide) rfl fl_X10_207 (v := some (b 7 v_3)) (show dec b 7 (u 14 v_2) = some (b 7 v_3) from by rw [show u 14 v_2 = nI v_3 from Eq.trans rfl ev_3]; exact dec_nI (by have := hc7; have := (show v_3 < cnt u 7 from hv_3); omega)) dX10_destination_5 ?_
  refine c_getI C0 hH hR ci_7 (i := v_3) (j := 0) hv_3 rfl (by decide) rfl fl_X10_97 (v := u 14 v_2) ev_3.symm dX10_destination_8 ?_
  refine vx_ret ?_
  have eR : (u 14 v_2 : Int32) = u 14 x.toNatClampNeg := by rw [kv_2]
  exact e_I C0 hr hH ⟨exr_1, eR, rfl⟩ (Nat.le_of_ble_eq_true rfl) (Nat.le_of_ble_eq_true rfl) dX10_destination_11
set_option maxHeartbeats 800000 in
set_option maxRecDepth 100000 in
theorem cC_X10_isLate (l : Launch) (hlt : l.stackTraces = false) (G : GT) (A : Nat → Prop) (h : AH) (b : BA) (u : MM) (hR : RC G.2.2.1 h b u) (hw : WFc u) (x : Int32) : cxI l G A yX10_isLate cX10_isLate 2 (Option.some FieldType.boolean) 7 111 1 6 [.ref (b 14 0), .int (x)] h (fun r h' => xPa u x = none ∧ r = cMiss u x.toNatClampNeg (u 41 0) ∧ h' = h) (fun E h' => xPa u x = some E ∧ h' = h) := by
  refine cx_of "Routepost" rfl (by decide) (Nat.le_of_ble_eq_true rfl) ?_
  intro pr e s m9 below meth c C0 hxt hr hH ls hl
  obtain ⟨hx, hb, hml, hown, hts, hK, hA, -⟩ := id C0
  have hl : lv_has ls 2 [(0, .ref (b 14 0)), (1, .int (x))] := hl
  have hc7 := hw.cnt6 7
  have hc8 := hw.cnt6 8
  have hc9 := hw.cnt6 9
  refine lv_aload_n hx hb dX10_isLate_0 rfl (lv_at hl 0 rfl) ?_
  refine lv_iload_n hx hb dX10_isLate_1 rfl (lv_at hl 1 rfl) ?_
  refine k_xq C0 hxt hH (k_xrunV (rest := []) C0 hH (cC_X10_parcelNumbered l hlt G A _ b _ hR hw x ) mv_X10_parcelNumbered ml_X10_186 ci_14 (hR.kind (K := 14) (i := 0) rfl) rfl ⟨Nat.le_of_ble_eq_true rfl, Nat.le_of_ble_eq_true rfl⟩ hl.1 rfl (Nat.le_of_ble_eq_true rfl) dX10_isLate_2 ⟨Nat.le_of_ble_eq_true rfl, Nat.le_of_ble_eq_true rfl⟩) (fun _ _ z => z) (Nat.le_of_ble_eq_true rfl) (Nat.le_of_ble_eq_true rfl) (fun r_1 h1 H locs hp hH => ?_)
  obtain ⟨exr_1, er_1, eh⟩ := hp
  rw [eh] at hH
  clear eh
  have vpv_2 : vp_in (x) (npN u) := (xPa_n hw).mp exr_1
  obtain ⟨v_2, hv_2, ev_2⟩ := vp_ex vpv_2 (by have := hw.nh; have := hw.nl; have := hw.np; omega)
  have kv_2 : (x).toNatClampNeg = v_2 := by rw [ev_2]; exact nI_clamp (by have := hw.nh; have := hw.nl; have := hw.np; omega)
  rw [show dec b 9 (x) = some (b 9 v_2) from by rw [ev_2]; exact dec_nI (by have := hw.nh; have := hw.nl; have := hw.np; omega)] at er_1
  subst er_1
  refine lv_aload_n hx hb dX10_isLate_5 rfl (lv_at hl 0 rfl) ?_
  refine c_getI C0 hH hR ci_14 (i := 0) (j := 9) rfl rfl (by decide) rfl fl_X10_56 (v := u 41 0) rfl dX10_isLate_6 ?_
  refine k_i hH (k_runV (rest := []) C0 hH (cC_X5_missesPromise l G A _ b _ hR hw v_2 (u 41 0) hv_2) mv_X5_missesPromise ml_X10_249 ci_9 (hR.kind (K := 9) (i := v_2) hv_2) rfl ⟨Nat.le_of_ble_eq_true rfl, Nat.le_of_ble_eq_true rfl⟩ hl.1 rfl (Nat.le_of_ble_eq_true rfl) dX10_isLate_9 ⟨Nat.le_of_ble_eq_true rfl, Nat.le_of_ble_eq_true rfl⟩) (fun r_3 h1 H locs hp hH => ?_)
  obtain ⟨er_3, eh⟩ := hp
  rw [eh] at hH
  clear eh
  subst er_3
  refine vx_ret ?_
  have eR : (cMiss u v_2 (u 41 0) : Int32) = cMiss u x.toNatClampNeg (u 41 0) := by rw [kv_2]
  exact e_Z C0 hr cMiss_nar hH ⟨exr_1, eR, rfl⟩ (Nat.le_of_ble_eq_true rfl) (Nat.le_of_ble_eq_true rfl) dX10_isLate_12
