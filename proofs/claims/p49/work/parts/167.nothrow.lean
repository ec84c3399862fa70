/-! askings that do not throw -/
theorem xo_no {a b : Option String} (h : xo a b = none) : a = none ∧ b = none := by
  cases a with
  | none => exact ⟨rfl, h⟩
  | some e => cases h
set_option maxHeartbeats 800000 in
set_option maxRecDepth 100000 in
theorem cN_X10_lineNumbered_in (l : Launch) (hlt : l.stackTraces = false) (G : GT) (A : Nat → Prop) (h : AH) (b : BA) (u : MM) (hR : RC G.2.2.1 h b u) (hw : WFc u) (v : Nat) (hv0 : v < nlN u) : cxQ l G A yX10_lineNumbered cX10_lineNumbered 2 (Option.some (FieldType.object "Routepost$Line")) 6 90 0 0 [.ref (b 14 0), .int (nI v)] h (fun r h' => xLn u (nI v) = none ∧ r = dec b 8 (nI v) ∧ h' = h) (fun E h' => xLn u (nI v) = some E ∧ h' = h) := by
  refine cx_of "Routepost" rfl (by decide) (Nat.le_of_ble_eq_true rfl) ?_
  intro pr e s m9 below meth c C0 hxt hr hH ls hl
  obtain ⟨hx, hb, hml, hown, hts, hK, hA, -⟩ := id C0
  have hl : lv_has ls 2 [(0, .ref (b 14 0)), (1, .int (nI v))] := hl
  have hc7 := hw.cnt6 7
  have hc8 := hw.cnt6 8
  have hc9 := hw.cnt6 9
  have hn40 := hw.nl
  refine lv_iload_n hx hb dX10_lineNumbered_0 rfl (lv_at hl 1 rfl) ?_
  refine lv_if_lt (tgt := 15) hx hb dX10_lineNumbered_1 (by decide) (fun c1_1 => ?_) (fun c1_1 => ?_)
  · exact absurd c1_1 (nI_pos (by omega))
  · refine lv_iload_n hx hb dX10_lineNumbered_4 rfl (lv_at hl 1 rfl) ?_
    refine lv_aload_n hx hb dX10_lineNumbered_5 rfl (lv_at hl 0 rfl) ?_
    refine c_getR C0 hH hR ci_14 (i := 0) (j := 1) rfl rfl (by decide) rfl fl_X10_16 (v := some (b 3 1)) rfl dX10_lineNumbered_6 ?_
    refine k_i hH (k_runV (rest := [.int (nI v)]) C0 hH (cL_size l G A _ b _ hR hw 1 (show 1 < 6 + npN _ by omega)) mv_Jx4a65c_size_8abf5 ml_X10_79 ci_3 (hR.kind (K := 3) (i := 1) (show 1 < 6 + npN _ by omega)) rfl ⟨Nat.le_of_ble_eq_true rfl, Nat.le_of_ble_eq_true rfl⟩ hl.1 rfl (Nat.le_of_ble_eq_true rfl) dX10_lineNumbered_9 ⟨Nat.le_of_ble_eq_true rfl, Nat.le_of_ble_eq_true rfl⟩) (fun r9 h1 H locs hp hH => ?_)
    obtain ⟨er9, eh⟩ := hp
    rw [eh] at hH
    clear eh
    rw [hw.sz1] at er9
    subst er9
    refine lv_icmp_lt (tgt := 26) hx hb dX10_lineNumbered_12 (by decide) (fun c12_2 => ?_) (fun c12_2 => ?_)
    · refine lv_aload_n hx hb dX10_lineNumbered_26 rfl (lv_at hl 0 rfl) ?_
      refine c_getR C0 hH hR ci_14 (i := 0) (j := 1) rfl rfl (by decide) rfl fl_X10_16 (v := some (b 3 1)) rfl dX10_lineNumbered_27 ?_
      refine lv_iload_n hx hb dX10_lineNumbered_30 rfl (lv_at hl 1 rfl) ?_
      refine k_q hH (k_runV (rest := []) C0 hH (cL_get l G A _ b _ hR hw 1 v (show 1 < 6 + npN _ by omega) (by rw [hw.sz1]; exact hv0) (a := b 8 v) rfl) mv_Jx4a65c_get_915e3 ml_X10_143 ci_3 (hR.kind (K := 3) (i := 1) (show 1 < 6 + npN _ by omega)) rfl ⟨Nat.le_of_ble_eq_true rfl, Nat.le_of_ble_eq_true rfl⟩ hl.1 rfl (Nat.le_of_ble_eq_true rfl) dX10_lineNumbered_31 ⟨Nat.le_of_ble_eq_true rfl, Nat.le_of_ble_eq_true rfl⟩) (fun r9 h1 H locs hp hH => ?_)
      obtain ⟨er9, eh⟩ := hp
      rw [eh] at hH
      clear eh
      subst er9
      refine k_chk C0 hH ci_8 (hR.kind (K := 8) (i := v) hv0) cl_X10_107 dX10_lineNumbered_34 ?_
      refine vx_ret ?_
      have eR : (some (b 8 v) : Option Nat) = dec b 8 (nI v) := (dec_nI (by omega)).symm
      exact e_Q (v := some (b 8 v)) C0 hr (Or.inl ⟨_, rfl⟩) hH ⟨((xLn_n hw).mpr (vp_in_nI hv0 (by omega))), eR, rfl⟩ (Nat.le_of_ble_eq_true rfl) (Nat.le_of_ble_eq_true rfl) dX10_lineNumbered_37
    · exact absurd (Int32.not_le.mp (nI_ge hv0 (by omega))) c12_2
theorem cN_X10_lineNumbered (l : Launch) (hlt : l.stackTraces = false) (G : GT) (A : Nat → Prop) (h : AH) (b : BA) (u : MM) (hR : RC G.2.2.1 h b u) (hw : WFc u) (x : Int32) (hX : xLn u x = none) : cxQ l G A yX10_lineNumbered cX10_lineNumbered 2 (Option.some (FieldType.object "Routepost$Line")) 6 90 0 0 [.ref (b 14 0), .int (x)] h (fun r h' => xLn u x = none ∧ r = dec b 8 x ∧ h' = h) (fun E h' => xLn u x = some E ∧ h' = h) := by
  obtain ⟨v, hv, rfl⟩ := vp_ex ((xLn_n hw).mp hX) (by have := hw.nl; omega)
  exact cN_X10_lineNumbered_in l hlt G A h b u hR hw v hv
set_option maxHeartbeats 800000 in
set_option maxRecDepth 100000 in
theorem cN_X10_parcelNumbered_in (l : Launch) (hlt : l.stackTraces = false) (G : GT) (A : Nat → Prop) (h : AH) (b : BA) (u : MM) (hR : RC G.2.2.1 h b u) (hw : WFc u) (v : Nat) (hv0 : v < npN u) : cxQ l G A yX10_parcelNumbered cX10_parcelNumbered 2 (Option.some (FieldType.object "Routepost$Parcel")) 6 90 0 0 [.ref (b 14 0), .int (nI v)] h (fun r h' => xPa u (nI v) = none ∧ r = dec b 9 (nI v) ∧ h' = h) (fun E h' => xPa u (nI v) = some E ∧ h' = h) := by
  refine cx_of "Routepost" rfl (by decide) (Nat.le_of_ble_eq_true rfl) ?_
  intro pr e s m9 below meth c C0 hxt hr hH ls hl
  obtain ⟨hx, hb, hml, hown, hts, hK, hA, -⟩ := id C0
  have hl : lv_has ls 2 [(0, .ref (b 14 0)), (1, .int (nI v))] := hl
  have hc7 := hw.cnt6 7
  have hc8 := hw.cnt6 8
  have hc9 := hw.cnt6 9
  have hn40 := hw.np
  refine lv_iload_n hx hb dX10_parcelNumbered_0 rfl (lv_at hl 1 rfl) ?_
  refine lv_if_lt (tgt := 15) hx hb dX10_parcelNumbered_1 (by decide) (fun c1_1 => ?_) (fun c1_1 => ?_)
  · exact absurd c1_1 (nI_pos (by omega))
  · refine lv_iload_n hx hb dX10_parcelNumbered_4 rfl (lv_at hl 1 rfl) ?_
    refine lv_aload_n hx hb dX10_parcelNumbered_5 rfl (lv_at hl 0 rfl) ?_
    refine c_getR C0 hH hR ci_14 (i := 0) (j := 2) rfl rfl (by decide) rfl fl_X10_19 (v := some (b 3 2)) rfl dX10_parcelNumbered_6 ?_
    refine k_i hH (k_runV (rest := [.int (nI v)]) C0 hH (cL_size l G A _ b _ hR hw 2 (show 2 < 6 + npN _ by omega)) mv_Jx4a65c_size_8abf5 ml_X10_79 ci_3 (hR.kind (K := 3) (i := 2) (show 2 < 6 + npN _ by omega)) rfl ⟨Nat.le_of_ble_eq_true rfl, Nat.le_of_ble_eq_true rfl⟩ hl.1 rfl (Nat.le_of_ble_eq_true rfl) dX10_parcelNumbered_9 ⟨Nat.le_of_ble_eq_true rfl, Nat.le_of_ble_eq_true rfl⟩) (fun r9 h1 H locs hp hH => ?_)
    obtain ⟨er9, eh⟩ := hp
    rw [eh] at hH
    clear eh
    rw [hw.sz2] at er9
    subst er9
    refine lv_icmp_lt (tgt := 26) hx hb dX10_parcelNumbered_12 (by decide) (fun c12_2 => ?_) (fun c12_2 => ?_)
    · refine lv_aload_n hx hb dX10_parcelNumbered_26 rfl (lv_at hl 0 rfl) ?_
      refine c_getR C0 hH hR ci_14 (i := 0) (j := 2) rfl rfl (by decide) rfl fl_X10_19 (v := some (b 3 2)) rfl dX10_parcelNumbered_27 ?_
      refine lv_iload_n hx hb dX10_parcelNumbered_30 rfl (lv_at hl 1 rfl) ?_
      refine k_q hH (k_runV (rest := []) C0 hH (cL_get l G A _ b _ hR hw 2 v (show 2 < 6 + npN _ by omega) (by rw [hw.sz2]; exact hv0) (a := b 9 v) rfl) mv_Jx4a65c_get_915e3 ml_X10_143 ci_3 (hR.kind (K := 3) (i := 2) (show 2 < 6 + npN _ by omega)) rfl ⟨Nat.le_of_ble_eq_true rfl, Nat.le_of_ble_eq_true rfl⟩ hl.1 rfl (Nat.le_of_ble_eq_true rfl) dX10_parcelNumbered_31 ⟨Nat.le_of_ble_eq_true rfl, Nat.le_of_ble_eq_true rfl⟩) (fun r9 h1 H locs hp hH => ?_)
      obtain ⟨er9, eh⟩ := hp
      rw [eh] at hH
      clear eh
      subst er9
      refine k_chk C0 hH ci_9 (hR.kind (K := 9) (i := v) hv0) cl_X10_162 dX10_parcelNumbered_34 ?_
      refine vx_ret ?_
      have eR : (some (b 9 v) : Option Nat) = dec b 9 (nI v) := (dec_nI (by omega)).symm
      exact e_Q (v := some (b 9 v)) C0 hr (Or.inl ⟨_, rfl⟩) hH ⟨((xPa_n hw).mpr (vp_in_nI hv0 (by omega))), eR, rfl⟩ (Nat.le_of_ble_eq_true rfl) (Nat.le_of_ble_eq_true rfl) dX10_parcelNumbered_37
    · exact absurd (Int32.not_le.mp (nI_ge hv0 (by omega))) c12_2
theorem cN_X10_parcelNumbered (l : Launch) (hlt : l.stackTraces = false) (G : GT) (A : Nat → Prop) (h : AH) (b : BA) (u : MM) (hR : RC G.2.2.1 h b u) (hw : WFc u) (x : Int32) (hX : xPa u x = none) : cxQ l G A yX10_parcelNumbered cX10_parcelNumbered 2 (Option.some (FieldType.object "Routepost$Parcel")) 6 90 0 0 [.ref (b 14 0), .int (x)] h (fun r h' => xPa u x = none ∧ r = dec b 9 x ∧ h' = h) (fun E h' => xPa u x = some E ∧ h' = h) := by
  obtain ⟨v, hv, rfl⟩ := vp_ex ((xPa_n hw).mp hX) (by have := hw.np; omega)
  exact cN_X10_parcelNumbered_in l hlt G A h b u hR hw v hv
set_option maxHeartbeats 800000 in
set_option maxRecDepth 100000 in
theorem cN_X10_openLineNumbered (l : Launch) (hlt : l.stackTraces = false) (G : GT) (A : Nat → Prop) (h : AH) (b : BA) (u : MM) (hR : RC G.2.2.1 h b u) (hw : WFc u) (x : Int32) (hX : xOpn u x = none) : cxQ l G A yX10_openLineNumbered cX10_openLineNumbered 3 (Option.some (FieldType.object "Routepost$Line")) 7 111 0 0 [.ref (b 14 0), .int (x)] h (fun r h' => xOpn u x = none ∧ r = dec b 8 x ∧ h' = h) (fun E h' => xOpn u x = some E ∧ h' = h) := by
  refine cx_of "Routepost" rfl (by decide) (Nat.le_of_ble_eq_true rfl) ?_
  intro pr e s m9 below meth c C0 hxt hr hH ls hl
  obtain ⟨hx, hb, hml, hown, hts, hK, hA, -⟩ := id C0
  have hl : lv_has ls 3 [(0, .ref (b 14 0)), (1, .int (x))] := hl
  have hc7 := hw.cnt6 7
  have hc8 := hw.cnt6 8
  have hc9 := hw.cnt6 9
  refine lv_aload_n hx hb dX10_openLineNumbered_0 rfl (lv_at hl 0 rfl) ?_
  refine lv_iload_n hx hb dX10_openLineNumbered_1 rfl (lv_at hl 1 rfl) ?_
  refine k_xq C0 hxt hH (k_xrunV (rest := []) C0 hH (cN_X10_lineNumbered l hlt G A _ b _ hR hw x (xo_no hX).1) mv_X10_lineNumbered ml_X10_299 ci_14 (hR.kind (K := 14) (i := 0) rfl) rfl ⟨Nat.le_of_ble_eq_true rfl, Nat.le_of_ble_eq_true rfl⟩ hl.1 rfl (Nat.le_of_ble_eq_true rfl) dX10_openLineNumbered_2 ⟨Nat.le_of_ble_eq_true rfl, Nat.le_of_ble_eq_true rfl⟩) (fun E h9 z => ⟨by unfold xOpn; exact xo_s z.1, z.2⟩) (Nat.le_of_ble_eq_true rfl) (Nat.le_of_ble_eq_true rfl) (fun r_1 h1 H locs hp hH => ?_)
  obtain ⟨exr_1, er_1, eh⟩ := hp
  rw [eh] at hH
  clear eh
  have vpv_2 : vp_in (x) (nlN u) := (xLn_n hw).mp exr_1
  obtain ⟨v_2, hv_2, ev_2⟩ := vp_ex vpv_2 (by have := hw.nh; have := hw.nl; have := hw.np; omega)
  have kv_2 : (x).toNatClampNeg = v_2 := by rw [ev_2]; exact nI_clamp (by have := hw.nh; have := hw.nl; have := hw.np; omega)
  rw [show dec b 8 (x) = some (b 8 v_2) from by rw [ev_2]; exact dec_nI (by have := hw.nh; have := hw.nl; have := hw.np; omega)] at er_1
  subst er_1
  refine lv_astore_n (lv' := [(2, .ref (b 8 v_2)), (0, .ref (b 14 0)), (1, .int (x))]) hx hb dX10_openLineNumbered_5 rfl hl (by decide) rfl (fun ls hl => ?_)
  refine lv_aload_n hx hb dX10_openLineNumbered_6 rfl (lv_at hl 0 rfl) ?_
  refine c_getI C0 hH hR ci_8 (i := v_2) (j := 8) hv_2 rfl (by decide) rfl fl_X10_127 (v := u 108 v_2) rfl dX10_openLineNumbered_7 ?_
  refine lv_if_ne (tgt := 24) hx hb dX10_openLineNumbered_10 (by decide) (fun c10_3 => ?_) (fun c10_3 => ?_)
  · refine lv_aload_n hx hb dX10_openLineNumbered_24 rfl (lv_at hl 0 rfl) ?_
    refine vx_ret ?_
    have eR : (some (b 8 v_2) : Option Nat) = dec b 8 x := (by rw [ev_2]; exact (dec_nI (by have := hw.nl; have := hw.np; omega)).symm)
    exact e_Q (v := some (b 8 v_2)) C0 hr (Or.inl ⟨_, rfl⟩) hH ⟨(by unfold xOpn; rw [xo_n exr_1]; simp [kv_2, eq_false c10_3]), eR, rfl⟩ (Nat.le_of_ble_eq_true rfl) (Nat.le_of_ble_eq_true rfl) dX10_openLineNumbered_25
  · exact absurd (hX.symm.trans (show xOpn u x = some iseC from (by unfold xOpn; rw [xo_n exr_1]; simp [kv_2, eq_true c10_3] <;> rfl))) (fun z => nomatch z)
set_option maxHeartbeats 800000 in
set_option maxRecDepth 100000 in
theorem cN_X10_scannedParcel (l : Launch) (hlt : l.stackTraces = false) (G : GT) (A : Nat → Prop) (h : AH) (b : BA) (u : MM) (hR : RC G.2.2.1 h b u) (hw : WFc u) (x : Int32) (hX : xSc u x = none) : cxQ l G A yX10_scannedParcel cX10_scannedParcel 3 (Option.some (FieldType.object "Routepost$Parcel")) 7 111 0 0 [.ref (b 14 0), .int (x)] h (fun r h' => xSc u x = none ∧ r = dec b 9 x ∧ h' = h) (fun E h' => xSc u x = some E ∧ h' = h) := by
  refine cx_of "Routepost" rfl (by decide) (Nat.le_of_ble_eq_true rfl) ?_
  intro pr e s m9 below meth c C0 hxt hr hH ls hl
  obtain ⟨hx, hb, hml, hown, hts, hK, hA, -⟩ := id C0
  have hl : lv_has ls 3 [(0, .ref (b 14 0)), (1, .int (x))] := hl
  have hc7 := hw.cnt6 7
  have hc8 := hw.cnt6 8
  have hc9 := hw.cnt6 9
  refine lv_aload_n hx hb dX10_scannedParcel_0 rfl (lv_at hl 0 rfl) ?_
  refine lv_iload_n hx hb dX10_scannedParcel_1 rfl (lv_at hl 1 rfl) ?_
  refine k_xq C0 hxt hH (k_xrunV (rest := []) C0 hH (cN_X10_parcelNumbered l hlt G A _ b _ hR hw x (xo_no hX).1) mv_X10_parcelNumbered ml_X10_186 ci_14 (hR.kind (K := 14) (i := 0) rfl) rfl ⟨Nat.le_of_ble_eq_true rfl, Nat.le_of_ble_eq_true rfl⟩ hl.1 rfl (Nat.le_of_ble_eq_true rfl) dX10_scannedParcel_2 ⟨Nat.le_of_ble_eq_true rfl, Nat.le_of_ble_eq_true rfl⟩) (fun E h9 z => ⟨by unfold xSc; exact xo_s z.1, z.2⟩) (Nat.le_of_ble_eq_true rfl) (Nat.le_of_ble_eq_true rfl) (fun r_1 h1 H locs hp hH => ?_)
  obtain ⟨exr_1, er_1, eh⟩ := hp
  rw [eh] at hH
  clear eh
  have vpv_2 : vp_in (x) (npN u) := (xPa_n hw).mp exr_1
  obtain ⟨v_2, hv_2, ev_2⟩ := vp_ex vpv_2 (by have := hw.nh; have := hw.nl; have := hw.np; omega)
  have kv_2 : (x).toNatClampNeg = v_2 := by rw [ev_2]; exact nI_clamp (by have := hw.nh; have := hw.nl; have := hw.np; omega)
  rw [show dec b 9 (x) = some (b 9 v_2) from by rw [ev_2]; exact dec_nI (by have := hw.nh; have := hw.nl; have := hw.np; omega)] at er_1
  subst er_1
  refine lv_astore_n (lv' := [(2, .ref (b 9 v_2)), (0, .ref (b 14 0)), (1, .int (x))]) hx hb dX10_scannedParcel_5 rfl hl (by decide) rfl (fun ls hl => ?_)
  refine lv_aload_n hx hb dX10_scannedParcel_6 rfl (lv_at hl 0 rfl) ?_
  refine c_getI C0 hH hR ci_9 (i := v_2) (j := 8) hv_2 rfl (by decide) rfl fl_X10_190 (v := u 28 v_2) rfl dX10_scannedParcel_7 ?_
  refine lv_bipush (v := 115) hx hb dX10_scannedParcel_10 (by decide) ?_
  refine lv_icmp_eq (tgt := 26) hx hb dX10_scannedParcel_12 (by decide) (fun c12_3 => ?_) (fun c12_3 => ?_)
  · refine lv_aload_n hx hb dX10_scannedParcel_26 rfl (lv_at hl 0 rfl) ?_
    refine vx_ret ?_
    have eR : (some (b 9 v_2) : Option Nat) = dec b 9 x := (by rw [ev_2]; exact (dec_nI (by have := hw.nl; have := hw.np; omega)).symm)
    exact e_Q (v := some (b 9 v_2)) C0 hr (Or.inl ⟨_, rfl⟩) hH ⟨(by unfold xSc; rw [xo_n exr_1]; simp [kv_2, eq_true c12_3]), eR, rfl⟩ (Nat.le_of_ble_eq_true rfl) (Nat.le_of_ble_eq_true rfl) dX10_scannedParcel_27
  · exact absurd (hX.symm.trans (show xSc u x = some iseC from (by unfold xSc; rw [xo_n exr_1]; simp [kv_2, eq_false c12_3] <;> rfl))) (fun z => nomatch z)
set_option maxHeartbeats 800000 in
set_option maxRecDepth 100000 in
theorem cN_X10_state (l : Launch) (hlt : l.stackTraces = false) (G : GT) (A : Nat → Prop) (h : AH) (b : BA) (u : MM) (hR : RC G.2.2.1 h b u) (hw : WFc u) (x : Int32) (hns : narrow .char (.int (u 28 x.toNatClampNeg)) = .int (u 28 x.toNatClampNeg)) (hX : xPa u x = none) : cxI l G A yX10_state cX10_state 2 (Option.some FieldType.char) 7 111 0 0 [.ref (b 14 0), .int (x)] h (fun r h' => xPa u x = none ∧ r = u 28 x.toNatClampNeg ∧ h' = h) (fun E h' => xPa u x = some E ∧ h' = h) := by
  refine cx_of "Routepost" rfl (by decide) (Nat.le_of_ble_eq_true rfl) ?_
  intro pr e s m9 below meth c C0 hxt hr hH ls hl
  obtain ⟨hx, hb, hml, hown, hts, hK, hA, -⟩ := id C0
  have hl : lv_has ls 2 [(0, .ref (b 14 0)), (1, .int (x))] := hl
  have hc7 := hw.cnt6 7
  have hc8 := hw.cnt6 8
  have hc9 := hw.cnt6 9
  refine lv_aload_n hx hb dX10_state_0 rfl (lv_at hl 0 rfl) ?_
  refine lv_iload_n hx hb dX10_state_1 rfl (lv_at hl 1 rfl) ?_
  refine k_xq C0 hxt hH (k_xrunV (rest := []) C0 hH (cN_X10_parcelNumbered l hlt G A _ b _ hR hw x hX) mv_X10_parcelNumbered ml_X10_186 ci_14 (hR.kind (K := 14) (i := 0) rfl) rfl ⟨Nat.le_of_ble_eq_true rfl, Nat.le_of_ble_eq_true rfl⟩ hl.1 rfl (Nat.le_of_ble_eq_true rfl) dX10_state_2 ⟨Nat.le_of_ble_eq_true rfl, Nat.le_of_ble_eq_true rfl⟩) (fun _ _ z => z) (Nat.le_of_ble_eq_true rfl) (Nat.le_of_ble_eq_true rfl) (fun r_1 h1 H locs hp hH => ?_)
  obtain ⟨exr_1, er_1, eh⟩ := hp
  rw [eh] at hH
  clear eh
  have vpv_2 : vp_in (x) (npN u) := (xPa_n hw).mp exr_1
  obtain ⟨v_2, hv_2, ev_2⟩ := vp_ex vpv_2 (by have := hw.nh; have := hw.nl; have := hw.np; omega)
  have kv_2 : (x).toNatClampNeg = v_2 := by rw [ev_2]; exact nI_clamp (by have := hw.nh; have := hw.nl; have := hw.np; omega)
  rw [show dec b 9 (x) = some (b 9 v_2) from by rw [ev_2]; exact dec_nI (by have := hw.nh; have := hw.nl; have := hw.np; omega)] at er_1
  subst er_1
  refine c_getI C0 hH hR ci_9 (i := v_2) (j := 8) hv_2 rfl (by decide) rfl fl_X10_190 (v := u 28 v_2) rfl dX10_state_5 ?_
  refine vx_ret ?_
  have eR : (u 28 v_2 : Int32) = u 28 x.toNatClampNeg := by rw [kv_2]
  exact e_Z C0 hr (by rw [← kv_2]; exact hns) hH ⟨exr_1, eR, rfl⟩ (Nat.le_of_ble_eq_true rfl) (Nat.le_of_ble_eq_true rfl) dX10_state_8
set_option maxHeartbeats 800000 in
set_option maxRecDepth 100000 in
theorem cN_X10_isReturn (l : Launch) (hlt : l.stackTraces = false) (G : GT) (A : Nat → Prop) (h : AH) (b : BA) (u : MM) (hR : RC G.2.2.1 h b u) (hw : WFc u) (x : Int32) (hns : narrow .boolean (.int (u 29 x.toNatClampNeg)) = .int (u 29 x.toNatClampNeg)) (hX : xPa u x = none) : cxI l G A yX10_isReturn cX10_isReturn 2 (Option.some FieldType.boolean) 7 111 0 0 [.ref (b 14 0), .int (x)] h (fun r h' => xPa u x = none ∧ r = u 29 x.toNatClampNeg ∧ h' = h) (fun E h' => xPa u x = some E ∧ h' = h) := by
  refine cx_of "Routepost" rfl (by decide) (Nat.le_of_ble_eq_true rfl) ?_
  intro pr e s m9 below meth c C0 hxt hr hH ls hl
  obtain ⟨hx, hb, hml, hown, hts, hK, hA, -⟩ := id C0
  have hl : lv_has ls 2 [(0, .ref (b 14 0)), (1, .int (x))] := hl
  have hc7 := hw.cnt6 7
  have hc8 := hw.cnt6 8
  have hc9 := hw.cnt6 9
  refine lv_aload_n hx hb dX10_isReturn_0 rfl (lv_at hl 0 rfl) ?_
  refine lv_iload_n hx hb dX10_isReturn_1 rfl (lv_at hl 1 rfl) ?_
  refine k_xq C0 hxt hH (k_xrunV (rest := []) C0 hH (cN_X10_parcelNumbered l hlt G A _ b _ hR hw x hX) mv_X10_parcelNumbered ml_X10_186 ci_14 (hR.kind (K := 14) (i := 0) rfl) rfl ⟨Nat.le_of_ble_eq_true rfl, Nat.le_of_ble_eq_true rfl⟩ hl.1 rfl (Nat.le_of_ble_eq_true rfl) dX10_isReturn_2 ⟨Nat.le_of_ble_eq_true rfl, Nat.le_of_ble_eq_true rfl⟩) (fun _ _ z => z) (Nat.le_of_ble_eq_true rfl) (Nat.le_of_ble_eq_true rfl) (fun r_1 h1 H locs hp hH => ?_)
  obtain ⟨exr_1, er_1, eh⟩ := hp
  rw [eh] at hH
  clear eh
  have vpv_2 : vp_in (x) (npN u) := (xPa_n hw).mp exr_1
  obtain ⟨v_2, hv_2, ev_2⟩ := vp_ex vpv_2 (by have := hw.nh; have := hw.nl; have := hw.np; omega)
  have kv_2 : (x).toNatClampNeg = v_2 := by rw [ev_2]; exact nI_clamp (by have := hw.nh; have := hw.nl; have := hw.np; omega)
  rw [show dec b 9 (x) = some (b 9 v_2) from by rw [ev_2]; exact dec_nI (by have := hw.nh; have := hw.nl; have := hw.np; omega)] at er_1
  subst er_1
  refine c_getI C0 hH hR ci_9 (i := v_2) (j := 19) hv_2 rfl (by decide) rfl fl_X10_222 (v := u 29 v_2) rfl dX10_isReturn_5 ?_
  refine vx_ret ?_
  have eR : (u 29 v_2 : Int32) = u 29 x.toNatClampNeg := by rw [kv_2]
  exact e_Z C0 hr (by rw [← kv_2]; exact hns) hH ⟨exr_1, eR, rfl⟩ (Nat.le_of_ble_eq_true rfl) (Nat.le_of_ble_eq_true rfl) dX10_isReturn_8
set_option maxHeartbeats 800000 in
set_option maxRecDepth 100000 in
theorem cN_X10_promise (l : Launch) (hlt : l.stackTraces = false) (G : GT) (A : Nat → Prop) (h : AH) (b : BA) (u : MM) (hR : RC G.2.2.1 h b u) (hw : WFc u) (x : Int32) (hX : xPa u x = none) : cxI l G A yX10_promise cX10_promise 2 (Option.some FieldType.int) 7 111 0 0 [.ref (b 14 0), .int (x)] h (fun r h' => xPa u x = none ∧ r = u 20 x.toNatClampNeg ∧ h' = h) (fun E h' => xPa u x = some E ∧ h' = h) := by
  refine cx_of "Routepost" rfl (by decide) (Nat.le_of_ble_eq_true rfl) ?_
  intro pr e s m9 below meth c C0 hxt hr hH ls hl
  obtain ⟨hx, hb, hml, hown, hts, hK, hA, -⟩ := id C0
  have hl : lv_has ls 2 [(0, .ref (b 14 0)), (1, .int (x))] := hl
  have hc7 := hw.cnt6 7
  have hc8 := hw.cnt6 8
  have hc9 := hw.cnt6 9
  refine lv_aload_n hx hb dX10_promise_0 rfl (lv_at hl 0 rfl) ?_
  refine lv_iload_n hx hb dX10_promise_1 rfl (lv_at hl 1 rfl) ?_
  refine k_xq C0 hxt hH (k_xrunV (rest := []) C0 hH (cN_X10_parcelNumbered l hlt G A _ b _ hR hw x hX) mv_X10_parcelNumbered ml_X10_186 ci_14 (hR.kind (K := 14) (i := 0) rfl) rfl ⟨Nat.le_of_ble_eq_true rfl, Nat.le_of_ble_eq_true rfl⟩ hl.1 rfl (Nat.le_of_ble_eq_true rfl) dX10_promise_2 ⟨Nat.le_of_ble_eq_true rfl, Nat.le_of_ble_eq_true rfl⟩) (fun _ _ z => z) (Nat.le_of_ble_eq_true rfl) (Nat.le_of_ble_eq_true rfl) (fun r_1 h1 H locs hp hH => ?_)
  obtain ⟨exr_1, er_1, eh⟩ := hp
  rw [eh] at hH
  clear eh
  have vpv_2 : vp_in (x) (npN u) := (xPa_n hw).mp exr_1
  obtain ⟨v_2, hv_2, ev_2⟩ := vp_ex vpv_2 (by have := hw.nh; have := hw.nl; have := hw.np; omega)
  have kv_2 : (x).toNatClampNeg = v_2 := by rw [ev_2]; exact nI_clamp (by have := hw.nh; have := hw.nl; have := hw.np; omega)
  rw [show dec b 9 (x) = some (b 9 v_2) from by rw [ev_2]; exact dec_nI (by have := hw.nh; have := hw.nl; have := hw.np; omega)] at er_1
  subst er_1
  refine c_getI C0 hH hR ci_9 (i := v_2) (j := 15) hv_2 rfl (by decide) rfl fl_X10_230 (v := u 20 v_2) rfl dX10_promise_5 ?_
  refine vx_ret ?_
  have eR : (u 20 v_2 : Int32) = u 20 x.toNatClampNeg := by rw [kv_2]
  exact e_I C0 hr hH ⟨exr_1, eR, rfl⟩ (Nat.le_of_ble_eq_true rfl) (Nat.le_of_ble_eq_true rfl) dX10_promise_8
set_option maxHeartbeats 800000 in
set_option maxRecDepth 100000 in
theorem cN_X10_misroutes (l : Launch) (hlt : l.stackTraces = false) (G : GT) (A : Nat → Prop) (h : AH) (b : BA) (u : MM) (hR : RC G.2.2.1 h b u) (hw : WFc u) (x : Int32) (hX : xPa u x = none) : cxI l G A yX10_misroutes cX10_misroutes 2 (Option.some FieldType.int) 7 111 0 0 [.ref (b 14 0), .int (x)] h (fun r h' => xPa u x = none ∧ r = u 22 x.toNatClampNeg ∧ h' = h) (fun E h' => xPa u x = some E ∧ h' = h) := by
  refine cx_of "Routepost" rfl (by decide) (Nat.le_of_ble_eq_true rfl) ?_
  intro pr e s m9 below meth c C0 hxt hr hH ls hl
  obtain ⟨hx, hb, hml, hown, hts, hK, hA, -⟩ := id C0
  have hl : lv_has ls 2 [(0, .ref (b 14 0)), (1, .int (x))] := hl
  have hc7 := hw.cnt6 7
  have hc8 := hw.cnt6 8
  have hc9 := hw.cnt6 9
  refine lv_aload_n hx hb dX10_misroutes_0 rfl (lv_at hl 0 rfl) ?_
  refine lv_iload_n hx hb dX10_misroutes_1 rfl (lv_at hl 1 rfl) ?_
  refine k_xq C0 hxt hH (k_xrunV (rest := []) C0 hH (cN_X10_parcelNumbered l hlt G A _ b _ hR hw x hX) mv_X10_parcelNumbered ml_X10_186 ci_14 (hR.kind (K := 14) (i := 0) rfl) rfl ⟨Nat.le_of_ble_eq_true rfl, Nat.le_of_ble_eq_true rfl⟩ hl.1 rfl (Nat.le_of_ble_eq_true rfl) dX10_misroutes_2 ⟨Nat.le_of_ble_eq_true rfl, Nat.le_of_ble_eq_true rfl⟩) (fun _ _ z => z) (Nat.le_of_ble_eq_true rfl) (Nat.le_of_ble_eq_true rfl) (fun r_1 h1 H locs hp hH => ?_)
  obtain ⟨exr_1, er_1, eh⟩ := hp
  rw [eh] at hH
  clear eh
  have vpv_2 : vp_in (x) (npN u) := (xPa_n hw).mp exr_1
  obtain ⟨v_2, hv_2, ev_2⟩ := vp_ex vpv_2 (by have := hw.nh; have := hw.nl; have := hw.np; omega)
  have kv_2 : (x).toNatClampNeg = v_2 := by rw [ev_2]; exact nI_clamp (by have := hw.nh; have := hw.nl; have := hw.np; omega)
  rw [show dec b 9 (x) = some (b 9 v_2) from by rw [ev_2]; exact dec_nI (by have := hw.nh; have := hw.nl; have := hw.np; omega)] at er_1
  subst er_1
  refine c_getI C0 hH hR ci_9 (i := v_2) (j := 16) hv_2 rfl (by decide) rfl fl_X10_252 (v := u 22 v_2) rfl dX10_misroutes_5 ?_
  refine vx_ret ?_
  have eR : (u 22 v_2 : Int32) = u 22 x.toNatClampNeg := by rw [kv_2]
  exact e_I C0 hr hH ⟨exr_1, eR, rfl⟩ (Nat.le_of_ble_eq_true rfl) (Nat.le_of_ble_eq_true rfl) dX10_misroutes_8
set_option maxHeartbeats 800000 in
set_option maxRecDepth 100000 in
theorem cN_X10_attempts (l : Launch) (hlt : l.stackTraces = false) (G : GT) (A : Nat → Prop) (h : AH) (b : BA) (u : MM) (hR : RC G.2.2.1 h b u) (hw : WFc u) (x : Int32) (hX : xPa u x = none) : cxI l G A yX10_attempts cX10_attempts 2 (Option.some FieldType.int) 7 111 0 0 [.ref (b 14 0), .int (x)] h (fun r h' => xPa u x = none ∧ r = u 23 x.toNatClampNeg ∧ h' = h) (fun E h' => xPa u x = some E ∧ h' = h) := by
  refine cx_of "Routepost" rfl (by decide) (Nat.le_of_ble_eq_true rfl) ?_
  intro pr e s m9 below meth c C0 hxt hr hH ls hl
  obtain ⟨hx, hb, hml, hown, hts, hK, hA, -⟩ := id C0
  have hl : lv_has ls 2 [(0, .ref (b 14 0)), (1, .int (x))] := hl
  have hc7 := hw.cnt6 7
  have hc8 := hw.cnt6 8
  have hc9 := hw.cnt6 9
  refine lv_aload_n hx hb dX10_attempts_0 rfl (lv_at hl 0 rfl) ?_
  refine lv_iload_n hx hb dX10_attempts_1 rfl (lv_at hl 1 rfl) ?_
  refine k_xq C0 hxt hH (k_xrunV (rest := []) C0 hH (cN_X10_parcelNumbered l hlt G A _ b _ hR hw x hX) mv_X10_parcelNumbered ml_X10_186 ci_14 (hR.kind (K := 14) (i := 0) rfl) rfl ⟨Nat.le_of_ble_eq_true rfl, Nat.le_of_ble_eq_true rfl⟩ hl.1 rfl (Nat.le_of_ble_eq_true rfl) dX10_attempts_2 ⟨Nat.le_of_ble_eq_true rfl, Nat.le_of_ble_eq_true rfl⟩) (fun _ _ z => z) (Nat.le_of_ble_eq_true rfl) (Nat.le_of_ble_eq_true rfl) (fun r_1 h1 H locs hp hH => ?_)
  obtain ⟨exr_1, er_1, eh⟩ := hp
  rw [eh] at hH
  clear eh
  have vpv_2 : vp_in (x) (npN u) := (xPa_n hw).mp exr_1
  obtain ⟨v_2, hv_2, ev_2⟩ := vp_ex vpv_2 (by have := hw.nh; have := hw.nl; have := hw.np; omega)
  have kv_2 : (x).toNatClampNeg = v_2 := by rw [ev_2]; exact nI_clamp (by have := hw.nh; have := hw.nl; have := hw.np; omega)
  rw [show dec b 9 (x) = some (b 9 v_2) from by rw [ev_2]; exact dec_nI (by have := hw.nh; have := hw.nl; have := hw.np; omega)] at er_1
  subst er_1
  refine c_getI C0 hH hR ci_9 (i := v_2) (j := 17) hv_2 rfl (by decide) rfl fl_X10_255 (v := u 23 v_2) rfl dX10_attempts_5 ?_
  refine vx_ret ?_
  have eR : (u 23 v_2 : Int32) = u 23 x.toNatClampNeg := by rw [kv_2]
  exact e_I C0 hr hH ⟨exr_1, eR, rfl⟩ (Nat.le_of_ble_eq_true rfl) (Nat.le_of_ble_eq_true rfl) dX10_attempts_8
set_option maxHeartbeats 800000 in
set_option maxRecDepth 100000 in
theorem cN_X10_missed (l : Launch) (hlt : l.stackTraces = false) (G : GT) (A : Nat → Prop) (h : AH) (b : BA) (u : MM) (hR : RC G.2.2.1 h b u) (hw : WFc u) (x : Int32) (hX : xPa u x = none) : cxI l G A yX10_missed cX10_missed 2 (Option.some FieldType.int) 7 111 0 0 [.ref (b 14 0), .int (x)] h (fun r h' => xPa u x = none ∧ r = u 24 x.toNatClampNeg ∧ h' = h) (fun E h' => xPa u x = some E ∧ h' = h) := by
  refine cx_of "Routepost" rfl (by decide) (Nat.le_of_ble_eq_true rfl) ?_
  intro pr e s m9 below meth c C0 hxt hr hH ls hl
  obtain ⟨hx, hb, hml, hown, hts, hK, hA, -⟩ := id C0
  have hl : lv_has ls 2 [(0, .ref (b 14 0)), (1, .int (x))] := hl
  have hc7 := hw.cnt6 7
  have hc8 := hw.cnt6 8
  have hc9 := hw.cnt6 9
  refine lv_aload_n hx hb dX10_missed_0 rfl (lv_at hl 0 rfl) ?_
  refine lv_iload_n hx hb dX10_missed_1 rfl (lv_at hl 1 rfl) ?_
  refine k_xq C0 hxt hH (k_xrunV (rest := []) C0 hH (cN_X10_parcelNumbered l hlt G A _ b _ hR hw x hX) mv_X10_parcelNumbered ml_X10_186 ci_14 (hR.kind (K := 14) (i := 0) rfl) rfl ⟨Nat.le_of_ble_eq_true rfl, Nat.le_of_ble_eq_true rfl⟩ hl.1 rfl (Nat.le_of_ble_eq_true rfl) dX10_missed_2 ⟨Nat.le_of_ble_eq_true rfl, Nat.le_of_ble_eq_true rfl⟩) (fun _ _ z => z) (Nat.le_of_ble_eq_true rfl) (Nat.le_of_ble_eq_true rfl) (fun r_1 h1 H locs hp hH => ?_)
  obtain ⟨exr_1, er_1, eh⟩ := hp
  rw [eh] at hH
  clear eh
  have vpv_2 : vp_in (x) (npN u) := (xPa_n hw).mp exr_1
  obtain ⟨v_2, hv_2, ev_2⟩ := vp_ex vpv_2 (by have := hw.nh; have := hw.nl; have := hw.np; omega)
  have kv_2 : (x).toNatClampNeg = v_2 := by rw [ev_2]; exact nI_clamp (by have := hw.nh; have := hw.nl; have := hw.np; omega)
  rw [show dec b 9 (x) = some (b 9 v_2) from by rw [ev_2]; exact dec_nI (by have := hw.nh; have := hw.nl; have := hw.np; omega)] at er_1
  subst er_1
  refine c_getI C0 hH hR ci_9 (i := v_2) (j := 18) hv_2 rfl (by decide) rfl fl_X10_258 (v := u 24 v_2) rfl dX10_missed_5 ?_
  refine vx_ret ?_
  have eR : (u 24 v_2 : Int32) = u 24 x.toNatClampNeg := by rw [kv_2]
  exact e_I C0 hr hH ⟨exr_1, eR, rfl⟩ (Nat.le_of_ble_eq_true rfl) (Nat.le_of_ble_eq_true rfl) dX10_missed_8
set_option maxHeartbeats 800000 in
set_option maxRecDepth 100000 in
theorem cN_X10_destination (l : Launch) (hlt : l.stackTraces = false) (G : GT) (A : Nat → Prop) (h : AH) (b : BA) (u : MM) (hR : RC G.2.2.1 h b u) (hw : WFc u) (x : Int32) (hX : xPa u x = none) : cxI l G A yX10_destination cX10_destination 2 (Option.some FieldType.int) 7 111 0 0 [.ref (b 14 0), .int (x)] h (fun r h' => xPa u x = none ∧ r = u 14 x.toNatClampNeg ∧ h' = h) (fun E h' => xPa u x = some E ∧ h' = h) := by
  refine cx_of "Routepost" rfl (by decide) (Nat.le_of_ble_eq_true rfl) ?_
  intro pr e s m9 below meth c C0 hxt hr hH ls hl
  obtain ⟨hx, hb, hml, hown, hts, hK, hA, -⟩ := id C0
  have hl : lv_has ls 2 [(0, .ref (b 14 0)), (1, .int (x))] := hl
  have hc7 := hw.cnt6 7
  have hc8 := hw.cnt6 8
  have hc9 := hw.cnt6 9
  refine lv_aload_n hx hb dX10_destination_0 rfl (lv_at hl 0 rfl) ?_
  refine lv_iload_n hx hb dX10_destination_1 rfl (lv_at hl 1 rfl) ?_
  refine k_xq C0 hxt hH (k_xrunV (rest := []) C0 hH (cN_X10_parcelNumbered l hlt G A _ b _ hR hw x hX) mv_X10_parcelNumbered ml_X10_186 ci_14 (hR.kind (K := 14) (i := 0) rfl) rfl ⟨Nat.le_of_ble_eq_true rfl, Nat.le_of_ble_eq_true rfl⟩ hl.1 rfl (Nat.le_of_ble_eq_true rfl) dX10_destination_2 ⟨Nat.le_of_ble_eq_true rfl, Nat.le_of_ble_eq_true rfl⟩) (fun _ _ z => z) (Nat.le_of_ble_eq_true rfl) (Nat.le_of_ble_eq_true rfl) (fun r_1 h1 H locs hp hH => ?_)
  obtain ⟨exr_1, er_1, eh⟩ := hp
  rw [eh] at hH
  clear eh
  have vpv_2 : vp_in (x) (npN u) := (xPa_n hw).mp exr_1
  obtain ⟨v_2, hv_2, ev_2⟩ := vp_ex vpv_2 (by have := hw.nh; have := hw.nl; have := hw.np; omega)
  have kv_2 : (x).toNatClampNeg = v_2 := by rw [ev_2]; exact nI_clamp (by have := hw.nh; have := hw.nl; have := hw.np; omega)
  rw [show dec b 9 (x) = some (b 9 v_2) from by rw [ev_2]; exact dec_nI (by have := hw.nh; have := hw.nl; have := hw.np; omega)] at er_1
  subst er_1
  obtain ⟨v_3, hv_3, ev_3⟩ := hw.exH (show vp_in (u 14 v_2) _ from (hw.pa hv_2).2.1)
  have kv_3 : (u 14 v_2).toNatClampNeg = v_3 := by rw [ev_3]; exact nI_clamp (by have := hw.nh; have := hw.np; omega)
  refine c_getR C0 hH hR ci_9 (i := v_2) (j := 6) hv_2 rfl (by decide) rfl fl_X10_207 (v := some (b 7 v_3)) (show dec b 7 (u 14 v_2) = some (b 7 v_3) from by rw [show u 14 v_2 = nI v_3 from Eq.trans rfl ev_3]; exact dec_nI (by have := hc7; have := (show v_3 < cnt u 7 from hv_3); omega)) dX10_destination_5 ?_
  refine c_getI C0 hH hR ci_7 (i := v_3) (j := 0) hv_3 rfl (by decide) rfl fl_X10_97 (v := u 14 v_2) ev_3.symm dX10_destination_8 ?_
  refine vx_ret ?_
  have eR : (u 14 v_2 : Int32) = u 14 x.toNatClampNeg := by rw [kv_2]
  exact e_I C0 hr hH ⟨exr_1, eR, rfl⟩ (Nat.le_of_ble_eq_true rfl) (Nat.le_of_ble_eq_true rfl) dX10_destination_11
set_option maxHeartbeats 800000 in
set_option maxRecDepth 100000 in
theorem cN_X10_isLate (l : Launch) (hlt : l.stackTraces = false) (G : GT) (A : Nat → Prop) (h : AH) (b : BA) (u : MM) (hR : RC G.2.2.1 h b u) (hw : WFc u) (x : Int32) (hX : xPa u x = none) : cxI l G A yX10_isLate cX10_isLate 2 (Option.some FieldType.boolean) 7 111 0 0 [.ref (b 14 0), .int (x)] h (fun r h' => xPa u x = none ∧ r = cMiss u x.toNatClampNeg (u 41 0) ∧ h' = h) (fun E h' => xPa u x = some E ∧ h' = h) := by
  refine cx_of "Routepost" rfl (by decide) (Nat.le_of_ble_eq_true rfl) ?_
  intro pr e s m9 below meth c C0 hxt hr hH ls hl
  obtain ⟨hx, hb, hml, hown, hts, hK, hA, -⟩ := id C0
  have hl : lv_has ls 2 [(0, .ref (b 14 0)), (1, .int (x))] := hl
  have hc7 := hw.cnt6 7
  have hc8 := hw.cnt6 8
  have hc9 := hw.cnt6 9
  refine lv_aload_n hx hb dX10_isLate_0 rfl (lv_at hl 0 rfl) ?_
  refine lv_iload_n hx hb dX10_isLate_1 rfl (lv_at hl 1 rfl) ?_
  refine k_xq C0 hxt hH (k_xrunV (rest := []) C0 hH (cN_X10_parcelNumbered l hlt G A _ b _ hR hw x hX) mv_X10_parcelNumbered ml_X10_186 ci_14 (hR.kind (K := 14) (i := 0) rfl) rfl ⟨Nat.le_of_ble_eq_true rfl, Nat.le_of_ble_eq_true rfl⟩ hl.1 rfl (Nat.le_of_ble_eq_true rfl) dX10_isLate_2 ⟨Nat.le_of_ble_eq_true rfl, Nat.le_of_ble_eq_true rfl⟩) (fun _ _ z => z) (Nat.le_of_ble_eq_true rfl) (Nat.le_of_ble_eq_true rfl) (fun r_1 h1 H locs hp hH => ?_)
  obtain ⟨exr_1, er_1, eh⟩ := hp
  rw [eh] at hH
  clear eh
  have vpv_2 : vp_in (x) (npN u) := (xPa_n hw).mp exr_1
  obtain ⟨v_2, hv_2, ev_2⟩ := vp_ex vpv_2 (by have := hw.nh; have := hw.nl; have := hw.np; omega)
  have kv_2 : (x).toNatClampNeg = v_2 := by rw [ev_2]; exact nI_clamp (by have := hw.nh; have := hw.nl; have := hw.np; omega)
  rw [show dec b 9 (x) = some (b 9 v_2) from by rw [ev_2]; exact dec_nI (by have := hw.nh; have := hw.nl; have := hw.np; omega)] at er_1
  subst er_1
  refine lv_aload_n hx hb dX10_isLate_5 rfl (lv_at hl 0 rfl) ?_
  refine c_getI C0 hH hR ci_14 (i := 0) (j := 9) rfl rfl (by decide) rfl fl_X10_56 (v := u 41 0) rfl dX10_isLate_6 ?_
  refine k_i hH (k_runV (rest := []) C0 hH (cC_X5_missesPromise l G A _ b _ hR hw v_2 (u 41 0) hv_2) mv_X5_missesPromise ml_X10_249 ci_9 (hR.kind (K := 9) (i := v_2) hv_2) rfl ⟨Nat.le_of_ble_eq_true rfl, Nat.le_of_ble_eq_true rfl⟩ hl.1 rfl (Nat.le_of_ble_eq_true rfl) dX10_isLate_9 ⟨Nat.le_of_ble_eq_true rfl, Nat.le_of_ble_eq_true rfl⟩) (fun r_3 h1 H locs hp hH => ?_)
  obtain ⟨er_3, eh⟩ := hp
  rw [eh] at hH
  clear eh
  subst er_3
  refine vx_ret ?_
  have eR : (cMiss u v_2 (u 41 0) : Int32) = cMiss u x.toNatClampNeg (u 41 0) := by rw [kv_2]
  exact e_Z C0 hr cMiss_nar hH ⟨exr_1, eR, rfl⟩ (Nat.le_of_ble_eq_true rfl) (Nat.le_of_ble_eq_true rfl) dX10_isLate_12

set_option maxHeartbeats 800000 in
set_option maxRecDepth 100000 in
theorem cN_X10_at (l : Launch) (hlt : l.stackTraces = false) (G : GT) (A : Nat → Prop) (h : AH) (b : BA) (u : MM) (hR : RC G.2.2.1 h b u) (hw : WFc u) (x : Int32) (hX : xAt u x = none) : cxI l G A yX10_at cX10_at 3 (Option.some FieldType.int) 7 111 0 0 [.ref (b 14 0), .int (x)] h (fun r h' => xAt u x = none ∧ r = u 15 x.toNatClampNeg ∧ h' = h) (fun E h' => xAt u x = some E ∧ h' = h) := by
  refine cx_of "Routepost" rfl (by decide) (Nat.le_of_ble_eq_true rfl) ?_
  intro pr e s m9 below meth c C0 hxt hr hH ls hl
  obtain ⟨hx, hb, hml, hown, hts, hK, hA, -⟩ := id C0
  have hl : lv_has ls 3 [(0, .ref (b 14 0)), (1, .int (x))] := hl
  have hc7 := hw.cnt6 7
  have hc8 := hw.cnt6 8
  have hc9 := hw.cnt6 9
  refine lv_aload_n hx hb dX10_at_0 rfl (lv_at hl 0 rfl) ?_
  refine lv_iload_n hx hb dX10_at_1 rfl (lv_at hl 1 rfl) ?_
  refine k_xq C0 hxt hH (k_xrunV (rest := []) C0 hH (cN_X10_parcelNumbered l hlt G A _ b _ hR hw x (xo_no hX).1) mv_X10_parcelNumbered ml_X10_186 ci_14 (hR.kind (K := 14) (i := 0) rfl) rfl ⟨Nat.le_of_ble_eq_true rfl, Nat.le_of_ble_eq_true rfl⟩ hl.1 rfl (Nat.le_of_ble_eq_true rfl) dX10_at_2 ⟨Nat.le_of_ble_eq_true rfl, Nat.le_of_ble_eq_true rfl⟩) (fun E h9 z => ⟨by unfold xAt; exact xo_s z.1, z.2⟩) (Nat.le_of_ble_eq_true rfl) (Nat.le_of_ble_eq_true rfl) (fun r_1 h1 H locs hp hH => ?_)
  obtain ⟨exr_1, er_1, eh⟩ := hp
  rw [eh] at hH
  clear eh
  have vpv_2 : vp_in (x) (npN u) := (xPa_n hw).mp exr_1
  obtain ⟨v_2, hv_2, ev_2⟩ := vp_ex vpv_2 (by have := hw.nh; have := hw.nl; have := hw.np; omega)
  have kv_2 : (x).toNatClampNeg = v_2 := by rw [ev_2]; exact nI_clamp (by have := hw.nh; have := hw.nl; have := hw.np; omega)
  rw [show dec b 9 (x) = some (b 9 v_2) from by rw [ev_2]; exact dec_nI (by have := hw.nh; have := hw.nl; have := hw.np; omega)] at er_1
  subst er_1
  refine lv_astore_n (lv' := [(2, .ref (b 9 v_2)), (0, .ref (b 14 0)), (1, .int (x))]) hx hb dX10_at_5 rfl hl (by decide) rfl (fun ls hl => ?_)
  refine lv_aload_n hx hb dX10_at_6 rfl (lv_at hl 0 rfl) ?_
  refine c_getI C0 hH hR ci_9 (i := v_2) (j := 8) hv_2 rfl (by decide) rfl fl_X10_190 (v := u 28 v_2) rfl dX10_at_7 ?_
  refine lv_bipush (v := 116) hx hb dX10_at_10 (by decide) ?_
  refine lv_icmp_ne (tgt := 25) hx hb dX10_at_12 (by decide) (fun c12_3 => ?_) (fun c12_3 => ?_)
  · refine lv_aload_n hx hb dX10_at_25 rfl (lv_at hl 0 rfl) ?_
    obtain ⟨v_4, hv_4, ev_4⟩ := hw.exH (show vp_in (u 15 v_2) _ from (hw.pa hv_2).2.2)
    have kv_4 : (u 15 v_2).toNatClampNeg = v_4 := by rw [ev_4]; exact nI_clamp (by have := hw.nh; have := hw.np; omega)
    refine c_getR C0 hH hR ci_9 (i := v_2) (j := 7) hv_2 rfl (by decide) rfl fl_X10_196 (v := some (b 7 v_4)) (show dec b 7 (u 15 v_2) = some (b 7 v_4) from by rw [show u 15 v_2 = nI v_4 from Eq.trans rfl ev_4]; exact dec_nI (by have := hc7; have := (show v_4 < cnt u 7 from hv_4); omega)) dX10_at_26 ?_
    refine c_getI C0 hH hR ci_7 (i := v_4) (j := 0) hv_4 rfl (by decide) rfl fl_X10_97 (v := u 15 v_2) ev_4.symm dX10_at_29 ?_
    refine vx_ret ?_
    have eR : (u 15 v_2 : Int32) = u 15 x.toNatClampNeg := by rw [kv_2]
    exact e_I C0 hr hH ⟨(by unfold xAt; rw [xo_n exr_1]; simp [kv_2, kv_4, eq_false c12_3]), eR, rfl⟩ (Nat.le_of_ble_eq_true rfl) (Nat.le_of_ble_eq_true rfl) dX10_at_32
  · exact absurd (hX.symm.trans (show xAt u x = some iseC from (by unfold xAt; rw [xo_n exr_1]; simp [kv_2, eq_true c12_3] <;> rfl))) (fun z => nomatch z)
set_option maxHeartbeats 800000 in
set_option maxRecDepth 100000 in
theorem cN_X10_rides (l : Launch) (hlt : l.stackTraces = false) (G : GT) (A : Nat → Prop) (h : AH) (b : BA) (u : MM) (hR : RC G.2.2.1 h b u) (hw : WFc u) (x : Int32) (hX : xRd u x = none) : cxI l G A yX10_rides cX10_rides 4 (Option.some FieldType.int) 7 111 0 0 [.ref (b 14 0), .int (x)] h (fun r h' => xRd u x = none ∧ r = u 116 x.toNatClampNeg ∧ h' = h) (fun E h' => xRd u x = some E ∧ h' = h) := by
  refine cx_of "Routepost" rfl (by decide) (Nat.le_of_ble_eq_true rfl) ?_
  intro pr e s m9 below meth c C0 hxt hr hH ls hl
  obtain ⟨hx, hb, hml, hown, hts, hK, hA, -⟩ := id C0
  have hl : lv_has ls 4 [(0, .ref (b 14 0)), (1, .int (x))] := hl
  have hc7 := hw.cnt6 7
  have hc8 := hw.cnt6 8
  have hc9 := hw.cnt6 9
  refine lv_aload_n hx hb dX10_rides_0 rfl (lv_at hl 0 rfl) ?_
  refine lv_iload_n hx hb dX10_rides_1 rfl (lv_at hl 1 rfl) ?_
  refine k_xq C0 hxt hH (k_xrunV (rest := []) C0 hH (cN_X10_parcelNumbered l hlt G A _ b _ hR hw x (xo_no hX).1) mv_X10_parcelNumbered ml_X10_186 ci_14 (hR.kind (K := 14) (i := 0) rfl) rfl ⟨Nat.le_of_ble_eq_true rfl, Nat.le_of_ble_eq_true rfl⟩ hl.1 rfl (Nat.le_of_ble_eq_true rfl) dX10_rides_2 ⟨Nat.le_of_ble_eq_true rfl, Nat.le_of_ble_eq_true rfl⟩) (fun E h9 z => ⟨by unfold xRd; exact xo_s z.1, z.2⟩) (Nat.le_of_ble_eq_true rfl) (Nat.le_of_ble_eq_true rfl) (fun r_1 h1 H locs hp hH => ?_)
  obtain ⟨exr_1, er_1, eh⟩ := hp
  rw [eh] at hH
  clear eh
  have vpv_2 : vp_in (x) (npN u) := (xPa_n hw).mp exr_1
  obtain ⟨v_2, hv_2, ev_2⟩ := vp_ex vpv_2 (by have := hw.nh; have := hw.nl; have := hw.np; omega)
  have kv_2 : (x).toNatClampNeg = v_2 := by rw [ev_2]; exact nI_clamp (by have := hw.nh; have := hw.nl; have := hw.np; omega)
  rw [show dec b 9 (x) = some (b 9 v_2) from by rw [ev_2]; exact dec_nI (by have := hw.nh; have := hw.nl; have := hw.np; omega)] at er_1
  subst er_1
  refine lv_astore_n (lv' := [(2, .ref (b 9 v_2)), (0, .ref (b 14 0)), (1, .int (x))]) hx hb dX10_rides_5 rfl hl (by decide) rfl (fun ls hl => ?_)
  refine lv_aload_n hx hb dX10_rides_6 rfl (lv_at hl 0 rfl) ?_
  refine c_getR C0 hH hR ci_9 (i := v_2) (j := 9) hv_2 rfl (by decide) rfl fl_X10_243 (v := dec b 8 (u 116 v_2)) (show dec b 8 (u 116 v_2) = dec b 8 (u 116 v_2) from congrArg _ rfl) dX10_rides_7 ?_
  refine o_astore_n_q (lv' := [(3, va_rf (dec b 8 (u 116 v_2))), (2, .ref (b 9 v_2)), (0, .ref (b 14 0)), (1, .int (x))]) hx hb dX10_rides_10 rfl hl (by decide) rfl (fun ls hl => ?_)
  refine lv_aload_n hx hb dX10_rides_11 rfl (lv_at hl 1 rfl) ?_
  refine c_getI C0 hH hR ci_9 (i := v_2) (j := 8) hv_2 rfl (by decide) rfl fl_X10_190 (v := u 28 v_2) rfl dX10_rides_12 ?_
  refine lv_bipush (v := 116) hx hb dX10_rides_15 (by decide) ?_
  refine lv_icmp_ne (tgt := 24) hx hb dX10_rides_17 (by decide) (fun c17_3 => ?_) (fun c17_3 => ?_)
  · exact absurd (hX.symm.trans (show xRd u x = some iseC from (by unfold xRd; rw [xo_n exr_1]; simp [kv_2, eq_false c17_3] <;> rfl))) (fun z => nomatch z)
  · refine o_aload_n_q hx hb dX10_rides_20 rfl (lv_at hl 0 rfl) ?_
    rcases (show u 116 v_2 = -1 ∨ ∃ v, v < nlN u ∧ u 116 v_2 = nI v from hw.exL (hw.rg (k := 116) (by decide) v_2)) with es_4 | ⟨s_4, hs_4, es_4⟩
    · have eds_4 : dec b 8 (u 116 v_2) = none := by rw [es_4]; exact dec_m1
      rw [eds_4]
      rw [eds_4] at hl
      refine lv_ifnonnullN hx hb dX10_rides_21 ?_
      exact absurd (hX.symm.trans (show xRd u x = some iseC from (by unfold xRd; rw [xo_n exr_1]; simp [kv_2, eq_true c17_3, eq_true es_4] <;> rfl))) (fun z => nomatch z)
    · have eds_4 : dec b 8 (u 116 v_2) = some (b 8 s_4) := by rw [es_4]; exact dec_nI (by have := hc8; have h9 : s_4 < cnt u 8 := hs_4; omega)
      have ks_4 : (u 116 v_2).toNatClampNeg = s_4 := by rw [es_4]; exact nI_clamp (by have := hc8; have h9 : s_4 < cnt u 8 := hs_4; omega)
      have ns_4 : ¬ (u 116 v_2) = -1 := by rw [es_4]; exact nI_nm (by have := hc8; have h9 : s_4 < cnt u 8 := hs_4; omega)
      rw [eds_4]
      rw [eds_4] at hl
      refine lv_ifnonnull (tgt := 34) hx hb dX10_rides_21 (by decide) ?_
      refine lv_aload_n hx hb dX10_rides_34 rfl (lv_at hl 0 rfl) ?_
      refine c_getI C0 hH hR ci_8 (i := s_4) (j := 0) hs_4 rfl (by decide) rfl fl_X10_118 (v := u 116 v_2) es_4.symm dX10_rides_35 ?_
      refine vx_ret ?_
      have eR : (u 116 v_2 : Int32) = u 116 x.toNatClampNeg := by rw [kv_2]
      exact e_I C0 hr hH ⟨(by unfold xRd; rw [xo_n exr_1]; simp [kv_2, ks_4, eq_true c17_3, eq_false ns_4]), eR, rfl⟩ (Nat.le_of_ble_eq_true rfl) (Nat.le_of_ble_eq_true rfl) dX10_rides_38
set_option maxHeartbeats 800000 in
set_option maxRecDepth 100000 in
theorem cN_X10_nextLine (l : Launch) (hlt : l.stackTraces = false) (G : GT) (A : Nat → Prop) (h : AH) (b : BA) (u : MM) (hR : RC G.2.2.1 h b u) (hw : WFc u) (x : Int32) (hX : xSc u x = none) : cxI l G A yX10_nextLine cX10_nextLine 2 (Option.some FieldType.int) 8 133 0 0 [.ref (b 14 0), .int (x)] h (fun r h' => xSc u x = none ∧ r = u 19 x.toNatClampNeg ∧ h' = h) (fun E h' => xSc u x = some E ∧ h' = h) := by
  refine cx_of "Routepost" rfl (by decide) (Nat.le_of_ble_eq_true rfl) ?_
  intro pr e s m9 below meth c C0 hxt hr hH ls hl
  obtain ⟨hx, hb, hml, hown, hts, hK, hA, -⟩ := id C0
  have hl : lv_has ls 2 [(0, .ref (b 14 0)), (1, .int (x))] := hl
  have hc7 := hw.cnt6 7
  have hc8 := hw.cnt6 8
  have hc9 := hw.cnt6 9
  refine lv_aload_n hx hb dX10_nextLine_0 rfl (lv_at hl 0 rfl) ?_
  refine lv_iload_n hx hb dX10_nextLine_1 rfl (lv_at hl 1 rfl) ?_
  refine k_xq C0 hxt hH (k_xrunV (rest := []) C0 hH (cN_X10_scannedParcel l hlt G A _ b _ hR hw x hX) mv_X10_scannedParcel ml_X10_219 ci_14 (hR.kind (K := 14) (i := 0) rfl) rfl ⟨Nat.le_of_ble_eq_true rfl, Nat.le_of_ble_eq_true rfl⟩ hl.1 rfl (Nat.le_of_ble_eq_true rfl) dX10_nextLine_2 ⟨Nat.le_of_ble_eq_true rfl, Nat.le_of_ble_eq_true rfl⟩) (fun _ _ z => z) (Nat.le_of_ble_eq_true rfl) (Nat.le_of_ble_eq_true rfl) (fun r_1 h1 H locs hp hH => ?_)
  obtain ⟨exr_1, er_1, eh⟩ := hp
  rw [eh] at hH
  clear eh
  have vpv_2 : vp_in (x) (npN u) := xSc_vp hw exr_1
  obtain ⟨v_2, hv_2, ev_2⟩ := vp_ex vpv_2 (by have := hw.nh; have := hw.nl; have := hw.np; omega)
  have kv_2 : (x).toNatClampNeg = v_2 := by rw [ev_2]; exact nI_clamp (by have := hw.nh; have := hw.nl; have := hw.np; omega)
  rw [show dec b 9 (x) = some (b 9 v_2) from by rw [ev_2]; exact dec_nI (by have := hw.nh; have := hw.nl; have := hw.np; omega)] at er_1
  subst er_1
  refine c_getR C0 hH hR ci_9 (i := v_2) (j := 10) hv_2 rfl (by decide) rfl fl_X10_261 (v := dec b 8 (u 19 v_2)) (show dec b 8 (u 19 v_2) = dec b 8 (u 19 v_2) from congrArg _ rfl) dX10_nextLine_5 ?_
  refine k_i hH (k_runS (rest := []) C0 hH (cC_X10_numberOf_ l G A _ b _ hR hw (u 19 v_2) (hw.exL (hw.rg (k := 19) (by decide) _))) mv_X10_numberOf_ ml_X10_264 rfl ⟨Nat.le_of_ble_eq_true rfl, Nat.le_of_ble_eq_true rfl⟩ hl.1 rfl (Nat.le_of_ble_eq_true rfl) dX10_nextLine_8 ⟨Nat.le_of_ble_eq_true rfl, Nat.le_of_ble_eq_true rfl⟩) (fun r_3 h1 H locs hp hH => ?_)
  obtain ⟨er_3, eh⟩ := hp
  rw [eh] at hH
  clear eh
  subst er_3
  refine vx_ret ?_
  have eR : ((u 19 v_2) : Int32) = u 19 x.toNatClampNeg := by rw [kv_2]
  exact e_I C0 hr hH ⟨exr_1, eR, rfl⟩ (Nat.le_of_ble_eq_true rfl) (Nat.le_of_ble_eq_true rfl) dX10_nextLine_11
set_option maxHeartbeats 800000 in
set_option maxRecDepth 100000 in
theorem cN_X10_nextDeparture (l : Launch) (hlt : l.stackTraces = false) (G : GT) (A : Nat → Prop) (h : AH) (b : BA) (u : MM) (hR : RC G.2.2.1 h b u) (hw : WFc u) (x : Int32) (hX : xOpn u x = none) : cxI l G A yX10_nextDeparture cX10_nextDeparture 2 (Option.some FieldType.int) 8 133 0 0 [.ref (b 14 0), .int (x)] h (fun r h' => xOpn u x = none ∧ r = cDep u x.toNatClampNeg (u 41 0 + 1) ∧ h' = h) (fun E h' => xOpn u x = some E ∧ h' = h) := by
  refine cx_of "Routepost" rfl (by decide) (Nat.le_of_ble_eq_true rfl) ?_
  intro pr e s m9 below meth c C0 hxt hr hH ls hl
  obtain ⟨hx, hb, hml, hown, hts, hK, hA, -⟩ := id C0
  have hl : lv_has ls 2 [(0, .ref (b 14 0)), (1, .int (x))] := hl
  have hc7 := hw.cnt6 7
  have hc8 := hw.cnt6 8
  have hc9 := hw.cnt6 9
  refine lv_aload_n hx hb dX10_nextDeparture_0 rfl (lv_at hl 0 rfl) ?_
  refine lv_iload_n hx hb dX10_nextDeparture_1 rfl (lv_at hl 1 rfl) ?_
  refine k_xq C0 hxt hH (k_xrunV (rest := []) C0 hH (cN_X10_openLineNumbered l hlt G A _ b _ hR hw x hX) mv_X10_openLineNumbered ml_X10_119 ci_14 (hR.kind (K := 14) (i := 0) rfl) rfl ⟨Nat.le_of_ble_eq_true rfl, Nat.le_of_ble_eq_true rfl⟩ hl.1 rfl (Nat.le_of_ble_eq_true rfl) dX10_nextDeparture_2 ⟨Nat.le_of_ble_eq_true rfl, Nat.le_of_ble_eq_true rfl⟩) (fun _ _ z => z) (Nat.le_of_ble_eq_true rfl) (Nat.le_of_ble_eq_true rfl) (fun r_1 h1 H locs hp hH => ?_)
  obtain ⟨exr_1, er_1, eh⟩ := hp
  rw [eh] at hH
  clear eh
  have vpv_2 : vp_in (x) (nlN u) := xOpn_vp hw exr_1
  obtain ⟨v_2, hv_2, ev_2⟩ := vp_ex vpv_2 (by have := hw.nh; have := hw.nl; have := hw.np; omega)
  have kv_2 : (x).toNatClampNeg = v_2 := by rw [ev_2]; exact nI_clamp (by have := hw.nh; have := hw.nl; have := hw.np; omega)
  rw [show dec b 8 (x) = some (b 8 v_2) from by rw [ev_2]; exact dec_nI (by have := hw.nh; have := hw.nl; have := hw.np; omega)] at er_1
  subst er_1
  refine lv_aload_n hx hb dX10_nextDeparture_5 rfl (lv_at hl 0 rfl) ?_
  refine c_getI C0 hH hR ci_14 (i := 0) (j := 9) rfl rfl (by decide) rfl fl_X10_56 (v := u 41 0) rfl dX10_nextDeparture_6 ?_
  refine lv_iconst (v := 1) hx hb dX10_nextDeparture_9 (by decide) ?_
  refine lv_iadd hx hb dX10_nextDeparture_10 ?_
  refine k_i hH (k_runV (rest := []) C0 hH (cC_X4_departureFrom l G A _ b _ hR hw v_2 ((u 41 0) + 1) hv_2) mv_X4_departureFrom ml_X10_154 ci_8 (hR.kind (K := 8) (i := v_2) hv_2) rfl ⟨Nat.le_of_ble_eq_true rfl, Nat.le_of_ble_eq_true rfl⟩ hl.1 rfl (Nat.le_of_ble_eq_true rfl) dX10_nextDeparture_11 ⟨Nat.le_of_ble_eq_true rfl, Nat.le_of_ble_eq_true rfl⟩) (fun r_3 h1 H locs hp hH => ?_)
  obtain ⟨er_3, eh⟩ := hp
  rw [eh] at hH
  clear eh
  subst er_3
  refine vx_ret ?_
  have eR : (cDep u v_2 ((u 41 0) + 1) : Int32) = cDep u x.toNatClampNeg (u 41 0 + 1) := by rw [kv_2]
  exact e_I C0 hr hH ⟨exr_1, eR, rfl⟩ (Nat.le_of_ble_eq_true rfl) (Nat.le_of_ble_eq_true rfl) dX10_nextDeparture_14
set_option maxHeartbeats 800000 in
set_option maxRecDepth 100000 in
theorem cN_X10_waiting (l : Launch) (hlt : l.stackTraces = false) (G : GT) (A : Nat → Prop) (h : AH) (b : BA) (u : MM) (hR : RC G.2.2.1 h b u) (hw : WFc u) (x : Int32) (hX : xLn u x = none) : cxI l G A yX10_waiting cX10_waiting 2 (Option.some FieldType.int) 7 111 0 0 [.ref (b 14 0), .int (x)] h (fun r h' => xLn u x = none ∧ r = cCw u x ∧ h' = h) (fun E h' => xLn u x = some E ∧ h' = h) := by
  refine cx_of "Routepost" rfl (by decide) (Nat.le_of_ble_eq_true rfl) ?_
  intro pr e s m9 below meth c C0 hxt hr hH ls hl
  obtain ⟨hx, hb, hml, hown, hts, hK, hA, -⟩ := id C0
  have hl : lv_has ls 2 [(0, .ref (b 14 0)), (1, .int (x))] := hl
  have hc7 := hw.cnt6 7
  have hc8 := hw.cnt6 8
  have hc9 := hw.cnt6 9
  refine lv_aload_n hx hb dX10_waiting_0 rfl (lv_at hl 0 rfl) ?_
  refine lv_aload_n hx hb dX10_waiting_1 rfl (lv_at hl 0 rfl) ?_
  refine lv_iload_n hx hb dX10_waiting_2 rfl (lv_at hl 1 rfl) ?_
  refine k_xq C0 hxt hH (k_xrunV (rest := [.ref (b 14 0)]) C0 hH (cN_X10_lineNumbered l hlt G A _ b _ hR hw x hX) mv_X10_lineNumbered ml_X10_299 ci_14 (hR.kind (K := 14) (i := 0) rfl) rfl ⟨Nat.le_of_ble_eq_true rfl, Nat.le_of_ble_eq_true rfl⟩ hl.1 rfl (Nat.le_of_ble_eq_true rfl) dX10_waiting_3 ⟨Nat.le_of_ble_eq_true rfl, Nat.le_of_ble_eq_true rfl⟩) (fun _ _ z => z) (Nat.le_of_ble_eq_true rfl) (Nat.le_of_ble_eq_true rfl) (fun r_1 h1 H locs hp hH => ?_)
  obtain ⟨exr_1, er_1, eh⟩ := hp
  rw [eh] at hH
  clear eh
  have vpv_2 : vp_in (x) (nlN u) := (xLn_n hw).mp exr_1
  obtain ⟨v_2, hv_2, ev_2⟩ := vp_ex vpv_2 (by have := hw.nh; have := hw.nl; have := hw.np; omega)
  have kv_2 : (x).toNatClampNeg = v_2 := by rw [ev_2]; exact nI_clamp (by have := hw.nh; have := hw.nl; have := hw.np; omega)
  rw [show dec b 8 (x) = some (b 8 v_2) from by rw [ev_2]; exact dec_nI (by have := hw.nh; have := hw.nl; have := hw.np; omega)] at er_1
  subst er_1
  refine k_i hH (k_runV (rest := []) C0 hH (cC_X10_countWaiting l G A _ b _ hR hw v_2 hv_2) mv_X10_countWaiting ml_X10_123 ci_14 (hR.kind (K := 14) (i := 0) rfl) rfl ⟨Nat.le_of_ble_eq_true rfl, Nat.le_of_ble_eq_true rfl⟩ hl.1 rfl (Nat.le_of_ble_eq_true rfl) dX10_waiting_6 ⟨Nat.le_of_ble_eq_true rfl, Nat.le_of_ble_eq_true rfl⟩) (fun r_3 h1 H locs hp hH => ?_)
  obtain ⟨er_3, eh⟩ := hp
  rw [eh] at hH
  clear eh
  rw [← ev_2] at er_3
  subst er_3
  refine vx_ret ?_
  have eR : (cCw u (x) : Int32) = cCw u x := rfl
  exact e_I C0 hr hH ⟨exr_1, eR, rfl⟩ (Nat.le_of_ble_eq_true rfl) (Nat.le_of_ble_eq_true rfl) dX10_waiting_9
set_option maxHeartbeats 800000 in
set_option maxRecDepth 100000 in
theorem cN_X10_bags (l : Launch) (hlt : l.stackTraces = false) (G : GT) (A : Nat → Prop) (h : AH) (b : BA) (u : MM) (hR : RC G.2.2.1 h b u) (hw : WFc u) (x : Int32) (hX : xLn u x = none) : cxI l G A yX10_bags cX10_bags 2 (Option.some FieldType.int) 7 111 0 0 [.ref (b 14 0), .int (x)] h (fun r h' => xLn u x = none ∧ r = u 8 x.toNatClampNeg ∧ h' = h) (fun E h' => xLn u x = some E ∧ h' = h) := by
  refine cx_of "Routepost" rfl (by decide) (Nat.le_of_ble_eq_true rfl) ?_
  intro pr e s m9 below meth c C0 hxt hr hH ls hl
  obtain ⟨hx, hb, hml, hown, hts, hK, hA, -⟩ := id C0
  have hl : lv_has ls 2 [(0, .ref (b 14 0)), (1, .int (x))] := hl
  have hc7 := hw.cnt6 7
  have hc8 := hw.cnt6 8
  have hc9 := hw.cnt6 9
  refine lv_aload_n hx hb dX10_bags_0 rfl (lv_at hl 0 rfl) ?_
  refine lv_iload_n hx hb dX10_bags_1 rfl (lv_at hl 1 rfl) ?_
  refine k_xq C0 hxt hH (k_xrunV (rest := []) C0 hH (cN_X10_lineNumbered l hlt G A _ b _ hR hw x hX) mv_X10_lineNumbered ml_X10_299 ci_14 (hR.kind (K := 14) (i := 0) rfl) rfl ⟨Nat.le_of_ble_eq_true rfl, Nat.le_of_ble_eq_true rfl⟩ hl.1 rfl (Nat.le_of_ble_eq_true rfl) dX10_bags_2 ⟨Nat.le_of_ble_eq_true rfl, Nat.le_of_ble_eq_true rfl⟩) (fun _ _ z => z) (Nat.le_of_ble_eq_true rfl) (Nat.le_of_ble_eq_true rfl) (fun r_1 h1 H locs hp hH => ?_)
  obtain ⟨exr_1, er_1, eh⟩ := hp
  rw [eh] at hH
  clear eh
  have vpv_2 : vp_in (x) (nlN u) := (xLn_n hw).mp exr_1
  obtain ⟨v_2, hv_2, ev_2⟩ := vp_ex vpv_2 (by have := hw.nh; have := hw.nl; have := hw.np; omega)
  have kv_2 : (x).toNatClampNeg = v_2 := by rw [ev_2]; exact nI_clamp (by have := hw.nh; have := hw.nl; have := hw.np; omega)
  rw [show dec b 8 (x) = some (b 8 v_2) from by rw [ev_2]; exact dec_nI (by have := hw.nh; have := hw.nl; have := hw.np; omega)] at er_1
  subst er_1
  refine c_getR C0 hH hR ci_8 (i := v_2) (j := 4) hv_2 rfl (by decide) rfl fl_X10_322 (v := some (b 4 v_2)) rfl dX10_bags_5 ?_
  refine c_getI C0 hH hR ci_4 (i := v_2) (j := 2) (Or.inl hv_2) rfl (by decide) rfl fl_X10_315 (v := u 8 v_2) rfl dX10_bags_8 ?_
  refine vx_ret ?_
  have eR : (u 8 v_2 : Int32) = u 8 x.toNatClampNeg := by rw [kv_2]
  exact e_I C0 hr hH ⟨exr_1, eR, rfl⟩ (Nat.le_of_ble_eq_true rfl) (Nat.le_of_ble_eq_true rfl) dX10_bags_11
set_option maxHeartbeats 800000 in
set_option maxRecDepth 100000 in
theorem cN_X10_riding (l : Launch) (hlt : l.stackTraces = false) (G : GT) (A : Nat → Prop) (h : AH) (b : BA) (u : MM) (hR : RC G.2.2.1 h b u) (hw : WFc u) (x : Int32) (hX : xLn u x = none) : cxI l G A yX10_riding cX10_riding 6 (Option.some FieldType.int) 7 111 0 0 [.ref (b 14 0), .int (x)] h (fun r h' => xLn u x = none ∧ r = cRdL u x (npN u) 0 0 ∧ h' = h) (fun E h' => xLn u x = some E ∧ h' = h) := by
  refine cx_of "Routepost" rfl (by decide) (Nat.le_of_ble_eq_true rfl) ?_
  intro pr e s m9 below meth c C0 hxt hr hH ls hl
  obtain ⟨hx, hb, hml, hown, hts, hK, hA, -⟩ := id C0
  have hl : lv_has ls 6 [(0, .ref (b 14 0)), (1, .int (x))] := hl
  have hc7 := hw.cnt6 7
  have hc8 := hw.cnt6 8
  have hc9 := hw.cnt6 9
  refine lv_aload_n hx hb dX10_riding_0 rfl (lv_at hl 0 rfl) ?_
  refine lv_iload_n hx hb dX10_riding_1 rfl (lv_at hl 1 rfl) ?_
  refine k_xq C0 hxt hH (k_xrunV (rest := []) C0 hH (cN_X10_lineNumbered l hlt G A _ b _ hR hw x hX) mv_X10_lineNumbered ml_X10_299 ci_14 (hR.kind (K := 14) (i := 0) rfl) rfl ⟨Nat.le_of_ble_eq_true rfl, Nat.le_of_ble_eq_true rfl⟩ hl.1 rfl (Nat.le_of_ble_eq_true rfl) dX10_riding_2 ⟨Nat.le_of_ble_eq_true rfl, Nat.le_of_ble_eq_true rfl⟩) (fun _ _ z => z) (Nat.le_of_ble_eq_true rfl) (Nat.le_of_ble_eq_true rfl) (fun r_1 h1 H locs hp hH => ?_)
  obtain ⟨exr_1, er_1, eh⟩ := hp
  rw [eh] at hH
  clear eh
  have vpv_2 : vp_in (x) (nlN u) := (xLn_n hw).mp exr_1
  obtain ⟨v_2, hv_2, ev_2⟩ := vp_ex vpv_2 (by have := hw.nh; have := hw.nl; have := hw.np; omega)
  have kv_2 : (x).toNatClampNeg = v_2 := by rw [ev_2]; exact nI_clamp (by have := hw.nh; have := hw.nl; have := hw.np; omega)
  rw [show dec b 8 (x) = some (b 8 v_2) from by rw [ev_2]; exact dec_nI (by have := hw.nh; have := hw.nl; have := hw.np; omega)] at er_1
  subst er_1
  refine lv_astore_n (lv' := [(2, .ref (b 8 v_2)), (0, .ref (b 14 0)), (1, .int (x))]) hx hb dX10_riding_5 rfl hl (by decide) rfl (fun ls hl => ?_)
  refine lv_iconst (v := 0) hx hb dX10_riding_6 (by decide) ?_
  refine lv_istore_n (lv' := [(3, .int (0)), (2, .ref (b 8 v_2)), (0, .ref (b 14 0)), (1, .int (x))]) hx hb dX10_riding_7 rfl hl (by decide) rfl (fun ls hl => ?_)
  refine lv_iconst (v := 0) hx hb dX10_riding_8 (by decide) ?_
  refine lv_istore (lv' := [(4, .int (0)), (3, .int (0)), (2, .ref (b 8 v_2)), (0, .ref (b 14 0)), (1, .int (x))]) hx hb dX10_riding_9 hl (by decide) rfl (fun ls hl => ?_)
  have K : ∀ (k : Nat) (p : Nat) (n0 : Int32), p + k = npN u → cRdL u x k p n0 = cRdL u x (npN u) 0 0 → ∀ (H : Heap) (locs : List Loc) (hH : HS G.1 G.2.1 A s.heap h H locs) (ls : Array Slot), lv_has ls 6 [(4, .int (nI p)), (3, .int (n0)), (0, .ref (b 14 0)), (2, .ref (b 8 v_2))] → W pr l e (rmm 7 111 0 0) s m9 ([.ref (b 14 0), .int (x)] : List Value).toArray below meth c H locs (0 + 0) (0 + 0) (vx_MQ below (va_Qi (fun r h' => xLn u x = none ∧ r = cRdL u x (npN u) 0 0 ∧ h' = h) (fun h' t => HW G.1 G.2.1 A h' t.heap) A) (xcP G A (fun E h' => xLn u x = some E ∧ h' = h)) ([.ref (b 14 0), .int (x)] : List Value).toArray s 0 0 A) (F0 m9 11 ls []) := by
    intro k
    induction k with
    | zero =>
      intro p n0 hik hT H locs hH ls hl
      refine lv_iload hx hb dX10_riding_11 (lv_at hl 0 rfl) ?_
      refine lv_aload_n hx hb dX10_riding_13 rfl (lv_at hl 2 rfl) ?_
      refine c_getR C0 hH hR ci_14 (i := 0) (j := 2) rfl rfl (by decide) rfl fl_X10_19 (v := some (b 3 2)) rfl dX10_riding_14 ?_
      refine k_i hH (k_runV (rest := [.int (nI p)]) C0 hH (cL_size l G A _ b _ hR hw 2 (show 2 < 6 + npN _ by omega)) mv_Jx4a65c_size_8abf5 ml_X10_79 ci_3 (hR.kind (K := 3) (i := 2) (show 2 < 6 + npN _ by omega)) rfl ⟨Nat.le_of_ble_eq_true rfl, Nat.le_of_ble_eq_true rfl⟩ hl.1 rfl (Nat.le_of_ble_eq_true rfl) dX10_riding_17 ⟨Nat.le_of_ble_eq_true rfl, Nat.le_of_ble_eq_true rfl⟩) (fun r9 h1 H locs hp hH => ?_)
      obtain ⟨er9, eh⟩ := hp
      rw [eh] at hH
      clear eh
      rw [hw.sz2] at er9
      subst er9
      refine lv_icmp_ge (tgt := 65) hx hb dX10_riding_20 (by decide) (fun c20_3 => ?_) (fun c20_3 => ?_)
      · refine lv_iload_n hx hb dX10_riding_65 rfl (lv_at hl 1 rfl) ?_
        refine vx_ret ?_
        have eR : (n0 : Int32) = cRdL u x (npN u) 0 0 := hT
        exact e_I C0 hr hH ⟨exr_1, eR, rfl⟩ (Nat.le_of_ble_eq_true rfl) (Nat.le_of_ble_eq_true rfl) dX10_riding_66
      · exact absurd (by rw [show p = npN u by omega]; exact Int32.le_refl _) c20_3
    | succ k ih =>
      intro p n0 hik hT H locs hH ls hl
      refine lv_iload hx hb dX10_riding_11 (lv_at hl 0 rfl) ?_
      refine lv_aload_n hx hb dX10_riding_13 rfl (lv_at hl 2 rfl) ?_
      refine c_getR C0 hH hR ci_14 (i := 0) (j := 2) rfl rfl (by decide) rfl fl_X10_19 (v := some (b 3 2)) rfl dX10_riding_14 ?_
      refine k_i hH (k_runV (rest := [.int (nI p)]) C0 hH (cL_size l G A _ b _ hR hw 2 (show 2 < 6 + npN _ by omega)) mv_Jx4a65c_size_8abf5 ml_X10_79 ci_3 (hR.kind (K := 3) (i := 2) (show 2 < 6 + npN _ by omega)) rfl ⟨Nat.le_of_ble_eq_true rfl, Nat.le_of_ble_eq_true rfl⟩ hl.1 rfl (Nat.le_of_ble_eq_true rfl) dX10_riding_17 ⟨Nat.le_of_ble_eq_true rfl, Nat.le_of_ble_eq_true rfl⟩) (fun r9 h1 H locs hp hH => ?_)
      obtain ⟨er9, eh⟩ := hp
      rw [eh] at hH
      clear eh
      rw [hw.sz2] at er9
      subst er9
      refine lv_icmp_ge (tgt := 65) hx hb dX10_riding_20 (by decide) (fun c20_4 => ?_) (fun c20_4 => ?_)
      · exact absurd c20_4 (nI_ge (show p < npN u by omega) (by have := hw.nh; have := hw.nl; have := hw.np; omega))
      · refine lv_aload_n hx hb dX10_riding_23 rfl (lv_at hl 2 rfl) ?_
        refine c_getR C0 hH hR ci_14 (i := 0) (j := 2) rfl rfl (by decide) rfl fl_X10_19 (v := some (b 3 2)) rfl dX10_riding_24 ?_
        refine lv_iload hx hb dX10_riding_27 (lv_at hl 0 rfl) ?_
        refine k_q hH (k_runV (rest := []) C0 hH (cL_get l G A _ b _ hR hw 2 p (show 2 < 6 + npN _ by omega) (by rw [hw.sz2]; omega) (a := b 9 p) rfl) mv_Jx4a65c_get_915e3 ml_X10_143 ci_3 (hR.kind (K := 3) (i := 2) (show 2 < 6 + npN _ by omega)) rfl ⟨Nat.le_of_ble_eq_true rfl, Nat.le_of_ble_eq_true rfl⟩ hl.1 rfl (Nat.le_of_ble_eq_true rfl) dX10_riding_29 ⟨Nat.le_of_ble_eq_true rfl, Nat.le_of_ble_eq_true rfl⟩) (fun r9 h1 H locs hp hH => ?_)
        obtain ⟨er9, eh⟩ := hp
        rw [eh] at hH
        clear eh
        subst er9
        refine k_chk C0 hH ci_9 (hR.kind (K := 9) (i := p) (show p < npN u by omega)) cl_X10_162 dX10_riding_32 ?_
        refine lv_astore (lv' := [(5, .ref (b 9 p)), (4, .int (nI p)), (3, .int (n0)), (0, .ref (b 14 0)), (2, .ref (b 8 v_2))]) hx hb dX10_riding_35 hl (by decide) rfl (fun ls hl => ?_)
        refine lv_aload hx hb dX10_riding_37 (lv_at hl 0 rfl) ?_
        refine c_getI C0 hH hR ci_9 (i := p) (j := 8) (show p < npN u by omega) rfl (by decide) rfl fl_X10_190 (v := u 28 p) rfl dX10_riding_39 ?_
        refine lv_bipush (v := 116) hx hb dX10_riding_42 (by decide) ?_
        refine lv_icmp_ne (tgt := 59) hx hb dX10_riding_44 (by decide) (fun c44_5 => ?_) (fun c44_5 => ?_)
        · refine lv_iinc (v := nI (p + 1)) (lv' := [(4, .int (nI (p + 1))), (5, .ref (b 9 p)), (3, .int (n0)), (0, .ref (b 14 0)), (2, .ref (b 8 v_2))]) hx hb dX10_riding_59 hl (k := 1) rfl (by rw [← nI_1]; rfl) (by decide) rfl (fun ls hl => ?_)
          refine lv_goto (tgt := 11) hx hb dX10_riding_62 (by decide) ?_
          exact ih (p + 1) n0 (by omega) (by rw [← hT]; simp [cRdL, kv_2, c20_4, Int32.not_le.mp c20_4, eq_false c44_5]) _ _ hH ls (lv_sub hl [0, 2, 3, 4] rfl)
        · refine lv_aload hx hb dX10_riding_47 (lv_at hl 0 rfl) ?_
          refine c_getR C0 hH hR ci_9 (i := p) (j := 9) (show p < npN u by omega) rfl (by decide) rfl fl_X10_243 (v := dec b 8 (u 116 p)) (show dec b 8 (u 116 p) = dec b 8 (u 116 p) from congrArg _ rfl) dX10_riding_49 ?_
          refine lv_aload_n hx hb dX10_riding_52 rfl (lv_at hl 4 rfl) ?_
          refine lv_acmp_ne (rx := dec b 8 (u 116 p)) (ry := some (b 8 v_2)) (tgt := 59) hx hb dX10_riding_53 (by decide) (fun c53_6 => ?_) (fun c53_6 => ?_)
          · rw [hR.acQ hw (T := 8) (by omega) (hw.rg (k := 116) (by decide) p) hv_2] at c53_6
            rw [← ev_2] at c53_6
            refine lv_iinc (v := nI (p + 1)) (lv' := [(4, .int (nI (p + 1))), (5, .ref (b 9 p)), (3, .int (n0)), (0, .ref (b 14 0)), (2, .ref (b 8 v_2))]) hx hb dX10_riding_59 hl (k := 1) rfl (by rw [← nI_1]; rfl) (by decide) rfl (fun ls hl => ?_)
            refine lv_goto (tgt := 11) hx hb dX10_riding_62 (by decide) ?_
            exact ih (p + 1) n0 (by omega) (by rw [← hT]; simp [cRdL, kv_2, c20_4, Int32.not_le.mp c20_4, eq_true c44_5, eq_false c53_6]) _ _ hH ls (lv_sub hl [0, 2, 3, 4] rfl)
          · rw [hR.acQ hw (T := 8) (by omega) (hw.rg (k := 116) (by decide) p) hv_2] at c53_6
            rw [← ev_2] at c53_6
            refine lv_iinc (v := n0 + 1) (lv' := [(3, .int (n0 + 1)), (5, .ref (b 9 p)), (4, .int (nI p)), (0, .ref (b 14 0)), (2, .ref (b 8 v_2))]) hx hb dX10_riding_56 hl (k := 2) rfl (rfl) (by decide) rfl (fun ls hl => ?_)
            refine lv_iinc (v := nI (p + 1)) (lv' := [(4, .int (nI (p + 1))), (3, .int (n0 + 1)), (5, .ref (b 9 p)), (0, .ref (b 14 0)), (2, .ref (b 8 v_2))]) hx hb dX10_riding_59 hl (k := 2) rfl (by rw [← nI_1]; rfl) (by decide) rfl (fun ls hl => ?_)
            refine lv_goto (tgt := 11) hx hb dX10_riding_62 (by decide) ?_
            exact ih (p + 1) (n0 + 1) (by omega) (by rw [← hT]; simp [cRdL, kv_2, c20_4, Int32.not_le.mp c20_4, eq_true c44_5, eq_true c53_6]) _ _ hH ls (lv_sub hl [0, 1, 3, 4] rfl)
  exact K (npN u) 0 0 (by omega) rfl _ _ hH ls (lv_sub hl [0, 1, 3, 2] rfl)
set_option maxHeartbeats 800000 in
set_option maxRecDepth 100000 in
theorem cN_X10_bagsAtLeast (l : Launch) (hlt : l.stackTraces = false) (G : GT) (A : Nat → Prop) (h : AH) (b : BA) (u : MM) (hR : RC G.2.2.1 h b u) (hw : WFc u) (x : Int32) (hX : xLn u x = none) : cxI l G A yX10_bagsAtLeast cX10_bagsAtLeast 6 (Option.some FieldType.int) 7 111 0 0 [.ref (b 14 0), .int (x)] h (fun r h' => xLn u x = none ∧ r = cBaL u x (nhN u) 0 0 ∧ h' = h) (fun E h' => xLn u x = some E ∧ h' = h) := by
  refine cx_of "Routepost" rfl (by decide) (Nat.le_of_ble_eq_true rfl) ?_
  intro pr e s m9 below meth c C0 hxt hr hH ls hl
  obtain ⟨hx, hb, hml, hown, hts, hK, hA, -⟩ := id C0
  have hl : lv_has ls 6 [(0, .ref (b 14 0)), (1, .int (x))] := hl
  have hc7 := hw.cnt6 7
  have hc8 := hw.cnt6 8
  have hc9 := hw.cnt6 9
  refine lv_aload_n hx hb dX10_bagsAtLeast_0 rfl (lv_at hl 0 rfl) ?_
  refine lv_iload_n hx hb dX10_bagsAtLeast_1 rfl (lv_at hl 1 rfl) ?_
  refine k_xq C0 hxt hH (k_xrunV (rest := []) C0 hH (cN_X10_lineNumbered l hlt G A _ b _ hR hw x hX) mv_X10_lineNumbered ml_X10_299 ci_14 (hR.kind (K := 14) (i := 0) rfl) rfl ⟨Nat.le_of_ble_eq_true rfl, Nat.le_of_ble_eq_true rfl⟩ hl.1 rfl (Nat.le_of_ble_eq_true rfl) dX10_bagsAtLeast_2 ⟨Nat.le_of_ble_eq_true rfl, Nat.le_of_ble_eq_true rfl⟩) (fun _ _ z => z) (Nat.le_of_ble_eq_true rfl) (Nat.le_of_ble_eq_true rfl) (fun r_1 h1 H locs hp hH => ?_)
  obtain ⟨exr_1, er_1, eh⟩ := hp
  rw [eh] at hH
  clear eh
  have vpv_2 : vp_in (x) (nlN u) := (xLn_n hw).mp exr_1
  obtain ⟨v_2, hv_2, ev_2⟩ := vp_ex vpv_2 (by have := hw.nh; have := hw.nl; have := hw.np; omega)
  have kv_2 : (x).toNatClampNeg = v_2 := by rw [ev_2]; exact nI_clamp (by have := hw.nh; have := hw.nl; have := hw.np; omega)
  rw [show dec b 8 (x) = some (b 8 v_2) from by rw [ev_2]; exact dec_nI (by have := hw.nh; have := hw.nl; have := hw.np; omega)] at er_1
  subst er_1
  refine lv_astore_n (lv' := [(2, .ref (b 8 v_2)), (0, .ref (b 14 0)), (1, .int (x))]) hx hb dX10_bagsAtLeast_5 rfl hl (by decide) rfl (fun ls hl => ?_)
  refine lv_iconst (v := 0) hx hb dX10_bagsAtLeast_6 (by decide) ?_
  refine lv_istore_n (lv' := [(3, .int (0)), (2, .ref (b 8 v_2)), (0, .ref (b 14 0)), (1, .int (x))]) hx hb dX10_bagsAtLeast_7 rfl hl (by decide) rfl (fun ls hl => ?_)
  refine lv_iconst (v := 0) hx hb dX10_bagsAtLeast_8 (by decide) ?_
  refine lv_istore (lv' := [(4, .int (0)), (3, .int (0)), (2, .ref (b 8 v_2)), (0, .ref (b 14 0)), (1, .int (x))]) hx hb dX10_bagsAtLeast_9 hl (by decide) rfl (fun ls hl => ?_)
  have K : ∀ (k : Nat) (h0 : Nat) (n0 : Int32), h0 + k = nhN u → cBaL u x k h0 n0 = cBaL u x (nhN u) 0 0 → ∀ (H : Heap) (locs : List Loc) (hH : HS G.1 G.2.1 A s.heap h H locs) (ls : Array Slot), lv_has ls 6 [(4, .int (nI h0)), (3, .int (n0)), (0, .ref (b 14 0)), (2, .ref (b 8 v_2))] → W pr l e (rmm 7 111 0 0) s m9 ([.ref (b 14 0), .int (x)] : List Value).toArray below meth c H locs (0 + 0) (0 + 0) (vx_MQ below (va_Qi (fun r h' => xLn u x = none ∧ r = cBaL u x (nhN u) 0 0 ∧ h' = h) (fun h' t => HW G.1 G.2.1 A h' t.heap) A) (xcP G A (fun E h' => xLn u x = some E ∧ h' = h)) ([.ref (b 14 0), .int (x)] : List Value).toArray s 0 0 A) (F0 m9 11 ls []) := by
    intro k
    induction k with
    | zero =>
      intro h0 n0 hik hT H locs hH ls hl
      refine lv_iload hx hb dX10_bagsAtLeast_11 (lv_at hl 0 rfl) ?_
      refine lv_aload_n hx hb dX10_bagsAtLeast_13 rfl (lv_at hl 2 rfl) ?_
      refine c_getR C0 hH hR ci_14 (i := 0) (j := 0) rfl rfl (by decide) rfl fl_X10_12 (v := some (b 3 0)) rfl dX10_bagsAtLeast_14 ?_
      refine k_i hH (k_runV (rest := [.int (nI h0)]) C0 hH (cL_size l G A _ b _ hR hw 0 (show 0 < 6 + npN _ by omega)) mv_Jx4a65c_size_8abf5 ml_X10_79 ci_3 (hR.kind (K := 3) (i := 0) (show 0 < 6 + npN _ by omega)) rfl ⟨Nat.le_of_ble_eq_true rfl, Nat.le_of_ble_eq_true rfl⟩ hl.1 rfl (Nat.le_of_ble_eq_true rfl) dX10_bagsAtLeast_17 ⟨Nat.le_of_ble_eq_true rfl, Nat.le_of_ble_eq_true rfl⟩) (fun r9 h1 H locs hp hH => ?_)
      obtain ⟨er9, eh⟩ := hp
      rw [eh] at hH
      clear eh
      rw [hw.sz0] at er9
      subst er9
      refine lv_icmp_ge (tgt := 61) hx hb dX10_bagsAtLeast_20 (by decide) (fun c20_3 => ?_) (fun c20_3 => ?_)
      · refine lv_iload_n hx hb dX10_bagsAtLeast_61 rfl (lv_at hl 1 rfl) ?_
        refine vx_ret ?_
        have eR : (n0 : Int32) = cBaL u x (nhN u) 0 0 := hT
        exact e_I C0 hr hH ⟨exr_1, eR, rfl⟩ (Nat.le_of_ble_eq_true rfl) (Nat.le_of_ble_eq_true rfl) dX10_bagsAtLeast_62
      · exact absurd (by rw [show h0 = nhN u by omega]; exact Int32.le_refl _) c20_3
    | succ k ih =>
      intro h0 n0 hik hT H locs hH ls hl
      refine lv_iload hx hb dX10_bagsAtLeast_11 (lv_at hl 0 rfl) ?_
      refine lv_aload_n hx hb dX10_bagsAtLeast_13 rfl (lv_at hl 2 rfl) ?_
      refine c_getR C0 hH hR ci_14 (i := 0) (j := 0) rfl rfl (by decide) rfl fl_X10_12 (v := some (b 3 0)) rfl dX10_bagsAtLeast_14 ?_
      refine k_i hH (k_runV (rest := [.int (nI h0)]) C0 hH (cL_size l G A _ b _ hR hw 0 (show 0 < 6 + npN _ by omega)) mv_Jx4a65c_size_8abf5 ml_X10_79 ci_3 (hR.kind (K := 3) (i := 0) (show 0 < 6 + npN _ by omega)) rfl ⟨Nat.le_of_ble_eq_true rfl, Nat.le_of_ble_eq_true rfl⟩ hl.1 rfl (Nat.le_of_ble_eq_true rfl) dX10_bagsAtLeast_17 ⟨Nat.le_of_ble_eq_true rfl, Nat.le_of_ble_eq_true rfl⟩) (fun r9 h1 H locs hp hH => ?_)
      obtain ⟨er9, eh⟩ := hp
      rw [eh] at hH
      clear eh
      rw [hw.sz0] at er9
      subst er9
      refine lv_icmp_ge (tgt := 61) hx hb dX10_bagsAtLeast_20 (by decide) (fun c20_4 => ?_) (fun c20_4 => ?_)
      · exact absurd c20_4 (nI_ge (show h0 < nhN u by omega) (by have := hw.nh; have := hw.nl; have := hw.np; omega))
      · refine lv_aload_n hx hb dX10_bagsAtLeast_23 rfl (lv_at hl 2 rfl) ?_
        refine lv_aload_n hx hb dX10_bagsAtLeast_24 rfl (lv_at hl 3 rfl) ?_
        refine lv_aload_n hx hb dX10_bagsAtLeast_25 rfl (lv_at hl 2 rfl) ?_
        refine c_getR C0 hH hR ci_14 (i := 0) (j := 0) rfl rfl (by decide) rfl fl_X10_12 (v := some (b 3 0)) rfl dX10_bagsAtLeast_26 ?_
        refine lv_iload hx hb dX10_bagsAtLeast_29 (lv_at hl 0 rfl) ?_
        refine k_q hH (k_runV (rest := [.ref (b 8 v_2), .ref (b 14 0)]) C0 hH (cL_get l G A _ b _ hR hw 0 h0 (show 0 < 6 + npN _ by omega) (by rw [hw.sz0]; omega) (a := b 7 h0) rfl) mv_Jx4a65c_get_915e3 ml_X10_143 ci_3 (hR.kind (K := 3) (i := 0) (show 0 < 6 + npN _ by omega)) rfl ⟨Nat.le_of_ble_eq_true rfl, Nat.le_of_ble_eq_true rfl⟩ hl.1 rfl (Nat.le_of_ble_eq_true rfl) dX10_bagsAtLeast_31 ⟨Nat.le_of_ble_eq_true rfl, Nat.le_of_ble_eq_true rfl⟩) (fun r9 h1 H locs hp hH => ?_)
        obtain ⟨er9, eh⟩ := hp
        rw [eh] at hH
        clear eh
        subst er9
        refine k_chk C0 hH ci_7 (hR.kind (K := 7) (i := h0) (show h0 < nhN u by omega)) cl_X10_88 dX10_bagsAtLeast_34 ?_
        refine k_i hH (k_runV (rest := []) C0 hH (cC_X10_volumeWaiting l G A _ b _ hR hw v_2 h0 hv_2 (show h0 < nhN u by omega)) mv_X10_volumeWaiting ml_X10_318 ci_14 (hR.kind (K := 14) (i := 0) rfl) rfl ⟨Nat.le_of_ble_eq_true rfl, Nat.le_of_ble_eq_true rfl⟩ hl.1 rfl (Nat.le_of_ble_eq_true rfl) dX10_bagsAtLeast_37 ⟨Nat.le_of_ble_eq_true rfl, Nat.le_of_ble_eq_true rfl⟩) (fun r_5 h1 H locs hp hH => ?_)
        obtain ⟨er_5, eh⟩ := hp
        rw [eh] at hH
        clear eh
        rw [← ev_2] at er_5
        subst er_5
        refine lv_istore (lv' := [(5, .int (cVw u (x) (nI h0))), (4, .int (nI h0)), (3, .int (n0)), (0, .ref (b 14 0)), (2, .ref (b 8 v_2))]) hx hb dX10_bagsAtLeast_40 hl (by decide) rfl (fun ls hl => ?_)
        refine lv_iload_n hx hb dX10_bagsAtLeast_42 rfl (lv_at hl 2 rfl) ?_
        refine lv_iload hx hb dX10_bagsAtLeast_43 (lv_at hl 0 rfl) ?_
        refine lv_bipush (v := 12) hx hb dX10_bagsAtLeast_45 (by decide) ?_
        refine lv_iadd hx hb dX10_bagsAtLeast_47 ?_
        refine lv_iconst (v := 1) hx hb dX10_bagsAtLeast_48 (by decide) ?_
        refine lv_isub hx hb dX10_bagsAtLeast_49 ?_
        refine lv_bipush (v := 12) hx hb dX10_bagsAtLeast_50 (by decide) ?_
        refine lv_idiv hx hb dX10_bagsAtLeast_52 (by decide) ?_
        refine lv_iadd hx hb dX10_bagsAtLeast_53 ?_
        refine lv_istore_n (lv' := [(3, .int (n0 + ((((cVw u (x) (nI h0)) + 12) - 1) / 12))), (5, .int (cVw u (x) (nI h0))), (4, .int (nI h0)), (0, .ref (b 14 0)), (2, .ref (b 8 v_2))]) hx hb dX10_bagsAtLeast_54 rfl hl (by decide) rfl (fun ls hl => ?_)
        refine lv_iinc (v := nI (h0 + 1)) (lv' := [(4, .int (nI (h0 + 1))), (3, .int (n0 + ((((cVw u (x) (nI h0)) + 12) - 1) / 12))), (5, .int (cVw u (x) (nI h0))), (0, .ref (b 14 0)), (2, .ref (b 8 v_2))]) hx hb dX10_bagsAtLeast_55 hl (k := 2) rfl (by rw [← nI_1]; rfl) (by decide) rfl (fun ls hl => ?_)
        refine lv_goto (tgt := 11) hx hb dX10_bagsAtLeast_58 (by decide) ?_
        exact ih (h0 + 1) (n0 + ((((cVw u (x) (nI h0)) + 12) - 1) / 12)) (by omega) (by rw [← hT]; simp [cBaL, kv_2, c20_4, Int32.not_le.mp c20_4]) _ _ hH ls (lv_sub hl [0, 1, 3, 4] rfl)
  exact K (nhN u) 0 0 (by omega) rfl _ _ hH ls (lv_sub hl [0, 1, 3, 2] rfl)
set_option maxHeartbeats 800000 in
set_option maxRecDepth 100000 in
theorem cN_X10_bagVolume (l : Launch) (hlt : l.stackTraces = false) (G : GT) (A : Nat → Prop) (h : AH) (b : BA) (u : MM) (hR : RC G.2.2.1 h b u) (hw : WFc u) (x i0 : Int32) (hX : xBv u x i0 = none) : cxI l G A yX10_bagVolume cX10_bagVolume 4 (Option.some FieldType.int) 7 111 0 0 [.ref (b 14 0), .int (x), .int (i0)] h (fun r h' => xBv u x i0 = none ∧ r = cVol u x.toNatClampNeg 40 i0 ∧ h' = h) (fun E h' => xBv u x i0 = some E ∧ h' = h) := by
  refine cx_of "Routepost" rfl (by decide) (Nat.le_of_ble_eq_true rfl) ?_
  intro pr e s m9 below meth c C0 hxt hr hH ls hl
  obtain ⟨hx, hb, hml, hown, hts, hK, hA, -⟩ := id C0
  have hl : lv_has ls 4 [(0, .ref (b 14 0)), (1, .int (x)), (2, .int (i0))] := hl
  have hc7 := hw.cnt6 7
  have hc8 := hw.cnt6 8
  have hc9 := hw.cnt6 9
  refine lv_aload_n hx hb dX10_bagVolume_0 rfl (lv_at hl 0 rfl) ?_
  refine lv_iload_n hx hb dX10_bagVolume_1 rfl (lv_at hl 1 rfl) ?_
  refine k_xq C0 hxt hH (k_xrunV (rest := []) C0 hH (cN_X10_lineNumbered l hlt G A _ b _ hR hw x (xo_no hX).1) mv_X10_lineNumbered ml_X10_299 ci_14 (hR.kind (K := 14) (i := 0) rfl) rfl ⟨Nat.le_of_ble_eq_true rfl, Nat.le_of_ble_eq_true rfl⟩ hl.1 rfl (Nat.le_of_ble_eq_true rfl) dX10_bagVolume_2 ⟨Nat.le_of_ble_eq_true rfl, Nat.le_of_ble_eq_true rfl⟩) (fun E h9 z => ⟨by unfold xBv; exact xo_s z.1, z.2⟩) (Nat.le_of_ble_eq_true rfl) (Nat.le_of_ble_eq_true rfl) (fun r_1 h1 H locs hp hH => ?_)
  obtain ⟨exr_1, er_1, eh⟩ := hp
  rw [eh] at hH
  clear eh
  have vpv_2 : vp_in (x) (nlN u) := (xLn_n hw).mp exr_1
  obtain ⟨v_2, hv_2, ev_2⟩ := vp_ex vpv_2 (by have := hw.nh; have := hw.nl; have := hw.np; omega)
  have kv_2 : (x).toNatClampNeg = v_2 := by rw [ev_2]; exact nI_clamp (by have := hw.nh; have := hw.nl; have := hw.np; omega)
  rw [show dec b 8 (x) = some (b 8 v_2) from by rw [ev_2]; exact dec_nI (by have := hw.nh; have := hw.nl; have := hw.np; omega)] at er_1
  subst er_1
  refine c_getR C0 hH hR ci_8 (i := v_2) (j := 4) hv_2 rfl (by decide) rfl fl_X10_322 (v := some (b 4 v_2)) rfl dX10_bagVolume_5 ?_
  refine lv_astore_n (lv' := [(3, .ref (b 4 v_2)), (0, .ref (b 14 0)), (1, .int (x)), (2, .int (i0))]) hx hb dX10_bagVolume_8 rfl hl (by decide) rfl (fun ls hl => ?_)
  refine lv_aload_n hx hb dX10_bagVolume_9 rfl (lv_at hl 0 rfl) ?_
  refine lv_iload_n hx hb dX10_bagVolume_10 rfl (lv_at hl 3 rfl) ?_
  refine k_i hH (k_runV (rest := []) C0 hH (cC_X0_has l G A _ b _ hR hw v_2 40 i0 (Or.inl hv_2) (by unfold len20; rw [if_pos (show v_2 < 13 by have := hw.nl; omega)])) mv_X0_has ml_X10_325 ci_4 (hR.kind (K := 4) (i := v_2) (Or.inl hv_2)) rfl ⟨Nat.le_of_ble_eq_true rfl, Nat.le_of_ble_eq_true rfl⟩ hl.1 rfl (Nat.le_of_ble_eq_true rfl) dX10_bagVolume_11 ⟨Nat.le_of_ble_eq_true rfl, Nat.le_of_ble_eq_true rfl⟩) (fun r_3 h1 H locs hp hH => ?_)
  obtain ⟨er_3, eh⟩ := hp
  rw [eh] at hH
  clear eh
  subst er_3
  refine lv_if_ne (tgt := 28) hx hb dX10_bagVolume_14 (by decide) (fun c14_4 => ?_) (fun c14_4 => ?_)
  · refine lv_aload_n hx hb dX10_bagVolume_28 rfl (lv_at hl 0 rfl) ?_
    refine lv_iload_n hx hb dX10_bagVolume_29 rfl (lv_at hl 3 rfl) ?_
    refine k_i hH (k_runV (rest := []) C0 hH (cC_X0_volumeOf l G A _ b _ hR hw v_2 40 i0 (Or.inl hv_2) (by unfold len20; rw [if_pos (show v_2 < 13 by have := hw.nl; omega)])) mv_X0_volumeOf ml_X10_330 ci_4 (hR.kind (K := 4) (i := v_2) (Or.inl hv_2)) rfl ⟨Nat.le_of_ble_eq_true rfl, Nat.le_of_ble_eq_true rfl⟩ hl.1 rfl (Nat.le_of_ble_eq_true rfl) dX10_bagVolume_30 ⟨Nat.le_of_ble_eq_true rfl, Nat.le_of_ble_eq_true rfl⟩) (fun r_5 h1 H locs hp hH => ?_)
    obtain ⟨er_5, eh⟩ := hp
    rw [eh] at hH
    clear eh
    subst er_5
    refine vx_ret ?_
    have eR : (cVol u v_2 40 i0 : Int32) = cVol u x.toNatClampNeg 40 i0 := by rw [kv_2]
    exact e_I C0 hr hH ⟨(by unfold xBv; rw [xo_n exr_1, kv_2, if_neg c14_4]), eR, rfl⟩ (Nat.le_of_ble_eq_true rfl) (Nat.le_of_ble_eq_true rfl) dX10_bagVolume_33
  · exact absurd (hX.symm.trans (show xBv u x i0 = some iobC from (by unfold xBv; rw [xo_n exr_1, kv_2, if_pos c14_4] <;> rfl))) (fun z => nomatch z)
set_option maxHeartbeats 800000 in
set_option maxRecDepth 100000 in
theorem cN_X10_arrival (l : Launch) (hlt : l.stackTraces = false) (G : GT) (A : Nat → Prop) (h : AH) (b : BA) (u : MM) (hR : RC G.2.2.1 h b u) (hw : WFc u) (x : Int32) (hX : xSc u x = none) : cxI l G A yX10_arrival cX10_arrival 3 (Option.some FieldType.int) 8 133 0 0 [.ref (b 14 0), .int (x)] h (fun r h' => xSc u x = none ∧ r = cArv u x ∧ RC G.2.2.1 h' b (cSr u x) ∧ WFc (cSr u x)) (fun E h' => xSc u x = some E ∧ RC G.2.2.1 h' b (cSr u x) ∧ WFc (cSr u x)) := by
  refine cx_of "Routepost" rfl (by decide) (Nat.le_of_ble_eq_true rfl) ?_
  intro pr e s m9 below meth c C0 hxt hr hH ls hl
  obtain ⟨hx, hb, hml, hown, hts, hK, hA, -⟩ := id C0
  have hl : lv_has ls 3 [(0, .ref (b 14 0)), (1, .int (x))] := hl
  have hc7 := hw.cnt6 7
  have hc8 := hw.cnt6 8
  have hc9 := hw.cnt6 9
  have hw00 := hw
  refine lv_aload_n hx hb dX10_arrival_0 rfl (lv_at hl 0 rfl) ?_
  refine c_getR C0 hH hR ci_14 (i := 0) (j := 6) rfl rfl (by decide) rfl fl_X10_38 (v := some (b 11 0)) rfl dX10_arrival_1 ?_
  refine lv_aload_n hx hb dX10_arrival_4 rfl (lv_at hl 0 rfl) ?_
  refine c_getR C0 hH hR ci_14 (i := 0) (j := 1) rfl rfl (by decide) rfl fl_X10_16 (v := some (b 3 1)) rfl dX10_arrival_5 ?_
  refine lv_aload_n hx hb dX10_arrival_8 rfl (lv_at hl 0 rfl) ?_
  refine lv_iload_n hx hb dX10_arrival_9 rfl (lv_at hl 1 rfl) ?_
  refine k_xq C0 hxt hH (k_xrunV (rest := [.ref (b 3 1), .ref (b 11 0)]) C0 hH (cN_X10_scannedParcel l hlt G A _ b _ hR hw x hX) mv_X10_scannedParcel ml_X10_219 ci_14 (hR.kind (K := 14) (i := 0) rfl) rfl ⟨Nat.le_of_ble_eq_true rfl, Nat.le_of_ble_eq_true rfl⟩ hl.1 rfl (Nat.le_of_ble_eq_true rfl) dX10_arrival_10 ⟨Nat.le_of_ble_eq_true rfl, Nat.le_of_ble_eq_true rfl⟩) (fun E h9 z => ⟨z.1, by rw [z.2, show cSr u x = u from if_neg (fun y => by rw [y] at z; exact nomatch z.1)]; exact ⟨hR, hw⟩⟩) (Nat.le_of_ble_eq_true rfl) (Nat.le_of_ble_eq_true rfl) (fun r_1 h1 H locs hp hH => ?_)
  obtain ⟨exr_1, er_1, eh⟩ := hp
  rw [eh] at hH
  clear eh
  have vpv_2 : vp_in (x) (npN u) := xSc_vp hw exr_1
  obtain ⟨v_2, hv_2, ev_2⟩ := vp_ex vpv_2 (by have := hw.nh; have := hw.nl; have := hw.np; omega)
  have kv_2 : (x).toNatClampNeg = v_2 := by rw [ev_2]; exact nI_clamp (by have := hw.nh; have := hw.nl; have := hw.np; omega)
  rw [show dec b 9 (x) = some (b 9 v_2) from by rw [ev_2]; exact dec_nI (by have := hw.nh; have := hw.nl; have := hw.np; omega)] at er_1
  subst er_1
  have hq00 := hv_2
  refine lv_aload_n hx hb dX10_arrival_13 rfl (lv_at hl 0 rfl) ?_
  refine c_getI C0 hH hR ci_14 (i := 0) (j := 9) rfl rfl (by decide) rfl fl_X10_56 (v := u 41 0) rfl dX10_arrival_14 ?_
  refine k_q hH (k_runV (rest := []) C0 hH (cC_X7_bestPath l G A _ b _ hR hw v_2 (u 41 0) hv_2) mv_X7_bestPath ml_X10_273 ci_11 (hR.kind (K := 11) (i := 0) rfl) rfl ⟨Nat.le_of_ble_eq_true rfl, Nat.le_of_ble_eq_true rfl⟩ hl.1 rfl (Nat.le_of_ble_eq_true rfl) dX10_arrival_17 ⟨Nat.le_of_ble_eq_true rfl, Nat.le_of_ble_eq_true rfl⟩) (fun r_3 h H locs hp hH => ?_)
  obtain ⟨er_3, hR, hw⟩ := hp
  subst er_3
  obtain ⟨U1, hU1⟩ : ∃ z, z = ((cBp u v_2 (u 41 0)).2) := ⟨_, rfl⟩
  rw [← hU1] at hR hw
  have hnU1 : nhN U1 = nhN u ∧ nlN U1 = nlN u ∧ npN U1 = npN u := by rw [hU1]; exact cBp_n _ _ _
  have hc7 := hw.cnt6 7
  have hc8 := hw.cnt6 8
  have hc9 := hw.cnt6 9
  replace hv_2 : v_2 < npN U1 := by rw [hnU1.2.2]; exact hv_2
  refine o_astore_n_q (lv' := [(2, va_rf (dec b 10 ((cBp u v_2 (u 41 0)).1))), (0, .ref (b 14 0)), (1, .int (x))]) hx hb dX10_arrival_20 rfl hl (by decide) rfl (fun ls hl => ?_)
  refine o_aload_n_q hx hb dX10_arrival_21 rfl (lv_at hl 0 rfl) ?_
  rcases (cBp_ok hw00 hq00 _) with es_4 | ⟨s_4, hs_4, es_4⟩
  · have eds_4 : dec b 10 ((cBp u v_2 (u 41 0)).1) = none := by rw [es_4]; exact dec_m1
    rw [eds_4]
    rw [eds_4] at hl
    refine lv_ifnonnullN hx hb dX10_arrival_22 ?_
    refine lv_iconst (v := (-1)) hx hb dX10_arrival_25 (by decide) ?_
    refine lv_goto (tgt := 33) hx hb dX10_arrival_26 (by decide) ?_
    refine vx_ret ?_
    have eR : ((-1) : Int32) = cArv u x := by unfold cArv cBq; rw [kv_2, ← hU1, if_pos es_4]
    have eM : (cSr u x) = U1 := by unfold cSr cBq; rw [if_pos exr_1, kv_2]; exact hU1.symm
    exact e_I C0 hr hH ⟨exr_1, eR, by rw [eM]; exact ⟨hR, hw⟩⟩ (Nat.le_of_ble_eq_true rfl) (Nat.le_of_ble_eq_true rfl) dX10_arrival_33
  · have eds_4 : dec b 10 ((cBp u v_2 (u 41 0)).1) = some (b 10 s_4) := by rw [es_4]; exact dec_nI (by have := hc8; omega)
    have ks_4 : ((cBp u v_2 (u 41 0)).1).toNatClampNeg = s_4 := by rw [es_4]; exact nI_clamp (by have := hc8; omega)
    have ns_4 : ¬ ((cBp u v_2 (u 41 0)).1) = -1 := by rw [es_4]; exact nI_nm (by have := hc8; omega)
    rw [eds_4]
    rw [eds_4] at hl
    refine lv_ifnonnull (tgt := 29) hx hb dX10_arrival_22 (by decide) ?_
    refine lv_aload_n hx hb dX10_arrival_29 rfl (lv_at hl 0 rfl) ?_
    refine c_getI C0 hH hR ci_10 (i := s_4) (j := 2) hs_4 rfl (by decide) rfl fl_X10_289 (v := U1 132 s_4) rfl dX10_arrival_30 ?_
    refine vx_ret ?_
    have eR : (U1 132 s_4 : Int32) = cArv u x := by unfold cArv cBq; rw [kv_2, ← hU1, if_neg ns_4, ks_4]
    have eM : (cSr u x) = U1 := by unfold cSr cBq; rw [if_pos exr_1, kv_2]; exact hU1.symm
    exact e_I C0 hr hH ⟨exr_1, eR, by rw [eM]; exact ⟨hR, hw⟩⟩ (Nat.le_of_ble_eq_true rfl) (Nat.le_of_ble_eq_true rfl) dX10_arrival_33
set_option maxHeartbeats 800000 in
set_option maxRecDepth 100000 in
theorem cN_X10_nextLineByPaths (l : Launch) (hlt : l.stackTraces = false) (G : GT) (A : Nat → Prop) (h : AH) (b : BA) (u : MM) (hR : RC G.2.2.1 h b u) (hw : WFc u) (x : Int32) (hX : xSc u x = none) : cxI l G A yX10_nextLineByPaths cX10_nextLineByPaths 2 (Option.some FieldType.int) 11 304 0 0 [.ref (b 14 0), .int (x)] h (fun r h' => xSc u x = none ∧ r = cAll u x.toNatClampNeg (u 41 0) 154 0 ∧ RC G.2.2.1 h' b (cTr u x) ∧ WFc (cTr u x)) (fun E h' => xSc u x = some E ∧ RC G.2.2.1 h' b (cTr u x) ∧ WFc (cTr u x)) := by
  refine cx_of "Routepost" rfl (by decide) (Nat.le_of_ble_eq_true rfl) ?_
  intro pr e s m9 below meth c C0 hxt hr hH ls hl
  obtain ⟨hx, hb, hml, hown, hts, hK, hA, -⟩ := id C0
  have hl : lv_has ls 2 [(0, .ref (b 14 0)), (1, .int (x))] := hl
  have hc7 := hw.cnt6 7
  have hc8 := hw.cnt6 8
  have hc9 := hw.cnt6 9
  have hw00 := hw
  refine lv_aload_n hx hb dX10_nextLineByPaths_0 rfl (lv_at hl 0 rfl) ?_
  refine c_getR C0 hH hR ci_14 (i := 0) (j := 7) rfl rfl (by decide) rfl fl_X10_45 (v := some (b 12 0)) rfl dX10_nextLineByPaths_1 ?_
  refine lv_aload_n hx hb dX10_nextLineByPaths_4 rfl (lv_at hl 0 rfl) ?_
  refine c_getR C0 hH hR ci_14 (i := 0) (j := 1) rfl rfl (by decide) rfl fl_X10_16 (v := some (b 3 1)) rfl dX10_nextLineByPaths_5 ?_
  refine lv_aload_n hx hb dX10_nextLineByPaths_8 rfl (lv_at hl 0 rfl) ?_
  refine lv_iload_n hx hb dX10_nextLineByPaths_9 rfl (lv_at hl 1 rfl) ?_
  refine k_xq C0 hxt hH (k_xrunV (rest := [.ref (b 3 1), .ref (b 12 0)]) C0 hH (cN_X10_scannedParcel l hlt G A _ b _ hR hw x hX) mv_X10_scannedParcel ml_X10_219 ci_14 (hR.kind (K := 14) (i := 0) rfl) rfl ⟨Nat.le_of_ble_eq_true rfl, Nat.le_of_ble_eq_true rfl⟩ hl.1 rfl (Nat.le_of_ble_eq_true rfl) dX10_nextLineByPaths_10 ⟨Nat.le_of_ble_eq_true rfl, Nat.le_of_ble_eq_true rfl⟩) (fun E h9 z => ⟨z.1, by rw [z.2, show cTr u x = u from if_neg (fun y => by rw [y] at z; exact nomatch z.1)]; exact ⟨hR, hw⟩⟩) (Nat.le_of_ble_eq_true rfl) (Nat.le_of_ble_eq_true rfl) (fun r_1 h1 H locs hp hH => ?_)
  obtain ⟨exr_1, er_1, eh⟩ := hp
  rw [eh] at hH
  clear eh
  have vpv_2 : vp_in (x) (npN u) := xSc_vp hw exr_1
  obtain ⟨v_2, hv_2, ev_2⟩ := vp_ex vpv_2 (by have := hw.nh; have := hw.nl; have := hw.np; omega)
  have kv_2 : (x).toNatClampNeg = v_2 := by rw [ev_2]; exact nI_clamp (by have := hw.nh; have := hw.nl; have := hw.np; omega)
  rw [show dec b 9 (x) = some (b 9 v_2) from by rw [ev_2]; exact dec_nI (by have := hw.nh; have := hw.nl; have := hw.np; omega)] at er_1
  subst er_1
  have hq00 := hv_2
  refine lv_aload_n hx hb dX10_nextLineByPaths_13 rfl (lv_at hl 0 rfl) ?_
  refine c_getI C0 hH hR ci_14 (i := 0) (j := 9) rfl rfl (by decide) rfl fl_X10_56 (v := u 41 0) rfl dX10_nextLineByPaths_14 ?_
  refine k_v hH (k_runV (rest := []) C0 hH (cC_X8_tryAll l G A _ b _ hR hw v_2 (u 41 0) hv_2) mv_X8_tryAll ml_X10_266 ci_12 (hR.kind (K := 12) (i := 0) rfl) rfl ⟨Nat.le_of_ble_eq_true rfl, Nat.le_of_ble_eq_true rfl⟩ hl.1 rfl (Nat.le_of_ble_eq_true rfl) dX10_nextLineByPaths_17 ⟨Nat.le_of_ble_eq_true rfl, Nat.le_of_ble_eq_true rfl⟩) (fun h H locs hp hH => ?_)
  obtain ⟨hR, hw⟩ := hp
  refine lv_aload_n hx hb dX10_nextLineByPaths_20 rfl (lv_at hl 0 rfl) ?_
  refine c_getR C0 hH hR ci_14 (i := 0) (j := 7) rfl rfl (by decide) rfl fl_X10_45 (v := some (b 12 0)) rfl dX10_nextLineByPaths_21 ?_
  refine c_getR C0 hH hR ci_12 (i := 0) (j := 4) rfl rfl (by decide) rfl fl_X10_270 (v := dec b 8 ((cAll u v_2 (u 41 0)) 154 0)) (show dec b 8 ((cAll u v_2 (u 41 0)) 154 0) = dec b 8 ((cAll u v_2 (u 41 0)) 154 0) from congrArg _ rfl) dX10_nextLineByPaths_24 ?_
  refine k_i hH (k_runS (rest := []) C0 hH (cC_X10_numberOf_ l G A _ b _ hR hw ((cAll u v_2 (u 41 0)) 154 0) (hw.exL (hw.rg (k := 154) (by decide) _))) mv_X10_numberOf_ ml_X10_264 rfl ⟨Nat.le_of_ble_eq_true rfl, Nat.le_of_ble_eq_true rfl⟩ hl.1 rfl (Nat.le_of_ble_eq_true rfl) dX10_nextLineByPaths_27 ⟨Nat.le_of_ble_eq_true rfl, Nat.le_of_ble_eq_true rfl⟩) (fun r_4 h1 H locs hp hH => ?_)
  obtain ⟨er_4, eh⟩ := hp
  rw [eh] at hH
  clear eh
  subst er_4
  refine vx_ret ?_
  have eR : (((cAll u v_2 (u 41 0)) 154 0) : Int32) = cAll u x.toNatClampNeg (u 41 0) 154 0 := by rw [kv_2]
  have eM : (cTr u x) = (cAll u v_2 (u 41 0)) := by unfold cTr; rw [if_pos exr_1, kv_2]
  exact e_I C0 hr hH ⟨exr_1, eR, by rw [eM]; exact ⟨hR, hw⟩⟩ (Nat.le_of_ble_eq_true rfl) (Nat.le_of_ble_eq_true rfl) dX10_nextLineByPaths_30

set_option maxHeartbeats 800000 in
set_option maxRecDepth 100000 in
theorem cN_X10_waitingAt (l : Launch) (hlt : l.stackTraces = false) (G : GT) (A : Nat → Prop) (h : AH) (b0 : BA) (u : MM) (hR : RC G.2.2.1 h b0 u) (hw : WFc u) (x i0 : Int32) (hX : xWat u x i0 = none) : cxI l G A yX10_waitingAt cX10_waitingAt 3 (Option.some FieldType.int) 7 195 (UC (cWt u x) - UC u) (US (cWt u x) - US u) [.ref (b0 14 0), .int (x), .int (i0)] h (fun r h' => xWat u x i0 = none ∧ r = cQu u x 36 i0.toNatClampNeg ∧ ∃ b', BE u b0 b' ∧ RC G.2.2.1 h' b' (cWt u x) ∧ WFc (cWt u x)) (fun E h' => xWat u x i0 = some E ∧ ∃ b', BE u b0 b' ∧ RC G.2.2.1 h' b' (cWt u x) ∧ WFc (cWt u x)) := by
  refine cx_of "Routepost" rfl (by decide) (Nat.le_of_ble_eq_true rfl) ?_
  intro pr e s m9 below meth c C0 hxt hr hH ls hl
  obtain ⟨hx, hb, hml, hown, hts, hK, hA, -⟩ := id C0
  have hl : lv_has ls 3 [(0, .ref (b0 14 0)), (1, .int (x)), (2, .int (i0))] := hl
  obtain ⟨b, hb0⟩ : ∃ z, z = b0 := ⟨_, rfl⟩
  rw [← hb0] at hR hl
  have hbe : BE u b0 b := by rw [hb0]; exact BE.refl u b0
  have hc7 := hw.cnt6 7
  have hc8 := hw.cnt6 8
  have hc9 := hw.cnt6 9
  have hw00 := hw
  have hRc9 : ∀ c, c ≤ 0 → c ≤ (UC (cWt u x) - UC u) := fun c h9 => by omega
  have hRs9 : ∀ c, c ≤ 0 → c ≤ (US (cWt u x) - US u) := fun c h9 => by omega
  refine lv_aload_n hx hb dX10_waitingAt_0 rfl (lv_at hl 0 rfl) ?_
  refine lv_aload_n hx hb dX10_waitingAt_1 rfl (lv_at hl 0 rfl) ?_
  refine lv_iload_n hx hb dX10_waitingAt_2 rfl (lv_at hl 1 rfl) ?_
  refine k_xq C0 hxt hH (k_xrunV (rest := [.ref (b 14 0)]) C0 hH (cN_X10_lineNumbered l hlt G A _ b _ hR hw x (xo_no hX).1) mv_X10_lineNumbered ml_X10_299 ci_14 (hR.kind (K := 14) (i := 0) rfl) rfl ⟨Nat.le_of_ble_eq_true rfl, Nat.le_of_ble_eq_true rfl⟩ hl.1 rfl (Nat.le_of_ble_eq_true rfl) dX10_waitingAt_3 ⟨by show _ ≤ (UC (cWt u x) - UC u); omega, by show _ ≤ (US (cWt u x) - US u); omega⟩) (fun E h9 z => ⟨by unfold xWat; exact xo_s z.1, b, hbe, by rw [z.2, show cWt u x = u from if_neg (fun y9 => by rw [y9] at z; exact nomatch z.1)]; exact ⟨hR, hw⟩⟩) (by omega) (by omega) (fun r_1 h1 H locs hp hH => ?_)
  obtain ⟨exr_1, er_1, eh⟩ := hp
  rw [eh] at hH
  clear eh
  have vpv_2 : vp_in (x) (nlN u) := (xLn_n hw).mp exr_1
  obtain ⟨v_2, hv_2, ev_2⟩ := vp_ex vpv_2 (by have := hw.nh; have := hw.nl; have := hw.np; omega)
  have kv_2 : (x).toNatClampNeg = v_2 := by rw [ev_2]; exact nI_clamp (by have := hw.nh; have := hw.nl; have := hw.np; omega)
  rw [show dec b 8 (x) = some (b 8 v_2) from by rw [ev_2]; exact dec_nI (by have := hw.nh; have := hw.nl; have := hw.np; omega)] at er_1
  subst er_1
  have hA0_n_3 : LG u u := (LG.refl u)
  have hA_n_3 := hA0_n_3 hw00.lw
  have h1_n_3 := hA_n_3.2.1.le
  have hB0_n_3 : LG u (cQu u (nI v_2)) := LG.qu
  have hB_n_3 := hB0_n_3 hA_n_3.1
  have hC0_n_3 : LG (cQu u (nI v_2)) (cWt u x) := (by rw [show (cWt u x) = (cQu u (nI v_2)) from by unfold cWt; rw [if_pos exr_1, ev_2]]; exact LG.refl _)
  have hC_n_3 := hC0_n_3 hB_n_3.1
  have h2_n_3 := hB_n_3.2.1.le
  have h3_n_3 := hC_n_3.2.1.le
  refine k_v hH (k_runV (rest := []) C0 hH (cC_X10_queueUp l G A _ b _ hR hw v_2 hv_2) mv_X10_queueUp ml_X10_302 ci_14 (hR.kind (K := 14) (i := 0) rfl) rfl ⟨Nat.le_of_ble_eq_true rfl, Nat.le_of_ble_eq_true rfl⟩ hl.1 rfl (Nat.le_of_ble_eq_true rfl) dX10_waitingAt_6 ⟨by show _ ≤ (UC (cWt u x) - UC u); omega, by show _ ≤ (US (cWt u x) - US u); omega⟩) (fun h H locs hp hH => ?_)
  obtain ⟨b, hbx, hR, hw⟩ := hp
  rw [← hbx 14 0 (by decide) rfl] at hl
  replace hbe := hbe.trans ((Gw.refl u).trans hA_n_3.2.1) hbx
  have hgu_n_3 := ((Gw.refl u).trans hA_n_3.2.1).trans hB_n_3.2.1
  have hlw_n_3 := hB_n_3.1
  obtain ⟨U_n_3, hU_n_3⟩ : ∃ z, z = (cQu u (nI v_2)) := ⟨_, rfl⟩
  rw [← hU_n_3] at hR hw hgu_n_3 hlw_n_3
  have hE_n_3 : UC U_n_3 = UC (cQu u (nI v_2)) ∧ US U_n_3 = US (cQu u (nI v_2)) := by rw [hU_n_3]; exact ⟨rfl, rfl⟩
  have hn_n_3 : nhN U_n_3 = nhN u ∧ nlN U_n_3 = nlN u ∧ npN U_n_3 = npN u := by rw [hU_n_3]; exact ⟨hB_n_3.2.2.1.trans hA_n_3.2.2.1, hB_n_3.2.2.2.1.trans hA_n_3.2.2.2.1, hB_n_3.2.2.2.2.trans hA_n_3.2.2.2.2⟩
  have hc7 := hw.cnt6 7
  have hc8 := hw.cnt6 8
  have hc9 := hw.cnt6 9
  replace hv_2 : v_2 < nlN U_n_3 := by rw [hn_n_3.2.1]; exact hv_2
  have hk_n_3 : ∀ k, qk k = true → U_n_3 k = u k := fun k e9 => by rw [hU_n_3]; exact cQu_k e9
  have hQ : cQu u x = U_n_3 := by rw [ev_2, hU_n_3]
  have hqs : szN U_n_3 3 ≤ 40 := by have h9 := (cQu_s (u := u) x hw00.np).2.1; rw [hQ] at h9; have := hw00.np; omega
  refine lv_iload_n hx hb dX10_waitingAt_9 rfl (lv_at hl 2 rfl) ?_
  refine lv_if_lt (tgt := 24) hx hb dX10_waitingAt_10 (by decide) (fun c10_4 => ?_) (fun c10_4 => ?_)
  · exact absurd (hX.symm.trans (show xWat u x i0 = some iobC from (by unfold xWat; rw [xo_n exr_1, hQ, if_pos (Or.inl c10_4)] <;> rfl))) (fun z => nomatch z)
  · refine lv_iload_n hx hb dX10_waitingAt_13 rfl (lv_at hl 2 rfl) ?_
    refine lv_aload_n hx hb dX10_waitingAt_14 rfl (lv_at hl 0 rfl) ?_
    refine c_getR C0 hH hR ci_14 (i := 0) (j := 3) rfl rfl (by decide) rfl fl_X10_22 (v := some (b 3 3)) rfl dX10_waitingAt_15 ?_
    refine k_i hH (k_runV (rest := [.int (i0)]) C0 hH (cL_size l G A _ b _ hR hw 3 (show 3 < 6 + npN _ by omega)) mv_Jx4a65c_size_8abf5 ml_X10_79 ci_3 (hR.kind (K := 3) (i := 3) (show 3 < 6 + npN _ by omega)) rfl ⟨Nat.le_of_ble_eq_true rfl, Nat.le_of_ble_eq_true rfl⟩ hl.1 rfl (Nat.le_of_ble_eq_true rfl) dX10_waitingAt_18 ⟨by show _ ≤ (UC (cWt u x) - UC u); omega, by show _ ≤ (US (cWt u x) - US u); omega⟩) (fun r9 h1 H locs hp hH => ?_)
    obtain ⟨er9, eh⟩ := hp
    rw [eh] at hH
    clear eh
    subst er9
    refine lv_icmp_lt (tgt := 35) hx hb dX10_waitingAt_21 (by decide) (fun c21_5 => ?_) (fun c21_5 => ?_)
    · obtain ⟨j5, hj5, ej5⟩ := vp_ex (vp_of (n := szN U_n_3 3) (by omega) c10_4 c21_5) (by omega)
      have kj5 : i0.toNatClampNeg = j5 := by rw [ej5]; exact nI_clamp (by omega)
      rw [ej5] at hl
      refine lv_aload_n hx hb dX10_waitingAt_35 rfl (lv_at hl 0 rfl) ?_
      refine c_getR C0 hH hR ci_14 (i := 0) (j := 3) rfl rfl (by decide) rfl fl_X10_22 (v := some (b 3 3)) rfl dX10_waitingAt_36 ?_
      refine lv_iload_n hx hb dX10_waitingAt_39 rfl (lv_at hl 2 rfl) ?_
      obtain ⟨v_6, hv_6, ev_6⟩ := hw.exP (show vp_in (U_n_3 36 j5) _ from hw.qu hj5)
      have kv_6 : (U_n_3 36 j5).toNatClampNeg = v_6 := by rw [ev_6]; exact nI_clamp (by have := hw.nh; have := hw.np; omega)
      refine k_q hH (k_runV (rest := []) C0 hH (cL_get l G A _ b _ hR hw 3 j5 (show 3 < 6 + npN _ by omega) hj5 (a := b 9 v_6) (show b 9 (U_n_3 36 j5).toNatClampNeg = b 9 v_6 from by rw [ev_6, nI_clamp (by have := hw.np; omega)])) mv_Jx4a65c_get_915e3 ml_X10_143 ci_3 (hR.kind (K := 3) (i := 3) (show 3 < 6 + npN _ by omega)) rfl ⟨Nat.le_of_ble_eq_true rfl, Nat.le_of_ble_eq_true rfl⟩ hl.1 rfl (Nat.le_of_ble_eq_true rfl) dX10_waitingAt_40 ⟨by show _ ≤ (UC (cWt u x) - UC u); omega, by show _ ≤ (US (cWt u x) - US u); omega⟩) (fun r9 h1 H locs hp hH => ?_)
      obtain ⟨er9, eh⟩ := hp
      rw [eh] at hH
      clear eh
      subst er9
      refine k_chk C0 hH ci_9 (hR.kind (K := 9) (i := v_6) hv_6) cl_X10_162 dX10_waitingAt_43 ?_
      refine c_getI C0 hH hR ci_9 (i := v_6) (j := 0) hv_6 rfl (by decide) rfl fl_X10_185 (v := U_n_3 36 j5) ev_6.symm dX10_waitingAt_46 ?_
      have hA0_z : LG U_n_3 U_n_3 := (LG.refl U_n_3)
      have hA_z := hA0_z hlw_n_3
      have h1_z := hA_z.2.1.le
      have eM : (cWt u x) = U_n_3 := by unfold cWt; rw [if_pos exr_1, ev_2, hU_n_3]
      refine vx_ret ?_
      have eR : (U_n_3 36 j5 : Int32) = cQu u x 36 i0.toNatClampNeg := by rw [hQ, kj5]
      exact e_I C0 hr hH ⟨(by unfold xWat; rw [xo_n exr_1, hQ, if_neg (fun z => z.elim c10_4 (fun y => y c21_5))]), eR, b, hbe, by rw [eM]; exact ⟨hR, hw⟩⟩ (by rw [eM]; omega) (by rw [eM]; omega) dX10_waitingAt_49
    · exact absurd (hX.symm.trans (show xWat u x i0 = some iobC from (by unfold xWat; rw [xo_n exr_1, hQ, if_pos (Or.inr c21_5)] <;> rfl))) (fun z => nomatch z)
set_option maxHeartbeats 800000 in
set_option maxRecDepth 100000 in
theorem cN_X10_bagsNeeded (l : Launch) (hlt : l.stackTraces = false) (G : GT) (A : Nat → Prop) (h : AH) (b0 : BA) (u : MM) (hR : RC G.2.2.1 h b0 u) (hw : WFc u) (x : Int32) (hX : xLn u x = none) : cxI l G A yX10_bagsNeeded cX10_bagsNeeded 3 (Option.some FieldType.int) 7 195 (UC (cBn u x) - UC u) (US (cBn u x) - US u) [.ref (b0 14 0), .int (x)] h (fun r h' => xLn u x = none ∧ r = cBn u x 8 12 ∧ ∃ b', BE u b0 b' ∧ RC G.2.2.1 h' b' (cBn u x) ∧ WFc (cBn u x)) (fun E h' => xLn u x = some E ∧ ∃ b', BE u b0 b' ∧ RC G.2.2.1 h' b' (cBn u x) ∧ WFc (cBn u x)) := by
  refine cx_of "Routepost" rfl (by decide) (Nat.le_of_ble_eq_true rfl) ?_
  intro pr e s m9 below meth c C0 hxt hr hH ls hl
  obtain ⟨hx, hb, hml, hown, hts, hK, hA, -⟩ := id C0
  have hl : lv_has ls 3 [(0, .ref (b0 14 0)), (1, .int (x))] := hl
  obtain ⟨b, hb0⟩ : ∃ z, z = b0 := ⟨_, rfl⟩
  rw [← hb0] at hR hl
  have hbe : BE u b0 b := by rw [hb0]; exact BE.refl u b0
  have hc7 := hw.cnt6 7
  have hc8 := hw.cnt6 8
  have hc9 := hw.cnt6 9
  have hw00 := hw
  have hRc9 : ∀ c, c ≤ 0 → c ≤ (UC (cBn u x) - UC u) := fun c h9 => by omega
  have hRs9 : ∀ c, c ≤ 0 → c ≤ (US (cBn u x) - US u) := fun c h9 => by omega
  refine lv_aload_n hx hb dX10_bagsNeeded_0 rfl (lv_at hl 0 rfl) ?_
  refine lv_aload_n hx hb dX10_bagsNeeded_1 rfl (lv_at hl 0 rfl) ?_
  refine lv_iload_n hx hb dX10_bagsNeeded_2 rfl (lv_at hl 1 rfl) ?_
  refine k_xq C0 hxt hH (k_xrunV (rest := [.ref (b 14 0)]) C0 hH (cN_X10_lineNumbered l hlt G A _ b _ hR hw x hX) mv_X10_lineNumbered ml_X10_299 ci_14 (hR.kind (K := 14) (i := 0) rfl) rfl ⟨Nat.le_of_ble_eq_true rfl, Nat.le_of_ble_eq_true rfl⟩ hl.1 rfl (Nat.le_of_ble_eq_true rfl) dX10_bagsNeeded_3 ⟨by show _ ≤ (UC (cBn u x) - UC u); omega, by show _ ≤ (US (cBn u x) - US u); omega⟩) (fun E h9 z => ⟨z.1, b, hbe, by rw [z.2, show cBn u x = u from if_neg (fun y9 => by rw [y9] at z; exact nomatch z.1)]; exact ⟨hR, hw⟩⟩) (by omega) (by omega) (fun r_1 h1 H locs hp hH => ?_)
  obtain ⟨exr_1, er_1, eh⟩ := hp
  rw [eh] at hH
  clear eh
  have vpv_2 : vp_in (x) (nlN u) := (xLn_n hw).mp exr_1
  obtain ⟨v_2, hv_2, ev_2⟩ := vp_ex vpv_2 (by have := hw.nh; have := hw.nl; have := hw.np; omega)
  have kv_2 : (x).toNatClampNeg = v_2 := by rw [ev_2]; exact nI_clamp (by have := hw.nh; have := hw.nl; have := hw.np; omega)
  rw [show dec b 8 (x) = some (b 8 v_2) from by rw [ev_2]; exact dec_nI (by have := hw.nh; have := hw.nl; have := hw.np; omega)] at er_1
  subst er_1
  have hA0_n_3 : LG u u := (LG.refl u)
  have hA_n_3 := hA0_n_3 hw00.lw
  have h1_n_3 := hA_n_3.2.1.le
  have hB0_n_3 : LG u (cQu u (nI v_2)) := LG.qu
  have hB_n_3 := hB0_n_3 hA_n_3.1
  have hC0_n_3 : LG (cQu u (nI v_2)) (cBn u x) := (by rw [show cBn u x = cBnL (szN (cQu u (nI v_2)) 3) 0 (up (cQu u (nI v_2)) 8 12 0) from by unfold cBn; rw [if_pos exr_1, ev_2]]; exact (LG.upk (by unfold kSz; decide)).trans (LG.bnL _ _))
  have hC_n_3 := hC0_n_3 hB_n_3.1
  have h2_n_3 := hB_n_3.2.1.le
  have h3_n_3 := hC_n_3.2.1.le
  refine k_v hH (k_runV (rest := []) C0 hH (cC_X10_queueUp l G A _ b _ hR hw v_2 hv_2) mv_X10_queueUp ml_X10_302 ci_14 (hR.kind (K := 14) (i := 0) rfl) rfl ⟨Nat.le_of_ble_eq_true rfl, Nat.le_of_ble_eq_true rfl⟩ hl.1 rfl (Nat.le_of_ble_eq_true rfl) dX10_bagsNeeded_6 ⟨by show _ ≤ (UC (cBn u x) - UC u); omega, by show _ ≤ (US (cBn u x) - US u); omega⟩) (fun h H locs hp hH => ?_)
  obtain ⟨b, hbx, hR, hw⟩ := hp
  rw [← hbx 14 0 (by decide) rfl] at hl
  replace hbe := hbe.trans ((Gw.refl u).trans hA_n_3.2.1) hbx
  have hgu_n_3 := ((Gw.refl u).trans hA_n_3.2.1).trans hB_n_3.2.1
  have hlw_n_3 := hB_n_3.1
  obtain ⟨U_n_3, hU_n_3⟩ : ∃ z, z = (cQu u (nI v_2)) := ⟨_, rfl⟩
  rw [← hU_n_3] at hR hw hgu_n_3 hlw_n_3
  have hE_n_3 : UC U_n_3 = UC (cQu u (nI v_2)) ∧ US U_n_3 = US (cQu u (nI v_2)) := by rw [hU_n_3]; exact ⟨rfl, rfl⟩
  have hn_n_3 : nhN U_n_3 = nhN u ∧ nlN U_n_3 = nlN u ∧ npN U_n_3 = npN u := by rw [hU_n_3]; exact ⟨hB_n_3.2.2.1.trans hA_n_3.2.2.1, hB_n_3.2.2.2.1.trans hA_n_3.2.2.2.1, hB_n_3.2.2.2.2.trans hA_n_3.2.2.2.2⟩
  have hc7 := hw.cnt6 7
  have hc8 := hw.cnt6 8
  have hc9 := hw.cnt6 9
  replace hv_2 : v_2 < nlN U_n_3 := by rw [hn_n_3.2.1]; exact hv_2
  have hk_n_3 : ∀ k, qk k = true → U_n_3 k = u k := fun k e9 => by rw [hU_n_3]; exact cQu_k e9
  have hQ : cQu u x = U_n_3 := by rw [ev_2, hU_n_3]
  have hqs : szN U_n_3 3 ≤ 40 := by have h9 := (cQu_s (u := u) x hw00.np).2.1; rw [hQ] at h9; have := hw00.np; omega
  refine lv_aload_n hx hb dX10_bagsNeeded_9 rfl (lv_at hl 0 rfl) ?_
  refine c_getR C0 hH hR ci_14 (i := 0) (j := 5) rfl rfl (by decide) rfl fl_X10_31 (v := some (b 4 12)) rfl dX10_bagsNeeded_10 ?_
  refine k_v hH (k_runV (rest := []) C0 hH (cC_X0_clear l G A _ b _ hR hw 12 (Or.inr rfl)) mv_X0_clear ml_X10_308 ci_4 (hR.kind (K := 4) (i := 12) (Or.inr rfl)) rfl ⟨Nat.le_of_ble_eq_true rfl, Nat.le_of_ble_eq_true rfl⟩ hl.1 rfl (Nat.le_of_ble_eq_true rfl) dX10_bagsNeeded_13 ⟨by show _ ≤ (UC (cBn u x) - UC u); omega, by show _ ≤ (US (cBn u x) - US u); omega⟩) (fun h H locs hp hH => ?_)
  obtain ⟨hR, hw⟩ := hp
  refine lv_iconst (v := 0) hx hb dX10_bagsNeeded_16 (by decide) ?_
  refine lv_istore_n (lv' := [(2, .int (0)), (0, .ref (b 14 0)), (1, .int (x))]) hx hb dX10_bagsNeeded_17 rfl hl (by decide) rfl (fun ls hl => ?_)
  have K : ∀ (k : Nat) (j : Nat) (U : MM) (cc : Nat) (ss : Nat) (b : BA), j + k = szN U 3 → cBnL k j U = cBn u x → npN U = npN u ∧ nlN U = nlN u → szN U 3 ≤ 40 → Gw u U → cc ≤ 0 + (UC U - UC u) → ss ≤ 0 + (US U - US u) → BE u b0 b → ∀ (h : AH) (H : Heap) (locs : List Loc) (hH : HS G.1 G.2.1 A s.heap h H locs) (hR : RC G.2.2.1 h b U) (hw : WFc U) (ls : Array Slot), lv_has ls 3 [(2, .int (nI j)), (0, .ref (b 14 0)), (1, .int (x))] → W pr l e (rmm 7 195 ((UC (cBn u x) - UC u)) ((US (cBn u x) - US u))) s m9 ([.ref (b0 14 0), .int (x)] : List Value).toArray below meth c H locs cc ss (vx_MQ below (va_Qi (fun r h' => xLn u x = none ∧ r = cBn u x 8 12 ∧ ∃ b', BE u b0 b' ∧ RC G.2.2.1 h' b' (cBn u x) ∧ WFc (cBn u x)) (fun h' t => HW G.1 G.2.1 A h' t.heap) A) (xcP G A (fun E h' => xLn u x = some E ∧ ∃ b', BE u b0 b' ∧ RC G.2.2.1 h' b' (cBn u x) ∧ WFc (cBn u x))) ([.ref (b0 14 0), .int (x)] : List Value).toArray s ((UC (cBn u x) - UC u)) ((US (cBn u x) - US u)) A) (F0 m9 18 ls []) := by
    intro k
    induction k with
    | zero =>
      intro j U cc ss b hik hT hnU hs3 hgU hcc hss hbe h H locs hH hR hw ls hl
      have hwU := hw
      have hlU := hw.lw
      have hle0 := hgU.le
      have hc7 := hw.cnt6 7
      have hc8 := hw.cnt6 8
      have hc9 := hw.cnt6 9
      have hTg := (LG.bnL 0 j : LG U (cBnL 0 j U)) hlU
      rw [hT] at hTg
      have hTl := hTg.2.1.le
      refine lv_iload_n hx hb dX10_bagsNeeded_18 rfl (lv_at hl 0 rfl) ?_
      refine lv_aload_n hx hb dX10_bagsNeeded_19 rfl (lv_at hl 1 rfl) ?_
      refine c_getR C0 hH hR ci_14 (i := 0) (j := 3) rfl rfl (by decide) rfl fl_X10_22 (v := some (b 3 3)) rfl dX10_bagsNeeded_20 ?_
      refine k_i hH (k_runV (rest := [.int (nI j)]) C0 hH (cL_size l G A _ b _ hR hw 3 (show 3 < 6 + npN _ by omega)) mv_Jx4a65c_size_8abf5 ml_X10_79 ci_3 (hR.kind (K := 3) (i := 3) (show 3 < 6 + npN _ by omega)) rfl ⟨Nat.le_of_ble_eq_true rfl, Nat.le_of_ble_eq_true rfl⟩ hl.1 rfl (Nat.le_of_ble_eq_true rfl) dX10_bagsNeeded_23 ⟨by show _ ≤ (UC (cBn u x) - UC u); omega, by show _ ≤ (US (cBn u x) - US u); omega⟩) (fun r9 h1 H locs hp hH => ?_)
      obtain ⟨er9, eh⟩ := hp
      rw [eh] at hH
      clear eh
      subst er9
      refine lv_icmp_ge (tgt := 56) hx hb dX10_bagsNeeded_26 (by decide) (fun c26_5 => ?_) (fun c26_5 => ?_)
      · refine lv_aload_n hx hb dX10_bagsNeeded_56 rfl (lv_at hl 1 rfl) ?_
        refine c_getR C0 hH hR ci_14 (i := 0) (j := 5) rfl rfl (by decide) rfl fl_X10_31 (v := some (b 4 12)) rfl dX10_bagsNeeded_57 ?_
        refine c_getI C0 hH hR ci_4 (i := 12) (j := 2) (Or.inr rfl) rfl (by decide) rfl fl_X10_315 (v := U 8 12) rfl dX10_bagsNeeded_60 ?_
        have hA0_z : LG U U := (LG.refl U)
        have hA_z := hA0_z hlU
        have h1_z := hA_z.2.1.le
        have eM : (cBn u x) = U := by rw [← hT]; rfl
        refine vx_ret ?_
        have eR : (U 8 12 : Int32) = cBn u x 8 12 := by rw [← hT]; rfl
        exact e_I C0 hr hH ⟨exr_1, eR, b, hbe, by rw [eM]; exact ⟨hR, hw⟩⟩ (by rw [eM]; omega) (by rw [eM]; omega) dX10_bagsNeeded_63
      · exact absurd (by rw [show j = szN U 3 by omega]; exact Int32.le_refl _) c26_5
    | succ k ih =>
      intro j U cc ss b hik hT hnU hs3 hgU hcc hss hbe h H locs hH hR hw ls hl
      have hwU := hw
      have hlU := hw.lw
      have hle0 := hgU.le
      have hc7 := hw.cnt6 7
      have hc8 := hw.cnt6 8
      have hc9 := hw.cnt6 9
      have hTg := (LG.bnL (k + 1) j : LG U (cBnL (k + 1) j U)) hlU
      rw [hT] at hTg
      have hTl := hTg.2.1.le
      refine lv_iload_n hx hb dX10_bagsNeeded_18 rfl (lv_at hl 0 rfl) ?_
      refine lv_aload_n hx hb dX10_bagsNeeded_19 rfl (lv_at hl 1 rfl) ?_
      refine c_getR C0 hH hR ci_14 (i := 0) (j := 3) rfl rfl (by decide) rfl fl_X10_22 (v := some (b 3 3)) rfl dX10_bagsNeeded_20 ?_
      refine k_i hH (k_runV (rest := [.int (nI j)]) C0 hH (cL_size l G A _ b _ hR hw 3 (show 3 < 6 + npN _ by omega)) mv_Jx4a65c_size_8abf5 ml_X10_79 ci_3 (hR.kind (K := 3) (i := 3) (show 3 < 6 + npN _ by omega)) rfl ⟨Nat.le_of_ble_eq_true rfl, Nat.le_of_ble_eq_true rfl⟩ hl.1 rfl (Nat.le_of_ble_eq_true rfl) dX10_bagsNeeded_23 ⟨by show _ ≤ (UC (cBn u x) - UC u); omega, by show _ ≤ (US (cBn u x) - US u); omega⟩) (fun r9 h1 H locs hp hH => ?_)
      obtain ⟨er9, eh⟩ := hp
      rw [eh] at hH
      clear eh
      subst er9
      refine lv_icmp_ge (tgt := 56) hx hb dX10_bagsNeeded_26 (by decide) (fun c26_6 => ?_) (fun c26_6 => ?_)
      · exact absurd c26_6 (nI_ge (show j < szN U 3 by omega) (by omega))
      · have hjU : j < szN U 3 := by omega
        refine lv_aload_n hx hb dX10_bagsNeeded_29 rfl (lv_at hl 1 rfl) ?_
        refine c_getR C0 hH hR ci_14 (i := 0) (j := 5) rfl rfl (by decide) rfl fl_X10_31 (v := some (b 4 12)) rfl dX10_bagsNeeded_30 ?_
        refine lv_aload_n hx hb dX10_bagsNeeded_33 rfl (lv_at hl 1 rfl) ?_
        refine c_getR C0 hH hR ci_14 (i := 0) (j := 3) rfl rfl (by decide) rfl fl_X10_22 (v := some (b 3 3)) rfl dX10_bagsNeeded_34 ?_
        refine lv_iload_n hx hb dX10_bagsNeeded_37 rfl (lv_at hl 0 rfl) ?_
        obtain ⟨v_7, hv_7, ev_7⟩ := hw.exP (show vp_in (U 36 j) _ from hw.qu hjU)
        have kv_7 : (U 36 j).toNatClampNeg = v_7 := by rw [ev_7]; exact nI_clamp (by have := hw.nh; have := hw.np; omega)
        refine k_q hH (k_runV (rest := [.ref (b 4 12)]) C0 hH (cL_get l G A _ b _ hR hw 3 j (show 3 < 6 + npN _ by omega) hjU (a := b 9 v_7) (show b 9 (U 36 j).toNatClampNeg = b 9 v_7 from by rw [ev_7, nI_clamp (by have := hw.np; omega)])) mv_Jx4a65c_get_915e3 ml_X10_143 ci_3 (hR.kind (K := 3) (i := 3) (show 3 < 6 + npN _ by omega)) rfl ⟨Nat.le_of_ble_eq_true rfl, Nat.le_of_ble_eq_true rfl⟩ hl.1 rfl (Nat.le_of_ble_eq_true rfl) dX10_bagsNeeded_38 ⟨by show _ ≤ (UC (cBn u x) - UC u); omega, by show _ ≤ (US (cBn u x) - US u); omega⟩) (fun r9 h1 H locs hp hH => ?_)
        obtain ⟨er9, eh⟩ := hp
        rw [eh] at hH
        clear eh
        subst er9
        refine k_chk C0 hH ci_9 (hR.kind (K := 9) (i := v_7) hv_7) cl_X10_162 dX10_bagsNeeded_41 ?_
        refine lv_bipush (v := 40) hx hb dX10_bagsNeeded_44 (by decide) ?_
        have hA0_n_8 : LG U U := (LG.refl U)
        have hA_n_8 := hA0_n_8 hlU
        have h1_n_8 := hA_n_8.2.1.le
        refine k_i hH (k_runV (rest := []) C0 hH (cC_X0_put l G A _ b _ hR hw 12 40 v_7 40 (Or.inr rfl) rfl hv_7) mv_X0_put ml_X10_311 ci_4 (hR.kind (K := 4) (i := 12) (Or.inr rfl)) rfl ⟨Nat.le_of_ble_eq_true rfl, Nat.le_of_ble_eq_true rfl⟩ hl.1 rfl (Nat.le_of_ble_eq_true rfl) dX10_bagsNeeded_46 ⟨by show _ ≤ (UC (cBn u x) - UC u); omega, by show _ ≤ (US (cBn u x) - US u); omega⟩) (fun r_9 h H locs hp hH => ?_)
        obtain ⟨er_9, hR, hw⟩ := hp
        subst er_9
        have hB0_n_8 : LG U ((cPut U 12 40 v_7 40).2) := LG.put
        have hB_n_8 := hB0_n_8 hA_n_8.1
        have h2_n_8 := hB_n_8.2.1.le
        have hgu_n_8 := (hgU.trans hA_n_8.2.1).trans hB_n_8.2.1
        have hlw_n_8 := hB_n_8.1
        obtain ⟨U_n_8, hU_n_8⟩ : ∃ z, z = ((cPut U 12 40 v_7 40).2) := ⟨_, rfl⟩
        rw [← hU_n_8] at hR hw hgu_n_8 hlw_n_8
        have hE_n_8 : UC U_n_8 = UC ((cPut U 12 40 v_7 40).2) ∧ US U_n_8 = US ((cPut U 12 40 v_7 40).2) := by rw [hU_n_8]; exact ⟨rfl, rfl⟩
        have hn_n_8 : nhN U_n_8 = nhN U ∧ nlN U_n_8 = nlN U ∧ npN U_n_8 = npN U := by rw [hU_n_8]; exact ⟨hB_n_8.2.2.1.trans hA_n_8.2.2.1, hB_n_8.2.2.2.1.trans hA_n_8.2.2.2.1, hB_n_8.2.2.2.2.trans hA_n_8.2.2.2.2⟩
        have hc7 := hw.cnt6 7
        have hc8 := hw.cnt6 8
        have hc9 := hw.cnt6 9
        replace hv_7 : v_7 < npN U_n_8 := by rw [hn_n_8.2.2]; exact hv_7
        refine lv_pop hx hb dX10_bagsNeeded_49 rfl ?_
        refine lv_iinc (v := nI (j + 1)) (lv' := [(2, .int (nI (j + 1))), (0, .ref (b 14 0)), (1, .int (x))]) hx hb dX10_bagsNeeded_50 hl (k := 0) rfl (by rw [← nI_1]; rfl) (by decide) rfl (fun ls hl => ?_)
        refine lv_goto (tgt := 18) hx hb dX10_bagsNeeded_53 (by decide) ?_
        exact ih (j + 1) U_n_8 cc ss b (by rw [show szN U_n_8 3 = szN U 3 by unfold szN; rw [hU_n_8, cPut_k rfl]]; omega) (by rw [← hT]; simp only [cBnL]; rw [kv_7, hU_n_8]) ⟨hn_n_8.2.2.trans hnU.1, hn_n_8.2.1.trans hnU.2⟩ (by rw [show szN U_n_8 3 = szN U 3 by unfold szN; rw [hU_n_8, cPut_k rfl]]; exact hs3) hgu_n_8 (by omega) (by omega) hbe _ _ _ hH hR hw ls (lv_sub hl [0, 1, 2] rfl)
  have hA0_y : LG U_n_3 (up U_n_3 8 12 0) := (LG.trans (LG.refl U_n_3) (LG.upk (k := 8) (by unfold kSz; decide)))
  have hA_y := hA0_y hlw_n_3
  have h1_y := hA_y.2.1.le
  exact K (szN U_n_3 3) 0 (up U_n_3 8 12 0) _ _ b (by show 0 + _ = szN U_n_3 3; omega) (by unfold cBn; rw [if_pos exr_1, hQ]) ⟨hA_y.2.2.2.2.trans hn_n_3.2.2, hA_y.2.2.2.1.trans hn_n_3.2.1⟩ hqs (hgu_n_3.trans hA_y.2.1) (by omega) (by omega) hbe _ _ _ hH hR hw ls (lv_sub hl [0, 1, 2] rfl)


