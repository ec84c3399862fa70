/-! the wrappers -/
def zl (r : Int32) : Int64 := if r = 0 then 0 else 1
theorem xEv_ok {u : MM} {x i0 : Int32} (hw : WFc u) (h : xEv u x i0 = none) : ok u 5 (1024 * x.toNatClampNeg + i0.toNatClampNeg) := by
  obtain ⟨vx, vi⟩ := xEv_vi hw h
  have h1 := vp_nat vx
  have h2 := vp_nat vi
  obtain ⟨h3, h4⟩ := hw.sz6 h1
  refine (show (1024 * x.toNatClampNeg + i0.toNatClampNeg) / 1024 < npN u ∧ (1024 * x.toNatClampNeg + i0.toNatClampNeg) % 1024 < evN u ((1024 * x.toNatClampNeg + i0.toNatClampNeg) / 1024) from ?_)
  have e1 : (1024 * x.toNatClampNeg + i0.toNatClampNeg) / 1024 = x.toNatClampNeg := by omega
  have e2 : (1024 * x.toNatClampNeg + i0.toNatClampNeg) % 1024 = i0.toNatClampNeg := by omega
  rw [e1, e2, h4]
  exact ⟨h1, h2⟩
theorem cW_openHub (l : Launch) (hlt : l.stackTraces = false) (G : GT) (A : Nat → Prop) (h : AH) (b0 : BA) (u : MM) (hR : RC G.2.2.1 h b0 u) (hw : WFc u) (x y : Int32) (cL cD : ClassId) (o : Nat) (v0 : Value) :
    cwM l G A yL_openHub cL_openHub 5 [(0, 10, 13, 13), (0, 10, 17, 15)] (7 + 1) (8 + (4 + 11) + 191) (4 + (UC (cHb u x y) - UC u)) (24 + (US (cHb u x y) - US u)) [.ref (b0 14 0), .int (x), .int (y), .ref o] h cL cD cL o v0 (WPost G.2.2.1 u b0 (if xOpH u x y = none then (cHb u x y) else u) [iaeC, iseC] (xOpH u x y) (.long ((nI (nhN u)).toInt64))) := by
  refine cW_core (R := nI (nhN u)) (idx := 7) (pci := 5) (pcs := 9) (pce := 21) (off := 11) (As := [.int (x), .int (y)]) ms_L_openHub mv_X10_openHub ml_L_7 rfl (Nat.le_of_ble_eq_true rfl) dL_openHub_5 dL_openHub_9 dL_openHub_10 (by decide) dL_openHub_21 dL_openHub_22 ⟨⟨by decide, by decide, cl_L_13, ca_321, 4, 2, by decide, Or.inr ⟨dL_openHub_13, rfl⟩, 1, by decide, dL_openHub_15, dL_openHub_16⟩, by decide +kernel, ⟨by decide, by decide, cl_L_15, ca_411, 4, 2, by decide, Or.inr ⟨dL_openHub_17, rfl⟩, 2, by decide, dL_openHub_19, dL_openHub_20⟩, by decide +kernel, True.intro⟩ ?_ ?_ hR (cC_X10_openHub l hlt G A h b0 u hR hw x y) (xOpH_in) (fun r h' hp => ⟨hp.1, hp.2.1, by rw [if_pos hp.1]; exact hp.2.2⟩) (fun E h' hx => ⟨hx.1, b0, BE.refl u b0, by rw [if_neg (by rw [hx.1]; exact fun z => by cases z), hx.2]; exact hR, by rw [if_neg (by rw [hx.1]; exact fun z => by cases z)]; exact hw⟩)
  · intro p e R s m args below meth c9 H locs cells slots Q ls hx hb hl k
    refine lv_aload_n hx hb dL_openHub_0 rfl (lv_at hl 3 rfl) ?_
    refine lv_iconst (v := 0) hx hb dL_openHub_1 (by decide) ?_
    refine lv_aload_n hx hb dL_openHub_2 rfl (lv_at hl 0 rfl) ?_
    refine lv_iload_n hx hb dL_openHub_3 rfl (lv_at hl 1 rfl) ?_
    refine lv_iload_n hx hb dL_openHub_4 rfl (lv_at hl 2 rfl) ?_
    exact k
  · intro p e R s m args below meth c9 H locs cells slots Q ls hx hb hl k
    refine lv_i2l hx hb dL_openHub_8 rfl ?_
    exact k
theorem cW_addLine (l : Launch) (hlt : l.stackTraces = false) (G : GT) (A : Nat → Prop) (h : AH) (b0 : BA) (u : MM) (hR : RC G.2.2.1 h b0 u) (hw : WFc u) (x y f per tr mb : Int32) (cL cD : ClassId) (o : Nat) (v0 : Value) :
    cwM l G A yL_addLine cL_addLine 9 [(0, 18, 21, 21), (0, 18, 25, 13), (0, 18, 29, 15)] (7 + 1) (8 + (10 + 11) + 191) (4 + (UC (cAddM u x y f per tr mb) - UC u)) (24 + (US (cAddM u x y f per tr mb) - US u)) [.ref (b0 14 0), .int (x), .int (y), .int (f), .int (per), .int (tr), .int (mb), .ref o] h cL cD cL o v0 (WPost G.2.2.1 u b0 (if xAdd u x y f per tr mb = none then (cAddM u x y f per tr mb) else u) [nseC, iaeC, iseC] (xAdd u x y f per tr mb) (.long ((nI (nlN u)).toInt64))) := by
  refine cW_core (R := nI (nlN u)) (idx := 17) (pci := 13) (pcs := 17) (pce := 33) (off := 15) (As := [.int (x), .int (y), .int (f), .int (per), .int (tr), .int (mb)]) ms_L_addLine mv_X10_addLine ml_L_17 rfl (Nat.le_of_ble_eq_true rfl) dL_addLine_13 dL_addLine_17 dL_addLine_18 (by decide) dL_addLine_33 dL_addLine_34 ⟨⟨by decide, by decide, cl_L_21, ca_463, 8, 2, by decide, Or.inr ⟨dL_addLine_21, rfl⟩, 1, by decide, dL_addLine_23, dL_addLine_24⟩, by decide +kernel, ⟨by decide, by decide, cl_L_13, ca_321, 8, 2, by decide, Or.inr ⟨dL_addLine_25, rfl⟩, 2, by decide, dL_addLine_27, dL_addLine_28⟩, by decide +kernel, ⟨by decide, by decide, cl_L_15, ca_411, 8, 2, by decide, Or.inr ⟨dL_addLine_29, rfl⟩, 3, by decide, dL_addLine_31, dL_addLine_32⟩, by decide +kernel, True.intro⟩ ?_ ?_ hR (cC_X10_addLine l hlt G A h b0 u hR hw x y f per tr mb) (xAdd_in) (fun r h' hp => ⟨hp.1, hp.2.1, by rw [if_pos hp.1]; exact hp.2.2⟩) (fun E h' hx => ⟨hx.1, b0, BE.refl u b0, by rw [if_neg (by rw [hx.1]; exact fun z => by cases z), hx.2]; exact hR, by rw [if_neg (by rw [hx.1]; exact fun z => by cases z)]; exact hw⟩)
  · intro p e R s m args below meth c9 H locs cells slots Q ls hx hb hl k
    refine lv_aload hx hb dL_addLine_0 (lv_at hl 7 rfl) ?_
    refine lv_iconst (v := 0) hx hb dL_addLine_2 (by decide) ?_
    refine lv_aload_n hx hb dL_addLine_3 rfl (lv_at hl 0 rfl) ?_
    refine lv_iload_n hx hb dL_addLine_4 rfl (lv_at hl 1 rfl) ?_
    refine lv_iload_n hx hb dL_addLine_5 rfl (lv_at hl 2 rfl) ?_
    refine lv_iload_n hx hb dL_addLine_6 rfl (lv_at hl 3 rfl) ?_
    refine lv_iload hx hb dL_addLine_7 (lv_at hl 4 rfl) ?_
    refine lv_iload hx hb dL_addLine_9 (lv_at hl 5 rfl) ?_
    refine lv_iload hx hb dL_addLine_11 (lv_at hl 6 rfl) ?_
    exact k
  · intro p e R s m args below meth c9 H locs cells slots Q ls hx hb hl k
    refine lv_i2l hx hb dL_addLine_16 rfl ?_
    exact k
theorem cW_closeLine (l : Launch) (hlt : l.stackTraces = false) (G : GT) (A : Nat → Prop) (h : AH) (b0 : BA) (u : MM) (hR : RC G.2.2.1 h b0 u) (hw : WFc u) (x : Int32) (cL cD : ClassId) (o : Nat) (v0 : Value) :
    cwM l G A yL_closeLine cL_closeLine 4 [(0, 9, 12, 21), (0, 9, 15, 15)] (8 + 1) (8 + (4 + 11) + 159) 2 12 [.ref (b0 14 0), .int (x), .ref o] h cL cD cL o v0 (WPost G.2.2.1 u b0 (cClo u x) [nseC, iseC] (xOpn u x) (.long ((cCw u x).toInt64))) := by
  refine cW_core (R := cCw u x) (idx := 23) (pci := 4) (pcs := 8) (pce := 18) (off := 9) (As := [.int (x)]) ms_L_closeLine mv_X10_closeLine ml_L_23 rfl (Nat.le_of_ble_eq_true rfl) dL_closeLine_4 dL_closeLine_8 dL_closeLine_9 (by decide) dL_closeLine_18 dL_closeLine_19 ⟨⟨by decide, by decide, cl_L_21, ca_463, 3, 1, by decide, Or.inl ⟨3, rfl, dL_closeLine_12, rfl⟩, 1, by decide, dL_closeLine_13, dL_closeLine_14⟩, by decide +kernel, ⟨by decide, by decide, cl_L_15, ca_411, 3, 1, by decide, Or.inl ⟨3, rfl, dL_closeLine_15, rfl⟩, 2, by decide, dL_closeLine_16, dL_closeLine_17⟩, by decide +kernel, True.intro⟩ ?_ ?_ hR (cC_X10_closeLine l hlt G A h b0 u hR hw x) (xOpn_in) (fun r h' hp => ⟨hp.1, hp.2.1, b0, BE.refl u b0, hp.2.2.1, hp.2.2.2⟩) (fun E h' hx => ⟨hx.1, b0, BE.refl u b0, hx.2.1, hx.2.2⟩)
  · intro p e R s m args below meth c9 H locs cells slots Q ls hx hb hl k
    refine lv_aload_n hx hb dL_closeLine_0 rfl (lv_at hl 2 rfl) ?_
    refine lv_iconst (v := 0) hx hb dL_closeLine_1 (by decide) ?_
    refine lv_aload_n hx hb dL_closeLine_2 rfl (lv_at hl 0 rfl) ?_
    refine lv_iload_n hx hb dL_closeLine_3 rfl (lv_at hl 1 rfl) ?_
    exact k
  · intro p e R s m args below meth c9 H locs cells slots Q ls hx hb hl k
    refine lv_i2l hx hb dL_closeLine_7 rfl ?_
    exact k
theorem cW_accept (l : Launch) (hlt : l.stackTraces = false) (G : GT) (A : Nat → Prop) (h : AH) (b0 : BA) (u : MM) (hR : RC G.2.2.1 h b0 u) (hw : WFc u) (x ad vol ser : Int32) (cL cD : ClassId) (o : Nat) (v0 : Value) :
    cwM l G A yL_accept cL_accept 7 [(0, 14, 17, 21), (0, 14, 21, 13), (0, 14, 25, 15)] (9 + 1) (8 + (8 + 11) + 355) (4 + (UC (cAcc u x ad vol ser) - UC u)) (24 + (US (cAcc u x ad vol ser) - US u)) [.ref (b0 14 0), .int (x), .int (ad), .int (vol), .int (ser), .ref o] h cL cD cL o v0 (WPost G.2.2.1 u b0 (if xAcc u x ad vol ser = none then (cAcc u x ad vol ser) else u) [nseC, iaeC, iseC] (xAcc u x ad vol ser) (.long ((nI (npN u)).toInt64))) := by
  refine cW_core (R := nI (npN u)) (idx := 27) (pci := 9) (pcs := 13) (pce := 29) (off := 15) (As := [.int (x), .int (ad), .int (vol), .int (ser)]) ms_L_accept mv_X10_accept ml_L_27 rfl (Nat.le_of_ble_eq_true rfl) dL_accept_9 dL_accept_13 dL_accept_14 (by decide) dL_accept_29 dL_accept_30 ⟨⟨by decide, by decide, cl_L_21, ca_463, 6, 2, by decide, Or.inr ⟨dL_accept_17, rfl⟩, 1, by decide, dL_accept_19, dL_accept_20⟩, by decide +kernel, ⟨by decide, by decide, cl_L_13, ca_321, 6, 2, by decide, Or.inr ⟨dL_accept_21, rfl⟩, 2, by decide, dL_accept_23, dL_accept_24⟩, by decide +kernel, ⟨by decide, by decide, cl_L_15, ca_411, 6, 2, by decide, Or.inr ⟨dL_accept_25, rfl⟩, 3, by decide, dL_accept_27, dL_accept_28⟩, by decide +kernel, True.intro⟩ ?_ ?_ hR (cC_X10_accept l hlt G A h b0 u hR hw x ad vol ser) (xAcc_in) (fun r h' hp => ⟨hp.1, hp.2.1, by rw [if_pos hp.1]; exact hp.2.2⟩) (fun E h' hx => ⟨hx.1, b0, BE.refl u b0, by rw [if_neg (by rw [hx.1]; exact fun z => by cases z), hx.2]; exact hR, by rw [if_neg (by rw [hx.1]; exact fun z => by cases z)]; exact hw⟩)
  · intro p e R s m args below meth c9 H locs cells slots Q ls hx hb hl k
    refine lv_aload hx hb dL_accept_0 (lv_at hl 5 rfl) ?_
    refine lv_iconst (v := 0) hx hb dL_accept_2 (by decide) ?_
    refine lv_aload_n hx hb dL_accept_3 rfl (lv_at hl 0 rfl) ?_
    refine lv_iload_n hx hb dL_accept_4 rfl (lv_at hl 1 rfl) ?_
    refine lv_iload_n hx hb dL_accept_5 rfl (lv_at hl 2 rfl) ?_
    refine lv_iload_n hx hb dL_accept_6 rfl (lv_at hl 3 rfl) ?_
    refine lv_iload hx hb dL_accept_7 (lv_at hl 4 rfl) ?_
    exact k
  · intro p e R s m args below meth c9 H locs cells slots Q ls hx hb hl k
    refine lv_i2l hx hb dL_accept_12 rfl ?_
    exact k
theorem cW_scan (l : Launch) (hlt : l.stackTraces = false) (G : GT) (A : Nat → Prop) (h : AH) (b0 : BA) (u : MM) (hR : RC G.2.2.1 h b0 u) (hw : WFc u) (x y : Int32) (cL cD : ClassId) (o : Nat) (v0 : Value) :
    cwM l G A yL_scan cL_scan 5 [(0, 10, 13, 21), (0, 10, 17, 15)] (11 + 1) (8 + (5 + 11) + 398) (4 + (UC (cScn u x y) - UC u)) (24 + (US (cScn u x y) - US u)) [.ref (b0 14 0), .int (x), .int (y), .ref o] h cL cD cL o v0 (WPost G.2.2.1 u b0 (if xScn u x y = none then (cScn u x y) else u) [nseC, iseC] (xScn u x y) (.long ((cScnR u x y).toInt64))) := by
  refine cW_core (R := cScnR u x y) (idx := 31) (pci := 5) (pcs := 9) (pce := 21) (off := 11) (As := [.int (x), .int (y)]) ms_L_scan mv_X10_scan ml_L_31 rfl (Nat.le_of_ble_eq_true rfl) dL_scan_5 dL_scan_9 dL_scan_10 (by decide) dL_scan_21 dL_scan_22 ⟨⟨by decide, by decide, cl_L_21, ca_463, 4, 2, by decide, Or.inr ⟨dL_scan_13, rfl⟩, 1, by decide, dL_scan_15, dL_scan_16⟩, by decide +kernel, ⟨by decide, by decide, cl_L_15, ca_411, 4, 2, by decide, Or.inr ⟨dL_scan_17, rfl⟩, 2, by decide, dL_scan_19, dL_scan_20⟩, by decide +kernel, True.intro⟩ ?_ ?_ hR (cC_X10_scan l hlt G A h b0 u hR hw x y) (xScn_in) (fun r h' hp => ⟨hp.1, hp.2.1, by rw [if_pos hp.1]; exact hp.2.2⟩) (fun E h' hx => ⟨hx.1, b0, BE.refl u b0, by rw [if_neg (by rw [hx.1]; exact fun z => by cases z), hx.2]; exact hR, by rw [if_neg (by rw [hx.1]; exact fun z => by cases z)]; exact hw⟩)
  · intro p e R s m args below meth c9 H locs cells slots Q ls hx hb hl k
    refine lv_aload_n hx hb dL_scan_0 rfl (lv_at hl 3 rfl) ?_
    refine lv_iconst (v := 0) hx hb dL_scan_1 (by decide) ?_
    refine lv_aload_n hx hb dL_scan_2 rfl (lv_at hl 0 rfl) ?_
    refine lv_iload_n hx hb dL_scan_3 rfl (lv_at hl 1 rfl) ?_
    refine lv_iload_n hx hb dL_scan_4 rfl (lv_at hl 2 rfl) ?_
    exact k
  · intro p e R s m args below meth c9 H locs cells slots Q ls hx hb hl k
    refine lv_i2l hx hb dL_scan_8 rfl ?_
    exact k
theorem cW_deliver (l : Launch) (hlt : l.stackTraces = false) (G : GT) (A : Nat → Prop) (h : AH) (b0 : BA) (u : MM) (hR : RC G.2.2.1 h b0 u) (hw : WFc u) (x t : Int32) (cL cD : ClassId) (o : Nat) (v0 : Value) :
    cwM l G A yL_deliver cL_deliver 5 [(0, 10, 13, 21), (0, 10, 17, 15)] (11 + 1) (8 + (4 + 11) + 397) (4 + (UC (cDel u x t) - UC u)) (24 + (US (cDel u x t) - US u)) [.ref (b0 14 0), .int (x), .int (t), .ref o] h cL cD cL o v0 (WPost G.2.2.1 u b0 (if xDel u x = none then (cDel u x t) else u) [nseC, iseC] (xDel u x) (.long ((cDelR u x t).toInt64))) := by
  refine cW_core (R := cDelR u x t) (idx := 35) (pci := 5) (pcs := 9) (pce := 21) (off := 11) (As := [.int (x), .int (t)]) ms_L_deliver mv_X10_deliver ml_L_35 rfl (Nat.le_of_ble_eq_true rfl) dL_deliver_5 dL_deliver_9 dL_deliver_10 (by decide) dL_deliver_21 dL_deliver_22 ⟨⟨by decide, by decide, cl_L_21, ca_463, 4, 2, by decide, Or.inr ⟨dL_deliver_13, rfl⟩, 1, by decide, dL_deliver_15, dL_deliver_16⟩, by decide +kernel, ⟨by decide, by decide, cl_L_15, ca_411, 4, 2, by decide, Or.inr ⟨dL_deliver_17, rfl⟩, 2, by decide, dL_deliver_19, dL_deliver_20⟩, by decide +kernel, True.intro⟩ ?_ ?_ hR (cC_X10_deliver l hlt G A h b0 u hR hw x t) (xDel_in) (fun r h' hp => ⟨hp.1, hp.2.1, by rw [if_pos hp.1]; exact hp.2.2⟩) (fun E h' hx => ⟨hx.1, b0, BE.refl u b0, by rw [if_neg (by rw [hx.1]; exact fun z => by cases z), hx.2]; exact hR, by rw [if_neg (by rw [hx.1]; exact fun z => by cases z)]; exact hw⟩)
  · intro p e R s m args below meth c9 H locs cells slots Q ls hx hb hl k
    refine lv_aload_n hx hb dL_deliver_0 rfl (lv_at hl 3 rfl) ?_
    refine lv_iconst (v := 0) hx hb dL_deliver_1 (by decide) ?_
    refine lv_aload_n hx hb dL_deliver_2 rfl (lv_at hl 0 rfl) ?_
    refine lv_iload_n hx hb dL_deliver_3 rfl (lv_at hl 1 rfl) ?_
    refine lv_iload_n hx hb dL_deliver_4 rfl (lv_at hl 2 rfl) ?_
    exact k
  · intro p e R s m args below meth c9 H locs cells slots Q ls hx hb hl k
    refine lv_i2l hx hb dL_deliver_8 rfl ?_
    exact k
theorem cW_recall (l : Launch) (hlt : l.stackTraces = false) (G : GT) (A : Nat → Prop) (h : AH) (b0 : BA) (u : MM) (hR : RC G.2.2.1 h b0 u) (hw : WFc u) (x : Int32) (cL cD : ClassId) (o : Nat) (v0 : Value) :
    cwM l G A yL_recall cL_recall 4 [(0, 9, 12, 21), (0, 9, 15, 15)] (10 + 1) (8 + (3 + 11) + 376) (4 + (UC (cTurn u x.toNatClampNeg) - UC u)) (24 + (US (cTurn u x.toNatClampNeg) - US u)) [.ref (b0 14 0), .int (x), .ref o] h cL cD cL o v0 (WPost G.2.2.1 u b0 (if xRec u x = none then (cTurn u x.toNatClampNeg) else u) [nseC, iseC] (xRec u x) (.long ((cTurn u x.toNatClampNeg 20 x.toNatClampNeg).toInt64))) := by
  refine cW_core (R := cTurn u x.toNatClampNeg 20 x.toNatClampNeg) (idx := 39) (pci := 4) (pcs := 8) (pce := 18) (off := 9) (As := [.int (x)]) ms_L_recall mv_X10_recall ml_L_39 rfl (Nat.le_of_ble_eq_true rfl) dL_recall_4 dL_recall_8 dL_recall_9 (by decide) dL_recall_18 dL_recall_19 ⟨⟨by decide, by decide, cl_L_21, ca_463, 3, 1, by decide, Or.inl ⟨3, rfl, dL_recall_12, rfl⟩, 1, by decide, dL_recall_13, dL_recall_14⟩, by decide +kernel, ⟨by decide, by decide, cl_L_15, ca_411, 3, 1, by decide, Or.inl ⟨3, rfl, dL_recall_15, rfl⟩, 2, by decide, dL_recall_16, dL_recall_17⟩, by decide +kernel, True.intro⟩ ?_ ?_ hR (cC_X10_recall l hlt G A h b0 u hR hw x) (xRec_in) (fun r h' hp => ⟨hp.1, hp.2.1, by rw [if_pos hp.1]; exact hp.2.2⟩) (fun E h' hx => ⟨hx.1, b0, BE.refl u b0, by rw [if_neg (by rw [hx.1]; exact fun z => by cases z), hx.2]; exact hR, by rw [if_neg (by rw [hx.1]; exact fun z => by cases z)]; exact hw⟩)
  · intro p e R s m args below meth c9 H locs cells slots Q ls hx hb hl k
    refine lv_aload_n hx hb dL_recall_0 rfl (lv_at hl 2 rfl) ?_
    refine lv_iconst (v := 0) hx hb dL_recall_1 (by decide) ?_
    refine lv_aload_n hx hb dL_recall_2 rfl (lv_at hl 0 rfl) ?_
    refine lv_iload_n hx hb dL_recall_3 rfl (lv_at hl 1 rfl) ?_
    exact k
  · intro p e R s m args below meth c9 H locs cells slots Q ls hx hb hl k
    refine lv_i2l hx hb dL_recall_7 rfl ?_
    exact k
theorem cW_pass (l : Launch) (hlt : l.stackTraces = false) (G : GT) (A : Nat → Prop) (h : AH) (b0 : BA) (u : MM) (hR : RC G.2.2.1 h b0 u) (hw : WFc u) (x : Int32) (cL cD : ClassId) (o : Nat) (v0 : Value) :
    cwM l G A yL_pass cL_pass 4 [(0, 9, 12, 13)] (12 + 1) (8 + (4 + 11) + 423) (4 + (UC ((cPsL x.toNatClampNeg 0 u).2) - UC u)) (24 + (US ((cPsL x.toNatClampNeg 0 u).2) - US u)) [.ref (b0 14 0), .int (x), .ref o] h cL cD cL o v0 (WPost G.2.2.1 u b0 (if xPas x = none then ((cPsL x.toNatClampNeg 0 u).2) else u) [iaeC] (xPas x) (.long (((cPsL x.toNatClampNeg 0 u).1).toInt64))) := by
  refine cW_core (R := (cPsL x.toNatClampNeg 0 u).1) (idx := 42) (pci := 4) (pcs := 8) (pce := 15) (off := 6) (As := [.int (x)]) ms_L_pass mv_X10_pass ml_L_42 rfl (Nat.le_of_ble_eq_true rfl) dL_pass_4 dL_pass_8 dL_pass_9 (by decide) dL_pass_15 dL_pass_16 ⟨⟨by decide, by decide, cl_L_13, ca_321, 3, 1, by decide, Or.inl ⟨3, rfl, dL_pass_12, rfl⟩, 1, by decide, dL_pass_13, dL_pass_14⟩, by decide +kernel, True.intro⟩ ?_ ?_ hR (cC_X10_pass l hlt G A h b0 u hR hw x) (xPas_in) (fun r h' hp => ⟨hp.1, hp.2.1, by rw [if_pos hp.1]; exact hp.2.2⟩) (fun E h' hx => ⟨hx.1, b0, BE.refl u b0, by rw [if_neg (by rw [hx.1]; exact fun z => by cases z), hx.2]; exact hR, by rw [if_neg (by rw [hx.1]; exact fun z => by cases z)]; exact hw⟩)
  · intro p e R s m args below meth c9 H locs cells slots Q ls hx hb hl k
    refine lv_aload_n hx hb dL_pass_0 rfl (lv_at hl 2 rfl) ?_
    refine lv_iconst (v := 0) hx hb dL_pass_1 (by decide) ?_
    refine lv_aload_n hx hb dL_pass_2 rfl (lv_at hl 0 rfl) ?_
    refine lv_iload_n hx hb dL_pass_3 rfl (lv_at hl 1 rfl) ?_
    exact k
  · intro p e R s m args below meth c9 H locs cells slots Q ls hx hb hl k
    refine lv_i2l hx hb dL_pass_7 rfl ?_
    exact k
theorem cW_hubOf (l : Launch) (hlt : l.stackTraces = false) (G : GT) (A : Nat → Prop) (h : AH) (b0 : BA) (u : MM) (hR : RC G.2.2.1 h b0 u) (hw : WFc u) (x : Int32) (cL cD : ClassId) (o : Nat) (v0 : Value) :
    cwM l G A yL_hubOf cL_hubOf 4 [(0, 9, 12, 13)] (6 + 1) (8 + (2 + 11) + 110) 1 6 [.ref (b0 14 0), .int (x), .ref o] h cL cD cL o v0 (WPost G.2.2.1 u b0 u [iaeC] (xAd x) (.long ((cHs u x).toInt64))) := by
  refine cW_core (R := cHs u x) (idx := 45) (pci := 4) (pcs := 8) (pce := 15) (off := 6) (As := [.int (x)]) ms_L_hubOf mv_X10_hubOf ml_L_45 rfl (Nat.le_of_ble_eq_true rfl) dL_hubOf_4 dL_hubOf_8 dL_hubOf_9 (by decide) dL_hubOf_15 dL_hubOf_16 ⟨⟨by decide, by decide, cl_L_13, ca_321, 3, 1, by decide, Or.inl ⟨3, rfl, dL_hubOf_12, rfl⟩, 1, by decide, dL_hubOf_13, dL_hubOf_14⟩, by decide +kernel, True.intro⟩ ?_ ?_ hR (cC_X10_hubOf l hlt G A h b0 u hR hw x) (xAd_in) (fun r h' hp => ⟨hp.1, hp.2.1, b0, BE.refl u b0, by rw [hp.2.2]; exact hR, hw⟩) (fun E h' hx => ⟨hx.1, b0, BE.refl u b0, by rw [hx.2]; exact hR, hw⟩)
  · intro p e R s m args below meth c9 H locs cells slots Q ls hx hb hl k
    refine lv_aload_n hx hb dL_hubOf_0 rfl (lv_at hl 2 rfl) ?_
    refine lv_iconst (v := 0) hx hb dL_hubOf_1 (by decide) ?_
    refine lv_aload_n hx hb dL_hubOf_2 rfl (lv_at hl 0 rfl) ?_
    refine lv_iload_n hx hb dL_hubOf_3 rfl (lv_at hl 1 rfl) ?_
    exact k
  · intro p e R s m args below meth c9 H locs cells slots Q ls hx hb hl k
    refine lv_i2l hx hb dL_hubOf_7 rfl ?_
    exact k
theorem cW_hubByTrying (l : Launch) (hlt : l.stackTraces = false) (G : GT) (A : Nat → Prop) (h : AH) (b0 : BA) (u : MM) (hR : RC G.2.2.1 h b0 u) (hw : WFc u) (x : Int32) (cL cD : ClassId) (o : Nat) (v0 : Value) :
    cwM l G A yL_hubByTrying cL_hubByTrying 4 [(0, 9, 12, 13)] (6 + 1) (8 + (5 + 11) + 90) 1 6 [.ref (b0 14 0), .int (x), .ref o] h cL cD cL o v0 (WPost G.2.2.1 u b0 u [iaeC] (xAd x) (.long ((cHt u x).toInt64))) := by
  refine cW_core (R := cHt u x) (idx := 48) (pci := 4) (pcs := 8) (pce := 15) (off := 6) (As := [.int (x)]) ms_L_hubByTrying mv_X10_hubByTrying ml_L_48 rfl (Nat.le_of_ble_eq_true rfl) dL_hubByTrying_4 dL_hubByTrying_8 dL_hubByTrying_9 (by decide) dL_hubByTrying_15 dL_hubByTrying_16 ⟨⟨by decide, by decide, cl_L_13, ca_321, 3, 1, by decide, Or.inl ⟨3, rfl, dL_hubByTrying_12, rfl⟩, 1, by decide, dL_hubByTrying_13, dL_hubByTrying_14⟩, by decide +kernel, True.intro⟩ ?_ ?_ hR (cC_X10_hubByTrying l hlt G A h b0 u hR hw x) (xAd_in) (fun r h' hp => ⟨hp.1, hp.2.1, b0, BE.refl u b0, by rw [hp.2.2]; exact hR, hw⟩) (fun E h' hx => ⟨hx.1, b0, BE.refl u b0, by rw [hx.2]; exact hR, hw⟩)
  · intro p e R s m args below meth c9 H locs cells slots Q ls hx hb hl k
    refine lv_aload_n hx hb dL_hubByTrying_0 rfl (lv_at hl 2 rfl) ?_
    refine lv_iconst (v := 0) hx hb dL_hubByTrying_1 (by decide) ?_
    refine lv_aload_n hx hb dL_hubByTrying_2 rfl (lv_at hl 0 rfl) ?_
    refine lv_iload_n hx hb dL_hubByTrying_3 rfl (lv_at hl 1 rfl) ?_
    exact k
  · intro p e R s m args below meth c9 H locs cells slots Q ls hx hb hl k
    refine lv_i2l hx hb dL_hubByTrying_7 rfl ?_
    exact k
theorem cW_nextDeparture (l : Launch) (hlt : l.stackTraces = false) (G : GT) (A : Nat → Prop) (h : AH) (b0 : BA) (u : MM) (hR : RC G.2.2.1 h b0 u) (hw : WFc u) (x : Int32) (cL cD : ClassId) (o : Nat) (v0 : Value) :
    cwM l G A yL_nextDeparture cL_nextDeparture 4 [(0, 9, 12, 21), (0, 9, 15, 15)] (8 + 1) (8 + (2 + 11) + 133) 2 12 [.ref (b0 14 0), .int (x), .ref o] h cL cD cL o v0 (WPost G.2.2.1 u b0 u [nseC, iseC] (xOpn u x) (.long ((cDep u x.toNatClampNeg (u 41 0 + 1)).toInt64))) := by
  refine cW_core (R := cDep u x.toNatClampNeg (u 41 0 + 1)) (idx := 51) (pci := 4) (pcs := 8) (pce := 18) (off := 9) (As := [.int (x)]) ms_L_nextDeparture mv_X10_nextDeparture ml_L_51 rfl (Nat.le_of_ble_eq_true rfl) dL_nextDeparture_4 dL_nextDeparture_8 dL_nextDeparture_9 (by decide) dL_nextDeparture_18 dL_nextDeparture_19 ⟨⟨by decide, by decide, cl_L_21, ca_463, 3, 1, by decide, Or.inl ⟨3, rfl, dL_nextDeparture_12, rfl⟩, 1, by decide, dL_nextDeparture_13, dL_nextDeparture_14⟩, by decide +kernel, ⟨by decide, by decide, cl_L_15, ca_411, 3, 1, by decide, Or.inl ⟨3, rfl, dL_nextDeparture_15, rfl⟩, 2, by decide, dL_nextDeparture_16, dL_nextDeparture_17⟩, by decide +kernel, True.intro⟩ ?_ ?_ hR (cC_X10_nextDeparture l hlt G A h b0 u hR hw x) (xOpn_in) (fun r h' hp => ⟨hp.1, hp.2.1, b0, BE.refl u b0, by rw [hp.2.2]; exact hR, hw⟩) (fun E h' hx => ⟨hx.1, b0, BE.refl u b0, by rw [hx.2]; exact hR, hw⟩)
  · intro p e R s m args below meth c9 H locs cells slots Q ls hx hb hl k
    refine lv_aload_n hx hb dL_nextDeparture_0 rfl (lv_at hl 2 rfl) ?_
    refine lv_iconst (v := 0) hx hb dL_nextDeparture_1 (by decide) ?_
    refine lv_aload_n hx hb dL_nextDeparture_2 rfl (lv_at hl 0 rfl) ?_
    refine lv_iload_n hx hb dL_nextDeparture_3 rfl (lv_at hl 1 rfl) ?_
    exact k
  · intro p e R s m args below meth c9 H locs cells slots Q ls hx hb hl k
    refine lv_i2l hx hb dL_nextDeparture_7 rfl ?_
    exact k
theorem cW_state (l : Launch) (hlt : l.stackTraces = false) (G : GT) (A : Nat → Prop) (h : AH) (b0 : BA) (u : MM) (hR : RC G.2.2.1 h b0 u) (hw : WFc u) (x : Int32) (hns : ok u 9 x.toNatClampNeg → narrow .char (.int (u 28 x.toNatClampNeg)) = .int (u 28 x.toNatClampNeg)) (cL cD : ClassId) (o : Nat) (v0 : Value) :
    cwM l G A yL_state cL_state 4 [(0, 9, 12, 21)] (7 + 1) (8 + (2 + 11) + 111) 1 6 [.ref (b0 14 0), .int (x), .ref o] h cL cD cL o v0 (WPost G.2.2.1 u b0 u [nseC] (xPa u x) (.long ((u 28 x.toNatClampNeg).toInt64))) := by
  by_cases z9 : ok u 9 x.toNatClampNeg
  · refine cW_core (R := u 28 x.toNatClampNeg) (idx := 54) (pci := 4) (pcs := 8) (pce := 15) (off := 6) (As := [.int (x)]) ms_L_state mv_X10_state ml_L_54 rfl (Nat.le_of_ble_eq_true rfl) dL_state_4 dL_state_8 dL_state_9 (by decide) dL_state_15 dL_state_16 ⟨⟨by decide, by decide, cl_L_21, ca_463, 3, 1, by decide, Or.inl ⟨3, rfl, dL_state_12, rfl⟩, 1, by decide, dL_state_13, dL_state_14⟩, by decide +kernel, True.intro⟩ ?_ ?_ hR (cC_X10_state l hlt G A h b0 u hR hw x (hns z9)) (xPa_in) (fun r h' hp => ⟨hp.1, hp.2.1, b0, BE.refl u b0, by rw [hp.2.2]; exact hR, hw⟩) (fun E h' hx => ⟨hx.1, b0, BE.refl u b0, by rw [hx.2]; exact hR, hw⟩)
    · intro p e R s m args below meth c9 H locs cells slots Q ls hx hb hl k
      refine lv_aload_n hx hb dL_state_0 rfl (lv_at hl 2 rfl) ?_
      refine lv_iconst (v := 0) hx hb dL_state_1 (by decide) ?_
      refine lv_aload_n hx hb dL_state_2 rfl (lv_at hl 0 rfl) ?_
      refine lv_iload_n hx hb dL_state_3 rfl (lv_at hl 1 rfl) ?_
      exact k
    · intro p e R s m args below meth c9 H locs cells slots Q ls hx hb hl k
      refine lv_i2l hx hb dL_state_7 rfl ?_
      exact k
  · have hn0 : ¬ xPa u x = none := fun hn => z9 (vp_nat ((xPa_n hw).mp hn))
    have e9 : xPa (up u 28 x.toNatClampNeg 0) x = xPa u x := rfl
    refine cW_core (R := u 28 x.toNatClampNeg) (idx := 54) (pci := 4) (pcs := 8) (pce := 15) (off := 6) (As := [.int (x)]) ms_L_state mv_X10_state ml_L_54 rfl (Nat.le_of_ble_eq_true rfl) dL_state_4 dL_state_8 dL_state_9 (by decide) dL_state_15 dL_state_16 ⟨⟨by decide, by decide, cl_L_21, ca_463, 3, 1, by decide, Or.inl ⟨3, rfl, dL_state_12, rfl⟩, 1, by decide, dL_state_13, dL_state_14⟩, by decide +kernel, True.intro⟩ ?_ ?_ hR (cC_X10_state l hlt G A h b0 (up u 28 x.toNatClampNeg 0) (hR.off (by unfold kSz; omega) (by omega) z9) (hw.upx (by unfold kWc kSz; decide)) x (by rw [up_s]; decide)) (xPa_in) (fun r h' hp => absurd (e9 ▸ hp.1) hn0) (fun E h' hx => ⟨e9 ▸ hx.1, b0, BE.refl u b0, by rw [hx.2]; exact hR, hw⟩)
    · intro p e R s m args below meth c9 H locs cells slots Q ls hx hb hl k
      refine lv_aload_n hx hb dL_state_0 rfl (lv_at hl 2 rfl) ?_
      refine lv_iconst (v := 0) hx hb dL_state_1 (by decide) ?_
      refine lv_aload_n hx hb dL_state_2 rfl (lv_at hl 0 rfl) ?_
      refine lv_iload_n hx hb dL_state_3 rfl (lv_at hl 1 rfl) ?_
      exact k
    · intro p e R s m args below meth c9 H locs cells slots Q ls hx hb hl k
      refine lv_i2l hx hb dL_state_7 rfl ?_
      exact k
theorem cW_at (l : Launch) (hlt : l.stackTraces = false) (G : GT) (A : Nat → Prop) (h : AH) (b0 : BA) (u : MM) (hR : RC G.2.2.1 h b0 u) (hw : WFc u) (x : Int32) (cL cD : ClassId) (o : Nat) (v0 : Value) :
    cwM l G A yL_at cL_at 4 [(0, 9, 12, 21), (0, 9, 15, 15)] (7 + 1) (8 + (3 + 11) + 111) 2 12 [.ref (b0 14 0), .int (x), .ref o] h cL cD cL o v0 (WPost G.2.2.1 u b0 u [nseC, iseC] (xAt u x) (.long ((u 15 x.toNatClampNeg).toInt64))) := by
  refine cW_core (R := u 15 x.toNatClampNeg) (idx := 58) (pci := 4) (pcs := 8) (pce := 18) (off := 9) (As := [.int (x)]) ms_L_at mv_X10_at ml_L_58 rfl (Nat.le_of_ble_eq_true rfl) dL_at_4 dL_at_8 dL_at_9 (by decide) dL_at_18 dL_at_19 ⟨⟨by decide, by decide, cl_L_21, ca_463, 3, 1, by decide, Or.inl ⟨3, rfl, dL_at_12, rfl⟩, 1, by decide, dL_at_13, dL_at_14⟩, by decide +kernel, ⟨by decide, by decide, cl_L_15, ca_411, 3, 1, by decide, Or.inl ⟨3, rfl, dL_at_15, rfl⟩, 2, by decide, dL_at_16, dL_at_17⟩, by decide +kernel, True.intro⟩ ?_ ?_ hR (cC_X10_at l hlt G A h b0 u hR hw x) (xAt_in) (fun r h' hp => ⟨hp.1, hp.2.1, b0, BE.refl u b0, by rw [hp.2.2]; exact hR, hw⟩) (fun E h' hx => ⟨hx.1, b0, BE.refl u b0, by rw [hx.2]; exact hR, hw⟩)
  · intro p e R s m args below meth c9 H locs cells slots Q ls hx hb hl k
    refine lv_aload_n hx hb dL_at_0 rfl (lv_at hl 2 rfl) ?_
    refine lv_iconst (v := 0) hx hb dL_at_1 (by decide) ?_
    refine lv_aload_n hx hb dL_at_2 rfl (lv_at hl 0 rfl) ?_
    refine lv_iload_n hx hb dL_at_3 rfl (lv_at hl 1 rfl) ?_
    exact k
  · intro p e R s m args below meth c9 H locs cells slots Q ls hx hb hl k
    refine lv_i2l hx hb dL_at_7 rfl ?_
    exact k
theorem cW_rides (l : Launch) (hlt : l.stackTraces = false) (G : GT) (A : Nat → Prop) (h : AH) (b0 : BA) (u : MM) (hR : RC G.2.2.1 h b0 u) (hw : WFc u) (x : Int32) (cL cD : ClassId) (o : Nat) (v0 : Value) :
    cwM l G A yL_rides cL_rides 4 [(0, 9, 12, 21), (0, 9, 15, 15)] (7 + 1) (8 + (4 + 11) + 111) 2 12 [.ref (b0 14 0), .int (x), .ref o] h cL cD cL o v0 (WPost G.2.2.1 u b0 u [nseC, iseC] (xRd u x) (.long ((u 116 x.toNatClampNeg).toInt64))) := by
  refine cW_core (R := u 116 x.toNatClampNeg) (idx := 61) (pci := 4) (pcs := 8) (pce := 18) (off := 9) (As := [.int (x)]) ms_L_rides mv_X10_rides ml_L_61 rfl (Nat.le_of_ble_eq_true rfl) dL_rides_4 dL_rides_8 dL_rides_9 (by decide) dL_rides_18 dL_rides_19 ⟨⟨by decide, by decide, cl_L_21, ca_463, 3, 1, by decide, Or.inl ⟨3, rfl, dL_rides_12, rfl⟩, 1, by decide, dL_rides_13, dL_rides_14⟩, by decide +kernel, ⟨by decide, by decide, cl_L_15, ca_411, 3, 1, by decide, Or.inl ⟨3, rfl, dL_rides_15, rfl⟩, 2, by decide, dL_rides_16, dL_rides_17⟩, by decide +kernel, True.intro⟩ ?_ ?_ hR (cC_X10_rides l hlt G A h b0 u hR hw x) (xRd_in) (fun r h' hp => ⟨hp.1, hp.2.1, b0, BE.refl u b0, by rw [hp.2.2]; exact hR, hw⟩) (fun E h' hx => ⟨hx.1, b0, BE.refl u b0, by rw [hx.2]; exact hR, hw⟩)
  · intro p e R s m args below meth c9 H locs cells slots Q ls hx hb hl k
    refine lv_aload_n hx hb dL_rides_0 rfl (lv_at hl 2 rfl) ?_
    refine lv_iconst (v := 0) hx hb dL_rides_1 (by decide) ?_
    refine lv_aload_n hx hb dL_rides_2 rfl (lv_at hl 0 rfl) ?_
    refine lv_iload_n hx hb dL_rides_3 rfl (lv_at hl 1 rfl) ?_
    exact k
  · intro p e R s m args below meth c9 H locs cells slots Q ls hx hb hl k
    refine lv_i2l hx hb dL_rides_7 rfl ?_
    exact k
theorem cW_destination (l : Launch) (hlt : l.stackTraces = false) (G : GT) (A : Nat → Prop) (h : AH) (b0 : BA) (u : MM) (hR : RC G.2.2.1 h b0 u) (hw : WFc u) (x : Int32) (cL cD : ClassId) (o : Nat) (v0 : Value) :
    cwM l G A yL_destination cL_destination 4 [(0, 9, 12, 21)] (7 + 1) (8 + (2 + 11) + 111) 1 6 [.ref (b0 14 0), .int (x), .ref o] h cL cD cL o v0 (WPost G.2.2.1 u b0 u [nseC] (xPa u x) (.long ((u 14 x.toNatClampNeg).toInt64))) := by
  refine cW_core (R := u 14 x.toNatClampNeg) (idx := 64) (pci := 4) (pcs := 8) (pce := 15) (off := 6) (As := [.int (x)]) ms_L_destination mv_X10_destination ml_L_64 rfl (Nat.le_of_ble_eq_true rfl) dL_destination_4 dL_destination_8 dL_destination_9 (by decide) dL_destination_15 dL_destination_16 ⟨⟨by decide, by decide, cl_L_21, ca_463, 3, 1, by decide, Or.inl ⟨3, rfl, dL_destination_12, rfl⟩, 1, by decide, dL_destination_13, dL_destination_14⟩, by decide +kernel, True.intro⟩ ?_ ?_ hR (cC_X10_destination l hlt G A h b0 u hR hw x) (xPa_in) (fun r h' hp => ⟨hp.1, hp.2.1, b0, BE.refl u b0, by rw [hp.2.2]; exact hR, hw⟩) (fun E h' hx => ⟨hx.1, b0, BE.refl u b0, by rw [hx.2]; exact hR, hw⟩)
  · intro p e R s m args below meth c9 H locs cells slots Q ls hx hb hl k
    refine lv_aload_n hx hb dL_destination_0 rfl (lv_at hl 2 rfl) ?_
    refine lv_iconst (v := 0) hx hb dL_destination_1 (by decide) ?_
    refine lv_aload_n hx hb dL_destination_2 rfl (lv_at hl 0 rfl) ?_
    refine lv_iload_n hx hb dL_destination_3 rfl (lv_at hl 1 rfl) ?_
    exact k
  · intro p e R s m args below meth c9 H locs cells slots Q ls hx hb hl k
    refine lv_i2l hx hb dL_destination_7 rfl ?_
    exact k
theorem cW_isReturn (l : Launch) (hlt : l.stackTraces = false) (G : GT) (A : Nat → Prop) (h : AH) (b0 : BA) (u : MM) (hR : RC G.2.2.1 h b0 u) (hw : WFc u) (x : Int32) (hns : ok u 9 x.toNatClampNeg → narrow .boolean (.int (u 29 x.toNatClampNeg)) = .int (u 29 x.toNatClampNeg)) (cL cD : ClassId) (o : Nat) (v0 : Value) :
    cwM l G A yL_isReturn cL_isReturn 4 [(0, 16, 19, 21)] (7 + 1) (8 + (2 + 11) + 111) 1 6 [.ref (b0 14 0), .int (x), .ref o] h cL cD cL o v0 (WPost G.2.2.1 u b0 u [nseC] (xPa u x) (.long (zl (u 29 x.toNatClampNeg)))) := by
  by_cases z9 : ok u 9 x.toNatClampNeg
  · refine cW_core (R := u 29 x.toNatClampNeg) (idx := 67) (pci := 4) (pcs := 15) (pce := 22) (off := 6) (As := [.int (x)]) ms_L_isReturn mv_X10_isReturn ml_L_67 rfl (Nat.le_of_ble_eq_true rfl) dL_isReturn_4 dL_isReturn_15 dL_isReturn_16 (by decide) dL_isReturn_22 dL_isReturn_23 ⟨⟨by decide, by decide, cl_L_21, ca_463, 3, 1, by decide, Or.inl ⟨3, rfl, dL_isReturn_19, rfl⟩, 1, by decide, dL_isReturn_20, dL_isReturn_21⟩, by decide +kernel, True.intro⟩ ?_ ?_ hR (cC_X10_isReturn l hlt G A h b0 u hR hw x (hns z9)) (xPa_in) (fun r h' hp => ⟨hp.1, hp.2.1, b0, BE.refl u b0, by rw [hp.2.2]; exact hR, hw⟩) (fun E h' hx => ⟨hx.1, b0, BE.refl u b0, by rw [hx.2]; exact hR, hw⟩)
    · intro p e R s m args below meth c9 H locs cells slots Q ls hx hb hl k
      refine lv_aload_n hx hb dL_isReturn_0 rfl (lv_at hl 2 rfl) ?_
      refine lv_iconst (v := 0) hx hb dL_isReturn_1 (by decide) ?_
      refine lv_aload_n hx hb dL_isReturn_2 rfl (lv_at hl 0 rfl) ?_
      refine lv_iload_n hx hb dL_isReturn_3 rfl (lv_at hl 1 rfl) ?_
      exact k
    · intro p e R s m args below meth c9 H locs cells slots Q ls hx hb hl k
      refine lv_if_eq (tgt := 14) hx hb dL_isReturn_7 (by decide) (fun z => ?_) (fun z => ?_)
      · refine lv_lconst (v := 0) hx hb dL_isReturn_14 (by decide) ?_
        rw [show zl (u 29 x.toNatClampNeg) = 0 from if_pos z] at k
        exact k
      · refine lv_lconst (v := 1) hx hb dL_isReturn_10 (by decide) ?_
        refine lv_goto (tgt := 15) hx hb dL_isReturn_11 (by decide) ?_
        rw [show zl (u 29 x.toNatClampNeg) = 1 from if_neg z] at k
        exact k
  · have hn0 : ¬ xPa u x = none := fun hn => z9 (vp_nat ((xPa_n hw).mp hn))
    have e9 : xPa (up u 29 x.toNatClampNeg 0) x = xPa u x := rfl
    refine cW_core (R := u 29 x.toNatClampNeg) (idx := 67) (pci := 4) (pcs := 15) (pce := 22) (off := 6) (As := [.int (x)]) ms_L_isReturn mv_X10_isReturn ml_L_67 rfl (Nat.le_of_ble_eq_true rfl) dL_isReturn_4 dL_isReturn_15 dL_isReturn_16 (by decide) dL_isReturn_22 dL_isReturn_23 ⟨⟨by decide, by decide, cl_L_21, ca_463, 3, 1, by decide, Or.inl ⟨3, rfl, dL_isReturn_19, rfl⟩, 1, by decide, dL_isReturn_20, dL_isReturn_21⟩, by decide +kernel, True.intro⟩ ?_ ?_ hR (cC_X10_isReturn l hlt G A h b0 (up u 29 x.toNatClampNeg 0) (hR.off (by unfold kSz; omega) (by omega) z9) (hw.upx (by unfold kWc kSz; decide)) x (by rw [up_s]; decide)) (xPa_in) (fun r h' hp => absurd (e9 ▸ hp.1) hn0) (fun E h' hx => ⟨e9 ▸ hx.1, b0, BE.refl u b0, by rw [hx.2]; exact hR, hw⟩)
    · intro p e R s m args below meth c9 H locs cells slots Q ls hx hb hl k
      refine lv_aload_n hx hb dL_isReturn_0 rfl (lv_at hl 2 rfl) ?_
      refine lv_iconst (v := 0) hx hb dL_isReturn_1 (by decide) ?_
      refine lv_aload_n hx hb dL_isReturn_2 rfl (lv_at hl 0 rfl) ?_
      refine lv_iload_n hx hb dL_isReturn_3 rfl (lv_at hl 1 rfl) ?_
      exact k
    · intro p e R s m args below meth c9 H locs cells slots Q ls hx hb hl k
      refine lv_if_eq (tgt := 14) hx hb dL_isReturn_7 (by decide) (fun z => ?_) (fun z => ?_)
      · refine lv_lconst (v := 0) hx hb dL_isReturn_14 (by decide) ?_
        rw [show zl (u 29 x.toNatClampNeg) = 0 from if_pos z] at k
        exact k
      · refine lv_lconst (v := 1) hx hb dL_isReturn_10 (by decide) ?_
        refine lv_goto (tgt := 15) hx hb dL_isReturn_11 (by decide) ?_
        rw [show zl (u 29 x.toNatClampNeg) = 1 from if_neg z] at k
        exact k
theorem cW_promise (l : Launch) (hlt : l.stackTraces = false) (G : GT) (A : Nat → Prop) (h : AH) (b0 : BA) (u : MM) (hR : RC G.2.2.1 h b0 u) (hw : WFc u) (x : Int32) (cL cD : ClassId) (o : Nat) (v0 : Value) :
    cwM l G A yL_promise cL_promise 4 [(0, 9, 12, 21)] (7 + 1) (8 + (2 + 11) + 111) 1 6 [.ref (b0 14 0), .int (x), .ref o] h cL cD cL o v0 (WPost G.2.2.1 u b0 u [nseC] (xPa u x) (.long ((u 20 x.toNatClampNeg).toInt64))) := by
  refine cW_core (R := u 20 x.toNatClampNeg) (idx := 71) (pci := 4) (pcs := 8) (pce := 15) (off := 6) (As := [.int (x)]) ms_L_promise mv_X10_promise ml_L_71 rfl (Nat.le_of_ble_eq_true rfl) dL_promise_4 dL_promise_8 dL_promise_9 (by decide) dL_promise_15 dL_promise_16 ⟨⟨by decide, by decide, cl_L_21, ca_463, 3, 1, by decide, Or.inl ⟨3, rfl, dL_promise_12, rfl⟩, 1, by decide, dL_promise_13, dL_promise_14⟩, by decide +kernel, True.intro⟩ ?_ ?_ hR (cC_X10_promise l hlt G A h b0 u hR hw x) (xPa_in) (fun r h' hp => ⟨hp.1, hp.2.1, b0, BE.refl u b0, by rw [hp.2.2]; exact hR, hw⟩) (fun E h' hx => ⟨hx.1, b0, BE.refl u b0, by rw [hx.2]; exact hR, hw⟩)
  · intro p e R s m args below meth c9 H locs cells slots Q ls hx hb hl k
    refine lv_aload_n hx hb dL_promise_0 rfl (lv_at hl 2 rfl) ?_
    refine lv_iconst (v := 0) hx hb dL_promise_1 (by decide) ?_
    refine lv_aload_n hx hb dL_promise_2 rfl (lv_at hl 0 rfl) ?_
    refine lv_iload_n hx hb dL_promise_3 rfl (lv_at hl 1 rfl) ?_
    exact k
  · intro p e R s m args below meth c9 H locs cells slots Q ls hx hb hl k
    refine lv_i2l hx hb dL_promise_7 rfl ?_
    exact k
theorem cW_isLate (l : Launch) (hlt : l.stackTraces = false) (G : GT) (A : Nat → Prop) (h : AH) (b0 : BA) (u : MM) (hR : RC G.2.2.1 h b0 u) (hw : WFc u) (x : Int32) (cL cD : ClassId) (o : Nat) (v0 : Value) :
    cwM l G A yL_isLate cL_isLate 4 [(0, 16, 19, 21)] (7 + 1) (8 + (2 + 11) + 111) 1 6 [.ref (b0 14 0), .int (x), .ref o] h cL cD cL o v0 (WPost G.2.2.1 u b0 u [nseC] (xPa u x) (.long (zl (cMiss u x.toNatClampNeg (u 41 0))))) := by
  refine cW_core (R := cMiss u x.toNatClampNeg (u 41 0)) (idx := 74) (pci := 4) (pcs := 15) (pce := 22) (off := 6) (As := [.int (x)]) ms_L_isLate mv_X10_isLate ml_L_74 rfl (Nat.le_of_ble_eq_true rfl) dL_isLate_4 dL_isLate_15 dL_isLate_16 (by decide) dL_isLate_22 dL_isLate_23 ⟨⟨by decide, by decide, cl_L_21, ca_463, 3, 1, by decide, Or.inl ⟨3, rfl, dL_isLate_19, rfl⟩, 1, by decide, dL_isLate_20, dL_isLate_21⟩, by decide +kernel, True.intro⟩ ?_ ?_ hR (cC_X10_isLate l hlt G A h b0 u hR hw x) (xPa_in) (fun r h' hp => ⟨hp.1, hp.2.1, b0, BE.refl u b0, by rw [hp.2.2]; exact hR, hw⟩) (fun E h' hx => ⟨hx.1, b0, BE.refl u b0, by rw [hx.2]; exact hR, hw⟩)
  · intro p e R s m args below meth c9 H locs cells slots Q ls hx hb hl k
    refine lv_aload_n hx hb dL_isLate_0 rfl (lv_at hl 2 rfl) ?_
    refine lv_iconst (v := 0) hx hb dL_isLate_1 (by decide) ?_
    refine lv_aload_n hx hb dL_isLate_2 rfl (lv_at hl 0 rfl) ?_
    refine lv_iload_n hx hb dL_isLate_3 rfl (lv_at hl 1 rfl) ?_
    exact k
  · intro p e R s m args below meth c9 H locs cells slots Q ls hx hb hl k
    refine lv_if_eq (tgt := 14) hx hb dL_isLate_7 (by decide) (fun z => ?_) (fun z => ?_)
    · refine lv_lconst (v := 0) hx hb dL_isLate_14 (by decide) ?_
      rw [show zl (cMiss u x.toNatClampNeg (u 41 0)) = 0 from if_pos z] at k
      exact k
    · refine lv_lconst (v := 1) hx hb dL_isLate_10 (by decide) ?_
      refine lv_goto (tgt := 15) hx hb dL_isLate_11 (by decide) ?_
      rw [show zl (cMiss u x.toNatClampNeg (u 41 0)) = 1 from if_neg z] at k
      exact k
theorem cW_misroutes (l : Launch) (hlt : l.stackTraces = false) (G : GT) (A : Nat → Prop) (h : AH) (b0 : BA) (u : MM) (hR : RC G.2.2.1 h b0 u) (hw : WFc u) (x : Int32) (cL cD : ClassId) (o : Nat) (v0 : Value) :
    cwM l G A yL_misroutes cL_misroutes 4 [(0, 9, 12, 21)] (7 + 1) (8 + (2 + 11) + 111) 1 6 [.ref (b0 14 0), .int (x), .ref o] h cL cD cL o v0 (WPost G.2.2.1 u b0 u [nseC] (xPa u x) (.long ((u 22 x.toNatClampNeg).toInt64))) := by
  refine cW_core (R := u 22 x.toNatClampNeg) (idx := 77) (pci := 4) (pcs := 8) (pce := 15) (off := 6) (As := [.int (x)]) ms_L_misroutes mv_X10_misroutes ml_L_77 rfl (Nat.le_of_ble_eq_true rfl) dL_misroutes_4 dL_misroutes_8 dL_misroutes_9 (by decide) dL_misroutes_15 dL_misroutes_16 ⟨⟨by decide, by decide, cl_L_21, ca_463, 3, 1, by decide, Or.inl ⟨3, rfl, dL_misroutes_12, rfl⟩, 1, by decide, dL_misroutes_13, dL_misroutes_14⟩, by decide +kernel, True.intro⟩ ?_ ?_ hR (cC_X10_misroutes l hlt G A h b0 u hR hw x) (xPa_in) (fun r h' hp => ⟨hp.1, hp.2.1, b0, BE.refl u b0, by rw [hp.2.2]; exact hR, hw⟩) (fun E h' hx => ⟨hx.1, b0, BE.refl u b0, by rw [hx.2]; exact hR, hw⟩)
  · intro p e R s m args below meth c9 H locs cells slots Q ls hx hb hl k
    refine lv_aload_n hx hb dL_misroutes_0 rfl (lv_at hl 2 rfl) ?_
    refine lv_iconst (v := 0) hx hb dL_misroutes_1 (by decide) ?_
    refine lv_aload_n hx hb dL_misroutes_2 rfl (lv_at hl 0 rfl) ?_
    refine lv_iload_n hx hb dL_misroutes_3 rfl (lv_at hl 1 rfl) ?_
    exact k
  · intro p e R s m args below meth c9 H locs cells slots Q ls hx hb hl k
    refine lv_i2l hx hb dL_misroutes_7 rfl ?_
    exact k
theorem cW_attempts (l : Launch) (hlt : l.stackTraces = false) (G : GT) (A : Nat → Prop) (h : AH) (b0 : BA) (u : MM) (hR : RC G.2.2.1 h b0 u) (hw : WFc u) (x : Int32) (cL cD : ClassId) (o : Nat) (v0 : Value) :
    cwM l G A yL_attempts cL_attempts 4 [(0, 9, 12, 21)] (7 + 1) (8 + (2 + 11) + 111) 1 6 [.ref (b0 14 0), .int (x), .ref o] h cL cD cL o v0 (WPost G.2.2.1 u b0 u [nseC] (xPa u x) (.long ((u 23 x.toNatClampNeg).toInt64))) := by
  refine cW_core (R := u 23 x.toNatClampNeg) (idx := 80) (pci := 4) (pcs := 8) (pce := 15) (off := 6) (As := [.int (x)]) ms_L_attempts mv_X10_attempts ml_L_80 rfl (Nat.le_of_ble_eq_true rfl) dL_attempts_4 dL_attempts_8 dL_attempts_9 (by decide) dL_attempts_15 dL_attempts_16 ⟨⟨by decide, by decide, cl_L_21, ca_463, 3, 1, by decide, Or.inl ⟨3, rfl, dL_attempts_12, rfl⟩, 1, by decide, dL_attempts_13, dL_attempts_14⟩, by decide +kernel, True.intro⟩ ?_ ?_ hR (cC_X10_attempts l hlt G A h b0 u hR hw x) (xPa_in) (fun r h' hp => ⟨hp.1, hp.2.1, b0, BE.refl u b0, by rw [hp.2.2]; exact hR, hw⟩) (fun E h' hx => ⟨hx.1, b0, BE.refl u b0, by rw [hx.2]; exact hR, hw⟩)
  · intro p e R s m args below meth c9 H locs cells slots Q ls hx hb hl k
    refine lv_aload_n hx hb dL_attempts_0 rfl (lv_at hl 2 rfl) ?_
    refine lv_iconst (v := 0) hx hb dL_attempts_1 (by decide) ?_
    refine lv_aload_n hx hb dL_attempts_2 rfl (lv_at hl 0 rfl) ?_
    refine lv_iload_n hx hb dL_attempts_3 rfl (lv_at hl 1 rfl) ?_
    exact k
  · intro p e R s m args below meth c9 H locs cells slots Q ls hx hb hl k
    refine lv_i2l hx hb dL_attempts_7 rfl ?_
    exact k
theorem cW_missed (l : Launch) (hlt : l.stackTraces = false) (G : GT) (A : Nat → Prop) (h : AH) (b0 : BA) (u : MM) (hR : RC G.2.2.1 h b0 u) (hw : WFc u) (x : Int32) (cL cD : ClassId) (o : Nat) (v0 : Value) :
    cwM l G A yL_missed cL_missed 4 [(0, 9, 12, 21)] (7 + 1) (8 + (2 + 11) + 111) 1 6 [.ref (b0 14 0), .int (x), .ref o] h cL cD cL o v0 (WPost G.2.2.1 u b0 u [nseC] (xPa u x) (.long ((u 24 x.toNatClampNeg).toInt64))) := by
  refine cW_core (R := u 24 x.toNatClampNeg) (idx := 83) (pci := 4) (pcs := 8) (pce := 15) (off := 6) (As := [.int (x)]) ms_L_missed mv_X10_missed ml_L_83 rfl (Nat.le_of_ble_eq_true rfl) dL_missed_4 dL_missed_8 dL_missed_9 (by decide) dL_missed_15 dL_missed_16 ⟨⟨by decide, by decide, cl_L_21, ca_463, 3, 1, by decide, Or.inl ⟨3, rfl, dL_missed_12, rfl⟩, 1, by decide, dL_missed_13, dL_missed_14⟩, by decide +kernel, True.intro⟩ ?_ ?_ hR (cC_X10_missed l hlt G A h b0 u hR hw x) (xPa_in) (fun r h' hp => ⟨hp.1, hp.2.1, b0, BE.refl u b0, by rw [hp.2.2]; exact hR, hw⟩) (fun E h' hx => ⟨hx.1, b0, BE.refl u b0, by rw [hx.2]; exact hR, hw⟩)
  · intro p e R s m args below meth c9 H locs cells slots Q ls hx hb hl k
    refine lv_aload_n hx hb dL_missed_0 rfl (lv_at hl 2 rfl) ?_
    refine lv_iconst (v := 0) hx hb dL_missed_1 (by decide) ?_
    refine lv_aload_n hx hb dL_missed_2 rfl (lv_at hl 0 rfl) ?_
    refine lv_iload_n hx hb dL_missed_3 rfl (lv_at hl 1 rfl) ?_
    exact k
  · intro p e R s m args below meth c9 H locs cells slots Q ls hx hb hl k
    refine lv_i2l hx hb dL_missed_7 rfl ?_
    exact k
theorem cW_nextLine (l : Launch) (hlt : l.stackTraces = false) (G : GT) (A : Nat → Prop) (h : AH) (b0 : BA) (u : MM) (hR : RC G.2.2.1 h b0 u) (hw : WFc u) (x : Int32) (cL cD : ClassId) (o : Nat) (v0 : Value) :
    cwM l G A yL_nextLine cL_nextLine 4 [(0, 9, 12, 21), (0, 9, 15, 15)] (8 + 1) (8 + (2 + 11) + 133) 2 12 [.ref (b0 14 0), .int (x), .ref o] h cL cD cL o v0 (WPost G.2.2.1 u b0 u [nseC, iseC] (xSc u x) (.long ((u 19 x.toNatClampNeg).toInt64))) := by
  refine cW_core (R := u 19 x.toNatClampNeg) (idx := 86) (pci := 4) (pcs := 8) (pce := 18) (off := 9) (As := [.int (x)]) ms_L_nextLine mv_X10_nextLine ml_L_86 rfl (Nat.le_of_ble_eq_true rfl) dL_nextLine_4 dL_nextLine_8 dL_nextLine_9 (by decide) dL_nextLine_18 dL_nextLine_19 ⟨⟨by decide, by decide, cl_L_21, ca_463, 3, 1, by decide, Or.inl ⟨3, rfl, dL_nextLine_12, rfl⟩, 1, by decide, dL_nextLine_13, dL_nextLine_14⟩, by decide +kernel, ⟨by decide, by decide, cl_L_15, ca_411, 3, 1, by decide, Or.inl ⟨3, rfl, dL_nextLine_15, rfl⟩, 2, by decide, dL_nextLine_16, dL_nextLine_17⟩, by decide +kernel, True.intro⟩ ?_ ?_ hR (cC_X10_nextLine l hlt G A h b0 u hR hw x) (xSc_in) (fun r h' hp => ⟨hp.1, hp.2.1, b0, BE.refl u b0, by rw [hp.2.2]; exact hR, hw⟩) (fun E h' hx => ⟨hx.1, b0, BE.refl u b0, by rw [hx.2]; exact hR, hw⟩)
  · intro p e R s m args below meth c9 H locs cells slots Q ls hx hb hl k
    refine lv_aload_n hx hb dL_nextLine_0 rfl (lv_at hl 2 rfl) ?_
    refine lv_iconst (v := 0) hx hb dL_nextLine_1 (by decide) ?_
    refine lv_aload_n hx hb dL_nextLine_2 rfl (lv_at hl 0 rfl) ?_
    refine lv_iload_n hx hb dL_nextLine_3 rfl (lv_at hl 1 rfl) ?_
    exact k
  · intro p e R s m args below meth c9 H locs cells slots Q ls hx hb hl k
    refine lv_i2l hx hb dL_nextLine_7 rfl ?_
    exact k
theorem cW_nextLineByPaths (l : Launch) (hlt : l.stackTraces = false) (G : GT) (A : Nat → Prop) (h : AH) (b0 : BA) (u : MM) (hR : RC G.2.2.1 h b0 u) (hw : WFc u) (x : Int32) (cL cD : ClassId) (o : Nat) (v0 : Value) :
    cwM l G A yL_nextLineByPaths cL_nextLineByPaths 4 [(0, 9, 12, 21), (0, 9, 15, 15)] (11 + 1) (8 + (2 + 11) + 304) 2 12 [.ref (b0 14 0), .int (x), .ref o] h cL cD cL o v0 (WPost G.2.2.1 u b0 (cTr u x) [nseC, iseC] (xSc u x) (.long ((cAll u x.toNatClampNeg (u 41 0) 154 0).toInt64))) := by
  refine cW_core (R := cAll u x.toNatClampNeg (u 41 0) 154 0) (idx := 89) (pci := 4) (pcs := 8) (pce := 18) (off := 9) (As := [.int (x)]) ms_L_nextLineByPaths mv_X10_nextLineByPaths ml_L_89 rfl (Nat.le_of_ble_eq_true rfl) dL_nextLineByPaths_4 dL_nextLineByPaths_8 dL_nextLineByPaths_9 (by decide) dL_nextLineByPaths_18 dL_nextLineByPaths_19 ⟨⟨by decide, by decide, cl_L_21, ca_463, 3, 1, by decide, Or.inl ⟨3, rfl, dL_nextLineByPaths_12, rfl⟩, 1, by decide, dL_nextLineByPaths_13, dL_nextLineByPaths_14⟩, by decide +kernel, ⟨by decide, by decide, cl_L_15, ca_411, 3, 1, by decide, Or.inl ⟨3, rfl, dL_nextLineByPaths_15, rfl⟩, 2, by decide, dL_nextLineByPaths_16, dL_nextLineByPaths_17⟩, by decide +kernel, True.intro⟩ ?_ ?_ hR (cC_X10_nextLineByPaths l hlt G A h b0 u hR hw x) (xSc_in) (fun r h' hp => ⟨hp.1, hp.2.1, b0, BE.refl u b0, hp.2.2.1, hp.2.2.2⟩) (fun E h' hx => ⟨hx.1, b0, BE.refl u b0, hx.2.1, hx.2.2⟩)
  · intro p e R s m args below meth c9 H locs cells slots Q ls hx hb hl k
    refine lv_aload_n hx hb dL_nextLineByPaths_0 rfl (lv_at hl 2 rfl) ?_
    refine lv_iconst (v := 0) hx hb dL_nextLineByPaths_1 (by decide) ?_
    refine lv_aload_n hx hb dL_nextLineByPaths_2 rfl (lv_at hl 0 rfl) ?_
    refine lv_iload_n hx hb dL_nextLineByPaths_3 rfl (lv_at hl 1 rfl) ?_
    exact k
  · intro p e R s m args below meth c9 H locs cells slots Q ls hx hb hl k
    refine lv_i2l hx hb dL_nextLineByPaths_7 rfl ?_
    exact k
theorem cW_pathSize (l : Launch) (hlt : l.stackTraces = false) (G : GT) (A : Nat → Prop) (h : AH) (b0 : BA) (u : MM) (hR : RC G.2.2.1 h b0 u) (hw : WFc u) (x : Int32) (cL cD : ClassId) (o : Nat) (v0 : Value) :
    cwM l G A yL_pathSize cL_pathSize 4 [(0, 9, 12, 21), (0, 9, 15, 15)] (8 + 1) (8 + (3 + 11) + 133) 2 12 [.ref (b0 14 0), .int (x), .ref o] h cL cD cL o v0 (WPost G.2.2.1 u b0 (cSr u x) [nseC, iseC] (xSc u x) (.long ((cPsz u x).toInt64))) := by
  refine cW_core (R := cPsz u x) (idx := 92) (pci := 4) (pcs := 8) (pce := 18) (off := 9) (As := [.int (x)]) ms_L_pathSize mv_X10_pathSize ml_L_92 rfl (Nat.le_of_ble_eq_true rfl) dL_pathSize_4 dL_pathSize_8 dL_pathSize_9 (by decide) dL_pathSize_18 dL_pathSize_19 ⟨⟨by decide, by decide, cl_L_21, ca_463, 3, 1, by decide, Or.inl ⟨3, rfl, dL_pathSize_12, rfl⟩, 1, by decide, dL_pathSize_13, dL_pathSize_14⟩, by decide +kernel, ⟨by decide, by decide, cl_L_15, ca_411, 3, 1, by decide, Or.inl ⟨3, rfl, dL_pathSize_15, rfl⟩, 2, by decide, dL_pathSize_16, dL_pathSize_17⟩, by decide +kernel, True.intro⟩ ?_ ?_ hR (cC_X10_pathSize l hlt G A h b0 u hR hw x) (xSc_in) (fun r h' hp => ⟨hp.1, hp.2.1, b0, BE.refl u b0, hp.2.2.1, hp.2.2.2⟩) (fun E h' hx => ⟨hx.1, b0, BE.refl u b0, hx.2.1, hx.2.2⟩)
  · intro p e R s m args below meth c9 H locs cells slots Q ls hx hb hl k
    refine lv_aload_n hx hb dL_pathSize_0 rfl (lv_at hl 2 rfl) ?_
    refine lv_iconst (v := 0) hx hb dL_pathSize_1 (by decide) ?_
    refine lv_aload_n hx hb dL_pathSize_2 rfl (lv_at hl 0 rfl) ?_
    refine lv_iload_n hx hb dL_pathSize_3 rfl (lv_at hl 1 rfl) ?_
    exact k
  · intro p e R s m args below meth c9 H locs cells slots Q ls hx hb hl k
    refine lv_i2l hx hb dL_pathSize_7 rfl ?_
    exact k
theorem cW_pathAt (l : Launch) (hlt : l.stackTraces = false) (G : GT) (A : Nat → Prop) (h : AH) (b0 : BA) (u : MM) (hR : RC G.2.2.1 h b0 u) (hw : WFc u) (x i0 : Int32) (cL cD : ClassId) (o : Nat) (v0 : Value) :
    cwM l G A yL_pathAt cL_pathAt 5 [(0, 10, 13, 21), (0, 10, 17, 15), (0, 10, 21, 98)] (8 + 1) (8 + (4 + 11) + 133) 3 18 [.ref (b0 14 0), .int (x), .int (i0), .ref o] h cL cD cL o v0 (WPost G.2.2.1 u b0 (cSr u x) [nseC, iseC, iobC] (xPaA u x i0) (.long ((cLnA (cBq u x).2 (cBq u x).1.toNatClampNeg i0).toInt64))) := by
  refine cW_core (R := cLnA (cBq u x).2 (cBq u x).1.toNatClampNeg i0) (idx := 95) (pci := 5) (pcs := 9) (pce := 25) (off := 15) (As := [.int (x), .int (i0)]) ms_L_pathAt mv_X10_pathAt ml_L_95 rfl (Nat.le_of_ble_eq_true rfl) dL_pathAt_5 dL_pathAt_9 dL_pathAt_10 (by decide) dL_pathAt_25 dL_pathAt_26 ⟨⟨by decide, by decide, cl_L_21, ca_463, 4, 2, by decide, Or.inr ⟨dL_pathAt_13, rfl⟩, 1, by decide, dL_pathAt_15, dL_pathAt_16⟩, by decide +kernel, ⟨by decide, by decide, cl_L_15, ca_411, 4, 2, by decide, Or.inr ⟨dL_pathAt_17, rfl⟩, 2, by decide, dL_pathAt_19, dL_pathAt_20⟩, by decide +kernel, ⟨by decide, by decide, cl_L_98, ca_955, 4, 2, by decide, Or.inr ⟨dL_pathAt_21, rfl⟩, 3, by decide, dL_pathAt_23, dL_pathAt_24⟩, by decide +kernel, True.intro⟩ ?_ ?_ hR (cC_X10_pathAt l hlt G A h b0 u hR hw x i0) (xPaA_in) (fun r h' hp => ⟨hp.1, hp.2.1, b0, BE.refl u b0, hp.2.2.1, hp.2.2.2⟩) (fun E h' hx => ⟨hx.1, b0, BE.refl u b0, hx.2.1, hx.2.2⟩)
  · intro p e R s m args below meth c9 H locs cells slots Q ls hx hb hl k
    refine lv_aload_n hx hb dL_pathAt_0 rfl (lv_at hl 3 rfl) ?_
    refine lv_iconst (v := 0) hx hb dL_pathAt_1 (by decide) ?_
    refine lv_aload_n hx hb dL_pathAt_2 rfl (lv_at hl 0 rfl) ?_
    refine lv_iload_n hx hb dL_pathAt_3 rfl (lv_at hl 1 rfl) ?_
    refine lv_iload_n hx hb dL_pathAt_4 rfl (lv_at hl 2 rfl) ?_
    exact k
  · intro p e R s m args below meth c9 H locs cells slots Q ls hx hb hl k
    refine lv_i2l hx hb dL_pathAt_8 rfl ?_
    exact k
theorem cW_arrival (l : Launch) (hlt : l.stackTraces = false) (G : GT) (A : Nat → Prop) (h : AH) (b0 : BA) (u : MM) (hR : RC G.2.2.1 h b0 u) (hw : WFc u) (x : Int32) (cL cD : ClassId) (o : Nat) (v0 : Value) :
    cwM l G A yL_arrival cL_arrival 4 [(0, 9, 12, 21), (0, 9, 15, 15)] (8 + 1) (8 + (3 + 11) + 133) 2 12 [.ref (b0 14 0), .int (x), .ref o] h cL cD cL o v0 (WPost G.2.2.1 u b0 (cSr u x) [nseC, iseC] (xSc u x) (.long ((cArv u x).toInt64))) := by
  refine cW_core (R := cArv u x) (idx := 100) (pci := 4) (pcs := 8) (pce := 18) (off := 9) (As := [.int (x)]) ms_L_arrival mv_X10_arrival ml_L_100 rfl (Nat.le_of_ble_eq_true rfl) dL_arrival_4 dL_arrival_8 dL_arrival_9 (by decide) dL_arrival_18 dL_arrival_19 ⟨⟨by decide, by decide, cl_L_21, ca_463, 3, 1, by decide, Or.inl ⟨3, rfl, dL_arrival_12, rfl⟩, 1, by decide, dL_arrival_13, dL_arrival_14⟩, by decide +kernel, ⟨by decide, by decide, cl_L_15, ca_411, 3, 1, by decide, Or.inl ⟨3, rfl, dL_arrival_15, rfl⟩, 2, by decide, dL_arrival_16, dL_arrival_17⟩, by decide +kernel, True.intro⟩ ?_ ?_ hR (cC_X10_arrival l hlt G A h b0 u hR hw x) (xSc_in) (fun r h' hp => ⟨hp.1, hp.2.1, b0, BE.refl u b0, hp.2.2.1, hp.2.2.2⟩) (fun E h' hx => ⟨hx.1, b0, BE.refl u b0, hx.2.1, hx.2.2⟩)
  · intro p e R s m args below meth c9 H locs cells slots Q ls hx hb hl k
    refine lv_aload_n hx hb dL_arrival_0 rfl (lv_at hl 2 rfl) ?_
    refine lv_iconst (v := 0) hx hb dL_arrival_1 (by decide) ?_
    refine lv_aload_n hx hb dL_arrival_2 rfl (lv_at hl 0 rfl) ?_
    refine lv_iload_n hx hb dL_arrival_3 rfl (lv_at hl 1 rfl) ?_
    exact k
  · intro p e R s m args below meth c9 H locs cells slots Q ls hx hb hl k
    refine lv_i2l hx hb dL_arrival_7 rfl ?_
    exact k
theorem cW_arrivalByPaths (l : Launch) (hlt : l.stackTraces = false) (G : GT) (A : Nat → Prop) (h : AH) (b0 : BA) (u : MM) (hR : RC G.2.2.1 h b0 u) (hw : WFc u) (x : Int32) (cL cD : ClassId) (o : Nat) (v0 : Value) :
    cwM l G A yL_arrivalByPaths cL_arrivalByPaths 4 [(0, 9, 12, 21), (0, 9, 15, 15)] (11 + 1) (8 + (2 + 11) + 304) 2 12 [.ref (b0 14 0), .int (x), .ref o] h cL cD cL o v0 (WPost G.2.2.1 u b0 (cTr u x) [nseC, iseC] (xSc u x) (.long ((cAll u x.toNatClampNeg (u 41 0) 153 0).toInt64))) := by
  refine cW_core (R := cAll u x.toNatClampNeg (u 41 0) 153 0) (idx := 103) (pci := 4) (pcs := 8) (pce := 18) (off := 9) (As := [.int (x)]) ms_L_arrivalByPaths mv_X10_arrivalByPaths ml_L_103 rfl (Nat.le_of_ble_eq_true rfl) dL_arrivalByPaths_4 dL_arrivalByPaths_8 dL_arrivalByPaths_9 (by decide) dL_arrivalByPaths_18 dL_arrivalByPaths_19 ⟨⟨by decide, by decide, cl_L_21, ca_463, 3, 1, by decide, Or.inl ⟨3, rfl, dL_arrivalByPaths_12, rfl⟩, 1, by decide, dL_arrivalByPaths_13, dL_arrivalByPaths_14⟩, by decide +kernel, ⟨by decide, by decide, cl_L_15, ca_411, 3, 1, by decide, Or.inl ⟨3, rfl, dL_arrivalByPaths_15, rfl⟩, 2, by decide, dL_arrivalByPaths_16, dL_arrivalByPaths_17⟩, by decide +kernel, True.intro⟩ ?_ ?_ hR (cC_X10_arrivalByPaths l hlt G A h b0 u hR hw x) (xSc_in) (fun r h' hp => ⟨hp.1, hp.2.1, b0, BE.refl u b0, hp.2.2.1, hp.2.2.2⟩) (fun E h' hx => ⟨hx.1, b0, BE.refl u b0, hx.2.1, hx.2.2⟩)
  · intro p e R s m args below meth c9 H locs cells slots Q ls hx hb hl k
    refine lv_aload_n hx hb dL_arrivalByPaths_0 rfl (lv_at hl 2 rfl) ?_
    refine lv_iconst (v := 0) hx hb dL_arrivalByPaths_1 (by decide) ?_
    refine lv_aload_n hx hb dL_arrivalByPaths_2 rfl (lv_at hl 0 rfl) ?_
    refine lv_iload_n hx hb dL_arrivalByPaths_3 rfl (lv_at hl 1 rfl) ?_
    exact k
  · intro p e R s m args below meth c9 H locs cells slots Q ls hx hb hl k
    refine lv_i2l hx hb dL_arrivalByPaths_7 rfl ?_
    exact k
theorem cW_arrivalBySimulation (l : Launch) (hlt : l.stackTraces = false) (G : GT) (A : Nat → Prop) (h : AH) (b0 : BA) (u : MM) (hR : RC G.2.2.1 h b0 u) (hw : WFc u) (x : Int32) (cL cD : ClassId) (o : Nat) (v0 : Value) :
    cwM l G A yL_arrivalBySimulation cL_arrivalBySimulation 4 [(0, 9, 12, 21), (0, 9, 15, 15)] (8 + 1) (8 + (2 + 11) + 133) 2 12 [.ref (b0 14 0), .int (x), .ref o] h cL cD cL o v0 (WPost G.2.2.1 u b0 (cSm u x) [nseC, iseC] (xSc u x) (.long (((cFa u x.toNatClampNeg (u 41 0)).1).toInt64))) := by
  refine cW_core (R := (cFa u x.toNatClampNeg (u 41 0)).1) (idx := 106) (pci := 4) (pcs := 8) (pce := 18) (off := 9) (As := [.int (x)]) ms_L_arrivalBySimulation mv_X10_arrivalBySimulation ml_L_106 rfl (Nat.le_of_ble_eq_true rfl) dL_arrivalBySimulation_4 dL_arrivalBySimulation_8 dL_arrivalBySimulation_9 (by decide) dL_arrivalBySimulation_18 dL_arrivalBySimulation_19 ⟨⟨by decide, by decide, cl_L_21, ca_463, 3, 1, by decide, Or.inl ⟨3, rfl, dL_arrivalBySimulation_12, rfl⟩, 1, by decide, dL_arrivalBySimulation_13, dL_arrivalBySimulation_14⟩, by decide +kernel, ⟨by decide, by decide, cl_L_15, ca_411, 3, 1, by decide, Or.inl ⟨3, rfl, dL_arrivalBySimulation_15, rfl⟩, 2, by decide, dL_arrivalBySimulation_16, dL_arrivalBySimulation_17⟩, by decide +kernel, True.intro⟩ ?_ ?_ hR (cC_X10_arrivalBySimulation l hlt G A h b0 u hR hw x) (xSc_in) (fun r h' hp => ⟨hp.1, hp.2.1, b0, BE.refl u b0, hp.2.2.1, hp.2.2.2⟩) (fun E h' hx => ⟨hx.1, b0, BE.refl u b0, hx.2.1, hx.2.2⟩)
  · intro p e R s m args below meth c9 H locs cells slots Q ls hx hb hl k
    refine lv_aload_n hx hb dL_arrivalBySimulation_0 rfl (lv_at hl 2 rfl) ?_
    refine lv_iconst (v := 0) hx hb dL_arrivalBySimulation_1 (by decide) ?_
    refine lv_aload_n hx hb dL_arrivalBySimulation_2 rfl (lv_at hl 0 rfl) ?_
    refine lv_iload_n hx hb dL_arrivalBySimulation_3 rfl (lv_at hl 1 rfl) ?_
    exact k
  · intro p e R s m args below meth c9 H locs cells slots Q ls hx hb hl k
    refine lv_i2l hx hb dL_arrivalBySimulation_7 rfl ?_
    exact k
theorem cW_waiting (l : Launch) (hlt : l.stackTraces = false) (G : GT) (A : Nat → Prop) (h : AH) (b0 : BA) (u : MM) (hR : RC G.2.2.1 h b0 u) (hw : WFc u) (x : Int32) (cL cD : ClassId) (o : Nat) (v0 : Value) :
    cwM l G A yL_waiting cL_waiting 4 [(0, 9, 12, 21)] (7 + 1) (8 + (2 + 11) + 111) 1 6 [.ref (b0 14 0), .int (x), .ref o] h cL cD cL o v0 (WPost G.2.2.1 u b0 u [nseC] (xLn u x) (.long ((cCw u x).toInt64))) := by
  refine cW_core (R := cCw u x) (idx := 109) (pci := 4) (pcs := 8) (pce := 15) (off := 6) (As := [.int (x)]) ms_L_waiting mv_X10_waiting ml_L_109 rfl (Nat.le_of_ble_eq_true rfl) dL_waiting_4 dL_waiting_8 dL_waiting_9 (by decide) dL_waiting_15 dL_waiting_16 ⟨⟨by decide, by decide, cl_L_21, ca_463, 3, 1, by decide, Or.inl ⟨3, rfl, dL_waiting_12, rfl⟩, 1, by decide, dL_waiting_13, dL_waiting_14⟩, by decide +kernel, True.intro⟩ ?_ ?_ hR (cC_X10_waiting l hlt G A h b0 u hR hw x) (xLn_in) (fun r h' hp => ⟨hp.1, hp.2.1, b0, BE.refl u b0, by rw [hp.2.2]; exact hR, hw⟩) (fun E h' hx => ⟨hx.1, b0, BE.refl u b0, by rw [hx.2]; exact hR, hw⟩)
  · intro p e R s m args below meth c9 H locs cells slots Q ls hx hb hl k
    refine lv_aload_n hx hb dL_waiting_0 rfl (lv_at hl 2 rfl) ?_
    refine lv_iconst (v := 0) hx hb dL_waiting_1 (by decide) ?_
    refine lv_aload_n hx hb dL_waiting_2 rfl (lv_at hl 0 rfl) ?_
    refine lv_iload_n hx hb dL_waiting_3 rfl (lv_at hl 1 rfl) ?_
    exact k
  · intro p e R s m args below meth c9 H locs cells slots Q ls hx hb hl k
    refine lv_i2l hx hb dL_waiting_7 rfl ?_
    exact k
theorem cW_waitingAt (l : Launch) (hlt : l.stackTraces = false) (G : GT) (A : Nat → Prop) (h : AH) (b0 : BA) (u : MM) (hR : RC G.2.2.1 h b0 u) (hw : WFc u) (x i0 : Int32) (cL cD : ClassId) (o : Nat) (v0 : Value) :
    cwM l G A yL_waitingAt cL_waitingAt 5 [(0, 10, 13, 21), (0, 10, 17, 98)] (7 + 1) (8 + (3 + 11) + 195) (4 + (UC (cWt u x) - UC u)) (24 + (US (cWt u x) - US u)) [.ref (b0 14 0), .int (x), .int (i0), .ref o] h cL cD cL o v0 (WPost G.2.2.1 u b0 (cWt u x) [nseC, iobC] (xWat u x i0) (.long ((cQu u x 36 i0.toNatClampNeg).toInt64))) := by
  refine cW_core (R := cQu u x 36 i0.toNatClampNeg) (idx := 112) (pci := 5) (pcs := 9) (pce := 21) (off := 11) (As := [.int (x), .int (i0)]) ms_L_waitingAt mv_X10_waitingAt ml_L_112 rfl (Nat.le_of_ble_eq_true rfl) dL_waitingAt_5 dL_waitingAt_9 dL_waitingAt_10 (by decide) dL_waitingAt_21 dL_waitingAt_22 ⟨⟨by decide, by decide, cl_L_21, ca_463, 4, 2, by decide, Or.inr ⟨dL_waitingAt_13, rfl⟩, 1, by decide, dL_waitingAt_15, dL_waitingAt_16⟩, by decide +kernel, ⟨by decide, by decide, cl_L_98, ca_955, 4, 2, by decide, Or.inr ⟨dL_waitingAt_17, rfl⟩, 2, by decide, dL_waitingAt_19, dL_waitingAt_20⟩, by decide +kernel, True.intro⟩ ?_ ?_ hR (cC_X10_waitingAt l hlt G A h b0 u hR hw x i0) (xWat_in) (fun r h' hp => hp) (fun E h' hx => hx)
  · intro p e R s m args below meth c9 H locs cells slots Q ls hx hb hl k
    refine lv_aload_n hx hb dL_waitingAt_0 rfl (lv_at hl 3 rfl) ?_
    refine lv_iconst (v := 0) hx hb dL_waitingAt_1 (by decide) ?_
    refine lv_aload_n hx hb dL_waitingAt_2 rfl (lv_at hl 0 rfl) ?_
    refine lv_iload_n hx hb dL_waitingAt_3 rfl (lv_at hl 1 rfl) ?_
    refine lv_iload_n hx hb dL_waitingAt_4 rfl (lv_at hl 2 rfl) ?_
    exact k
  · intro p e R s m args below meth c9 H locs cells slots Q ls hx hb hl k
    refine lv_i2l hx hb dL_waitingAt_8 rfl ?_
    exact k
theorem cW_bagsNeeded (l : Launch) (hlt : l.stackTraces = false) (G : GT) (A : Nat → Prop) (h : AH) (b0 : BA) (u : MM) (hR : RC G.2.2.1 h b0 u) (hw : WFc u) (x : Int32) (cL cD : ClassId) (o : Nat) (v0 : Value) :
    cwM l G A yL_bagsNeeded cL_bagsNeeded 4 [(0, 9, 12, 21)] (7 + 1) (8 + (3 + 11) + 195) (4 + (UC (cBn u x) - UC u)) (24 + (US (cBn u x) - US u)) [.ref (b0 14 0), .int (x), .ref o] h cL cD cL o v0 (WPost G.2.2.1 u b0 (cBn u x) [nseC] (xLn u x) (.long ((cBn u x 8 12).toInt64))) := by
  refine cW_core (R := cBn u x 8 12) (idx := 115) (pci := 4) (pcs := 8) (pce := 15) (off := 6) (As := [.int (x)]) ms_L_bagsNeeded mv_X10_bagsNeeded ml_L_115 rfl (Nat.le_of_ble_eq_true rfl) dL_bagsNeeded_4 dL_bagsNeeded_8 dL_bagsNeeded_9 (by decide) dL_bagsNeeded_15 dL_bagsNeeded_16 ⟨⟨by decide, by decide, cl_L_21, ca_463, 3, 1, by decide, Or.inl ⟨3, rfl, dL_bagsNeeded_12, rfl⟩, 1, by decide, dL_bagsNeeded_13, dL_bagsNeeded_14⟩, by decide +kernel, True.intro⟩ ?_ ?_ hR (cC_X10_bagsNeeded l hlt G A h b0 u hR hw x) (xLn_in) (fun r h' hp => hp) (fun E h' hx => hx)
  · intro p e R s m args below meth c9 H locs cells slots Q ls hx hb hl k
    refine lv_aload_n hx hb dL_bagsNeeded_0 rfl (lv_at hl 2 rfl) ?_
    refine lv_iconst (v := 0) hx hb dL_bagsNeeded_1 (by decide) ?_
    refine lv_aload_n hx hb dL_bagsNeeded_2 rfl (lv_at hl 0 rfl) ?_
    refine lv_iload_n hx hb dL_bagsNeeded_3 rfl (lv_at hl 1 rfl) ?_
    exact k
  · intro p e R s m args below meth c9 H locs cells slots Q ls hx hb hl k
    refine lv_i2l hx hb dL_bagsNeeded_7 rfl ?_
    exact k
theorem cW_bagsAtLeast (l : Launch) (hlt : l.stackTraces = false) (G : GT) (A : Nat → Prop) (h : AH) (b0 : BA) (u : MM) (hR : RC G.2.2.1 h b0 u) (hw : WFc u) (x : Int32) (cL cD : ClassId) (o : Nat) (v0 : Value) :
    cwM l G A yL_bagsAtLeast cL_bagsAtLeast 4 [(0, 9, 12, 21)] (7 + 1) (8 + (6 + 11) + 111) 1 6 [.ref (b0 14 0), .int (x), .ref o] h cL cD cL o v0 (WPost G.2.2.1 u b0 u [nseC] (xLn u x) (.long ((cBaL u x (nhN u) 0 0).toInt64))) := by
  refine cW_core (R := cBaL u x (nhN u) 0 0) (idx := 118) (pci := 4) (pcs := 8) (pce := 15) (off := 6) (As := [.int (x)]) ms_L_bagsAtLeast mv_X10_bagsAtLeast ml_L_118 rfl (Nat.le_of_ble_eq_true rfl) dL_bagsAtLeast_4 dL_bagsAtLeast_8 dL_bagsAtLeast_9 (by decide) dL_bagsAtLeast_15 dL_bagsAtLeast_16 ⟨⟨by decide, by decide, cl_L_21, ca_463, 3, 1, by decide, Or.inl ⟨3, rfl, dL_bagsAtLeast_12, rfl⟩, 1, by decide, dL_bagsAtLeast_13, dL_bagsAtLeast_14⟩, by decide +kernel, True.intro⟩ ?_ ?_ hR (cC_X10_bagsAtLeast l hlt G A h b0 u hR hw x) (xLn_in) (fun r h' hp => ⟨hp.1, hp.2.1, b0, BE.refl u b0, by rw [hp.2.2]; exact hR, hw⟩) (fun E h' hx => ⟨hx.1, b0, BE.refl u b0, by rw [hx.2]; exact hR, hw⟩)
  · intro p e R s m args below meth c9 H locs cells slots Q ls hx hb hl k
    refine lv_aload_n hx hb dL_bagsAtLeast_0 rfl (lv_at hl 2 rfl) ?_
    refine lv_iconst (v := 0) hx hb dL_bagsAtLeast_1 (by decide) ?_
    refine lv_aload_n hx hb dL_bagsAtLeast_2 rfl (lv_at hl 0 rfl) ?_
    refine lv_iload_n hx hb dL_bagsAtLeast_3 rfl (lv_at hl 1 rfl) ?_
    exact k
  · intro p e R s m args below meth c9 H locs cells slots Q ls hx hb hl k
    refine lv_i2l hx hb dL_bagsAtLeast_7 rfl ?_
    exact k
theorem cW_bags (l : Launch) (hlt : l.stackTraces = false) (G : GT) (A : Nat → Prop) (h : AH) (b0 : BA) (u : MM) (hR : RC G.2.2.1 h b0 u) (hw : WFc u) (x : Int32) (cL cD : ClassId) (o : Nat) (v0 : Value) :
    cwM l G A yL_bags cL_bags 4 [(0, 9, 12, 21)] (7 + 1) (8 + (2 + 11) + 111) 1 6 [.ref (b0 14 0), .int (x), .ref o] h cL cD cL o v0 (WPost G.2.2.1 u b0 u [nseC] (xLn u x) (.long ((u 8 x.toNatClampNeg).toInt64))) := by
  refine cW_core (R := u 8 x.toNatClampNeg) (idx := 121) (pci := 4) (pcs := 8) (pce := 15) (off := 6) (As := [.int (x)]) ms_L_bags mv_X10_bags ml_L_121 rfl (Nat.le_of_ble_eq_true rfl) dL_bags_4 dL_bags_8 dL_bags_9 (by decide) dL_bags_15 dL_bags_16 ⟨⟨by decide, by decide, cl_L_21, ca_463, 3, 1, by decide, Or.inl ⟨3, rfl, dL_bags_12, rfl⟩, 1, by decide, dL_bags_13, dL_bags_14⟩, by decide +kernel, True.intro⟩ ?_ ?_ hR (cC_X10_bags l hlt G A h b0 u hR hw x) (xLn_in) (fun r h' hp => ⟨hp.1, hp.2.1, b0, BE.refl u b0, by rw [hp.2.2]; exact hR, hw⟩) (fun E h' hx => ⟨hx.1, b0, BE.refl u b0, by rw [hx.2]; exact hR, hw⟩)
  · intro p e R s m args below meth c9 H locs cells slots Q ls hx hb hl k
    refine lv_aload_n hx hb dL_bags_0 rfl (lv_at hl 2 rfl) ?_
    refine lv_iconst (v := 0) hx hb dL_bags_1 (by decide) ?_
    refine lv_aload_n hx hb dL_bags_2 rfl (lv_at hl 0 rfl) ?_
    refine lv_iload_n hx hb dL_bags_3 rfl (lv_at hl 1 rfl) ?_
    exact k
  · intro p e R s m args below meth c9 H locs cells slots Q ls hx hb hl k
    refine lv_i2l hx hb dL_bags_7 rfl ?_
    exact k
theorem cW_bagVolume (l : Launch) (hlt : l.stackTraces = false) (G : GT) (A : Nat → Prop) (h : AH) (b0 : BA) (u : MM) (hR : RC G.2.2.1 h b0 u) (hw : WFc u) (x i0 : Int32) (cL cD : ClassId) (o : Nat) (v0 : Value) :
    cwM l G A yL_bagVolume cL_bagVolume 5 [(0, 10, 13, 21), (0, 10, 17, 98)] (7 + 1) (8 + (4 + 11) + 111) 2 12 [.ref (b0 14 0), .int (x), .int (i0), .ref o] h cL cD cL o v0 (WPost G.2.2.1 u b0 u [nseC, iobC] (xBv u x i0) (.long ((cVol u x.toNatClampNeg 40 i0).toInt64))) := by
  refine cW_core (R := cVol u x.toNatClampNeg 40 i0) (idx := 124) (pci := 5) (pcs := 9) (pce := 21) (off := 11) (As := [.int (x), .int (i0)]) ms_L_bagVolume mv_X10_bagVolume ml_L_124 rfl (Nat.le_of_ble_eq_true rfl) dL_bagVolume_5 dL_bagVolume_9 dL_bagVolume_10 (by decide) dL_bagVolume_21 dL_bagVolume_22 ⟨⟨by decide, by decide, cl_L_21, ca_463, 4, 2, by decide, Or.inr ⟨dL_bagVolume_13, rfl⟩, 1, by decide, dL_bagVolume_15, dL_bagVolume_16⟩, by decide +kernel, ⟨by decide, by decide, cl_L_98, ca_955, 4, 2, by decide, Or.inr ⟨dL_bagVolume_17, rfl⟩, 2, by decide, dL_bagVolume_19, dL_bagVolume_20⟩, by decide +kernel, True.intro⟩ ?_ ?_ hR (cC_X10_bagVolume l hlt G A h b0 u hR hw x i0) (xBv_in) (fun r h' hp => ⟨hp.1, hp.2.1, b0, BE.refl u b0, by rw [hp.2.2]; exact hR, hw⟩) (fun E h' hx => ⟨hx.1, b0, BE.refl u b0, by rw [hx.2]; exact hR, hw⟩)
  · intro p e R s m args below meth c9 H locs cells slots Q ls hx hb hl k
    refine lv_aload_n hx hb dL_bagVolume_0 rfl (lv_at hl 3 rfl) ?_
    refine lv_iconst (v := 0) hx hb dL_bagVolume_1 (by decide) ?_
    refine lv_aload_n hx hb dL_bagVolume_2 rfl (lv_at hl 0 rfl) ?_
    refine lv_iload_n hx hb dL_bagVolume_3 rfl (lv_at hl 1 rfl) ?_
    refine lv_iload_n hx hb dL_bagVolume_4 rfl (lv_at hl 2 rfl) ?_
    exact k
  · intro p e R s m args below meth c9 H locs cells slots Q ls hx hb hl k
    refine lv_i2l hx hb dL_bagVolume_8 rfl ?_
    exact k
theorem cW_riding (l : Launch) (hlt : l.stackTraces = false) (G : GT) (A : Nat → Prop) (h : AH) (b0 : BA) (u : MM) (hR : RC G.2.2.1 h b0 u) (hw : WFc u) (x : Int32) (cL cD : ClassId) (o : Nat) (v0 : Value) :
    cwM l G A yL_riding cL_riding 4 [(0, 9, 12, 21)] (7 + 1) (8 + (6 + 11) + 111) 1 6 [.ref (b0 14 0), .int (x), .ref o] h cL cD cL o v0 (WPost G.2.2.1 u b0 u [nseC] (xLn u x) (.long ((cRdL u x (npN u) 0 0).toInt64))) := by
  refine cW_core (R := cRdL u x (npN u) 0 0) (idx := 127) (pci := 4) (pcs := 8) (pce := 15) (off := 6) (As := [.int (x)]) ms_L_riding mv_X10_riding ml_L_127 rfl (Nat.le_of_ble_eq_true rfl) dL_riding_4 dL_riding_8 dL_riding_9 (by decide) dL_riding_15 dL_riding_16 ⟨⟨by decide, by decide, cl_L_21, ca_463, 3, 1, by decide, Or.inl ⟨3, rfl, dL_riding_12, rfl⟩, 1, by decide, dL_riding_13, dL_riding_14⟩, by decide +kernel, True.intro⟩ ?_ ?_ hR (cC_X10_riding l hlt G A h b0 u hR hw x) (xLn_in) (fun r h' hp => ⟨hp.1, hp.2.1, b0, BE.refl u b0, by rw [hp.2.2]; exact hR, hw⟩) (fun E h' hx => ⟨hx.1, b0, BE.refl u b0, by rw [hx.2]; exact hR, hw⟩)
  · intro p e R s m args below meth c9 H locs cells slots Q ls hx hb hl k
    refine lv_aload_n hx hb dL_riding_0 rfl (lv_at hl 2 rfl) ?_
    refine lv_iconst (v := 0) hx hb dL_riding_1 (by decide) ?_
    refine lv_aload_n hx hb dL_riding_2 rfl (lv_at hl 0 rfl) ?_
    refine lv_iload_n hx hb dL_riding_3 rfl (lv_at hl 1 rfl) ?_
    exact k
  · intro p e R s m args below meth c9 H locs cells slots Q ls hx hb hl k
    refine lv_i2l hx hb dL_riding_7 rfl ?_
    exact k
theorem cW_events (l : Launch) (hlt : l.stackTraces = false) (G : GT) (A : Nat → Prop) (h : AH) (b0 : BA) (u : MM) (hR : RC G.2.2.1 h b0 u) (hw : WFc u) (x : Int32) (cL cD : ClassId) (o : Nat) (v0 : Value) :
    cwM l G A yL_events cL_events 4 [(0, 9, 12, 21)] (7 + 1) (8 + (2 + 11) + 111) 1 6 [.ref (b0 14 0), .int (x), .ref o] h cL cD cL o v0 (WPost G.2.2.1 u b0 u [nseC] (xPa u x) (.long ((nI (szN u (6 + x.toNatClampNeg))).toInt64))) := by
  refine cW_core (R := nI (szN u (6 + x.toNatClampNeg))) (idx := 130) (pci := 4) (pcs := 8) (pce := 15) (off := 6) (As := [.int (x)]) ms_L_events mv_X10_events ml_L_130 rfl (Nat.le_of_ble_eq_true rfl) dL_events_4 dL_events_8 dL_events_9 (by decide) dL_events_15 dL_events_16 ⟨⟨by decide, by decide, cl_L_21, ca_463, 3, 1, by decide, Or.inl ⟨3, rfl, dL_events_12, rfl⟩, 1, by decide, dL_events_13, dL_events_14⟩, by decide +kernel, True.intro⟩ ?_ ?_ hR (cC_X10_events l hlt G A h b0 u hR hw x) (xPa_in) (fun r h' hp => ⟨hp.1, hp.2.1, b0, BE.refl u b0, by rw [hp.2.2]; exact hR, hw⟩) (fun E h' hx => ⟨hx.1, b0, BE.refl u b0, by rw [hx.2]; exact hR, hw⟩)
  · intro p e R s m args below meth c9 H locs cells slots Q ls hx hb hl k
    refine lv_aload_n hx hb dL_events_0 rfl (lv_at hl 2 rfl) ?_
    refine lv_iconst (v := 0) hx hb dL_events_1 (by decide) ?_
    refine lv_aload_n hx hb dL_events_2 rfl (lv_at hl 0 rfl) ?_
    refine lv_iload_n hx hb dL_events_3 rfl (lv_at hl 1 rfl) ?_
    exact k
  · intro p e R s m args below meth c9 H locs cells slots Q ls hx hb hl k
    refine lv_i2l hx hb dL_events_7 rfl ?_
    exact k
theorem cW_eventKind (l : Launch) (hlt : l.stackTraces = false) (G : GT) (A : Nat → Prop) (h : AH) (b0 : BA) (u : MM) (hR : RC G.2.2.1 h b0 u) (hw : WFc u) (x i0 : Int32) (hns : ok u 5 (1024 * x.toNatClampNeg + i0.toNatClampNeg) → narrow .char (.int (u 120 (1024 * x.toNatClampNeg + i0.toNatClampNeg))) = .int (u 120 (1024 * x.toNatClampNeg + i0.toNatClampNeg))) (cL cD : ClassId) (o : Nat) (v0 : Value) :
    cwM l G A yL_eventKind cL_eventKind 5 [(0, 10, 13, 21), (0, 10, 17, 98)] (8 + 1) (8 + (3 + 11) + 134) 2 12 [.ref (b0 14 0), .int (x), .int (i0), .ref o] h cL cD cL o v0 (WPost G.2.2.1 u b0 u [nseC, iobC] (xEv u x i0) (.long ((u 120 (1024 * x.toNatClampNeg + i0.toNatClampNeg)).toInt64))) := by
  by_cases z9 : ok u 5 (1024 * x.toNatClampNeg + i0.toNatClampNeg)
  · refine cW_core (R := u 120 (1024 * x.toNatClampNeg + i0.toNatClampNeg)) (idx := 133) (pci := 5) (pcs := 9) (pce := 21) (off := 11) (As := [.int (x), .int (i0)]) ms_L_eventKind mv_X10_eventKind ml_L_133 rfl (Nat.le_of_ble_eq_true rfl) dL_eventKind_5 dL_eventKind_9 dL_eventKind_10 (by decide) dL_eventKind_21 dL_eventKind_22 ⟨⟨by decide, by decide, cl_L_21, ca_463, 4, 2, by decide, Or.inr ⟨dL_eventKind_13, rfl⟩, 1, by decide, dL_eventKind_15, dL_eventKind_16⟩, by decide +kernel, ⟨by decide, by decide, cl_L_98, ca_955, 4, 2, by decide, Or.inr ⟨dL_eventKind_17, rfl⟩, 2, by decide, dL_eventKind_19, dL_eventKind_20⟩, by decide +kernel, True.intro⟩ ?_ ?_ hR (cC_X10_eventKind l hlt G A h b0 u hR hw x i0 (hns z9)) (xEv_in) (fun r h' hp => ⟨hp.1, hp.2.1, b0, BE.refl u b0, by rw [hp.2.2]; exact hR, hw⟩) (fun E h' hx => ⟨hx.1, b0, BE.refl u b0, by rw [hx.2]; exact hR, hw⟩)
    · intro p e R s m args below meth c9 H locs cells slots Q ls hx hb hl k
      refine lv_aload_n hx hb dL_eventKind_0 rfl (lv_at hl 3 rfl) ?_
      refine lv_iconst (v := 0) hx hb dL_eventKind_1 (by decide) ?_
      refine lv_aload_n hx hb dL_eventKind_2 rfl (lv_at hl 0 rfl) ?_
      refine lv_iload_n hx hb dL_eventKind_3 rfl (lv_at hl 1 rfl) ?_
      refine lv_iload_n hx hb dL_eventKind_4 rfl (lv_at hl 2 rfl) ?_
      exact k
    · intro p e R s m args below meth c9 H locs cells slots Q ls hx hb hl k
      refine lv_i2l hx hb dL_eventKind_8 rfl ?_
      exact k
  · have hn0 : ¬ xEv u x i0 = none := fun hn => z9 (xEv_ok hw hn)
    have e9 : xEv (up u 120 (1024 * x.toNatClampNeg + i0.toNatClampNeg) 0) x i0 = xEv u x i0 := rfl
    refine cW_core (R := u 120 (1024 * x.toNatClampNeg + i0.toNatClampNeg)) (idx := 133) (pci := 5) (pcs := 9) (pce := 21) (off := 11) (As := [.int (x), .int (i0)]) ms_L_eventKind mv_X10_eventKind ml_L_133 rfl (Nat.le_of_ble_eq_true rfl) dL_eventKind_5 dL_eventKind_9 dL_eventKind_10 (by decide) dL_eventKind_21 dL_eventKind_22 ⟨⟨by decide, by decide, cl_L_21, ca_463, 4, 2, by decide, Or.inr ⟨dL_eventKind_13, rfl⟩, 1, by decide, dL_eventKind_15, dL_eventKind_16⟩, by decide +kernel, ⟨by decide, by decide, cl_L_98, ca_955, 4, 2, by decide, Or.inr ⟨dL_eventKind_17, rfl⟩, 2, by decide, dL_eventKind_19, dL_eventKind_20⟩, by decide +kernel, True.intro⟩ ?_ ?_ hR (cC_X10_eventKind l hlt G A h b0 (up u 120 (1024 * x.toNatClampNeg + i0.toNatClampNeg) 0) (hR.off (by unfold kSz; omega) (by omega) z9) (hw.upx (by unfold kWc kSz; decide)) x i0 (by rw [up_s]; decide)) (xEv_in) (fun r h' hp => absurd (e9 ▸ hp.1) hn0) (fun E h' hx => ⟨e9 ▸ hx.1, b0, BE.refl u b0, by rw [hx.2]; exact hR, hw⟩)
    · intro p e R s m args below meth c9 H locs cells slots Q ls hx hb hl k
      refine lv_aload_n hx hb dL_eventKind_0 rfl (lv_at hl 3 rfl) ?_
      refine lv_iconst (v := 0) hx hb dL_eventKind_1 (by decide) ?_
      refine lv_aload_n hx hb dL_eventKind_2 rfl (lv_at hl 0 rfl) ?_
      refine lv_iload_n hx hb dL_eventKind_3 rfl (lv_at hl 1 rfl) ?_
      refine lv_iload_n hx hb dL_eventKind_4 rfl (lv_at hl 2 rfl) ?_
      exact k
    · intro p e R s m args below meth c9 H locs cells slots Q ls hx hb hl k
      refine lv_i2l hx hb dL_eventKind_8 rfl ?_
      exact k
theorem cW_eventMinute (l : Launch) (hlt : l.stackTraces = false) (G : GT) (A : Nat → Prop) (h : AH) (b0 : BA) (u : MM) (hR : RC G.2.2.1 h b0 u) (hw : WFc u) (x i0 : Int32) (cL cD : ClassId) (o : Nat) (v0 : Value) :
    cwM l G A yL_eventMinute cL_eventMinute 5 [(0, 10, 13, 21), (0, 10, 17, 98)] (8 + 1) (8 + (3 + 11) + 134) 2 12 [.ref (b0 14 0), .int (x), .int (i0), .ref o] h cL cD cL o v0 (WPost G.2.2.1 u b0 u [nseC, iobC] (xEv u x i0) (.long ((u 121 (1024 * x.toNatClampNeg + i0.toNatClampNeg)).toInt64))) := by
  refine cW_core (R := u 121 (1024 * x.toNatClampNeg + i0.toNatClampNeg)) (idx := 136) (pci := 5) (pcs := 9) (pce := 21) (off := 11) (As := [.int (x), .int (i0)]) ms_L_eventMinute mv_X10_eventMinute ml_L_136 rfl (Nat.le_of_ble_eq_true rfl) dL_eventMinute_5 dL_eventMinute_9 dL_eventMinute_10 (by decide) dL_eventMinute_21 dL_eventMinute_22 ⟨⟨by decide, by decide, cl_L_21, ca_463, 4, 2, by decide, Or.inr ⟨dL_eventMinute_13, rfl⟩, 1, by decide, dL_eventMinute_15, dL_eventMinute_16⟩, by decide +kernel, ⟨by decide, by decide, cl_L_98, ca_955, 4, 2, by decide, Or.inr ⟨dL_eventMinute_17, rfl⟩, 2, by decide, dL_eventMinute_19, dL_eventMinute_20⟩, by decide +kernel, True.intro⟩ ?_ ?_ hR (cC_X10_eventMinute l hlt G A h b0 u hR hw x i0) (xEv_in) (fun r h' hp => ⟨hp.1, hp.2.1, b0, BE.refl u b0, by rw [hp.2.2]; exact hR, hw⟩) (fun E h' hx => ⟨hx.1, b0, BE.refl u b0, by rw [hx.2]; exact hR, hw⟩)
  · intro p e R s m args below meth c9 H locs cells slots Q ls hx hb hl k
    refine lv_aload_n hx hb dL_eventMinute_0 rfl (lv_at hl 3 rfl) ?_
    refine lv_iconst (v := 0) hx hb dL_eventMinute_1 (by decide) ?_
    refine lv_aload_n hx hb dL_eventMinute_2 rfl (lv_at hl 0 rfl) ?_
    refine lv_iload_n hx hb dL_eventMinute_3 rfl (lv_at hl 1 rfl) ?_
    refine lv_iload_n hx hb dL_eventMinute_4 rfl (lv_at hl 2 rfl) ?_
    exact k
  · intro p e R s m args below meth c9 H locs cells slots Q ls hx hb hl k
    refine lv_i2l hx hb dL_eventMinute_8 rfl ?_
    exact k
theorem cW_eventHub (l : Launch) (hlt : l.stackTraces = false) (G : GT) (A : Nat → Prop) (h : AH) (b0 : BA) (u : MM) (hR : RC G.2.2.1 h b0 u) (hw : WFc u) (x i0 : Int32) (cL cD : ClassId) (o : Nat) (v0 : Value) :
    cwM l G A yL_eventHub cL_eventHub 5 [(0, 10, 13, 21), (0, 10, 17, 98)] (8 + 1) (8 + (3 + 11) + 134) 2 12 [.ref (b0 14 0), .int (x), .int (i0), .ref o] h cL cD cL o v0 (WPost G.2.2.1 u b0 u [nseC, iobC] (xEv u x i0) (.long ((u 122 (1024 * x.toNatClampNeg + i0.toNatClampNeg)).toInt64))) := by
  refine cW_core (R := u 122 (1024 * x.toNatClampNeg + i0.toNatClampNeg)) (idx := 139) (pci := 5) (pcs := 9) (pce := 21) (off := 11) (As := [.int (x), .int (i0)]) ms_L_eventHub mv_X10_eventHub ml_L_139 rfl (Nat.le_of_ble_eq_true rfl) dL_eventHub_5 dL_eventHub_9 dL_eventHub_10 (by decide) dL_eventHub_21 dL_eventHub_22 ⟨⟨by decide, by decide, cl_L_21, ca_463, 4, 2, by decide, Or.inr ⟨dL_eventHub_13, rfl⟩, 1, by decide, dL_eventHub_15, dL_eventHub_16⟩, by decide +kernel, ⟨by decide, by decide, cl_L_98, ca_955, 4, 2, by decide, Or.inr ⟨dL_eventHub_17, rfl⟩, 2, by decide, dL_eventHub_19, dL_eventHub_20⟩, by decide +kernel, True.intro⟩ ?_ ?_ hR (cC_X10_eventHub l hlt G A h b0 u hR hw x i0) (xEv_in) (fun r h' hp => ⟨hp.1, hp.2.1, b0, BE.refl u b0, by rw [hp.2.2]; exact hR, hw⟩) (fun E h' hx => ⟨hx.1, b0, BE.refl u b0, by rw [hx.2]; exact hR, hw⟩)
  · intro p e R s m args below meth c9 H locs cells slots Q ls hx hb hl k
    refine lv_aload_n hx hb dL_eventHub_0 rfl (lv_at hl 3 rfl) ?_
    refine lv_iconst (v := 0) hx hb dL_eventHub_1 (by decide) ?_
    refine lv_aload_n hx hb dL_eventHub_2 rfl (lv_at hl 0 rfl) ?_
    refine lv_iload_n hx hb dL_eventHub_3 rfl (lv_at hl 1 rfl) ?_
    refine lv_iload_n hx hb dL_eventHub_4 rfl (lv_at hl 2 rfl) ?_
    exact k
  · intro p e R s m args below meth c9 H locs cells slots Q ls hx hb hl k
    refine lv_i2l hx hb dL_eventHub_8 rfl ?_
    exact k
theorem cW_trace (l : Launch) (hlt : l.stackTraces = false) (G : GT) (A : Nat → Prop) (h : AH) (b0 : BA) (u : MM) (hR : RC G.2.2.1 h b0 u) (hw : WFc u) (x : Int32) (cL cD : ClassId) (o : Nat) (v0 : Value) :
    cwM l G A yL_trace cL_trace 4 [(0, 9, 12, 21)] (7 + 1) (8 + (2 + 11) + 111) 1 6 [.ref (b0 14 0), .int (x), .ref o] h cL cD cL o v0 (WPost G.2.2.1 u b0 u [nseC] (xPa u x) (.long ((u 27 x.toNatClampNeg).toInt64))) := by
  refine cW_core (R := u 27 x.toNatClampNeg) (idx := 142) (pci := 4) (pcs := 8) (pce := 15) (off := 6) (As := [.int (x)]) ms_L_trace mv_X10_trace ml_L_142 rfl (Nat.le_of_ble_eq_true rfl) dL_trace_4 dL_trace_8 dL_trace_9 (by decide) dL_trace_15 dL_trace_16 ⟨⟨by decide, by decide, cl_L_21, ca_463, 3, 1, by decide, Or.inl ⟨3, rfl, dL_trace_12, rfl⟩, 1, by decide, dL_trace_13, dL_trace_14⟩, by decide +kernel, True.intro⟩ ?_ ?_ hR (cC_X10_trace l hlt G A h b0 u hR hw x) (xPa_in) (fun r h' hp => ⟨hp.1, hp.2.1, b0, BE.refl u b0, by rw [hp.2.2]; exact hR, hw⟩) (fun E h' hx => ⟨hx.1, b0, BE.refl u b0, by rw [hx.2]; exact hR, hw⟩)
  · intro p e R s m args below meth c9 H locs cells slots Q ls hx hb hl k
    refine lv_aload_n hx hb dL_trace_0 rfl (lv_at hl 2 rfl) ?_
    refine lv_iconst (v := 0) hx hb dL_trace_1 (by decide) ?_
    refine lv_aload_n hx hb dL_trace_2 rfl (lv_at hl 0 rfl) ?_
    refine lv_iload_n hx hb dL_trace_3 rfl (lv_at hl 1 rfl) ?_
    exact k
  · intro p e R s m args below meth c9 H locs cells slots Q ls hx hb hl k
    refine lv_i2l hx hb dL_trace_7 rfl ?_
    exact k
