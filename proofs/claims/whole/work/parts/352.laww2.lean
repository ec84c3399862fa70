/-! the wrappers of the calls that change the state, with the room of the state behind -/
theorem cW_scan_no (l : Launch) (hlt : l.stackTraces = false) (G : GT) (A : Nat → Prop) (h : AH) (b0 : BA) (u : MM) (hR : RC G.2.2.1 h b0 u) (hw : WFc u) (x y : Int32) (hX : ¬ xScn u x y = none) (cL cD : ClassId) (o : Nat) (v0 : Value) :
    cwM l G A yL_scan cL_scan 5 [(0, 10, 13, 21), (0, 10, 17, 15)] (11 + 1) (8 + (5 + 11) + 398) 4 24 [.ref (b0 14 0), .int (x), .int (y), .ref o] h cL cD cL o v0 (WPost G.2.2.1 u b0 (if xScn u x y = none then (cScn u x y) else u) [nseC, iseC] (xScn u x y) (.long ((cScnR u x y).toInt64))) := by
  refine cW_core (R := cScnR u x y) (idx := 31) (pci := 5) (pcs := 9) (pce := 21) (off := 11) (As := [.int (x), .int (y)]) ms_L_scan mv_X10_scan ml_L_31 rfl (Nat.le_of_ble_eq_true rfl) dL_scan_5 dL_scan_9 dL_scan_10 (by decide) dL_scan_21 dL_scan_22 ⟨⟨by decide, by decide, cl_L_21, ca_463, 4, 2, by decide, Or.inr ⟨dL_scan_13, rfl⟩, 1, by decide, dL_scan_15, dL_scan_16⟩, by decide +kernel, ⟨by decide, by decide, cl_L_15, ca_411, 4, 2, by decide, Or.inr ⟨dL_scan_17, rfl⟩, 2, by decide, dL_scan_19, dL_scan_20⟩, by decide +kernel, True.intro⟩ ?_ ?_ hR (cC_X10_scan_no l hlt G A h b0 u hR hw x y hX) (xScn_in) (fun r h' hp => ⟨hp.1, hp.2.1, by rw [if_pos hp.1]; exact hp.2.2⟩) (fun E h' hx => ⟨hx.1, b0, BE.refl u b0, by rw [if_neg (by rw [hx.1]; exact fun z => by cases z), hx.2]; exact hR, by rw [if_neg (by rw [hx.1]; exact fun z => by cases z)]; exact hw⟩)
  · intro p e R s m args below meth c9 H locs cells slots Q ls hx hb hl k
    refine lv_aload_n hx hb dL_scan_0 rfl (lv_at hl 3 rfl) ?_
    refine lv_iconst (v := 0) hx hb dL_scan_1 (by decide) ?_
    refine lv_aload_n hx hb dL_scan_2 rfl (lv_at hl 0 rfl) ?_
    refine lv_iload_n hx hb dL_scan_3 rfl (lv_at hl 1 rfl) ?_
    refine lv_iload_n hx hb dL_scan_4 rfl (lv_at hl 2 rfl) ?_
    exact k
  · intro p e R s m args below meth c9 H locs cells slots Q ls hx hb hl k
    refine lv_i2l hx hb dL_scan_8 rfl ?_
    exact k
theorem cW2_scan (l : Launch) (hlt : l.stackTraces = false) (G : GT) (A : Nat → Prop) (h : AH) (b0 : BA) (u : MM) (hR : RC G.2.2.1 h b0 u) (hw : WFc u) (x y : Int32) (cL cD : ClassId) (o : Nat) (v0 : Value) :
    cwM l G A yL_scan cL_scan 5 [(0, 10, 13, 21), (0, 10, 17, 15)] (11 + 1) (8 + (5 + 11) + 398) (4 + (UC (if xScn u x y = none then (cScn u x y) else u) - UC u)) (24 + (US (if xScn u x y = none then (cScn u x y) else u) - US u)) [.ref (b0 14 0), .int (x), .int (y), .ref o] h cL cD cL o v0 (WPost G.2.2.1 u b0 (if xScn u x y = none then (cScn u x y) else u) [nseC, iseC] (xScn u x y) (.long ((cScnR u x y).toInt64))) := by
  by_cases hX : xScn u x y = none
  · have h9 := cW_scan l hlt G A h b0 u hR hw x y cL cD o v0
    rw [if_pos hX] at h9 ⊢
    exact h9
  · have h9 := cW_scan_no l hlt G A h b0 u hR hw x y hX cL cD o v0
    rw [if_neg hX] at h9 ⊢
    rw [Nat.sub_self, Nat.sub_self]
    exact h9
theorem cW_deliver_no (l : Launch) (hlt : l.stackTraces = false) (G : GT) (A : Nat → Prop) (h : AH) (b0 : BA) (u : MM) (hR : RC G.2.2.1 h b0 u) (hw : WFc u) (x t : Int32) (hX : ¬ xDel u x = none) (cL cD : ClassId) (o : Nat) (v0 : Value) :
    cwM l G A yL_deliver cL_deliver 5 [(0, 10, 13, 21), (0, 10, 17, 15)] (11 + 1) (8 + (4 + 11) + 397) 4 24 [.ref (b0 14 0), .int (x), .int (t), .ref o] h cL cD cL o v0 (WPost G.2.2.1 u b0 (if xDel u x = none then (cDel u x t) else u) [nseC, iseC] (xDel u x) (.long ((cDelR u x t).toInt64))) := by
  refine cW_core (R := cDelR u x t) (idx := 35) (pci := 5) (pcs := 9) (pce := 21) (off := 11) (As := [.int (x), .int (t)]) ms_L_deliver mv_X10_deliver ml_L_35 rfl (Nat.le_of_ble_eq_true rfl) dL_deliver_5 dL_deliver_9 dL_deliver_10 (by decide) dL_deliver_21 dL_deliver_22 ⟨⟨by decide, by decide, cl_L_21, ca_463, 4, 2, by decide, Or.inr ⟨dL_deliver_13, rfl⟩, 1, by decide, dL_deliver_15, dL_deliver_16⟩, by decide +kernel, ⟨by decide, by decide, cl_L_15, ca_411, 4, 2, by decide, Or.inr ⟨dL_deliver_17, rfl⟩, 2, by decide, dL_deliver_19, dL_deliver_20⟩, by decide +kernel, True.intro⟩ ?_ ?_ hR (cC_X10_deliver_no l hlt G A h b0 u hR hw x t hX) (xDel_in) (fun r h' hp => ⟨hp.1, hp.2.1, by rw [if_pos hp.1]; exact hp.2.2⟩) (fun E h' hx => ⟨hx.1, b0, BE.refl u b0, by rw [if_neg (by rw [hx.1]; exact fun z => by cases z), hx.2]; exact hR, by rw [if_neg (by rw [hx.1]; exact fun z => by cases z)]; exact hw⟩)
  · intro p e R s m args below meth c9 H locs cells slots Q ls hx hb hl k
    refine lv_aload_n hx hb dL_deliver_0 rfl (lv_at hl 3 rfl) ?_
    refine lv_iconst (v := 0) hx hb dL_deliver_1 (by decide) ?_
    refine lv_aload_n hx hb dL_deliver_2 rfl (lv_at hl 0 rfl) ?_
    refine lv_iload_n hx hb dL_deliver_3 rfl (lv_at hl 1 rfl) ?_
    refine lv_iload_n hx hb dL_deliver_4 rfl (lv_at hl 2 rfl) ?_
    exact k
  · intro p e R s m args below meth c9 H locs cells slots Q ls hx hb hl k
    refine lv_i2l hx hb dL_deliver_8 rfl ?_
    exact k
theorem cW2_deliver (l : Launch) (hlt : l.stackTraces = false) (G : GT) (A : Nat → Prop) (h : AH) (b0 : BA) (u : MM) (hR : RC G.2.2.1 h b0 u) (hw : WFc u) (x t : Int32) (cL cD : ClassId) (o : Nat) (v0 : Value) :
    cwM l G A yL_deliver cL_deliver 5 [(0, 10, 13, 21), (0, 10, 17, 15)] (11 + 1) (8 + (4 + 11) + 397) (4 + (UC (if xDel u x = none then (cDel u x t) else u) - UC u)) (24 + (US (if xDel u x = none then (cDel u x t) else u) - US u)) [.ref (b0 14 0), .int (x), .int (t), .ref o] h cL cD cL o v0 (WPost G.2.2.1 u b0 (if xDel u x = none then (cDel u x t) else u) [nseC, iseC] (xDel u x) (.long ((cDelR u x t).toInt64))) := by
  by_cases hX : xDel u x = none
  · have h9 := cW_deliver l hlt G A h b0 u hR hw x t cL cD o v0
    rw [if_pos hX] at h9 ⊢
    exact h9
  · have h9 := cW_deliver_no l hlt G A h b0 u hR hw x t hX cL cD o v0
    rw [if_neg hX] at h9 ⊢
    rw [Nat.sub_self, Nat.sub_self]
    exact h9
theorem cW_recall_no (l : Launch) (hlt : l.stackTraces = false) (G : GT) (A : Nat → Prop) (h : AH) (b0 : BA) (u : MM) (hR : RC G.2.2.1 h b0 u) (hw : WFc u) (x : Int32) (hX : ¬ xRec u x = none) (cL cD : ClassId) (o : Nat) (v0 : Value) :
    cwM l G A yL_recall cL_recall 4 [(0, 9, 12, 21), (0, 9, 15, 15)] (10 + 1) (8 + (3 + 11) + 376) 4 24 [.ref (b0 14 0), .int (x), .ref o] h cL cD cL o v0 (WPost G.2.2.1 u b0 (if xRec u x = none then (cTurn u x.toNatClampNeg) else u) [nseC, iseC] (xRec u x) (.long ((cTurn u x.toNatClampNeg 20 x.toNatClampNeg).toInt64))) := by
  refine cW_core (R := cTurn u x.toNatClampNeg 20 x.toNatClampNeg) (idx := 39) (pci := 4) (pcs := 8) (pce := 18) (off := 9) (As := [.int (x)]) ms_L_recall mv_X10_recall ml_L_39 rfl (Nat.le_of_ble_eq_true rfl) dL_recall_4 dL_recall_8 dL_recall_9 (by decide) dL_recall_18 dL_recall_19 ⟨⟨by decide, by decide, cl_L_21, ca_463, 3, 1, by decide, Or.inl ⟨3, rfl, dL_recall_12, rfl⟩, 1, by decide, dL_recall_13, dL_recall_14⟩, by decide +kernel, ⟨by decide, by decide, cl_L_15, ca_411, 3, 1, by decide, Or.inl ⟨3, rfl, dL_recall_15, rfl⟩, 2, by decide, dL_recall_16, dL_recall_17⟩, by decide +kernel, True.intro⟩ ?_ ?_ hR (cC_X10_recall_no l hlt G A h b0 u hR hw x hX) (xRec_in) (fun r h' hp => ⟨hp.1, hp.2.1, by rw [if_pos hp.1]; exact hp.2.2⟩) (fun E h' hx => ⟨hx.1, b0, BE.refl u b0, by rw [if_neg (by rw [hx.1]; exact fun z => by cases z), hx.2]; exact hR, by rw [if_neg (by rw [hx.1]; exact fun z => by cases z)]; exact hw⟩)
  · intro p e R s m args below meth c9 H locs cells slots Q ls hx hb hl k
    refine lv_aload_n hx hb dL_recall_0 rfl (lv_at hl 2 rfl) ?_
    refine lv_iconst (v := 0) hx hb dL_recall_1 (by decide) ?_
    refine lv_aload_n hx hb dL_recall_2 rfl (lv_at hl 0 rfl) ?_
    refine lv_iload_n hx hb dL_recall_3 rfl (lv_at hl 1 rfl) ?_
    exact k
  · intro p e R s m args below meth c9 H locs cells slots Q ls hx hb hl k
    refine lv_i2l hx hb dL_recall_7 rfl ?_
    exact k
theorem cW2_recall (l : Launch) (hlt : l.stackTraces = false) (G : GT) (A : Nat → Prop) (h : AH) (b0 : BA) (u : MM) (hR : RC G.2.2.1 h b0 u) (hw : WFc u) (x : Int32) (cL cD : ClassId) (o : Nat) (v0 : Value) :
    cwM l G A yL_recall cL_recall 4 [(0, 9, 12, 21), (0, 9, 15, 15)] (10 + 1) (8 + (3 + 11) + 376) (4 + (UC (if xRec u x = none then (cTurn u x.toNatClampNeg) else u) - UC u)) (24 + (US (if xRec u x = none then (cTurn u x.toNatClampNeg) else u) - US u)) [.ref (b0 14 0), .int (x), .ref o] h cL cD cL o v0 (WPost G.2.2.1 u b0 (if xRec u x = none then (cTurn u x.toNatClampNeg) else u) [nseC, iseC] (xRec u x) (.long ((cTurn u x.toNatClampNeg 20 x.toNatClampNeg).toInt64))) := by
  by_cases hX : xRec u x = none
  · have h9 := cW_recall l hlt G A h b0 u hR hw x cL cD o v0
    rw [if_pos hX] at h9 ⊢
    exact h9
  · have h9 := cW_recall_no l hlt G A h b0 u hR hw x hX cL cD o v0
    rw [if_neg hX] at h9 ⊢
    rw [Nat.sub_self, Nat.sub_self]
    exact h9
theorem cW_pass_no (l : Launch) (hlt : l.stackTraces = false) (G : GT) (A : Nat → Prop) (h : AH) (b0 : BA) (u : MM) (hR : RC G.2.2.1 h b0 u) (hw : WFc u) (x : Int32) (hX : ¬ xPas x = none) (cL cD : ClassId) (o : Nat) (v0 : Value) :
    cwM l G A yL_pass cL_pass 4 [(0, 9, 12, 13)] (12 + 1) (8 + (4 + 11) + 423) 4 24 [.ref (b0 14 0), .int (x), .ref o] h cL cD cL o v0 (WPost G.2.2.1 u b0 (if xPas x = none then ((cPsL x.toNatClampNeg 0 u).2) else u) [iaeC] (xPas x) (.long (((cPsL x.toNatClampNeg 0 u).1).toInt64))) := by
  refine cW_core (R := (cPsL x.toNatClampNeg 0 u).1) (idx := 42) (pci := 4) (pcs := 8) (pce := 15) (off := 6) (As := [.int (x)]) ms_L_pass mv_X10_pass ml_L_42 rfl (Nat.le_of_ble_eq_true rfl) dL_pass_4 dL_pass_8 dL_pass_9 (by decide) dL_pass_15 dL_pass_16 ⟨⟨by decide, by decide, cl_L_13, ca_321, 3, 1, by decide, Or.inl ⟨3, rfl, dL_pass_12, rfl⟩, 1, by decide, dL_pass_13, dL_pass_14⟩, by decide +kernel, True.intro⟩ ?_ ?_ hR (cC_X10_pass_no l hlt G A h b0 u hR hw x hX) (xPas_in) (fun r h' hp => ⟨hp.1, hp.2.1, by rw [if_pos hp.1]; exact hp.2.2⟩) (fun E h' hx => ⟨hx.1, b0, BE.refl u b0, by rw [if_neg (by rw [hx.1]; exact fun z => by cases z), hx.2]; exact hR, by rw [if_neg (by rw [hx.1]; exact fun z => by cases z)]; exact hw⟩)
  · intro p e R s m args below meth c9 H locs cells slots Q ls hx hb hl k
    refine lv_aload_n hx hb dL_pass_0 rfl (lv_at hl 2 rfl) ?_
    refine lv_iconst (v := 0) hx hb dL_pass_1 (by decide) ?_
    refine lv_aload_n hx hb dL_pass_2 rfl (lv_at hl 0 rfl) ?_
    refine lv_iload_n hx hb dL_pass_3 rfl (lv_at hl 1 rfl) ?_
    exact k
  · intro p e R s m args below meth c9 H locs cells slots Q ls hx hb hl k
    refine lv_i2l hx hb dL_pass_7 rfl ?_
    exact k
theorem cW2_pass (l : Launch) (hlt : l.stackTraces = false) (G : GT) (A : Nat → Prop) (h : AH) (b0 : BA) (u : MM) (hR : RC G.2.2.1 h b0 u) (hw : WFc u) (x : Int32) (cL cD : ClassId) (o : Nat) (v0 : Value) :
    cwM l G A yL_pass cL_pass 4 [(0, 9, 12, 13)] (12 + 1) (8 + (4 + 11) + 423) (4 + (UC (if xPas x = none then ((cPsL x.toNatClampNeg 0 u).2) else u) - UC u)) (24 + (US (if xPas x = none then ((cPsL x.toNatClampNeg 0 u).2) else u) - US u)) [.ref (b0 14 0), .int (x), .ref o] h cL cD cL o v0 (WPost G.2.2.1 u b0 (if xPas x = none then ((cPsL x.toNatClampNeg 0 u).2) else u) [iaeC] (xPas x) (.long (((cPsL x.toNatClampNeg 0 u).1).toInt64))) := by
  by_cases hX : xPas x = none
  · have h9 := cW_pass l hlt G A h b0 u hR hw x cL cD o v0
    rw [if_pos hX] at h9 ⊢
    exact h9
  · have h9 := cW_pass_no l hlt G A h b0 u hR hw x hX cL cD o v0
    rw [if_neg hX] at h9 ⊢
    rw [Nat.sub_self, Nat.sub_self]
    exact h9
theorem cW_openHub_no (l : Launch) (hlt : l.stackTraces = false) (G : GT) (A : Nat → Prop) (h : AH) (b0 : BA) (u : MM) (hR : RC G.2.2.1 h b0 u) (hw : WFc u) (x y : Int32) (hX : ¬ xOpH u x y = none) (cL cD : ClassId) (o : Nat) (v0 : Value) :
    cwM l G A yL_openHub cL_openHub 5 [(0, 10, 13, 13), (0, 10, 17, 15)] (7 + 1) (8 + (4 + 11) + 191) 4 24 [.ref (b0 14 0), .int (x), .int (y), .ref o] h cL cD cL o v0 (WPost G.2.2.1 u b0 (if xOpH u x y = none then (cHb u x y) else u) [iaeC, iseC] (xOpH u x y) (.long ((nI (nhN u)).toInt64))) := by
  refine cW_core (R := nI (nhN u)) (idx := 7) (pci := 5) (pcs := 9) (pce := 21) (off := 11) (As := [.int (x), .int (y)]) ms_L_openHub mv_X10_openHub ml_L_7 rfl (Nat.le_of_ble_eq_true rfl) dL_openHub_5 dL_openHub_9 dL_openHub_10 (by decide) dL_openHub_21 dL_openHub_22 ⟨⟨by decide, by decide, cl_L_13, ca_321, 4, 2, by decide, Or.inr ⟨dL_openHub_13, rfl⟩, 1, by decide, dL_openHub_15, dL_openHub_16⟩, by decide +kernel, ⟨by decide, by decide, cl_L_15, ca_411, 4, 2, by decide, Or.inr ⟨dL_openHub_17, rfl⟩, 2, by decide, dL_openHub_19, dL_openHub_20⟩, by decide +kernel, True.intro⟩ ?_ ?_ hR (cC_X10_openHub_no l hlt G A h b0 u hR hw x y hX) (xOpH_in) (fun r h' hp => ⟨hp.1, hp.2.1, by rw [if_pos hp.1]; exact hp.2.2⟩) (fun E h' hx => ⟨hx.1, b0, BE.refl u b0, by rw [if_neg (by rw [hx.1]; exact fun z => by cases z), hx.2]; exact hR, by rw [if_neg (by rw [hx.1]; exact fun z => by cases z)]; exact hw⟩)
  · intro p e R s m args below meth c9 H locs cells slots Q ls hx hb hl k
    refine lv_aload_n hx hb dL_openHub_0 rfl (lv_at hl 3 rfl) ?_
    refine lv_iconst (v := 0) hx hb dL_openHub_1 (by decide) ?_
    refine lv_aload_n hx hb dL_openHub_2 rfl (lv_at hl 0 rfl) ?_
    refine lv_iload_n hx hb dL_openHub_3 rfl (lv_at hl 1 rfl) ?_
    refine lv_iload_n hx hb dL_openHub_4 rfl (lv_at hl 2 rfl) ?_
    exact k
  · intro p e R s m args below meth c9 H locs cells slots Q ls hx hb hl k
    refine lv_i2l hx hb dL_openHub_8 rfl ?_
    exact k
theorem cW2_openHub (l : Launch) (hlt : l.stackTraces = false) (G : GT) (A : Nat → Prop) (h : AH) (b0 : BA) (u : MM) (hR : RC G.2.2.1 h b0 u) (hw : WFc u) (x y : Int32) (cL cD : ClassId) (o : Nat) (v0 : Value) :
    cwM l G A yL_openHub cL_openHub 5 [(0, 10, 13, 13), (0, 10, 17, 15)] (7 + 1) (8 + (4 + 11) + 191) (4 + (UC (if xOpH u x y = none then (cHb u x y) else u) - UC u)) (24 + (US (if xOpH u x y = none then (cHb u x y) else u) - US u)) [.ref (b0 14 0), .int (x), .int (y), .ref o] h cL cD cL o v0 (WPost G.2.2.1 u b0 (if xOpH u x y = none then (cHb u x y) else u) [iaeC, iseC] (xOpH u x y) (.long ((nI (nhN u)).toInt64))) := by
  by_cases hX : xOpH u x y = none
  · have h9 := cW_openHub l hlt G A h b0 u hR hw x y cL cD o v0
    rw [if_pos hX] at h9 ⊢
    exact h9
  · have h9 := cW_openHub_no l hlt G A h b0 u hR hw x y hX cL cD o v0
    rw [if_neg hX] at h9 ⊢
    rw [Nat.sub_self, Nat.sub_self]
    exact h9
theorem cW_addLine_no (l : Launch) (hlt : l.stackTraces = false) (G : GT) (A : Nat → Prop) (h : AH) (b0 : BA) (u : MM) (hR : RC G.2.2.1 h b0 u) (hw : WFc u) (x y f per tr mb : Int32) (hX : ¬ xAdd u x y f per tr mb = none) (cL cD : ClassId) (o : Nat) (v0 : Value) :
    cwM l G A yL_addLine cL_addLine 9 [(0, 18, 21, 21), (0, 18, 25, 13), (0, 18, 29, 15)] (7 + 1) (8 + (10 + 11) + 191) 4 24 [.ref (b0 14 0), .int (x), .int (y), .int (f), .int (per), .int (tr), .int (mb), .ref o] h cL cD cL o v0 (WPost G.2.2.1 u b0 (if xAdd u x y f per tr mb = none then (cAddM u x y f per tr mb) else u) [nseC, iaeC, iseC] (xAdd u x y f per tr mb) (.long ((nI (nlN u)).toInt64))) := by
  refine cW_core (R := nI (nlN u)) (idx := 17) (pci := 13) (pcs := 17) (pce := 33) (off := 15) (As := [.int (x), .int (y), .int (f), .int (per), .int (tr), .int (mb)]) ms_L_addLine mv_X10_addLine ml_L_17 rfl (Nat.le_of_ble_eq_true rfl) dL_addLine_13 dL_addLine_17 dL_addLine_18 (by decide) dL_addLine_33 dL_addLine_34 ⟨⟨by decide, by decide, cl_L_21, ca_463, 8, 2, by decide, Or.inr ⟨dL_addLine_21, rfl⟩, 1, by decide, dL_addLine_23, dL_addLine_24⟩, by decide +kernel, ⟨by decide, by decide, cl_L_13, ca_321, 8, 2, by decide, Or.inr ⟨dL_addLine_25, rfl⟩, 2, by decide, dL_addLine_27, dL_addLine_28⟩, by decide +kernel, ⟨by decide, by decide, cl_L_15, ca_411, 8, 2, by decide, Or.inr ⟨dL_addLine_29, rfl⟩, 3, by decide, dL_addLine_31, dL_addLine_32⟩, by decide +kernel, True.intro⟩ ?_ ?_ hR (cC_X10_addLine_no l hlt G A h b0 u hR hw x y f per tr mb hX) (xAdd_in) (fun r h' hp => ⟨hp.1, hp.2.1, by rw [if_pos hp.1]; exact hp.2.2⟩) (fun E h' hx => ⟨hx.1, b0, BE.refl u b0, by rw [if_neg (by rw [hx.1]; exact fun z => by cases z), hx.2]; exact hR, by rw [if_neg (by rw [hx.1]; exact fun z => by cases z)]; exact hw⟩)
  · intro p e R s m args below meth c9 H locs cells slots Q ls hx hb hl k
    refine lv_aload hx hb dL_addLine_0 (lv_at hl 7 rfl) ?_
    refine lv_iconst (v := 0) hx hb dL_addLine_2 (by decide) ?_
    refine lv_aload_n hx hb dL_addLine_3 rfl (lv_at hl 0 rfl) ?_
    refine lv_iload_n hx hb dL_addLine_4 rfl (lv_at hl 1 rfl) ?_
    refine lv_iload_n hx hb dL_addLine_5 rfl (lv_at hl 2 rfl) ?_
    refine lv_iload_n hx hb dL_addLine_6 rfl (lv_at hl 3 rfl) ?_
    refine lv_iload hx hb dL_addLine_7 (lv_at hl 4 rfl) ?_
    refine lv_iload hx hb dL_addLine_9 (lv_at hl 5 rfl) ?_
    refine lv_iload hx hb dL_addLine_11 (lv_at hl 6 rfl) ?_
    exact k
  · intro p e R s m args below meth c9 H locs cells slots Q ls hx hb hl k
    refine lv_i2l hx hb dL_addLine_16 rfl ?_
    exact k
theorem cW2_addLine (l : Launch) (hlt : l.stackTraces = false) (G : GT) (A : Nat → Prop) (h : AH) (b0 : BA) (u : MM) (hR : RC G.2.2.1 h b0 u) (hw : WFc u) (x y f per tr mb : Int32) (cL cD : ClassId) (o : Nat) (v0 : Value) :
    cwM l G A yL_addLine cL_addLine 9 [(0, 18, 21, 21), (0, 18, 25, 13), (0, 18, 29, 15)] (7 + 1) (8 + (10 + 11) + 191) (4 + (UC (if xAdd u x y f per tr mb = none then (cAddM u x y f per tr mb) else u) - UC u)) (24 + (US (if xAdd u x y f per tr mb = none then (cAddM u x y f per tr mb) else u) - US u)) [.ref (b0 14 0), .int (x), .int (y), .int (f), .int (per), .int (tr), .int (mb), .ref o] h cL cD cL o v0 (WPost G.2.2.1 u b0 (if xAdd u x y f per tr mb = none then (cAddM u x y f per tr mb) else u) [nseC, iaeC, iseC] (xAdd u x y f per tr mb) (.long ((nI (nlN u)).toInt64))) := by
  by_cases hX : xAdd u x y f per tr mb = none
  · have h9 := cW_addLine l hlt G A h b0 u hR hw x y f per tr mb cL cD o v0
    rw [if_pos hX] at h9 ⊢
    exact h9
  · have h9 := cW_addLine_no l hlt G A h b0 u hR hw x y f per tr mb hX cL cD o v0
    rw [if_neg hX] at h9 ⊢
    rw [Nat.sub_self, Nat.sub_self]
    exact h9
theorem cW_accept_no (l : Launch) (hlt : l.stackTraces = false) (G : GT) (A : Nat → Prop) (h : AH) (b0 : BA) (u : MM) (hR : RC G.2.2.1 h b0 u) (hw : WFc u) (x ad vol ser : Int32) (hX : ¬ xAcc u x ad vol ser = none) (cL cD : ClassId) (o : Nat) (v0 : Value) :
    cwM l G A yL_accept cL_accept 7 [(0, 14, 17, 21), (0, 14, 21, 13), (0, 14, 25, 15)] (9 + 1) (8 + (8 + 11) + 355) 4 24 [.ref (b0 14 0), .int (x), .int (ad), .int (vol), .int (ser), .ref o] h cL cD cL o v0 (WPost G.2.2.1 u b0 (if xAcc u x ad vol ser = none then (cAcc u x ad vol ser) else u) [nseC, iaeC, iseC] (xAcc u x ad vol ser) (.long ((nI (npN u)).toInt64))) := by
  refine cW_core (R := nI (npN u)) (idx := 27) (pci := 9) (pcs := 13) (pce := 29) (off := 15) (As := [.int (x), .int (ad), .int (vol), .int (ser)]) ms_L_accept mv_X10_accept ml_L_27 rfl (Nat.le_of_ble_eq_true rfl) dL_accept_9 dL_accept_13 dL_accept_14 (by decide) dL_accept_29 dL_accept_30 ⟨⟨by decide, by decide, cl_L_21, ca_463, 6, 2, by decide, Or.inr ⟨dL_accept_17, rfl⟩, 1, by decide, dL_accept_19, dL_accept_20⟩, by decide +kernel, ⟨by decide, by decide, cl_L_13, ca_321, 6, 2, by decide, Or.inr ⟨dL_accept_21, rfl⟩, 2, by decide, dL_accept_23, dL_accept_24⟩, by decide +kernel, ⟨by decide, by decide, cl_L_15, ca_411, 6, 2, by decide, Or.inr ⟨dL_accept_25, rfl⟩, 3, by decide, dL_accept_27, dL_accept_28⟩, by decide +kernel, True.intro⟩ ?_ ?_ hR (cC_X10_accept_no l hlt G A h b0 u hR hw x ad vol ser hX) (xAcc_in) (fun r h' hp => ⟨hp.1, hp.2.1, by rw [if_pos hp.1]; exact hp.2.2⟩) (fun E h' hx => ⟨hx.1, b0, BE.refl u b0, by rw [if_neg (by rw [hx.1]; exact fun z => by cases z), hx.2]; exact hR, by rw [if_neg (by rw [hx.1]; exact fun z => by cases z)]; exact hw⟩)
  · intro p e R s m args below meth c9 H locs cells slots Q ls hx hb hl k
    refine lv_aload hx hb dL_accept_0 (lv_at hl 5 rfl) ?_
    refine lv_iconst (v := 0) hx hb dL_accept_2 (by decide) ?_
    refine lv_aload_n hx hb dL_accept_3 rfl (lv_at hl 0 rfl) ?_
    refine lv_iload_n hx hb dL_accept_4 rfl (lv_at hl 1 rfl) ?_
    refine lv_iload_n hx hb dL_accept_5 rfl (lv_at hl 2 rfl) ?_
    refine lv_iload_n hx hb dL_accept_6 rfl (lv_at hl 3 rfl) ?_
    refine lv_iload hx hb dL_accept_7 (lv_at hl 4 rfl) ?_
    exact k
  · intro p e R s m args below meth c9 H locs cells slots Q ls hx hb hl k
    refine lv_i2l hx hb dL_accept_12 rfl ?_
    exact k
theorem cW2_accept (l : Launch) (hlt : l.stackTraces = false) (G : GT) (A : Nat → Prop) (h : AH) (b0 : BA) (u : MM) (hR : RC G.2.2.1 h b0 u) (hw : WFc u) (x ad vol ser : Int32) (cL cD : ClassId) (o : Nat) (v0 : Value) :
    cwM l G A yL_accept cL_accept 7 [(0, 14, 17, 21), (0, 14, 21, 13), (0, 14, 25, 15)] (9 + 1) (8 + (8 + 11) + 355) (4 + (UC (if xAcc u x ad vol ser = none then (cAcc u x ad vol ser) else u) - UC u)) (24 + (US (if xAcc u x ad vol ser = none then (cAcc u x ad vol ser) else u) - US u)) [.ref (b0 14 0), .int (x), .int (ad), .int (vol), .int (ser), .ref o] h cL cD cL o v0 (WPost G.2.2.1 u b0 (if xAcc u x ad vol ser = none then (cAcc u x ad vol ser) else u) [nseC, iaeC, iseC] (xAcc u x ad vol ser) (.long ((nI (npN u)).toInt64))) := by
  by_cases hX : xAcc u x ad vol ser = none
  · have h9 := cW_accept l hlt G A h b0 u hR hw x ad vol ser cL cD o v0
    rw [if_pos hX] at h9 ⊢
    exact h9
  · have h9 := cW_accept_no l hlt G A h b0 u hR hw x ad vol ser hX cL cD o v0
    rw [if_neg hX] at h9 ⊢
    rw [Nat.sub_self, Nat.sub_self]
    exact h9
