set_option maxHeartbeats 4000000 in
set_option maxRecDepth 100000 in
theorem cM_isLate (l : Launch) (G : GT) (A : Nat → Prop) (h : AH) (o : Nat) (ad : Nat → Nat) (m : MM) (hM : RM h o ad m) (x : Int32) (hw : WFa m) : cmI l G A yX11_isLate cX11_isLate 2 (Option.some FieldType.boolean) 2 43 0 0 [.ref (o), .int (x)] h (fun r h' => r = (fLate m x).1 ∧ RM h' o ad ((fLate m x).2)) := by
  refine cm_of "RoutepostModel" rfl (by decide) (Nat.le_of_ble_eq_true rfl) ?_
  intro pr e s m9 below meth c C0 hr hname hH ls hl
  obtain ⟨hx, hb, hml, hown, hts, hK, hA, -⟩ := id C0
  have hl : lv_has ls 2 [(0, .ref (o)), (1, .int (x))] := hl
  have hnp := hw.np
  have hnl := hw.nl
  have hnh := hw.nh
  refine lv_aload_n hx hb dX11_isLate_0 rfl (lv_at hl 0 rfl) ?_
  refine lv_iload_n hx hb dX11_isLate_1 rfl (lv_at hl 1 rfl) ?_
  refine k_i hH (k_runV (rest := []) C0 hH (cM_isNone l G A _ o ad m hM x) mv_X11_isNone ml_X11_216 ci_15 hM.1 rfl ⟨by decide, by decide⟩ hl.1 rfl (Nat.le_of_ble_eq_true rfl) dX11_isLate_2 (by simp)) (fun r_1 h H locs hp hH => ?_)
  obtain ⟨er_1, hM⟩ := hp
  subst er_1
  refine lv_if_ne (tgt := 20) hx hb dX11_isLate_5 (by decide) (fun c5_2 => ?_) (fun c5_2 => ?_)
  · replace c5_2 := bi_n0.mp c5_2
    refine lv_iconst (v := 0) hx hb dX11_isLate_20 (by decide) ?_
    have eR : 0 = (fLate m x).1 := by simp [fLate, bi, thr, fNone, fNoLine, c5_2]
    have eM : (fLate m x).2 = (up m 45 0 (if (bi (¬ isPa m x)) = 0 then 0 else 1)) := by simp [fLate, bi, thr, fNone, fNoLine, c5_2]
    exact e_Z C0 hr (by decide) hH ⟨eR, by rw [eM]; exact hM⟩ (Nat.le_refl _) (Nat.le_refl _) dX11_isLate_21
  · replace c5_2 := bi_0.mp c5_2
    replace c5_2 := Classical.not_not.mp c5_2
    obtain ⟨p, hp, rfl⟩ := vp_in_of (hw.isPa.mp c5_2) (by omega)
    have hcl : (nI p).toNatClampNeg = p := nI_clamp (by omega)
    refine lv_aload_n hx hb dX11_isLate_8 rfl (lv_at hl 0 rfl) ?_
    refine lv_iload_n hx hb dX11_isLate_9 rfl (lv_at hl 1 rfl) ?_
    refine k_i hH (k_runV (rest := []) C0 hH (cM_wasLate l G A _ o ad (up m 45 0 (if (bi (¬ isPa m (nI p))) = 0 then 0 else 1)) hM p (WFa.upx hw (by unfold kWF; omega)) hp) mv_X11_wasLate ml_X11_247 ci_15 hM.1 rfl ⟨by decide, by decide⟩ hl.1 rfl (Nat.le_of_ble_eq_true rfl) dX11_isLate_10 (by simp)) (fun r_3 h1 H locs hp hH => ?_)
    obtain ⟨er_3, eh⟩ := hp
    rw [eh] at hH
    clear eh
    replace er_3 : r_3 = bi (late m p) := er_3
    subst er_3
    refine lv_if_eq (tgt := 20) hx hb dX11_isLate_13 (by decide) (fun c13_4 => ?_) (fun c13_4 => ?_)
    · replace c13_4 := bi_0.mp c13_4
      refine lv_iconst (v := 0) hx hb dX11_isLate_20 (by decide) ?_
      have eR : 0 = (fLate m (nI p)).1 := by simp [fLate, bi, thr, fNone, fNoLine, hcl, c5_2, c13_4]
      have eM : (fLate m (nI p)).2 = (up m 45 0 (if (bi (¬ isPa m (nI p))) = 0 then 0 else 1)) := by simp [fLate, bi, thr, fNone, fNoLine, hcl, c5_2, c13_4]
      exact e_Z C0 hr (by decide) hH ⟨eR, by rw [eM]; exact hM⟩ (Nat.le_refl _) (Nat.le_refl _) dX11_isLate_21
    · replace c13_4 := bi_n0.mp c13_4
      refine lv_iconst (v := 1) hx hb dX11_isLate_16 (by decide) ?_
      refine lv_goto (tgt := 21) hx hb dX11_isLate_17 (by decide) ?_
      have eR : 1 = (fLate m (nI p)).1 := by simp [fLate, bi, thr, fNone, fNoLine, hcl, c5_2, c13_4]
      have eM : (fLate m (nI p)).2 = (up m 45 0 (if (bi (¬ isPa m (nI p))) = 0 then 0 else 1)) := by simp [fLate, bi, thr, fNone, fNoLine, hcl, c5_2, c13_4]
      exact e_Z C0 hr (by decide) hH ⟨eR, by rw [eM]; exact hM⟩ (Nat.le_refl _) (Nat.le_refl _) dX11_isLate_21
set_option maxHeartbeats 4000000 in
set_option maxRecDepth 100000 in
theorem cM_isNotScanned (l : Launch) (G : GT) (A : Nat → Prop) (h : AH) (o : Nat) (ad : Nat → Nat) (m : MM) (hM : RM h o ad m) (x : Int32) (hw : WFa m) : cmI l G A yX11_isNotScanned cX11_isNotScanned 2 (Option.some FieldType.boolean) 2 43 0 0 [.ref (o), .int (x)] h (fun r h' => r = (fNotSc m x).1 ∧ RM h' o ad ((fNotSc m x).2)) := by
  refine cm_of "RoutepostModel" rfl (by decide) (Nat.le_of_ble_eq_true rfl) ?_
  intro pr e s m9 below meth c C0 hr hname hH ls hl
  obtain ⟨hx, hb, hml, hown, hts, hK, hA, -⟩ := id C0
  have hl : lv_has ls 2 [(0, .ref (o)), (1, .int (x))] := hl
  have hnp := hw.np
  have hnl := hw.nl
  have hnh := hw.nh
  refine lv_aload_n hx hb dX11_isNotScanned_0 rfl (lv_at hl 0 rfl) ?_
  refine lv_iload_n hx hb dX11_isNotScanned_1 rfl (lv_at hl 1 rfl) ?_
  refine k_i hH (k_runV (rest := []) C0 hH (cM_isNone l G A _ o ad m hM x) mv_X11_isNone ml_X11_216 ci_15 hM.1 rfl ⟨by decide, by decide⟩ hl.1 rfl (Nat.le_of_ble_eq_true rfl) dX11_isNotScanned_2 (by simp)) (fun r_1 h H locs hp hH => ?_)
  obtain ⟨er_1, hM⟩ := hp
  subst er_1
  refine lv_if_ne (tgt := 32) hx hb dX11_isNotScanned_5 (by decide) (fun c5_2 => ?_) (fun c5_2 => ?_)
  · replace c5_2 := bi_n0.mp c5_2
    refine lv_iconst (v := 1) hx hb dX11_isNotScanned_32 (by decide) ?_
    refine lv_goto (tgt := 37) hx hb dX11_isNotScanned_33 (by decide) ?_
    have eR : 1 = (fNotSc m x).1 := by simp [fNotSc, bi, thr, fNone, fNoLine, c5_2]
    have eM : (fNotSc m x).2 = (up m 45 0 (if (bi (¬ isPa m x)) = 0 then 0 else 1)) := by simp [fNotSc, bi, thr, fNone, fNoLine, c5_2]
    exact e_Z C0 hr (by decide) hH ⟨eR, by rw [eM]; exact hM⟩ (Nat.le_refl _) (Nat.le_refl _) dX11_isNotScanned_37
  · replace c5_2 := bi_0.mp c5_2
    replace c5_2 := Classical.not_not.mp c5_2
    have hx9 := hw.isPa.mp c5_2
    refine lv_aload_n hx hb dX11_isNotScanned_8 rfl (lv_at hl 0 rfl) ?_
    refine lv_aload_n hx hb dX11_isNotScanned_9 rfl (lv_at hl 0 rfl) ?_
    refine m_arr C0 hH hM 28 (by decide) fl_X11_95 dX11_isNotScanned_10 ?_
    refine lv_iload_n hx hb dX11_isNotScanned_13 rfl (lv_at hl 1 rfl) ?_
    refine m_ldC C0 hH hM 28 (by decide) rfl (n := 40) rfl (ix := x.toNatClampNeg) rfl (vp_mono hx9 (by omega)) (v := m 28 x.toNatClampNeg) rfl dX11_isNotScanned_14 ?_
    refine lv_bipush (v := 115) hx hb dX11_isNotScanned_15 (by decide) ?_
    refine lv_icmp_eq (tgt := 24) hx hb dX11_isNotScanned_17 (by decide) (fun c17_3 => ?_) (fun c17_3 => ?_)
    · refine lv_iconst (v := 0) hx hb dX11_isNotScanned_24 (by decide) ?_
      refine lv_iconst (v := 2) hx hb dX11_isNotScanned_25 (by decide) ?_
      refine k_i hH (k_runV (rest := []) C0 hH (cM_isThrown l G A _ o ad (up m 45 0 (if (bi (¬ isPa m x)) = 0 then 0 else 1)) hM 0 2 rfl) mv_X11_isThrown ml_X11_140 ci_15 hM.1 rfl ⟨by decide, by decide⟩ hl.1 rfl (Nat.le_of_ble_eq_true rfl) dX11_isNotScanned_26 (by simp)) (fun r_4 h H locs hp hH => ?_)
      obtain ⟨er_4, hM⟩ := hp
      subst er_4
      refine lv_if_eq (tgt := 36) hx hb dX11_isNotScanned_29 (by decide) (fun c29_5 => ?_) (fun c29_5 => ?_)
      · refine lv_iconst (v := 0) hx hb dX11_isNotScanned_36 (by decide) ?_
        have eR : 0 = (fNotSc m x).1 := by simp [fNotSc, bi, thr, fNone, fNoLine, c5_2, eq_true c17_3]
        have eM : (fNotSc m x).2 = (up (up m 45 0 (if (bi (¬ isPa m x)) = 0 then 0 else 1)) 45 0 (if 0 = 0 then 0 else 2)) := by simp [fNotSc, bi, thr, fNone, fNoLine, c5_2, eq_true c17_3]
        exact e_Z C0 hr (by decide) hH ⟨eR, by rw [eM]; exact hM⟩ (Nat.le_refl _) (Nat.le_refl _) dX11_isNotScanned_37
      · exact absurd (by decide) c29_5
    · refine lv_iconst (v := 1) hx hb dX11_isNotScanned_20 (by decide) ?_
      refine lv_goto (tgt := 25) hx hb dX11_isNotScanned_21 (by decide) ?_
      refine lv_iconst (v := 2) hx hb dX11_isNotScanned_25 (by decide) ?_
      refine k_i hH (k_runV (rest := []) C0 hH (cM_isThrown l G A _ o ad (up m 45 0 (if (bi (¬ isPa m x)) = 0 then 0 else 1)) hM 1 2 rfl) mv_X11_isThrown ml_X11_140 ci_15 hM.1 rfl ⟨by decide, by decide⟩ hl.1 rfl (Nat.le_of_ble_eq_true rfl) dX11_isNotScanned_26 (by simp)) (fun r_6 h H locs hp hH => ?_)
      obtain ⟨er_6, hM⟩ := hp
      subst er_6
      refine lv_if_eq (tgt := 36) hx hb dX11_isNotScanned_29 (by decide) (fun c29_7 => ?_) (fun c29_7 => ?_)
      · exact absurd c29_7 (by decide)
      · refine lv_iconst (v := 1) hx hb dX11_isNotScanned_32 (by decide) ?_
        refine lv_goto (tgt := 37) hx hb dX11_isNotScanned_33 (by decide) ?_
        have eR : 1 = (fNotSc m x).1 := by simp [fNotSc, bi, thr, fNone, fNoLine, c5_2, eq_false c17_3]
        have eM : (fNotSc m x).2 = (up (up m 45 0 (if (bi (¬ isPa m x)) = 0 then 0 else 1)) 45 0 (if 1 = 0 then 0 else 2)) := by simp [fNotSc, bi, thr, fNone, fNoLine, c5_2, eq_false c17_3]
        exact e_Z C0 hr (by decide) hH ⟨eR, by rw [eM]; exact hM⟩ (Nat.le_refl _) (Nat.le_refl _) dX11_isNotScanned_37
set_option maxHeartbeats 4000000 in
set_option maxRecDepth 100000 in
theorem cM_nextLine (l : Launch) (G : GT) (A : Nat → Prop) (h : AH) (o : Nat) (ad : Nat → Nat) (m : MM) (hM : RM h o ad m) (x : Int32) (hw : WFa m) : cmI l G A yX11_nextLine cX11_nextLine 2 (Option.some FieldType.int) 3 64 0 0 [.ref (o), .int (x)] h (fun r h' => r = (fNxL m x).1 ∧ RM h' o ad ((fNxL m x).2)) := by
  refine cm_of "RoutepostModel" rfl (by decide) (Nat.le_of_ble_eq_true rfl) ?_
  intro pr e s m9 below meth c C0 hr hname hH ls hl
  obtain ⟨hx, hb, hml, hown, hts, hK, hA, -⟩ := id C0
  have hl : lv_has ls 2 [(0, .ref (o)), (1, .int (x))] := hl
  have hnp := hw.np
  have hnl := hw.nl
  have hnh := hw.nh
  refine lv_aload_n hx hb dX11_nextLine_0 rfl (lv_at hl 0 rfl) ?_
  refine lv_iload_n hx hb dX11_nextLine_1 rfl (lv_at hl 1 rfl) ?_
  refine k_i hH (k_runV (rest := []) C0 hH (cM_isNotScanned l G A _ o ad m hM x hw) mv_X11_isNotScanned ml_X11_250 ci_15 hM.1 rfl ⟨by decide, by decide⟩ hl.1 rfl (Nat.le_of_ble_eq_true rfl) dX11_nextLine_2 (by simp)) (fun r_1 h H locs hp hH => ?_)
  obtain ⟨er_1, hM⟩ := hp
  subst er_1
  refine lv_if_eq (tgt := 12) hx hb dX11_nextLine_5 (by decide) (fun c5_2 => ?_) (fun c5_2 => ?_)
  · obtain ⟨p, hp, rfl⟩ := vp_in_of (notSc_ok hw c5_2) (by omega)
    have hcl : (nI p).toNatClampNeg = p := nI_clamp (by omega)
    refine lv_aload_n hx hb dX11_nextLine_12 rfl (lv_at hl 0 rfl) ?_
    refine m_arr C0 hH hM 19 (by decide) fl_X11_68 dX11_nextLine_13 ?_
    refine lv_iload_n hx hb dX11_nextLine_16 rfl (lv_at hl 1 rfl) ?_
    refine m_ldI C0 hH hM 19 (by decide) rfl (n := 40) rfl (ix := p) (nI_clamp (by omega)) (by first | assumption | exact vp_in_nI (by omega) (by omega)) (v := ((fNotSc m (nI p)).2) 19 p) rfl dX11_nextLine_17 ?_
    have eR : ((fNotSc m (nI p)).2) 19 p = (fNxL m (nI p)).1 := by simp [fNxL, fNotSc_key, hcl, eq_true c5_2]
    have eM : (fNxL m (nI p)).2 = ((fNotSc m (nI p)).2) := by simp [fNxL, fNotSc_key, hcl, eq_true c5_2]
    exact e_I C0 hr hH ⟨eR, by rw [eM]; exact hM⟩ (Nat.le_refl _) (Nat.le_refl _) dX11_nextLine_18
  · refine lv_iconst (v := 0) hx hb dX11_nextLine_8 (by decide) ?_
    refine lv_goto (tgt := 18) hx hb dX11_nextLine_9 (by decide) ?_
    have eR : 0 = (fNxL m x).1 := by simp [fNxL, fNotSc_key, eq_false c5_2]
    have eM : (fNxL m x).2 = ((fNotSc m x).2) := by simp [fNxL, fNotSc_key, eq_false c5_2]
    exact e_I C0 hr hH ⟨eR, by rw [eM]; exact hM⟩ (Nat.le_refl _) (Nat.le_refl _) dX11_nextLine_18
set_option maxHeartbeats 4000000 in
set_option maxRecDepth 100000 in
theorem cM_waiting (l : Launch) (G : GT) (A : Nat → Prop) (h : AH) (o : Nat) (ad : Nat → Nat) (m : MM) (hM : RM h o ad m) (x : Int32) (hw : WFa m) : cmI l G A yX11_waiting cX11_waiting 2 (Option.some FieldType.int) 2 43 0 0 [.ref (o), .int (x)] h (fun r h' => r = (fWai m x).1 ∧ RM h' o ad ((fWai m x).2)) := by
  refine cm_of "RoutepostModel" rfl (by decide) (Nat.le_of_ble_eq_true rfl) ?_
  intro pr e s m9 below meth c C0 hr hname hH ls hl
  obtain ⟨hx, hb, hml, hown, hts, hK, hA, -⟩ := id C0
  have hl : lv_has ls 2 [(0, .ref (o)), (1, .int (x))] := hl
  have hnp := hw.np
  have hnl := hw.nl
  have hnh := hw.nh
  refine lv_aload_n hx hb dX11_waiting_0 rfl (lv_at hl 0 rfl) ?_
  refine lv_iload_n hx hb dX11_waiting_1 rfl (lv_at hl 1 rfl) ?_
  refine k_i hH (k_runV (rest := []) C0 hH (cM_isNoLine l G A _ o ad m hM x) mv_X11_isNoLine ml_X11_198 ci_15 hM.1 rfl ⟨by decide, by decide⟩ hl.1 rfl (Nat.le_of_ble_eq_true rfl) dX11_waiting_2 (by simp)) (fun r_1 h H locs hp hH => ?_)
  obtain ⟨er_1, hM⟩ := hp
  subst er_1
  refine lv_if_eq (tgt := 12) hx hb dX11_waiting_5 (by decide) (fun c5_2 => ?_) (fun c5_2 => ?_)
  · replace c5_2 := bi_0.mp c5_2
    replace c5_2 := Classical.not_not.mp c5_2
    refine lv_aload_n hx hb dX11_waiting_12 rfl (lv_at hl 0 rfl) ?_
    refine lv_iload_n hx hb dX11_waiting_13 rfl (lv_at hl 1 rfl) ?_
    refine k_i hH (k_runV (rest := []) C0 hH (cM_waits l G A _ o ad (up m 45 0 (if (bi (¬ isLn m x)) = 0 then 0 else 1)) hM x (hw.thr _ _)) mv_X11_waits ml_X11_201 ci_15 hM.1 rfl ⟨by decide, by decide⟩ hl.1 rfl (Nat.le_of_ble_eq_true rfl) dX11_waiting_14 (by simp)) (fun r_3 h1 H locs hp hH => ?_)
    obtain ⟨er_3, eh⟩ := hp
    rw [eh] at hH
    clear eh
    subst er_3
    have eR : waits (up m 45 0 (if (bi (¬ isLn m x)) = 0 then 0 else 1)) x = (fWai m x).1 := by simp [fWai, bi, thr, fNone, fNoLine, c5_2]
    have eM : (fWai m x).2 = (up m 45 0 (if (bi (¬ isLn m x)) = 0 then 0 else 1)) := by simp [fWai, bi, thr, fNone, fNoLine, c5_2]
    exact e_I C0 hr hH ⟨eR, by rw [eM]; exact hM⟩ (Nat.le_refl _) (Nat.le_refl _) dX11_waiting_17
  · replace c5_2 := bi_n0.mp c5_2
    refine lv_iconst (v := 0) hx hb dX11_waiting_8 (by decide) ?_
    refine lv_goto (tgt := 17) hx hb dX11_waiting_9 (by decide) ?_
    have eR : 0 = (fWai m x).1 := by simp [fWai, bi, thr, fNone, fNoLine, c5_2]
    have eM : (fWai m x).2 = (up m 45 0 (if (bi (¬ isLn m x)) = 0 then 0 else 1)) := by simp [fWai, bi, thr, fNone, fNoLine, c5_2]
    exact e_I C0 hr hH ⟨eR, by rw [eM]; exact hM⟩ (Nat.le_refl _) (Nat.le_refl _) dX11_waiting_17
set_option maxHeartbeats 4000000 in
set_option maxRecDepth 100000 in
theorem cM_bags (l : Launch) (G : GT) (A : Nat → Prop) (h : AH) (o : Nat) (ad : Nat → Nat) (m : MM) (hM : RM h o ad m) (x : Int32) (hw : WFa m) : cmI l G A yX11_bags cX11_bags 2 (Option.some FieldType.int) 2 43 0 0 [.ref (o), .int (x)] h (fun r h' => r = (fBgs m x).1 ∧ RM h' o ad ((fBgs m x).2)) := by
  refine cm_of "RoutepostModel" rfl (by decide) (Nat.le_of_ble_eq_true rfl) ?_
  intro pr e s m9 below meth c C0 hr hname hH ls hl
  obtain ⟨hx, hb, hml, hown, hts, hK, hA, -⟩ := id C0
  have hl : lv_has ls 2 [(0, .ref (o)), (1, .int (x))] := hl
  have hnp := hw.np
  have hnl := hw.nl
  have hnh := hw.nh
  refine lv_aload_n hx hb dX11_bags_0 rfl (lv_at hl 0 rfl) ?_
  refine lv_iload_n hx hb dX11_bags_1 rfl (lv_at hl 1 rfl) ?_
  refine k_i hH (k_runV (rest := []) C0 hH (cM_isNoLine l G A _ o ad m hM x) mv_X11_isNoLine ml_X11_198 ci_15 hM.1 rfl ⟨by decide, by decide⟩ hl.1 rfl (Nat.le_of_ble_eq_true rfl) dX11_bags_2 (by simp)) (fun r_1 h H locs hp hH => ?_)
  obtain ⟨er_1, hM⟩ := hp
  subst er_1
  refine lv_if_eq (tgt := 12) hx hb dX11_bags_5 (by decide) (fun c5_2 => ?_) (fun c5_2 => ?_)
  · replace c5_2 := bi_0.mp c5_2
    replace c5_2 := Classical.not_not.mp c5_2
    have hx9 := hw.isLn.mp c5_2
    refine lv_aload_n hx hb dX11_bags_12 rfl (lv_at hl 0 rfl) ?_
    refine m_arr C0 hH hM 8 (by decide) fl_X11_34 dX11_bags_13 ?_
    refine lv_iload_n hx hb dX11_bags_16 rfl (lv_at hl 1 rfl) ?_
    refine m_ldI C0 hH hM 8 (by decide) rfl (n := 12) rfl (ix := x.toNatClampNeg) rfl (vp_mono hx9 (by omega)) (v := m 8 x.toNatClampNeg) rfl dX11_bags_17 ?_
    have eR : m 8 x.toNatClampNeg = (fBgs m x).1 := by simp [fBgs, bi, thr, fNone, fNoLine, c5_2]
    have eM : (fBgs m x).2 = (up m 45 0 (if (bi (¬ isLn m x)) = 0 then 0 else 1)) := by simp [fBgs, bi, thr, fNone, fNoLine, c5_2]
    exact e_I C0 hr hH ⟨eR, by rw [eM]; exact hM⟩ (Nat.le_refl _) (Nat.le_refl _) dX11_bags_18
  · replace c5_2 := bi_n0.mp c5_2
    refine lv_iconst (v := 0) hx hb dX11_bags_8 (by decide) ?_
    refine lv_goto (tgt := 18) hx hb dX11_bags_9 (by decide) ?_
    have eR : 0 = (fBgs m x).1 := by simp [fBgs, bi, thr, fNone, fNoLine, c5_2]
    have eM : (fBgs m x).2 = (up m 45 0 (if (bi (¬ isLn m x)) = 0 then 0 else 1)) := by simp [fBgs, bi, thr, fNone, fNoLine, c5_2]
    exact e_I C0 hr hH ⟨eR, by rw [eM]; exact hM⟩ (Nat.le_refl _) (Nat.le_refl _) dX11_bags_18
set_option maxHeartbeats 4000000 in
set_option maxRecDepth 100000 in
theorem cM_bagVolume (l : Launch) (G : GT) (A : Nat → Prop) (h : AH) (o : Nat) (ad : Nat → Nat) (m : MM) (hM : RM h o ad m) (x b : Int32) (hw : WFa m) : cmI l G A yX11_bagVolume cX11_bagVolume 3 (Option.some FieldType.int) 2 43 0 0 [.ref (o), .int (x), .int (b)] h (fun r h' => r = (fBgV m x b).1 ∧ RM h' o ad ((fBgV m x b).2)) := by
  refine cm_of "RoutepostModel" rfl (by decide) (Nat.le_of_ble_eq_true rfl) ?_
  intro pr e s m9 below meth c C0 hr hname hH ls hl
  obtain ⟨hx, hb, hml, hown, hts, hK, hA, -⟩ := id C0
  have hl : lv_has ls 3 [(0, .ref (o)), (1, .int (x)), (2, .int (b))] := hl
  have hnp := hw.np
  have hnl := hw.nl
  have hnh := hw.nh
  refine lv_aload_n hx hb dX11_bagVolume_0 rfl (lv_at hl 0 rfl) ?_
  refine lv_iload_n hx hb dX11_bagVolume_1 rfl (lv_at hl 1 rfl) ?_
  refine k_i hH (k_runV (rest := []) C0 hH (cM_isNoLine l G A _ o ad m hM x) mv_X11_isNoLine ml_X11_198 ci_15 hM.1 rfl ⟨by decide, by decide⟩ hl.1 rfl (Nat.le_of_ble_eq_true rfl) dX11_bagVolume_2 (by simp)) (fun r_1 h H locs hp hH => ?_)
  obtain ⟨er_1, hM⟩ := hp
  subst er_1
  refine lv_if_ne (tgt := 37) hx hb dX11_bagVolume_5 (by decide) (fun c5_2 => ?_) (fun c5_2 => ?_)
  · replace c5_2 := bi_n0.mp c5_2
    refine lv_iconst (v := 0) hx hb dX11_bagVolume_37 (by decide) ?_
    refine lv_goto (tgt := 51) hx hb dX11_bagVolume_38 (by decide) ?_
    have eR : 0 = (fBgV m x b).1 := by simp [fBgV, bi, thr, fNone, fNoLine, c5_2]
    have eM : (fBgV m x b).2 = (up m 45 0 (if (bi (¬ isLn m x)) = 0 then 0 else 1)) := by simp [fBgV, bi, thr, fNone, fNoLine, c5_2]
    exact e_I C0 hr hH ⟨eR, by rw [eM]; exact hM⟩ (Nat.le_refl _) (Nat.le_refl _) dX11_bagVolume_51
  · replace c5_2 := bi_0.mp c5_2
    replace c5_2 := Classical.not_not.mp c5_2
    have hx9 := hw.isLn.mp c5_2
    refine lv_aload_n hx hb dX11_bagVolume_8 rfl (lv_at hl 0 rfl) ?_
    refine lv_iload_n hx hb dX11_bagVolume_9 rfl (lv_at hl 2 rfl) ?_
    refine lv_iconst (v := 0) hx hb dX11_bagVolume_10 (by decide) ?_
    refine lv_aload_n hx hb dX11_bagVolume_11 rfl (lv_at hl 0 rfl) ?_
    refine m_arr C0 hH hM 8 (by decide) fl_X11_34 dX11_bagVolume_12 ?_
    refine lv_iload_n hx hb dX11_bagVolume_15 rfl (lv_at hl 1 rfl) ?_
    refine m_ldI C0 hH hM 8 (by decide) rfl (n := 12) rfl (ix := x.toNatClampNeg) rfl (vp_mono hx9 (by omega)) (v := m 8 x.toNatClampNeg) rfl dX11_bagVolume_16 ?_
    refine lv_iconst (v := 1) hx hb dX11_bagVolume_17 (by decide) ?_
    refine lv_isub hx hb dX11_bagVolume_18 ?_
    refine k_i hH (k_runS (rest := [.ref (o)]) C0 hH (cM_isIn l G A _ b 0 ((m 8 x.toNatClampNeg) - 1)) mv_X11_isIn ml_X11_127 rfl ⟨by decide, by decide⟩ hl.1 rfl (Nat.le_of_ble_eq_true rfl) dX11_bagVolume_19 (by simp)) (fun r_3 h1 H locs hp hH => ?_)
    obtain ⟨er_3, eh⟩ := hp
    rw [eh] at hH
    clear eh
    subst er_3
    refine lv_if_ne (tgt := 29) hx hb dX11_bagVolume_22 (by decide) (fun c22_4 => ?_) (fun c22_4 => ?_)
    · replace c22_4 := bi_n0.mp c22_4
      have hv9 := bag_in hw hx9 c22_4
      refine lv_iconst (v := 0) hx hb dX11_bagVolume_29 (by decide) ?_
      refine lv_iconst (v := 2) hx hb dX11_bagVolume_30 (by decide) ?_
      refine k_i hH (k_runV (rest := []) C0 hH (cM_isThrown l G A _ o ad (up m 45 0 (if (bi (¬ isLn m x)) = 0 then 0 else 1)) hM 0 2 rfl) mv_X11_isThrown ml_X11_140 ci_15 hM.1 rfl ⟨by decide, by decide⟩ hl.1 rfl (Nat.le_of_ble_eq_true rfl) dX11_bagVolume_31 (by simp)) (fun r_5 h H locs hp hH => ?_)
      obtain ⟨er_5, hM⟩ := hp
      subst er_5
      refine lv_if_eq (tgt := 41) hx hb dX11_bagVolume_34 (by decide) (fun c34_6 => ?_) (fun c34_6 => ?_)
      · refine lv_aload_n hx hb dX11_bagVolume_41 rfl (lv_at hl 0 rfl) ?_
        refine m_arr C0 hH hM 10 (by decide) fl_X11_41 dX11_bagVolume_42 ?_
        refine lv_iconst (v := 4) hx hb dX11_bagVolume_45 (by decide) ?_
        refine lv_iload_n hx hb dX11_bagVolume_46 rfl (lv_at hl 1 rfl) ?_
        refine lv_imul hx hb dX11_bagVolume_47 ?_
        refine lv_iload_n hx hb dX11_bagVolume_48 rfl (lv_at hl 2 rfl) ?_
        refine lv_iadd hx hb dX11_bagVolume_49 ?_
        refine m_ldI C0 hH hM 10 (by decide) rfl (n := 48) rfl (ix := ((4 * x) + b).toNatClampNeg) rfl (bag_ix hw hx9 hv9) (v := m 10 (((4 * x) + b).toNatClampNeg)) rfl dX11_bagVolume_50 ?_
        have eR : m 10 (((4 * x) + b).toNatClampNeg) = (fBgV m x b).1 := by simp [fBgV, bi, thr, fNone, fNoLine, c5_2, c22_4]
        have eM : (fBgV m x b).2 = (up (up m 45 0 (if (bi (¬ isLn m x)) = 0 then 0 else 1)) 45 0 (if 0 = 0 then 0 else 2)) := by simp [fBgV, bi, thr, fNone, fNoLine, c5_2, c22_4]
        exact e_I C0 hr hH ⟨eR, by rw [eM]; exact hM⟩ (Nat.le_refl _) (Nat.le_refl _) dX11_bagVolume_51
      · exact absurd (by decide) c34_6
    · replace c22_4 := bi_0.mp c22_4
      refine lv_iconst (v := 1) hx hb dX11_bagVolume_25 (by decide) ?_
      refine lv_goto (tgt := 30) hx hb dX11_bagVolume_26 (by decide) ?_
      refine lv_iconst (v := 2) hx hb dX11_bagVolume_30 (by decide) ?_
      refine k_i hH (k_runV (rest := []) C0 hH (cM_isThrown l G A _ o ad (up m 45 0 (if (bi (¬ isLn m x)) = 0 then 0 else 1)) hM 1 2 rfl) mv_X11_isThrown ml_X11_140 ci_15 hM.1 rfl ⟨by decide, by decide⟩ hl.1 rfl (Nat.le_of_ble_eq_true rfl) dX11_bagVolume_31 (by simp)) (fun r_7 h H locs hp hH => ?_)
      obtain ⟨er_7, hM⟩ := hp
      subst er_7
      refine lv_if_eq (tgt := 41) hx hb dX11_bagVolume_34 (by decide) (fun c34_8 => ?_) (fun c34_8 => ?_)
      · exact absurd c34_8 (by decide)
      · refine lv_iconst (v := 0) hx hb dX11_bagVolume_37 (by decide) ?_
        refine lv_goto (tgt := 51) hx hb dX11_bagVolume_38 (by decide) ?_
        have eR : 0 = (fBgV m x b).1 := by simp [fBgV, bi, thr, fNone, fNoLine, c5_2, c22_4]
        have eM : (fBgV m x b).2 = (up (up m 45 0 (if (bi (¬ isLn m x)) = 0 then 0 else 1)) 45 0 (if 1 = 0 then 0 else 2)) := by simp [fBgV, bi, thr, fNone, fNoLine, c5_2, c22_4]
        exact e_I C0 hr hH ⟨eR, by rw [eM]; exact hM⟩ (Nat.le_refl _) (Nat.le_refl _) dX11_bagVolume_51
