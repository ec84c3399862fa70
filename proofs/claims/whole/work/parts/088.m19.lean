set_option maxHeartbeats 4000000 in
set_option maxRecDepth 100000 in
theorem cM_nextLineByPaths (l : Launch) (G : GT) (A : Nat → Prop) (h : AH) (o : Nat) (ad : Nat → Nat) (m : MM) (hM : RM h o ad m) (x : Int32) (hw : WFa m) : cmI l G A yX11_nextLineByPaths cX11_nextLineByPaths 2 (Option.some FieldType.int) 11 288 0 0 [.ref (o), .int (x)] h (fun r h' => r = (fNxP m x).1 ∧ RM h' o ad ((fNxP m x).2)) := by
  refine cm_of "RoutepostModel" rfl (by decide) (Nat.le_of_ble_eq_true rfl) ?_
  intro pr e s m9 below meth c C0 hr hname hH ls hl
  obtain ⟨hx, hb, hml, hown, hts, hK, hA, -⟩ := id C0
  have hl : lv_has ls 2 [(0, .ref (o)), (1, .int (x))] := hl
  have hnp := hw.np
  refine lv_aload_n hx hb dX11_nextLineByPaths_0 rfl (lv_at hl 0 rfl) ?_
  refine lv_iload_n hx hb dX11_nextLineByPaths_1 rfl (lv_at hl 1 rfl) ?_
  refine k_i hH (k_runV (rest := []) C0 hH (cM_isNotScanned l G A _ o ad m hM x hw) mv_X11_isNotScanned ml_X11_250 ci_15 hM.1 rfl ⟨by decide, by decide⟩ hl.1 rfl (Nat.le_of_ble_eq_true rfl) dX11_nextLineByPaths_2 (by simp)) (fun r_1 h H locs hp hH => ?_)
  obtain ⟨er_1, hM⟩ := hp
  subst er_1
  refine lv_if_eq (tgt := 12) hx hb dX11_nextLineByPaths_5 (by decide) (fun c5_2 => ?_) (fun c5_2 => ?_)
  · obtain ⟨p, hp, rfl⟩ := vp_in_of (notSc_ok hw c5_2) (by omega)
    have hcl : (nI p).toNatClampNeg = p := nI_clamp (by omega)
    have hq1 : (fNotSc m (nI p)).1 = 0 := c5_2
    obtain ⟨M1, hM1⟩ : ∃ z, z = (fNotSc m (nI p)).2 := ⟨_, rfl⟩
    replace hM : RM h o ad M1 := by rw [hM1]; exact hM
    have hwM1 : WFa M1 := by rw [hM1]; exact hw.notSc _
    have grM1 : Gr 0 m M1 := by rw [hM1]; exact Gr.of fun k hk => fNotSc_key m _ (by omega)
    obtain ⟨gnM1, glM1, ghM1, gcM1, gsM1, gaM1, gbM1⟩ := id grM1
    have geM1 : uC M1 = uC ((fNotSc m (nI p)).2) ∧ uS M1 = uS ((fNotSc m (nI p)).2) := by rw [hM1]; exact ⟨rfl, rfl⟩
    refine lv_aload_n hx hb dX11_nextLineByPaths_12 rfl (lv_at hl 0 rfl) ?_
    refine lv_iload_n hx hb dX11_nextLineByPaths_13 rfl (lv_at hl 1 rfl) ?_
    refine k_i hH (k_runV (rest := []) C0 hH (cM_planned l G A _ o ad M1 hM p hwM1 (by omega)) mv_X11_planned ml_X11_177 ci_15 hM.1 rfl ⟨by decide, by decide⟩ hl.1 rfl (Nat.le_of_ble_eq_true rfl) dX11_nextLineByPaths_14 (by simp)) (fun r_3 h H locs hp hH => ?_)
    obtain ⟨er_3, hM⟩ := hp
    subst er_3
    have eR : fPlan M1 p = (fNxP m (nI p)).1 := by simp [fNxP, bi, hq1, ← hM1, hcl]
    have eM : (fNxP m (nI p)).2 = (fLays M1 p) := by simp [fNxP, bi, hq1, ← hM1, hcl]
    exact e_I C0 hr hH ⟨eR, by rw [eM]; exact hM⟩ (Nat.le_refl _) (Nat.le_refl _) dX11_nextLineByPaths_17
  · refine lv_iconst (v := 0) hx hb dX11_nextLineByPaths_8 (by decide) ?_
    refine lv_goto (tgt := 17) hx hb dX11_nextLineByPaths_9 (by decide) ?_
    have eR : 0 = (fNxP m x).1 := by simp [fNxP, c5_2]
    have eM : (fNxP m x).2 = ((fNotSc m x).2) := by simp [fNxP, c5_2]
    exact e_I C0 hr hH ⟨eR, by rw [eM]; exact hM⟩ (Nat.le_refl _) (Nat.le_refl _) dX11_nextLineByPaths_17
set_option maxHeartbeats 4000000 in
set_option maxRecDepth 100000 in
theorem cM_pathSize (l : Launch) (G : GT) (A : Nat → Prop) (h : AH) (o : Nat) (ad : Nat → Nat) (m : MM) (hM : RM h o ad m) (x : Int32) (hw : WFa m) : cmI l G A yX11_pathSize cX11_pathSize 2 (Option.some FieldType.int) 10 267 0 0 [.ref (o), .int (x)] h (fun r h' => r = (fPaS m x).1 ∧ RM h' o ad ((fPaS m x).2)) := by
  refine cm_of "RoutepostModel" rfl (by decide) (Nat.le_of_ble_eq_true rfl) ?_
  intro pr e s m9 below meth c C0 hr hname hH ls hl
  obtain ⟨hx, hb, hml, hown, hts, hK, hA, -⟩ := id C0
  have hl : lv_has ls 2 [(0, .ref (o)), (1, .int (x))] := hl
  have hnp := hw.np
  refine lv_aload_n hx hb dX11_pathSize_0 rfl (lv_at hl 0 rfl) ?_
  refine lv_iload_n hx hb dX11_pathSize_1 rfl (lv_at hl 1 rfl) ?_
  refine k_i hH (k_runV (rest := []) C0 hH (cM_isNotScanned l G A _ o ad m hM x hw) mv_X11_isNotScanned ml_X11_250 ci_15 hM.1 rfl ⟨by decide, by decide⟩ hl.1 rfl (Nat.le_of_ble_eq_true rfl) dX11_pathSize_2 (by simp)) (fun r_1 h H locs hp hH => ?_)
  obtain ⟨er_1, hM⟩ := hp
  subst er_1
  refine lv_if_ne (tgt := 16) hx hb dX11_pathSize_5 (by decide) (fun c5_2 => ?_) (fun c5_2 => ?_)
  · refine lv_iconst (v := 0) hx hb dX11_pathSize_16 (by decide) ?_
    refine lv_goto (tgt := 24) hx hb dX11_pathSize_17 (by decide) ?_
    have eR : 0 = (fPaS m x).1 := by simp [fPaS, c5_2]
    have eM : (fPaS m x).2 = ((fNotSc m x).2) := by simp [fPaS, c5_2]
    exact e_I C0 hr hH ⟨eR, by rw [eM]; exact hM⟩ (Nat.le_refl _) (Nat.le_refl _) dX11_pathSize_24
  · obtain ⟨p, hp, rfl⟩ := vp_in_of (notSc_ok hw c5_2) (by omega)
    have hcl : (nI p).toNatClampNeg = p := nI_clamp (by omega)
    have hq1 : (fNotSc m (nI p)).1 = 0 := c5_2
    obtain ⟨M1, hM1⟩ : ∃ z, z = (fNotSc m (nI p)).2 := ⟨_, rfl⟩
    replace hM : RM h o ad M1 := by rw [hM1]; exact hM
    have hwM1 : WFa M1 := by rw [hM1]; exact hw.notSc _
    have grM1 : Gr 0 m M1 := by rw [hM1]; exact Gr.of fun k hk => fNotSc_key m _ (by omega)
    obtain ⟨gnM1, glM1, ghM1, gcM1, gsM1, gaM1, gbM1⟩ := id grM1
    have geM1 : uC M1 = uC ((fNotSc m (nI p)).2) ∧ uS M1 = uS ((fNotSc m (nI p)).2) := by rw [hM1]; exact ⟨rfl, rfl⟩
    refine lv_aload_n hx hb dX11_pathSize_8 rfl (lv_at hl 0 rfl) ?_
    refine lv_iload_n hx hb dX11_pathSize_9 rfl (lv_at hl 1 rfl) ?_
    refine k_i hH (k_runV (rest := []) C0 hH (cM_lays l G A _ o ad M1 hM p hwM1 (by omega)) mv_X11_lays ml_X11_173 ci_15 hM.1 rfl ⟨by decide, by decide⟩ hl.1 rfl (Nat.le_of_ble_eq_true rfl) dX11_pathSize_10 (by simp)) (fun r_3 h H locs hp hH => ?_)
    obtain ⟨er_3, hM⟩ := hp
    subst er_3
    refine lv_if_ne (tgt := 20) hx hb dX11_pathSize_13 (by decide) (fun c13_4 => ?_) (fun c13_4 => ?_)
    · replace c13_4 := bi_n0.mp c13_4
      refine lv_aload_n hx hb dX11_pathSize_20 rfl (lv_at hl 0 rfl) ?_
      refine m_int C0 hH hM 43 (by decide) (by decide) fl_X11_157 (v := (fLays M1 p) 43 0) rfl dX11_pathSize_21 ?_
      have eR : (fLays M1 p) 43 0 = (fPaS m (nI p)).1 := by simp [fPaS, bi, hq1, ← hM1, hcl, hcl, c13_4]
      have eM : (fPaS m (nI p)).2 = (fLays M1 p) := by simp [fPaS, bi, hq1, ← hM1, hcl, hcl, c13_4]
      exact e_I C0 hr hH ⟨eR, by rw [eM]; exact hM⟩ (Nat.le_refl _) (Nat.le_refl _) dX11_pathSize_24
    · replace c13_4 := bi_0.mp c13_4
      refine lv_iconst (v := 0) hx hb dX11_pathSize_16 (by decide) ?_
      refine lv_goto (tgt := 24) hx hb dX11_pathSize_17 (by decide) ?_
      have eR : 0 = (fPaS m (nI p)).1 := by simp [fPaS, bi, hq1, ← hM1, hcl, hcl, c13_4]
      have eM : (fPaS m (nI p)).2 = (fLays M1 p) := by simp [fPaS, bi, hq1, ← hM1, hcl, hcl, c13_4]
      exact e_I C0 hr hH ⟨eR, by rw [eM]; exact hM⟩ (Nat.le_refl _) (Nat.le_refl _) dX11_pathSize_24
set_option maxHeartbeats 4000000 in
set_option maxRecDepth 100000 in
theorem cM_arrival (l : Launch) (G : GT) (A : Nat → Prop) (h : AH) (o : Nat) (ad : Nat → Nat) (m : MM) (hM : RM h o ad m) (x : Int32) (hw : WFa m) : cmI l G A yX11_arrival cX11_arrival 2 (Option.some FieldType.int) 10 267 0 0 [.ref (o), .int (x)] h (fun r h' => r = (fArv m x).1 ∧ RM h' o ad ((fArv m x).2)) := by
  refine cm_of "RoutepostModel" rfl (by decide) (Nat.le_of_ble_eq_true rfl) ?_
  intro pr e s m9 below meth c C0 hr hname hH ls hl
  obtain ⟨hx, hb, hml, hown, hts, hK, hA, -⟩ := id C0
  have hl : lv_has ls 2 [(0, .ref (o)), (1, .int (x))] := hl
  have hnp := hw.np
  refine lv_aload_n hx hb dX11_arrival_0 rfl (lv_at hl 0 rfl) ?_
  refine lv_iload_n hx hb dX11_arrival_1 rfl (lv_at hl 1 rfl) ?_
  refine k_i hH (k_runV (rest := []) C0 hH (cM_isNotScanned l G A _ o ad m hM x hw) mv_X11_isNotScanned ml_X11_250 ci_15 hM.1 rfl ⟨by decide, by decide⟩ hl.1 rfl (Nat.le_of_ble_eq_true rfl) dX11_arrival_2 (by simp)) (fun r_1 h H locs hp hH => ?_)
  obtain ⟨er_1, hM⟩ := hp
  subst er_1
  refine lv_if_eq (tgt := 12) hx hb dX11_arrival_5 (by decide) (fun c5_2 => ?_) (fun c5_2 => ?_)
  · obtain ⟨p, hp, rfl⟩ := vp_in_of (notSc_ok hw c5_2) (by omega)
    have hcl : (nI p).toNatClampNeg = p := nI_clamp (by omega)
    have hq1 : (fNotSc m (nI p)).1 = 0 := c5_2
    obtain ⟨M1, hM1⟩ : ∃ z, z = (fNotSc m (nI p)).2 := ⟨_, rfl⟩
    replace hM : RM h o ad M1 := by rw [hM1]; exact hM
    have hwM1 : WFa M1 := by rw [hM1]; exact hw.notSc _
    have grM1 : Gr 0 m M1 := by rw [hM1]; exact Gr.of fun k hk => fNotSc_key m _ (by omega)
    obtain ⟨gnM1, glM1, ghM1, gcM1, gsM1, gaM1, gbM1⟩ := id grM1
    have geM1 : uC M1 = uC ((fNotSc m (nI p)).2) ∧ uS M1 = uS ((fNotSc m (nI p)).2) := by rw [hM1]; exact ⟨rfl, rfl⟩
    refine lv_aload_n hx hb dX11_arrival_12 rfl (lv_at hl 0 rfl) ?_
    refine lv_iload_n hx hb dX11_arrival_13 rfl (lv_at hl 1 rfl) ?_
    refine k_i hH (k_runV (rest := []) C0 hH (cM_lays l G A _ o ad M1 hM p hwM1 (by omega)) mv_X11_lays ml_X11_173 ci_15 hM.1 rfl ⟨by decide, by decide⟩ hl.1 rfl (Nat.le_of_ble_eq_true rfl) dX11_arrival_14 (by simp)) (fun r_3 h H locs hp hH => ?_)
    obtain ⟨er_3, hM⟩ := hp
    subst er_3
    refine lv_if_eq (tgt := 27) hx hb dX11_arrival_17 (by decide) (fun c17_4 => ?_) (fun c17_4 => ?_)
    · replace c17_4 := bi_0.mp c17_4
      refine lv_iconst (v := (-1)) hx hb dX11_arrival_27 (by decide) ?_
      have eR : (-1) = (fArv m (nI p)).1 := by simp [fArv, bi, hq1, ← hM1, hcl, hcl, c17_4]
      have eM : (fArv m (nI p)).2 = (fLays M1 p) := by simp [fArv, bi, hq1, ← hM1, hcl, hcl, c17_4]
      exact e_I C0 hr hH ⟨eR, by rw [eM]; exact hM⟩ (Nat.le_refl _) (Nat.le_refl _) dX11_arrival_28
    · replace c17_4 := bi_n0.mp c17_4
      refine lv_aload_n hx hb dX11_arrival_20 rfl (lv_at hl 0 rfl) ?_
      refine m_int C0 hH hM 42 (by decide) (by decide) fl_X11_154 (v := (fLays M1 p) 42 0) rfl dX11_arrival_21 ?_
      refine lv_goto (tgt := 28) hx hb dX11_arrival_24 (by decide) ?_
      have eR : (fLays M1 p) 42 0 = (fArv m (nI p)).1 := by simp [fArv, bi, hq1, ← hM1, hcl, hcl, c17_4]
      have eM : (fArv m (nI p)).2 = (fLays M1 p) := by simp [fArv, bi, hq1, ← hM1, hcl, hcl, c17_4]
      exact e_I C0 hr hH ⟨eR, by rw [eM]; exact hM⟩ (Nat.le_refl _) (Nat.le_refl _) dX11_arrival_28
  · refine lv_iconst (v := 0) hx hb dX11_arrival_8 (by decide) ?_
    refine lv_goto (tgt := 28) hx hb dX11_arrival_9 (by decide) ?_
    have eR : 0 = (fArv m x).1 := by simp [fArv, c5_2]
    have eM : (fArv m x).2 = ((fNotSc m x).2) := by simp [fArv, c5_2]
    exact e_I C0 hr hH ⟨eR, by rw [eM]; exact hM⟩ (Nat.le_refl _) (Nat.le_refl _) dX11_arrival_28
set_option maxHeartbeats 4000000 in
set_option maxRecDepth 100000 in
theorem cM_arrivalByPaths (l : Launch) (G : GT) (A : Nat → Prop) (h : AH) (o : Nat) (ad : Nat → Nat) (m : MM) (hM : RM h o ad m) (x : Int32) (hw : WFa m) : cmI l G A yX11_arrivalByPaths cX11_arrivalByPaths 2 (Option.some FieldType.int) 11 288 0 0 [.ref (o), .int (x)] h (fun r h' => r = (fArv m x).1 ∧ RM h' o ad ((fArv m x).2)) := by
  refine cm_of "RoutepostModel" rfl (by decide) (Nat.le_of_ble_eq_true rfl) ?_
  intro pr e s m9 below meth c C0 hr hname hH ls hl
  obtain ⟨hx, hb, hml, hown, hts, hK, hA, -⟩ := id C0
  have hl : lv_has ls 2 [(0, .ref (o)), (1, .int (x))] := hl
  refine lv_aload_n hx hb dX11_arrivalByPaths_0 rfl (lv_at hl 0 rfl) ?_
  refine lv_iload_n hx hb dX11_arrivalByPaths_1 rfl (lv_at hl 1 rfl) ?_
  refine k_i hH (k_runV (rest := []) C0 hH (cM_arrival l G A _ o ad m hM x hw) mv_X11_arrival ml_X11_253 ci_15 hM.1 rfl ⟨by decide, by decide⟩ hl.1 rfl (Nat.le_of_ble_eq_true rfl) dX11_arrivalByPaths_2 (by simp)) (fun r_1 h H locs hp hH => ?_)
  obtain ⟨er_1, hM⟩ := hp
  subst er_1
  have eR : (fArv m x).1 = (fArv m x).1 := rfl
  have eM : (fArv m x).2 = ((fArv m x).2) := rfl
  exact e_I C0 hr hH ⟨eR, by rw [eM]; exact hM⟩ (Nat.le_refl _) (Nat.le_refl _) dX11_arrivalByPaths_5
set_option maxHeartbeats 4000000 in
set_option maxRecDepth 100000 in
theorem cM_arrivalBySimulation (l : Launch) (G : GT) (A : Nat → Prop) (h : AH) (o : Nat) (ad : Nat → Nat) (m : MM) (hM : RM h o ad m) (x : Int32) (hw : WFa m) : cmI l G A yX11_arrivalBySimulation cX11_arrivalBySimulation 2 (Option.some FieldType.int) 11 288 0 0 [.ref (o), .int (x)] h (fun r h' => r = (fArv m x).1 ∧ RM h' o ad ((fArv m x).2)) := by
  refine cm_of "RoutepostModel" rfl (by decide) (Nat.le_of_ble_eq_true rfl) ?_
  intro pr e s m9 below meth c C0 hr hname hH ls hl
  obtain ⟨hx, hb, hml, hown, hts, hK, hA, -⟩ := id C0
  have hl : lv_has ls 2 [(0, .ref (o)), (1, .int (x))] := hl
  refine lv_aload_n hx hb dX11_arrivalBySimulation_0 rfl (lv_at hl 0 rfl) ?_
  refine lv_iload_n hx hb dX11_arrivalBySimulation_1 rfl (lv_at hl 1 rfl) ?_
  refine k_i hH (k_runV (rest := []) C0 hH (cM_arrival l G A _ o ad m hM x hw) mv_X11_arrival ml_X11_253 ci_15 hM.1 rfl ⟨by decide, by decide⟩ hl.1 rfl (Nat.le_of_ble_eq_true rfl) dX11_arrivalBySimulation_2 (by simp)) (fun r_1 h H locs hp hH => ?_)
  obtain ⟨er_1, hM⟩ := hp
  subst er_1
  have eR : (fArv m x).1 = (fArv m x).1 := rfl
  have eM : (fArv m x).2 = ((fArv m x).2) := rfl
  exact e_I C0 hr hH ⟨eR, by rw [eM]; exact hM⟩ (Nat.le_refl _) (Nat.le_refl _) dX11_arrivalBySimulation_5
