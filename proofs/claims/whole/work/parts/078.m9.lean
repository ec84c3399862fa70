set_option maxHeartbeats 4000000 in
set_option maxRecDepth 100000 in
theorem cM_promises (l : Launch) (G : GT) (A : Nat → Prop) (h : AH) (o : Nat) (ad : Nat → Nat) (m : MM) (hM : RM h o ad m) (p : Nat) (hw : WFa m) (hp : p < npN m) : cmV l G A yX11_promises cX11_promises 2 12 309 0 0 [.ref (o), .int (nI p)] h (fun h' => RM h' o ad (fProm m p)) := by
  refine cm_of "RoutepostModel" rfl (by decide) (Nat.le_of_ble_eq_true rfl) ?_
  intro pr e s m9 below meth c C0 hr hname hH ls hl
  obtain ⟨hx, hb, hml, hown, hts, hK, hA, -⟩ := id C0
  have hl : lv_has ls 2 [(0, .ref (o)), (1, .int (nI p))] := hl
  have hnp := hw.np
  refine lv_aload_n hx hb dX11_promises_0 rfl (lv_at hl 0 rfl) ?_
  refine m_arr C0 hH hM 21 (by decide) fl_X11_74 dX11_promises_1 ?_
  refine lv_iload_n hx hb dX11_promises_4 rfl (lv_at hl 1 rfl) ?_
  refine lv_aload_n hx hb dX11_promises_5 rfl (lv_at hl 0 rfl) ?_
  refine m_arr C0 hH hM 15 (by decide) fl_X11_56 dX11_promises_6 ?_
  refine lv_iload_n hx hb dX11_promises_9 rfl (lv_at hl 1 rfl) ?_
  refine m_ldI C0 hH hM 15 (by decide) rfl (n := 40) rfl (ix := p) (nI_clamp (by omega)) (by first | assumption | exact vp_in_nI (by omega) (by omega)) (v := m 15 p) rfl dX11_promises_10 ?_
  refine lv_aload_n hx hb dX11_promises_11 rfl (lv_at hl 0 rfl) ?_
  refine m_arr C0 hH hM 14 (by decide) fl_X11_53 dX11_promises_12 ?_
  refine lv_iload_n hx hb dX11_promises_15 rfl (lv_at hl 1 rfl) ?_
  refine m_ldI C0 hH hM 14 (by decide) rfl (n := 40) rfl (ix := p) (nI_clamp (by omega)) (by first | assumption | exact vp_in_nI (by omega) (by omega)) (v := m 14 p) rfl dX11_promises_16 ?_
  refine lv_icmp_ne (tgt := 27) hx hb dX11_promises_17 (by decide) (fun c17_1 => ?_) (fun c17_1 => ?_)
  · refine lv_iconst (v := (-1)) hx hb dX11_promises_27 (by decide) ?_
    refine lv_topi (fun x9 ex9 => ?_)
    replace ex9 : x9 = if m 15 p = m 14 p then m 41 0 else -1 := ex9.trans (by first | rw [if_pos c17_1] | rw [if_neg c17_1])
    subst ex9
    refine m_stI C0 hH hM 21 (by decide) rfl (n := 40) rfl (ix := p) (nI_clamp (by omega)) (by first | assumption | exact vp_in_nI (by omega) (by omega)) dX11_promises_28 (fun h H locs hH hM => ?_)
    obtain ⟨M0, hM0⟩ : ∃ z, z = fProm0 m p := ⟨_, rfl⟩
    replace hM : RM h o ad M0 := by rw [hM0]; exact hM
    have hwM0 : WFa M0 := by rw [hM0]; exact hw.prom0 p
    have grM0 : Gr 0 m M0 := by rw [hM0]; exact Gr.prom0 m p
    obtain ⟨gnM0, glM0, ghM0, gcM0, gsM0, gaM0, gbM0⟩ := id grM0
    have geM0 : uC M0 = uC (fProm0 m p) ∧ uS M0 = uS (fProm0 m p) := by rw [hM0]; exact ⟨rfl, rfl⟩
    refine lv_aload_n hx hb dX11_promises_29 rfl (lv_at hl 0 rfl) ?_
    refine m_arr C0 hH hM 20 (by decide) fl_X11_71 dX11_promises_30 ?_
    refine lv_iload_n hx hb dX11_promises_33 rfl (lv_at hl 1 rfl) ?_
    refine lv_aload_n hx hb dX11_promises_34 rfl (lv_at hl 0 rfl) ?_
    refine lv_iload_n hx hb dX11_promises_35 rfl (lv_at hl 1 rfl) ?_
    refine k_i hH (k_runV (rest := [.int (nI p), .ref (ad 20)]) C0 hH (cM_lays l G A _ o ad M0 hM p hwM0 (by omega)) mv_X11_lays ml_X11_173 ci_15 hM.1 rfl ⟨by decide, by decide⟩ hl.1 rfl (Nat.le_of_ble_eq_true rfl) dX11_promises_36 (by simp)) (fun r_2 h H locs hp hH => ?_)
    obtain ⟨er_2, hM⟩ := hp
    subst er_2
    refine lv_if_eq (tgt := 49) hx hb dX11_promises_39 (by decide) (fun c39_3 => ?_) (fun c39_3 => ?_)
    · replace c39_3 := bi_0.mp c39_3
      refine lv_iconst (v := (-1)) hx hb dX11_promises_49 (by decide) ?_
      refine lv_topi (fun x9 ex9 => ?_)
      replace ex9 : x9 = if hasP (fLays M0 p) then fLays M0 p 42 0 else -1 := ex9.trans (by first | rw [if_pos c39_3] | rw [if_neg c39_3])
      subst ex9
      refine m_stI C0 hH hM 20 (by decide) rfl (n := 40) rfl (ix := p) (nI_clamp (by omega)) (by first | assumption | exact vp_in_nI (by omega) (by omega)) dX11_promises_50 (fun h H locs hH hM => ?_)
      obtain ⟨M1, hM1⟩ : ∃ z, z = fProm1 M0 p := ⟨_, rfl⟩
      replace hM : RM h o ad M1 := by rw [hM1]; exact hM
      have hwM1 : WFa M1 := by rw [hM1]; exact hwM0.prom1 p
      have grM1 : Gr 0 M0 M1 := by rw [hM1]; exact (Gr.lays M0 p).trans (Gr.up (by omega))
      obtain ⟨gnM1, glM1, ghM1, gcM1, gsM1, gaM1, gbM1⟩ := id grM1
      have geM1 : uC M1 = uC (fProm1 M0 p) ∧ uS M1 = uS (fProm1 M0 p) := by rw [hM1]; exact ⟨rfl, rfl⟩
      refine lv_aload_n hx hb dX11_promises_51 rfl (lv_at hl 0 rfl) ?_
      refine lv_iload_n hx hb dX11_promises_52 rfl (lv_at hl 1 rfl) ?_
      refine k_v hH (k_runV (rest := []) C0 hH (cM_plans l G A _ o ad M1 hM p hwM1 (by omega)) mv_X11_plans ml_X11_181 ci_15 hM.1 rfl ⟨by decide, by decide⟩ hl.1 rfl (Nat.le_of_ble_eq_true rfl) dX11_promises_53 (by simp)) (fun h H locs hp hH => ?_)
      have hM := hp
      have eM : fProm m p = (fPlans M1 p) := by rw [hM1, hM0]; rfl
      exact e_V C0 hr hH (by rw [eM]; exact hM) (Nat.le_refl _) (Nat.le_refl _) dX11_promises_56
    · replace c39_3 := bi_n0.mp c39_3
      refine lv_aload_n hx hb dX11_promises_42 rfl (lv_at hl 0 rfl) ?_
      refine m_int C0 hH hM 42 (by decide) (by decide) fl_X11_154 (v := (fLays M0 p) 42 0) rfl dX11_promises_43 ?_
      refine lv_goto (tgt := 50) hx hb dX11_promises_46 (by decide) ?_
      refine lv_topi (fun x9 ex9 => ?_)
      replace ex9 : x9 = if hasP (fLays M0 p) then fLays M0 p 42 0 else -1 := ex9.trans (by first | rw [if_pos c39_3] | rw [if_neg c39_3])
      subst ex9
      refine m_stI C0 hH hM 20 (by decide) rfl (n := 40) rfl (ix := p) (nI_clamp (by omega)) (by first | assumption | exact vp_in_nI (by omega) (by omega)) dX11_promises_50 (fun h H locs hH hM => ?_)
      obtain ⟨M1, hM1⟩ : ∃ z, z = fProm1 M0 p := ⟨_, rfl⟩
      replace hM : RM h o ad M1 := by rw [hM1]; exact hM
      have hwM1 : WFa M1 := by rw [hM1]; exact hwM0.prom1 p
      have grM1 : Gr 0 M0 M1 := by rw [hM1]; exact (Gr.lays M0 p).trans (Gr.up (by omega))
      obtain ⟨gnM1, glM1, ghM1, gcM1, gsM1, gaM1, gbM1⟩ := id grM1
      have geM1 : uC M1 = uC (fProm1 M0 p) ∧ uS M1 = uS (fProm1 M0 p) := by rw [hM1]; exact ⟨rfl, rfl⟩
      refine lv_aload_n hx hb dX11_promises_51 rfl (lv_at hl 0 rfl) ?_
      refine lv_iload_n hx hb dX11_promises_52 rfl (lv_at hl 1 rfl) ?_
      refine k_v hH (k_runV (rest := []) C0 hH (cM_plans l G A _ o ad M1 hM p hwM1 (by omega)) mv_X11_plans ml_X11_181 ci_15 hM.1 rfl ⟨by decide, by decide⟩ hl.1 rfl (Nat.le_of_ble_eq_true rfl) dX11_promises_53 (by simp)) (fun h H locs hp hH => ?_)
      have hM := hp
      have eM : fProm m p = (fPlans M1 p) := by rw [hM1, hM0]; rfl
      exact e_V C0 hr hH (by rw [eM]; exact hM) (Nat.le_refl _) (Nat.le_refl _) dX11_promises_56
  · refine lv_aload_n hx hb dX11_promises_20 rfl (lv_at hl 0 rfl) ?_
    refine m_int C0 hH hM 41 (by decide) (by decide) fl_X11_150 (v := m 41 0) rfl dX11_promises_21 ?_
    refine lv_goto (tgt := 28) hx hb dX11_promises_24 (by decide) ?_
    refine lv_topi (fun x9 ex9 => ?_)
    replace ex9 : x9 = if m 15 p = m 14 p then m 41 0 else -1 := ex9.trans (by first | rw [if_pos c17_1] | rw [if_neg c17_1])
    subst ex9
    refine m_stI C0 hH hM 21 (by decide) rfl (n := 40) rfl (ix := p) (nI_clamp (by omega)) (by first | assumption | exact vp_in_nI (by omega) (by omega)) dX11_promises_28 (fun h H locs hH hM => ?_)
    obtain ⟨M0, hM0⟩ : ∃ z, z = fProm0 m p := ⟨_, rfl⟩
    replace hM : RM h o ad M0 := by rw [hM0]; exact hM
    have hwM0 : WFa M0 := by rw [hM0]; exact hw.prom0 p
    have grM0 : Gr 0 m M0 := by rw [hM0]; exact Gr.prom0 m p
    obtain ⟨gnM0, glM0, ghM0, gcM0, gsM0, gaM0, gbM0⟩ := id grM0
    have geM0 : uC M0 = uC (fProm0 m p) ∧ uS M0 = uS (fProm0 m p) := by rw [hM0]; exact ⟨rfl, rfl⟩
    refine lv_aload_n hx hb dX11_promises_29 rfl (lv_at hl 0 rfl) ?_
    refine m_arr C0 hH hM 20 (by decide) fl_X11_71 dX11_promises_30 ?_
    refine lv_iload_n hx hb dX11_promises_33 rfl (lv_at hl 1 rfl) ?_
    refine lv_aload_n hx hb dX11_promises_34 rfl (lv_at hl 0 rfl) ?_
    refine lv_iload_n hx hb dX11_promises_35 rfl (lv_at hl 1 rfl) ?_
    refine k_i hH (k_runV (rest := [.int (nI p), .ref (ad 20)]) C0 hH (cM_lays l G A _ o ad M0 hM p hwM0 (by omega)) mv_X11_lays ml_X11_173 ci_15 hM.1 rfl ⟨by decide, by decide⟩ hl.1 rfl (Nat.le_of_ble_eq_true rfl) dX11_promises_36 (by simp)) (fun r_4 h H locs hp hH => ?_)
    obtain ⟨er_4, hM⟩ := hp
    subst er_4
    refine lv_if_eq (tgt := 49) hx hb dX11_promises_39 (by decide) (fun c39_5 => ?_) (fun c39_5 => ?_)
    · replace c39_5 := bi_0.mp c39_5
      refine lv_iconst (v := (-1)) hx hb dX11_promises_49 (by decide) ?_
      refine lv_topi (fun x9 ex9 => ?_)
      replace ex9 : x9 = if hasP (fLays M0 p) then fLays M0 p 42 0 else -1 := ex9.trans (by first | rw [if_pos c39_5] | rw [if_neg c39_5])
      subst ex9
      refine m_stI C0 hH hM 20 (by decide) rfl (n := 40) rfl (ix := p) (nI_clamp (by omega)) (by first | assumption | exact vp_in_nI (by omega) (by omega)) dX11_promises_50 (fun h H locs hH hM => ?_)
      obtain ⟨M1, hM1⟩ : ∃ z, z = fProm1 M0 p := ⟨_, rfl⟩
      replace hM : RM h o ad M1 := by rw [hM1]; exact hM
      have hwM1 : WFa M1 := by rw [hM1]; exact hwM0.prom1 p
      have grM1 : Gr 0 M0 M1 := by rw [hM1]; exact (Gr.lays M0 p).trans (Gr.up (by omega))
      obtain ⟨gnM1, glM1, ghM1, gcM1, gsM1, gaM1, gbM1⟩ := id grM1
      have geM1 : uC M1 = uC (fProm1 M0 p) ∧ uS M1 = uS (fProm1 M0 p) := by rw [hM1]; exact ⟨rfl, rfl⟩
      refine lv_aload_n hx hb dX11_promises_51 rfl (lv_at hl 0 rfl) ?_
      refine lv_iload_n hx hb dX11_promises_52 rfl (lv_at hl 1 rfl) ?_
      refine k_v hH (k_runV (rest := []) C0 hH (cM_plans l G A _ o ad M1 hM p hwM1 (by omega)) mv_X11_plans ml_X11_181 ci_15 hM.1 rfl ⟨by decide, by decide⟩ hl.1 rfl (Nat.le_of_ble_eq_true rfl) dX11_promises_53 (by simp)) (fun h H locs hp hH => ?_)
      have hM := hp
      have eM : fProm m p = (fPlans M1 p) := by rw [hM1, hM0]; rfl
      exact e_V C0 hr hH (by rw [eM]; exact hM) (Nat.le_refl _) (Nat.le_refl _) dX11_promises_56
    · replace c39_5 := bi_n0.mp c39_5
      refine lv_aload_n hx hb dX11_promises_42 rfl (lv_at hl 0 rfl) ?_
      refine m_int C0 hH hM 42 (by decide) (by decide) fl_X11_154 (v := (fLays M0 p) 42 0) rfl dX11_promises_43 ?_
      refine lv_goto (tgt := 50) hx hb dX11_promises_46 (by decide) ?_
      refine lv_topi (fun x9 ex9 => ?_)
      replace ex9 : x9 = if hasP (fLays M0 p) then fLays M0 p 42 0 else -1 := ex9.trans (by first | rw [if_pos c39_5] | rw [if_neg c39_5])
      subst ex9
      refine m_stI C0 hH hM 20 (by decide) rfl (n := 40) rfl (ix := p) (nI_clamp (by omega)) (by first | assumption | exact vp_in_nI (by omega) (by omega)) dX11_promises_50 (fun h H locs hH hM => ?_)
      obtain ⟨M1, hM1⟩ : ∃ z, z = fProm1 M0 p := ⟨_, rfl⟩
      replace hM : RM h o ad M1 := by rw [hM1]; exact hM
      have hwM1 : WFa M1 := by rw [hM1]; exact hwM0.prom1 p
      have grM1 : Gr 0 M0 M1 := by rw [hM1]; exact (Gr.lays M0 p).trans (Gr.up (by omega))
      obtain ⟨gnM1, glM1, ghM1, gcM1, gsM1, gaM1, gbM1⟩ := id grM1
      have geM1 : uC M1 = uC (fProm1 M0 p) ∧ uS M1 = uS (fProm1 M0 p) := by rw [hM1]; exact ⟨rfl, rfl⟩
      refine lv_aload_n hx hb dX11_promises_51 rfl (lv_at hl 0 rfl) ?_
      refine lv_iload_n hx hb dX11_promises_52 rfl (lv_at hl 1 rfl) ?_
      refine k_v hH (k_runV (rest := []) C0 hH (cM_plans l G A _ o ad M1 hM p hwM1 (by omega)) mv_X11_plans ml_X11_181 ci_15 hM.1 rfl ⟨by decide, by decide⟩ hl.1 rfl (Nat.le_of_ble_eq_true rfl) dX11_promises_53 (by simp)) (fun h H locs hp hH => ?_)
      have hM := hp
      have eM : fProm m p = (fPlans M1 p) := by rw [hM1, hM0]; rfl
      exact e_V C0 hr hH (by rw [eM]; exact hM) (Nat.le_refl _) (Nat.le_refl _) dX11_promises_56
set_option maxHeartbeats 4000000 in
set_option maxRecDepth 100000 in
theorem cM_scans (l : Launch) (G : GT) (A : Nat → Prop) (h : AH) (o : Nat) (ad : Nat → Nat) (m : MM) (hM : RM h o ad m) (p : Nat) (hw : WFa m) (hp : p < npN m) : cmV l G A yX11_scans cX11_scans 2 12 309 0 0 [.ref (o), .int (nI p)] h (fun h' => RM h' o ad (fScans m p)) := by
  refine cm_of "RoutepostModel" rfl (by decide) (Nat.le_of_ble_eq_true rfl) ?_
  intro pr e s m9 below meth c C0 hr hname hH ls hl
  obtain ⟨hx, hb, hml, hown, hts, hK, hA, -⟩ := id C0
  have hl : lv_has ls 2 [(0, .ref (o)), (1, .int (nI p))] := hl
  have hnp := hw.np
  refine lv_aload_n hx hb dX11_scans_0 rfl (lv_at hl 0 rfl) ?_
  refine m_arr C0 hH hM 28 (by decide) fl_X11_95 dX11_scans_1 ?_
  refine lv_iload_n hx hb dX11_scans_4 rfl (lv_at hl 1 rfl) ?_
  refine lv_bipush (v := 115) hx hb dX11_scans_5 (by decide) ?_
  refine m_stC C0 hH hM 28 (by decide) rfl (n := 40) rfl (ix := p) (nI_clamp (by omega)) (by first | assumption | exact vp_in_nI (by omega) (by omega)) (by decide) dX11_scans_7 (fun h H locs hH hM => ?_)
  refine lv_aload_n hx hb dX11_scans_8 rfl (lv_at hl 0 rfl) ?_
  refine m_arr C0 hH hM 18 (by decide) fl_X11_65 dX11_scans_9 ?_
  refine lv_iload_n hx hb dX11_scans_12 rfl (lv_at hl 1 rfl) ?_
  refine lv_aload_n hx hb dX11_scans_13 rfl (lv_at hl 0 rfl) ?_
  refine m_int C0 hH hM 41 (by decide) (by decide) fl_X11_150 (v := m 41 0) rfl dX11_scans_14 ?_
  refine m_stI C0 hH hM 18 (by decide) rfl (n := 40) rfl (ix := p) (nI_clamp (by omega)) (by first | assumption | exact vp_in_nI (by omega) (by omega)) dX11_scans_17 (fun h H locs hH hM => ?_)
  refine lv_aload_n hx hb dX11_scans_18 rfl (lv_at hl 0 rfl) ?_
  refine m_arr C0 hH hM 15 (by decide) fl_X11_56 dX11_scans_19 ?_
  refine lv_iload_n hx hb dX11_scans_22 rfl (lv_at hl 1 rfl) ?_
  refine m_ldI C0 hH hM 15 (by decide) rfl (n := 40) rfl (ix := p) (nI_clamp (by omega)) (by first | assumption | exact vp_in_nI (by omega) (by omega)) (v := m 15 p) rfl dX11_scans_23 ?_
  refine lv_aload_n hx hb dX11_scans_24 rfl (lv_at hl 0 rfl) ?_
  refine m_arr C0 hH hM 14 (by decide) fl_X11_53 dX11_scans_25 ?_
  refine lv_iload_n hx hb dX11_scans_28 rfl (lv_at hl 1 rfl) ?_
  refine m_ldI C0 hH hM 14 (by decide) rfl (n := 40) rfl (ix := p) (nI_clamp (by omega)) (by first | assumption | exact vp_in_nI (by omega) (by omega)) (v := m 14 p) rfl dX11_scans_29 ?_
  refine lv_icmp_ne (tgt := 52) hx hb dX11_scans_30 (by decide) (fun c30_1 => ?_) (fun c30_1 => ?_)
  · refine lv_aload_n hx hb dX11_scans_52 rfl (lv_at hl 0 rfl) ?_
    refine lv_iload_n hx hb dX11_scans_53 rfl (lv_at hl 1 rfl) ?_
    have e9 : fScans0 m p = (up (up m 28 p 115) 18 p (m 41 0)) := by unfold fScans0; simp [up_key, eq_false c30_1]
    rw [← e9] at hM
    obtain ⟨M0, hM0⟩ : ∃ z, z = fScans0 m p := ⟨_, rfl⟩
    replace hM : RM h o ad M0 := by rw [hM0]; exact hM
    have hwM0 : WFa M0 := by rw [hM0]; exact hw.scans0 p
    have grM0 : Gr 0 m M0 := by rw [hM0]; exact Gr.scans0 m p
    obtain ⟨gnM0, glM0, ghM0, gcM0, gsM0, gaM0, gbM0⟩ := id grM0
    have geM0 : uC M0 = uC (fScans0 m p) ∧ uS M0 = uS (fScans0 m p) := by rw [hM0]; exact ⟨rfl, rfl⟩
    refine k_v hH (k_runV (rest := []) C0 hH (cM_plans l G A _ o ad M0 hM p hwM0 (by omega)) mv_X11_plans ml_X11_181 ci_15 hM.1 rfl ⟨by decide, by decide⟩ hl.1 rfl (Nat.le_of_ble_eq_true rfl) dX11_scans_54 (by simp)) (fun h H locs hp hH => ?_)
    have hM := hp
    have eM : fScans m p = (fPlans M0 p) := by rw [hM0]; rfl
    exact e_V C0 hr hH (by rw [eM]; exact hM) (Nat.le_refl _) (Nat.le_refl _) dX11_scans_57
  · refine lv_aload_n hx hb dX11_scans_33 rfl (lv_at hl 0 rfl) ?_
    refine m_arr C0 hH hM 21 (by decide) fl_X11_74 dX11_scans_34 ?_
    refine lv_iload_n hx hb dX11_scans_37 rfl (lv_at hl 1 rfl) ?_
    refine m_ldI C0 hH hM 21 (by decide) rfl (n := 40) rfl (ix := p) (nI_clamp (by omega)) (by first | assumption | exact vp_in_nI (by omega) (by omega)) (v := m 21 p) rfl dX11_scans_38 ?_
    refine lv_if_ge (tgt := 52) hx hb dX11_scans_39 (by decide) (fun c39_2 => ?_) (fun c39_2 => ?_)
    · refine lv_aload_n hx hb dX11_scans_52 rfl (lv_at hl 0 rfl) ?_
      refine lv_iload_n hx hb dX11_scans_53 rfl (lv_at hl 1 rfl) ?_
      have e9 : fScans0 m p = (up (up m 28 p 115) 18 p (m 41 0)) := by unfold fScans0; simp [up_key, eq_true c30_1, c39_2, Int32.not_lt.mpr c39_2]
      rw [← e9] at hM
      obtain ⟨M0, hM0⟩ : ∃ z, z = fScans0 m p := ⟨_, rfl⟩
      replace hM : RM h o ad M0 := by rw [hM0]; exact hM
      have hwM0 : WFa M0 := by rw [hM0]; exact hw.scans0 p
      have grM0 : Gr 0 m M0 := by rw [hM0]; exact Gr.scans0 m p
      obtain ⟨gnM0, glM0, ghM0, gcM0, gsM0, gaM0, gbM0⟩ := id grM0
      have geM0 : uC M0 = uC (fScans0 m p) ∧ uS M0 = uS (fScans0 m p) := by rw [hM0]; exact ⟨rfl, rfl⟩
      refine k_v hH (k_runV (rest := []) C0 hH (cM_plans l G A _ o ad M0 hM p hwM0 (by omega)) mv_X11_plans ml_X11_181 ci_15 hM.1 rfl ⟨by decide, by decide⟩ hl.1 rfl (Nat.le_of_ble_eq_true rfl) dX11_scans_54 (by simp)) (fun h H locs hp hH => ?_)
      have hM := hp
      have eM : fScans m p = (fPlans M0 p) := by rw [hM0]; rfl
      exact e_V C0 hr hH (by rw [eM]; exact hM) (Nat.le_refl _) (Nat.le_refl _) dX11_scans_57
    · refine lv_aload_n hx hb dX11_scans_42 rfl (lv_at hl 0 rfl) ?_
      refine m_arr C0 hH hM 21 (by decide) fl_X11_74 dX11_scans_43 ?_
      refine lv_iload_n hx hb dX11_scans_46 rfl (lv_at hl 1 rfl) ?_
      refine lv_aload_n hx hb dX11_scans_47 rfl (lv_at hl 0 rfl) ?_
      refine m_int C0 hH hM 41 (by decide) (by decide) fl_X11_150 (v := m 41 0) rfl dX11_scans_48 ?_
      refine m_stI C0 hH hM 21 (by decide) rfl (n := 40) rfl (ix := p) (nI_clamp (by omega)) (by first | assumption | exact vp_in_nI (by omega) (by omega)) dX11_scans_51 (fun h H locs hH hM => ?_)
      refine lv_aload_n hx hb dX11_scans_52 rfl (lv_at hl 0 rfl) ?_
      refine lv_iload_n hx hb dX11_scans_53 rfl (lv_at hl 1 rfl) ?_
      have e9 : fScans0 m p = (up (up (up m 28 p 115) 18 p (m 41 0)) 21 p (m 41 0)) := by unfold fScans0; simp [up_key, eq_true c30_1, c39_2, Int32.not_le.mp c39_2]
      rw [← e9] at hM
      obtain ⟨M0, hM0⟩ : ∃ z, z = fScans0 m p := ⟨_, rfl⟩
      replace hM : RM h o ad M0 := by rw [hM0]; exact hM
      have hwM0 : WFa M0 := by rw [hM0]; exact hw.scans0 p
      have grM0 : Gr 0 m M0 := by rw [hM0]; exact Gr.scans0 m p
      obtain ⟨gnM0, glM0, ghM0, gcM0, gsM0, gaM0, gbM0⟩ := id grM0
      have geM0 : uC M0 = uC (fScans0 m p) ∧ uS M0 = uS (fScans0 m p) := by rw [hM0]; exact ⟨rfl, rfl⟩
      refine k_v hH (k_runV (rest := []) C0 hH (cM_plans l G A _ o ad M0 hM p hwM0 (by omega)) mv_X11_plans ml_X11_181 ci_15 hM.1 rfl ⟨by decide, by decide⟩ hl.1 rfl (Nat.le_of_ble_eq_true rfl) dX11_scans_54 (by simp)) (fun h H locs hp hH => ?_)
      have hM := hp
      have eM : fScans m p = (fPlans M0 p) := by rw [hM0]; rfl
      exact e_V C0 hr hH (by rw [eM]; exact hM) (Nat.le_refl _) (Nat.le_refl _) dX11_scans_57
set_option maxHeartbeats 4000000 in
set_option maxRecDepth 100000 in
theorem cM_turns (l : Launch) (G : GT) (A : Nat → Prop) (h : AH) (o : Nat) (ad : Nat → Nat) (m : MM) (hM : RM h o ad m) (p : Nat) (hw : WFa m) (hp : p < npN m) (hU : logN m + 1 ≤ 2 ^ 21) : cmV l G A yX11_turns cX11_turns 2 13 330 (uC (fTurns m p) - uC m) (uS (fTurns m p) - uS m) [.ref (o), .int (nI p)] h (fun h' => ∃ ad', RM h' o ad' (fTurns m p)) := by
  refine cm_of "RoutepostModel" rfl (by decide) (Nat.le_of_ble_eq_true rfl) ?_
  intro pr e s m9 below meth c C0 hr hname hH ls hl
  obtain ⟨hx, hb, hml, hown, hts, hK, hA, -⟩ := id C0
  have hl : lv_has ls 2 [(0, .ref (o)), (1, .int (nI p))] := hl
  have hnp := hw.np
  refine lv_aload_n hx hb dX11_turns_0 rfl (lv_at hl 0 rfl) ?_
  refine m_arr C0 hH hM 29 (by decide) fl_X11_99 dX11_turns_1 ?_
  refine lv_iload_n hx hb dX11_turns_4 rfl (lv_at hl 1 rfl) ?_
  refine lv_iconst (v := 1) hx hb dX11_turns_5 (by decide) ?_
  refine m_stZ C0 hH hM 29 (by decide) rfl (n := 40) rfl (ix := p) (nI_clamp (by omega)) (by first | assumption | exact vp_in_nI (by omega) (by omega)) (by decide) dX11_turns_6 (fun h H locs hH hM => ?_)
  refine lv_aload_n hx hb dX11_turns_7 rfl (lv_at hl 0 rfl) ?_
  refine m_arr C0 hH hM 14 (by decide) fl_X11_53 dX11_turns_8 ?_
  refine lv_iload_n hx hb dX11_turns_11 rfl (lv_at hl 1 rfl) ?_
  refine lv_aload_n hx hb dX11_turns_12 rfl (lv_at hl 0 rfl) ?_
  refine m_arr C0 hH hM 13 (by decide) fl_X11_50 dX11_turns_13 ?_
  refine lv_iload_n hx hb dX11_turns_16 rfl (lv_at hl 1 rfl) ?_
  refine m_ldI C0 hH hM 13 (by decide) rfl (n := 40) rfl (ix := p) (nI_clamp (by omega)) (by first | assumption | exact vp_in_nI (by omega) (by omega)) (v := m 13 p) rfl dX11_turns_17 ?_
  refine m_stI C0 hH hM 14 (by decide) rfl (n := 40) rfl (ix := p) (nI_clamp (by omega)) (by first | assumption | exact vp_in_nI (by omega) (by omega)) dX11_turns_18 (fun h H locs hH hM => ?_)
  refine lv_aload_n hx hb dX11_turns_19 rfl (lv_at hl 0 rfl) ?_
  refine m_arr C0 hH hM 23 (by decide) fl_X11_80 dX11_turns_20 ?_
  refine lv_iload_n hx hb dX11_turns_23 rfl (lv_at hl 1 rfl) ?_
  refine lv_iconst (v := 0) hx hb dX11_turns_24 (by decide) ?_
  refine m_stI C0 hH hM 23 (by decide) rfl (n := 40) rfl (ix := p) (nI_clamp (by omega)) (by first | assumption | exact vp_in_nI (by omega) (by omega)) dX11_turns_25 (fun h H locs hH hM => ?_)
  refine lv_aload_n hx hb dX11_turns_26 rfl (lv_at hl 0 rfl) ?_
  refine m_arr C0 hH hM 18 (by decide) fl_X11_65 dX11_turns_27 ?_
  refine lv_iload_n hx hb dX11_turns_30 rfl (lv_at hl 1 rfl) ?_
  refine lv_aload_n hx hb dX11_turns_31 rfl (lv_at hl 0 rfl) ?_
  refine m_int C0 hH hM 41 (by decide) (by decide) fl_X11_150 (v := m 41 0) rfl dX11_turns_32 ?_
  refine m_stI C0 hH hM 18 (by decide) rfl (n := 40) rfl (ix := p) (nI_clamp (by omega)) (by first | assumption | exact vp_in_nI (by omega) (by omega)) dX11_turns_35 (fun h H locs hH hM => ?_)
  refine lv_aload_n hx hb dX11_turns_36 rfl (lv_at hl 0 rfl) ?_
  refine lv_iload_n hx hb dX11_turns_37 rfl (lv_at hl 1 rfl) ?_
  obtain ⟨M0, hM0⟩ : ∃ z, z = fTurns0 m p := ⟨_, rfl⟩
  replace hM : RM h o ad M0 := by rw [hM0]; exact hM
  have hwM0 : WFa M0 := by rw [hM0]; exact hw.turns0 hp
  have grM0 : Gr 0 m M0 := by rw [hM0]; exact Gr.turns0 m p
  obtain ⟨gnM0, glM0, ghM0, gcM0, gsM0, gaM0, gbM0⟩ := id grM0
  have geM0 : uC M0 = uC (fTurns0 m p) ∧ uS M0 = uS (fTurns0 m p) := by rw [hM0]; exact ⟨rfl, rfl⟩
  refine k_v hH (k_runV (rest := []) C0 hH (cM_promises l G A _ o ad M0 hM p hwM0 (by omega)) mv_X11_promises ml_X11_185 ci_15 hM.1 rfl ⟨Nat.le_of_ble_eq_true rfl, Nat.le_of_ble_eq_true rfl⟩ hl.1 rfl (Nat.le_of_ble_eq_true rfl) dX11_turns_38 ⟨by show _ ≤ uC (fTurns m p) - uC m; omega, by show _ ≤ uS (fTurns m p) - uS m; omega⟩) (fun h H locs hp hH => ?_)
  have hM := hp
  refine lv_aload_n hx hb dX11_turns_41 rfl (lv_at hl 0 rfl) ?_
  refine lv_iload_n hx hb dX11_turns_42 rfl (lv_at hl 1 rfl) ?_
  refine lv_bipush (v := 114) hx hb dX11_turns_43 (by decide) ?_
  refine lv_iconst (v := (-1)) hx hb dX11_turns_45 (by decide) ?_
  obtain ⟨M1, hM1⟩ : ∃ z, z = fProm M0 p := ⟨_, rfl⟩
  replace hM : RM h o ad M1 := by rw [hM1]; exact hM
  have hwM1 : WFa M1 := by rw [hM1]; exact hwM0.prom p
  have grM1 : Gr 0 M0 M1 := by rw [hM1]; exact Gr.prom M0 p
  obtain ⟨gnM1, glM1, ghM1, gcM1, gsM1, gaM1, gbM1⟩ := id grM1
  have geM1 : uC M1 = uC (fProm M0 p) ∧ uS M1 = uS (fProm M0 p) := by rw [hM1]; exact ⟨rfl, rfl⟩
  have hF : fTurns m p = fHap M1 p 114 (-1) := by rw [hM1, hM0]; rfl
  have hg9 := Gr.hap hwM1 p 114 (-1)
  obtain ⟨-, -, -, hg1, hg2, -, -⟩ := id hg9
  rw [← hF] at hg1 hg2
  have hF1 : uC (fHap M1 p 114 (-1)) = uC (fTurns m p) ∧ uS (fHap M1 p 114 (-1)) = uS (fTurns m p) := by rw [hF]; exact ⟨rfl, rfl⟩
  refine k_v hH (k_runV (rest := []) C0 hH (cM_happens l G A _ o ad M1 hM p 114 (-1) hwM1 (by omega) (by omega)) mv_X11_happens ml_X11_188 ci_15 hM.1 rfl ⟨Nat.le_of_ble_eq_true rfl, Nat.le_of_ble_eq_true rfl⟩ hl.1 rfl (Nat.le_of_ble_eq_true rfl) dX11_turns_46 ⟨by show _ ≤ uC (fTurns m p) - uC m; omega, by show _ ≤ uS (fTurns m p) - uS m; omega⟩) (fun h H locs hp hH => ?_)
  obtain ⟨ad, hM⟩ := hp
  have eM : fTurns m p = (fHap M1 p 114 (-1)) := hF
  exact e_V C0 hr hH ⟨_, by rw [eM]; exact hM⟩ (by omega) (by omega) dX11_turns_49
