set_option maxHeartbeats 4000000 in
set_option maxRecDepth 100000 in
theorem cM_recall (l : Launch) (G : GT) (A : Nat → Prop) (h : AH) (o : Nat) (ad : Nat → Nat) (m : MM) (hM : RM h o ad m) (x : Int32) (hw : WFa m) (hU : logN m + 1 ≤ 2 ^ 21) : cmI l G A yX11_recall cX11_recall 2 (Option.some FieldType.int) 14 351 (uC ((fRec m x).2) - uC m) (uS ((fRec m x).2) - uS m) [.ref (o), .int (x)] h (fun r h' => r = (fRec m x).1 ∧ ∃ ad', RM h' o ad' ((fRec m x).2)) := by
  refine cm_of "RoutepostModel" rfl (by decide) (Nat.le_of_ble_eq_true rfl) ?_
  intro pr e s m9 below meth c C0 hr hname hH ls hl
  obtain ⟨hx, hb, hml, hown, hts, hK, hA, -⟩ := id C0
  have hl : lv_has ls 2 [(0, .ref (o)), (1, .int (x))] := hl
  have hnp := hw.np
  refine lv_aload_n hx hb dX11_recall_0 rfl (lv_at hl 0 rfl) ?_
  refine lv_iload_n hx hb dX11_recall_1 rfl (lv_at hl 1 rfl) ?_
  refine k_i hH (k_runV (rest := []) C0 hH (cM_isNone l G A _ o ad m hM x) mv_X11_isNone ml_X11_216 ci_15 hM.1 rfl ⟨Nat.le_of_ble_eq_true rfl, Nat.le_of_ble_eq_true rfl⟩ hl.1 rfl (Nat.le_of_ble_eq_true rfl) dX11_recall_2 ⟨by show _ ≤ uC ((fRec m x).2) - uC m; omega, by show _ ≤ uS ((fRec m x).2) - uS m; omega⟩) (fun r_1 h H locs hp hH => ?_)
  obtain ⟨er_1, hM⟩ := hp
  subst er_1
  refine lv_if_ne (tgt := 41) hx hb dX11_recall_5 (by decide) (fun c5_2 => ?_) (fun c5_2 => ?_)
  · replace c5_2 := bi_n0.mp c5_2
    refine lv_iconst (v := 0) hx hb dX11_recall_41 (by decide) ?_
    have eR : 0 = (fRec m x).1 := by simp [fRec, bi, thr, fNone, fNoLine, c5_2]
    have eM : (fRec m x).2 = (up m 45 0 (if (bi (¬ isPa m x)) = 0 then 0 else 1)) := by simp [fRec, bi, thr, fNone, fNoLine, c5_2]
    exact e_I C0 hr hH ⟨eR, _, by rw [eM]; exact hM⟩ (by omega) (by omega) dX11_recall_42
  · replace c5_2 := bi_0.mp c5_2
    replace c5_2 := Classical.not_not.mp c5_2
    obtain ⟨p, hp, rfl⟩ := vp_in_of (hw.isPa.mp c5_2) (by omega)
    have hcl : (nI p).toNatClampNeg = p := nI_clamp (by omega)
    refine lv_aload_n hx hb dX11_recall_8 rfl (lv_at hl 0 rfl) ?_
    refine lv_aload_n hx hb dX11_recall_9 rfl (lv_at hl 0 rfl) ?_
    refine m_arr C0 hH hM 29 (by decide) fl_X11_99 dX11_recall_10 ?_
    refine lv_iload_n hx hb dX11_recall_13 rfl (lv_at hl 1 rfl) ?_
    refine m_ldZ C0 hH hM 29 (by decide) rfl (n := 40) rfl (ix := p) (nI_clamp (by omega)) (by first | assumption | exact vp_in_nI (by omega) (by omega)) (v := m 29 p) rfl dX11_recall_14 ?_
    refine lv_if_ne (tgt := 29) hx hb dX11_recall_15 (by decide) (fun c15_3 => ?_) (fun c15_3 => ?_)
    · refine lv_iconst (v := 1) hx hb dX11_recall_29 (by decide) ?_
      refine lv_goto (tgt := 34) hx hb dX11_recall_30 (by decide) ?_
      refine lv_iconst (v := 2) hx hb dX11_recall_34 (by decide) ?_
      refine k_i hH (k_runV (rest := []) C0 hH (cM_isThrown l G A _ o ad (up m 45 0 (if (bi (¬ isPa m (nI p))) = 0 then 0 else 1)) hM 1 2 rfl) mv_X11_isThrown ml_X11_140 ci_15 hM.1 rfl ⟨Nat.le_of_ble_eq_true rfl, Nat.le_of_ble_eq_true rfl⟩ hl.1 rfl (Nat.le_of_ble_eq_true rfl) dX11_recall_35 ⟨by show _ ≤ uC ((fRec m (nI p)).2) - uC m; omega, by show _ ≤ uS ((fRec m (nI p)).2) - uS m; omega⟩) (fun r_4 h H locs hp hH => ?_)
      obtain ⟨er_4, hM⟩ := hp
      subst er_4
      refine lv_if_eq (tgt := 43) hx hb dX11_recall_38 (by decide) (fun c38_5 => ?_) (fun c38_5 => ?_)
      · exact absurd c38_5 (by decide)
      · refine lv_iconst (v := 0) hx hb dX11_recall_41 (by decide) ?_
        have eR : 0 = (fRec m (nI p)).1 := by simp [fRec, bi, thr, fNone, fNoLine, hcl, c5_2, eq_false c15_3]
        have eM : (fRec m (nI p)).2 = (up (up m 45 0 (if (bi (¬ isPa m (nI p))) = 0 then 0 else 1)) 45 0 (if 1 = 0 then 0 else 2)) := by simp [fRec, bi, thr, fNone, fNoLine, hcl, c5_2, eq_false c15_3]
        exact e_I C0 hr hH ⟨eR, _, by rw [eM]; exact hM⟩ (by omega) (by omega) dX11_recall_42
    · refine lv_aload_n hx hb dX11_recall_18 rfl (lv_at hl 0 rfl) ?_
      refine m_arr C0 hH hM 28 (by decide) fl_X11_95 dX11_recall_19 ?_
      refine lv_iload_n hx hb dX11_recall_22 rfl (lv_at hl 1 rfl) ?_
      refine m_ldC C0 hH hM 28 (by decide) rfl (n := 40) rfl (ix := p) (nI_clamp (by omega)) (by first | assumption | exact vp_in_nI (by omega) (by omega)) (v := m 28 p) rfl dX11_recall_23 ?_
      refine lv_bipush (v := 115) hx hb dX11_recall_24 (by decide) ?_
      refine lv_icmp_eq (tgt := 33) hx hb dX11_recall_26 (by decide) (fun c26_6 => ?_) (fun c26_6 => ?_)
      · refine lv_iconst (v := 0) hx hb dX11_recall_33 (by decide) ?_
        refine lv_iconst (v := 2) hx hb dX11_recall_34 (by decide) ?_
        refine k_i hH (k_runV (rest := []) C0 hH (cM_isThrown l G A _ o ad (up m 45 0 (if (bi (¬ isPa m (nI p))) = 0 then 0 else 1)) hM 0 2 rfl) mv_X11_isThrown ml_X11_140 ci_15 hM.1 rfl ⟨Nat.le_of_ble_eq_true rfl, Nat.le_of_ble_eq_true rfl⟩ hl.1 rfl (Nat.le_of_ble_eq_true rfl) dX11_recall_35 ⟨by show _ ≤ uC ((fRec m (nI p)).2) - uC m; omega, by show _ ≤ uS ((fRec m (nI p)).2) - uS m; omega⟩) (fun r_7 h H locs hp hH => ?_)
        obtain ⟨er_7, hM⟩ := hp
        subst er_7
        refine lv_if_eq (tgt := 43) hx hb dX11_recall_38 (by decide) (fun c38_8 => ?_) (fun c38_8 => ?_)
        · refine lv_aload_n hx hb dX11_recall_43 rfl (lv_at hl 0 rfl) ?_
          refine lv_iload_n hx hb dX11_recall_44 rfl (lv_at hl 1 rfl) ?_
          obtain ⟨M0, hM0⟩ : ∃ z, z = (up (up m 45 0 (if (bi (¬ isPa m (nI p))) = 0 then 0 else 1)) 45 0 (if 0 = 0 then 0 else 2)) := ⟨_, rfl⟩
          replace hM : RM h o ad M0 := by rw [hM0]; exact hM
          have hwM0 : WFa M0 := by rw [hM0]; exact (WFa.upx (WFa.upx hw (by unfold kWF; omega)) (by unfold kWF; omega))
          have grM0 : Gr 0 m M0 := by rw [hM0]; exact (((((Gr.refl 0 m)).trans (Gr.up (by omega)))).trans (Gr.up (by omega)))
          obtain ⟨gnM0, glM0, ghM0, gcM0, gsM0, gaM0, gbM0⟩ := id grM0
          have geM0 : uC M0 = uC (up (up m 45 0 (if (bi (¬ isPa m (nI p))) = 0 then 0 else 1)) 45 0 (if 0 = 0 then 0 else 2)) ∧ uS M0 = uS (up (up m 45 0 (if (bi (¬ isPa m (nI p))) = 0 then 0 else 1)) 45 0 (if 0 = 0 then 0 else 2)) := by rw [hM0]; exact ⟨rfl, rfl⟩
          have hQ : fRec m (nI p) = (fTurns M0 p 20 p, fTurns M0 p) := by rw [hM0]; simp [fRec, bi, thr, fNone, hcl, hcl, c5_2, eq_true c15_3, eq_true c26_6]
          have hF : (fRec m (nI p)).2 = (fTurns M0 p) := by rw [hQ]
          obtain ⟨-, -, -, hg1, hg2, -, -⟩ := id (Gr.turns hwM0 (show p < npN M0 by omega))
          have hF1 : uC (fTurns M0 p) = uC ((fRec m (nI p)).2) ∧ uS (fTurns M0 p) = uS ((fRec m (nI p)).2) := by rw [hF]; exact ⟨rfl, rfl⟩
          refine k_v hH (k_runV (rest := []) C0 hH (cM_turns l G A _ o ad M0 hM p hwM0 (by omega) (by omega)) mv_X11_turns ml_X11_219 ci_15 hM.1 rfl ⟨Nat.le_of_ble_eq_true rfl, Nat.le_of_ble_eq_true rfl⟩ hl.1 rfl (Nat.le_of_ble_eq_true rfl) dX11_recall_45 ⟨by show _ ≤ uC ((fRec m (nI p)).2) - uC m; omega, by show _ ≤ uS ((fRec m (nI p)).2) - uS m; omega⟩) (fun h H locs hp hH => ?_)
          obtain ⟨ad, hM⟩ := hp
          refine lv_aload_n hx hb dX11_recall_48 rfl (lv_at hl 0 rfl) ?_
          refine m_arr C0 hH hM 20 (by decide) fl_X11_71 dX11_recall_49 ?_
          refine lv_iload_n hx hb dX11_recall_52 rfl (lv_at hl 1 rfl) ?_
          refine m_ldI C0 hH hM 20 (by decide) rfl (n := 40) rfl (ix := p) (nI_clamp (by omega)) (by first | assumption | exact vp_in_nI (by omega) (by omega)) (v := (fTurns M0 p) 20 p) rfl dX11_recall_53 ?_
          have eR : (fTurns M0 p) 20 p = (fRec m (nI p)).1 := by rw [hQ]
          have eM : (fRec m (nI p)).2 = (fTurns M0 p) := hF
          exact e_I C0 hr hH ⟨eR, _, by rw [eM]; exact hM⟩ (by omega) (by omega) dX11_recall_54
        · exact absurd (by decide) c38_8
      · refine lv_iconst (v := 1) hx hb dX11_recall_29 (by decide) ?_
        refine lv_goto (tgt := 34) hx hb dX11_recall_30 (by decide) ?_
        refine lv_iconst (v := 2) hx hb dX11_recall_34 (by decide) ?_
        refine k_i hH (k_runV (rest := []) C0 hH (cM_isThrown l G A _ o ad (up m 45 0 (if (bi (¬ isPa m (nI p))) = 0 then 0 else 1)) hM 1 2 rfl) mv_X11_isThrown ml_X11_140 ci_15 hM.1 rfl ⟨Nat.le_of_ble_eq_true rfl, Nat.le_of_ble_eq_true rfl⟩ hl.1 rfl (Nat.le_of_ble_eq_true rfl) dX11_recall_35 ⟨by show _ ≤ uC ((fRec m (nI p)).2) - uC m; omega, by show _ ≤ uS ((fRec m (nI p)).2) - uS m; omega⟩) (fun r_9 h H locs hp hH => ?_)
        obtain ⟨er_9, hM⟩ := hp
        subst er_9
        refine lv_if_eq (tgt := 43) hx hb dX11_recall_38 (by decide) (fun c38_10 => ?_) (fun c38_10 => ?_)
        · exact absurd c38_10 (by decide)
        · refine lv_iconst (v := 0) hx hb dX11_recall_41 (by decide) ?_
          have eR : 0 = (fRec m (nI p)).1 := by simp [fRec, bi, thr, fNone, fNoLine, hcl, c5_2, eq_true c15_3, eq_false c26_6]
          have eM : (fRec m (nI p)).2 = (up (up m 45 0 (if (bi (¬ isPa m (nI p))) = 0 then 0 else 1)) 45 0 (if 1 = 0 then 0 else 2)) := by simp [fRec, bi, thr, fNone, fNoLine, hcl, c5_2, eq_true c15_3, eq_false c26_6]
          exact e_I C0 hr hH ⟨eR, _, by rw [eM]; exact hM⟩ (by omega) (by omega) dX11_recall_42
