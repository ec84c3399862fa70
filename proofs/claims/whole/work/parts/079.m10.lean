set_option maxHeartbeats 4000000 in
set_option maxRecDepth 100000 in
theorem cM_recall (l : Launch) (G : GT) (A : Nat → Prop) (h : AH) (o : Nat) (ad : Nat → Nat) (m : MM) (hM : RM h o ad m) (x : Int32) (hw : WFa m) (hU : logN m + 1 ≤ 2 ^ 21) : cmI l G A yX11_recall cX11_recall 2 (Option.some FieldType.int) 14 351 (uC ((fRec m x).2) - uC m) (uS ((fRec m x).2) - uS m) [.ref (o), .int (x)] h (fun r h' => r = (fRec m x).1 ∧ ∃ ad', RM h' o ad' ((fRec m x).2)) := by
  refine cm_of "RoutepostModel" rfl (by decide) (Nat.le_of_ble_eq_true rfl) ?_
  intro pr e s m9 below meth c C0 hr hname hH ls hl
  obtain ⟨hx, hb, hml, hown, hts, hK, hA, -⟩ := id C0
  have hl : lv_has ls 2 [(0, .ref (o)), (1, .int (x))] := hl
  have hnp := hw.np
  refine lv_aload_n hx hb dX11_recall_0 rfl (lv_at hl 0 rfl) ?_
  refine lv_iload_n hx hb dX11_recall_1 rfl (lv_at hl 1 rfl) ?_
  refine k_i hH (k_runV (rest := []) C0 hH (cM_isNone l G A _ o ad m hM x) mv_X11_isNone ml_X11_216 ci_15 hM.1 rfl ⟨Nat.le_of_ble_eq_true rfl, Nat.le_of_ble_eq_true rfl⟩ hl.1 rfl (Nat.le_of_ble_eq_true rfl) dX11_recall_2 ⟨by show _ ≤ uC ((fRec m x).2) - uC m; omega, by show _ ≤ uS ((fRec m x).2) - uS m; omega⟩) (fun r_1 h H locs hp hH => ?_)
  obtain ⟨er_1, hM⟩ := hp
  subst er_1
  refine lv_if_ne (tgt := 41) hx hb dX11_recall_5 (by decide) (fun c5_2 => ?_) (fun c5_2 => ?_)
  · replace c5_2 := bi_n0.mp c5_2
    refine lv_iconst (v := 0) hx hb dX11_recall_41 (by decide) ?_
    have eR : 0 = (fRec m x).1 := by simp [fRec, bi, thr, fNone, fNoLine, c5_2]
    have eM : (fRec m x).2 = (up m 45 0 (if (bi (¬ isPa m x)) = 0 then 0 else 1)) := by simp [fRec, bi, thr, fNone, fNoLine, c5_2]
    exact e_I C0 hr hH ⟨eR, _, by rw [eM]; exact hM⟩ (by omega) (by omega) dX11_recall_42
  · replace c5_2 := bi_0.mp c5_2
    replace c5_2 := Classical.not_not.mp c5_2
    obtain ⟨p, hp, rfl⟩ := vp_in_of (hw.isPa.mp c5_2) (by omega)
    have hcl : (nI p).toNatClampNeg = p := nI_clamp (by omega)
    refine lv_aload_n hx hb dX11_recall_8 rfl (lv_at hl 0 rfl) ?_
    refine lv_aload_n hx hb dX11_recall_9 rfl (lv_at hl 0 rfl) ?_
    refine m_arr C0 hH hM 29 (by decide) fl_X11_99 dX11_recall_10 ?_
    refine lv_iload_n hx hb dX11_recall_13 rfl (lv_at hl 1 rfl) ?_
    refine m_ldZ C0 hH hM 29 (by decide) rfl (n := 40) rfl (ix := p) (nI_clamp (by omega)) (by first | assumption | exact vp_in_nI (by omega) (by omega)) (v := m 29 p) rfl dX11_recall_14 ?_
    refine lv_if_ne (tgt := 29) hx hb dX11_recall_15 (by decide) (fun c15_3 => ?_) (fun c15_3 => ?_)
    · refine lv_iconst (v := 1) hx hb dX11_recall_29 (by decide) ?_
      refine lv_goto (tgt := 34) hx hb dX11_recall_30 (by decide) ?_
      refine lv_iconst (v := 2) hx hb dX11_recall_34 (by decide) ?_
      refine k_i hH (k_runV (rest := []) C0 hH (cM_isThrown l G A _ o ad (up m 45 0 (if (bi (¬ isPa m (nI p))) = 0 then 0 else 1)) hM 1 2 rfl) mv_X11_isThrown ml_X11_140 ci_15 hM.1 rfl ⟨Nat.le_of_ble_eq_true rfl, Nat.le_of_ble_eq_true rfl⟩ hl.1 rfl (Nat.le_of_ble_eq_true rfl) dX11_recall_35 ⟨by show _ ≤ uC ((fRec m (nI p)).2) - uC m; omega, by show _ ≤ uS ((fRec m (nI p)).2) - uS m; omega⟩) (fun r_4 h H locs hp hH => ?_)
      obtain ⟨er_4, hM⟩ := hp
      subst er_4
      refine lv_if_eq (tgt := 43) hx hb dX11_recall_38 (by decide) (fun c38_5 => ?_) (fun c38_5 => ?_)
      · exact absurd c38_5 (by decide)
      · refine lv_iconst (v := 0) hx hb dX11_recall_41 (by decide) ?_
        have eR : 0 = (fRec m (nI p)).1 := by simp [fRec, bi, thr, fNone, fNoLine, hcl, c5_2, eq_false c15_3]
        have eM : (fRec m (nI p)).2 = (up (up m 45 0 (if (bi (¬ isPa m (nI p))) = 0 then 0 else 1)) 45 0 (if 1 = 0 then 0 else 2)) := by simp [fRec, bi, thr, fNone, fNoLine, hcl, c5_2, eq_false c15_3]
        exact e_I C0 hr hH ⟨eR, _, by rw [eM]; exact hM⟩ (by omega) (by omega) dX11_recall_42
    · refine lv_aload_n hx hb dX11_recall_18 rfl (lv_at hl 0 rfl) ?_
      refine m_arr C0 hH hM 28 (by decide) fl_X11_95 dX11_recall_19 ?_
      refine lv_iload_n hx hb dX11_recall_22 rfl (lv_at hl 1 rfl) ?_
      refine m_ldC C0 hH hM 28 (by decide) rfl (n := 40) rfl (ix := p) (nI_clamp (by omega)) (by first | assumption | exact vp_in_nI (by omega) (by omega)) (v := m 28 p) rfl dX11_recall_23 ?_
      refine lv_bipush (v := 115) hx hb dX11_recall_24 (by decide) ?_
      refine lv_icmp_eq (tgt := 33) hx hb dX11_recall_26 (by decide) (fun c26_6 => ?_) (fun c26_6 => ?_)
      · refine lv_iconst (v := 0) hx hb dX11_recall_33 (by decide) ?_
        refine lv_iconst (v := 2) hx hb dX11_recall_34 (by decide) ?_
        refine k_i hH (k_runV (rest := []) C0 hH (cM_isThrown l G A _ o ad (up m 45 0 (if (bi (¬ isPa m (nI p))) = 0 then 0 else 1)) hM 0 2 rfl) mv_X11_isThrown ml_X11_140 ci_15 hM.1 rfl ⟨Nat.le_of_ble_eq_true rfl, Nat.le_of_ble_eq_true rfl⟩ hl.1 rfl (Nat.le_of_ble_eq_true rfl) dX11_recall_35 ⟨by show _ ≤ uC ((fRec m (nI p)).2) - uC m; omega, by show _ ≤ uS ((fRec m (nI p)).2) - uS m; omega⟩) (fun r_7 h H locs hp hH => ?_)
        obtain ⟨er_7, hM⟩ := hp
        subst er_7
        refine lv_if_eq (tgt := 43) hx hb dX11_recall_38 (by decide) (fun c38_8 => ?_) (fun c38_8 => ?_)
        · refine lv_aload_n hx hb dX11_recall_43 rfl (lv_at hl 0 rfl) ?_
          refine lv_iload_n hx hb dX11_recall_44 rfl (lv_at hl 1 rfl) ?_
          obtain ⟨M0, hM0⟩ : ∃ z, z = (up (up m 45 0 (if (bi (¬ isPa m (nI p))) = 0 then 0 else 1)) 45 0 (if 0 = 0 then 0 else 2)) := ⟨_, rfl⟩
          replace hM : RM h o ad M0 := by rw [hM0]; exact hM
          have hwM0 : WFa M0 := by rw [hM0]; exact (WFa.upx (WFa.upx hw (by unfold kWF; omega)) (by unfold kWF; omega))
          have grM0 : Gr 0 m M0 := by rw [hM0]; exact (((((Gr.refl 0 m)).trans (Gr.up (by omega)))).trans (Gr.up (by omega)))
          obtain ⟨gnM0, glM0, ghM0, gcM0, gsM0, gaM0, gbM0⟩ := id grM0
          have geM0 : uC M0 = uC (up (up m 45 0 (if (bi (¬ isPa m (nI p))) = 0 then 0 else 1)) 45 0 (if 0 = 0 then 0 else 2)) ∧ uS M0 = uS (up (up m 45 0 (if (bi (¬ isPa m (nI p))) = 0 then 0 else 1)) 45 0 (if 0 = 0 then 0 else 2)) := by rw [hM0]; exact ⟨rfl, rfl⟩
          have hQ : fRec m (nI p) = (fTurns M0 p 20 p, fTurns M0 p) := by rw [hM0]; simp [fRec, bi, thr, fNone, hcl, hcl, c5_2, eq_true c15_3, eq_true c26_6]
          have hF : (fRec m (nI p)).2 = (fTurns M0 p) := by rw [hQ]
          obtain ⟨-, -, -, hg1, hg2, -, -⟩ := id (Gr.turns hwM0 (show p < npN M0 by omega))
          have hF1 : uC (fTurns M0 p) = uC ((fRec m (nI p)).2) ∧ uS (fTurns M0 p) = uS ((fRec m (nI p)).2) := by rw [hF]; exact ⟨rfl, rfl⟩
          refine k_v hH (k_runV (rest := []) C0 hH (cM_turns l G A _ o ad M0 hM p hwM0 (by omega) (by omega)) mv_X11_turns ml_X11_219 ci_15 hM.1 rfl ⟨Nat.le_of_ble_eq_true rfl, Nat.le_of_ble_eq_true rfl⟩ hl.1 rfl (Nat.le_of_ble_eq_true rfl) dX11_recall_45 ⟨by show _ ≤ uC ((fRec m (nI p)).2) - uC m; omega, by show _ ≤ uS ((fRec m (nI p)).2) - uS m; omega⟩) (fun h H locs hp hH => ?_)
          obtain ⟨ad, hM⟩ := hp
          refine lv_aload_n hx hb dX11_recall_48 rfl (lv_at hl 0 rfl) ?_
          refine m_arr C0 hH hM 20 (by decide) fl_X11_71 dX11_recall_49 ?_
          refine lv_iload_n hx hb dX11_recall_52 rfl (lv_at hl 1 rfl) ?_
          refine m_ldI C0 hH hM 20 (by decide) rfl (n := 40) rfl (ix := p) (nI_clamp (by omega)) (by first | assumption | exact vp_in_nI (by omega) (by omega)) (v := (fTurns M0 p) 20 p) rfl dX11_recall_53 ?_
          have eR : (fTurns M0 p) 20 p = (fRec m (nI p)).1 := by rw [hQ]
          have eM : (fRec m (nI p)).2 = (fTurns M0 p) := hF
          exact e_I C0 hr hH ⟨eR, _, by rw [eM]; exact hM⟩ (by omega) (by omega) dX11_recall_54
        · exact absurd (by decide) c38_8
      · refine lv_iconst (v := 1) hx hb dX11_recall_29 (by decide) ?_
        refine lv_goto (tgt := 34) hx hb dX11_recall_30 (by decide) ?_
        refine lv_iconst (v := 2) hx hb dX11_recall_34 (by decide) ?_
        refine k_i hH (k_runV (rest := []) C0 hH (cM_isThrown l G A _ o ad (up m 45 0 (if (bi (¬ isPa m (nI p))) = 0 then 0 else 1)) hM 1 2 rfl) mv_X11_isThrown ml_X11_140 ci_15 hM.1 rfl ⟨Nat.le_of_ble_eq_true rfl, Nat.le_of_ble_eq_true rfl⟩ hl.1 rfl (Nat.le_of_ble_eq_true rfl) dX11_recall_35 ⟨by show _ ≤ uC ((fRec m (nI p)).2) - uC m; omega, by show _ ≤ uS ((fRec m (nI p)).2) - uS m; omega⟩) (fun r_9 h H locs hp hH => ?_)
        obtain ⟨er_9, hM⟩ := hp
        subst er_9
        refine lv_if_eq (tgt := 43) hx hb dX11_recall_38 (by decide) (fun c38_10 => ?_) (fun c38_10 => ?_)
        · exact absurd c38_10 (by decide)
        · refine lv_iconst (v := 0) hx hb dX11_recall_41 (by decide) ?_
          have eR : 0 = (fRec m (nI p)).1 := by simp [fRec, bi, thr, fNone, fNoLine, hcl, c5_2, eq_true c15_3, eq_false c26_6]
          have eM : (fRec m (nI p)).2 = (up (up m 45 0 (if (bi (¬ isPa m (nI p))) = 0 then 0 else 1)) 45 0 (if 1 = 0 then 0 else 2)) := by simp [fRec, bi, thr, fNone, fNoLine, hcl, c5_2, eq_true c15_3, eq_false c26_6]
          exact e_I C0 hr hH ⟨eR, _, by rw [eM]; exact hM⟩ (by omega) (by omega) dX11_recall_42
set_option maxHeartbeats 4000000 in
set_option maxRecDepth 100000 in
theorem cM_deliver (l : Launch) (G : GT) (A : Nat → Prop) (h : AH) (o : Nat) (ad : Nat → Nat) (m : MM) (hM : RM h o ad m) (x t : Int32) (hw : WFa m) (hU : logN m + 2 ≤ 2 ^ 21) : cmI l G A yX11_deliver cX11_deliver 3 (Option.some FieldType.char) 14 351 (uC ((fDel m x t).2) - uC m) (uS ((fDel m x t).2) - uS m) [.ref (o), .int (x), .int (t)] h (fun r h' => r = (fDel m x t).1 ∧ ∃ ad', RM h' o ad' ((fDel m x t).2)) := by
  refine cm_of "RoutepostModel" rfl (by decide) (Nat.le_of_ble_eq_true rfl) ?_
  intro pr e s m9 below meth c C0 hr hname hH ls hl
  obtain ⟨hx, hb, hml, hown, hts, hK, hA, -⟩ := id C0
  have hl : lv_has ls 3 [(0, .ref (o)), (1, .int (x)), (2, .int (t))] := hl
  have hnp := hw.np
  refine lv_aload_n hx hb dX11_deliver_0 rfl (lv_at hl 0 rfl) ?_
  refine lv_iload_n hx hb dX11_deliver_1 rfl (lv_at hl 1 rfl) ?_
  refine k_i hH (k_runV (rest := []) C0 hH (cM_isNone l G A _ o ad m hM x) mv_X11_isNone ml_X11_216 ci_15 hM.1 rfl ⟨Nat.le_of_ble_eq_true rfl, Nat.le_of_ble_eq_true rfl⟩ hl.1 rfl (Nat.le_of_ble_eq_true rfl) dX11_deliver_2 ⟨by show _ ≤ uC ((fDel m x t).2) - uC m; omega, by show _ ≤ uS ((fDel m x t).2) - uS m; omega⟩) (fun r_1 h H locs hp hH => ?_)
  obtain ⟨er_1, hM⟩ := hp
  subst er_1
  refine lv_if_ne (tgt := 47) hx hb dX11_deliver_5 (by decide) (fun c5_2 => ?_) (fun c5_2 => ?_)
  · replace c5_2 := bi_n0.mp c5_2
    refine lv_iconst (v := 0) hx hb dX11_deliver_47 (by decide) ?_
    have eR : 0 = (fDel m x t).1 := by simp [fDel, bi, thr, fNone, fNoLine, c5_2]
    have eM : (fDel m x t).2 = (up m 45 0 (if (bi (¬ isPa m x)) = 0 then 0 else 1)) := by simp [fDel, bi, thr, fNone, fNoLine, c5_2]
    exact e_Z C0 hr (by decide) hH ⟨eR, _, by rw [eM]; exact hM⟩ (by omega) (by omega) dX11_deliver_48
  · replace c5_2 := bi_0.mp c5_2
    replace c5_2 := Classical.not_not.mp c5_2
    obtain ⟨p, hp, rfl⟩ := vp_in_of (hw.isPa.mp c5_2) (by omega)
    have hcl : (nI p).toNatClampNeg = p := nI_clamp (by omega)
    refine lv_aload_n hx hb dX11_deliver_8 rfl (lv_at hl 0 rfl) ?_
    refine lv_aload_n hx hb dX11_deliver_9 rfl (lv_at hl 0 rfl) ?_
    refine m_arr C0 hH hM 28 (by decide) fl_X11_95 dX11_deliver_10 ?_
    refine lv_iload_n hx hb dX11_deliver_13 rfl (lv_at hl 1 rfl) ?_
    refine m_ldC C0 hH hM 28 (by decide) rfl (n := 40) rfl (ix := p) (nI_clamp (by omega)) (by first | assumption | exact vp_in_nI (by omega) (by omega)) (v := m 28 p) rfl dX11_deliver_14 ?_
    refine lv_bipush (v := 115) hx hb dX11_deliver_15 (by decide) ?_
    refine lv_icmp_ne (tgt := 35) hx hb dX11_deliver_17 (by decide) (fun c17_3 => ?_) (fun c17_3 => ?_)
    · refine lv_iconst (v := 1) hx hb dX11_deliver_35 (by decide) ?_
      refine lv_goto (tgt := 40) hx hb dX11_deliver_36 (by decide) ?_
      refine lv_iconst (v := 2) hx hb dX11_deliver_40 (by decide) ?_
      refine k_i hH (k_runV (rest := []) C0 hH (cM_isThrown l G A _ o ad (up m 45 0 (if (bi (¬ isPa m (nI p))) = 0 then 0 else 1)) hM 1 2 rfl) mv_X11_isThrown ml_X11_140 ci_15 hM.1 rfl ⟨Nat.le_of_ble_eq_true rfl, Nat.le_of_ble_eq_true rfl⟩ hl.1 rfl (Nat.le_of_ble_eq_true rfl) dX11_deliver_41 ⟨by show _ ≤ uC ((fDel m (nI p) t).2) - uC m; omega, by show _ ≤ uS ((fDel m (nI p) t).2) - uS m; omega⟩) (fun r_4 h H locs hp hH => ?_)
      obtain ⟨er_4, hM⟩ := hp
      subst er_4
      refine lv_if_eq (tgt := 49) hx hb dX11_deliver_44 (by decide) (fun c44_5 => ?_) (fun c44_5 => ?_)
      · exact absurd c44_5 (by decide)
      · refine lv_iconst (v := 0) hx hb dX11_deliver_47 (by decide) ?_
        have eR : 0 = (fDel m (nI p) t).1 := by simp [fDel, bi, thr, fNone, fNoLine, hcl, c5_2, eq_false c17_3]
        have eM : (fDel m (nI p) t).2 = (up (up m 45 0 (if (bi (¬ isPa m (nI p))) = 0 then 0 else 1)) 45 0 (if 1 = 0 then 0 else 2)) := by simp [fDel, bi, thr, fNone, fNoLine, hcl, c5_2, eq_false c17_3]
        exact e_Z C0 hr (by decide) hH ⟨eR, _, by rw [eM]; exact hM⟩ (by omega) (by omega) dX11_deliver_48
    · refine lv_aload_n hx hb dX11_deliver_20 rfl (lv_at hl 0 rfl) ?_
      refine m_arr C0 hH hM 15 (by decide) fl_X11_56 dX11_deliver_21 ?_
      refine lv_iload_n hx hb dX11_deliver_24 rfl (lv_at hl 1 rfl) ?_
      refine m_ldI C0 hH hM 15 (by decide) rfl (n := 40) rfl (ix := p) (nI_clamp (by omega)) (by first | assumption | exact vp_in_nI (by omega) (by omega)) (v := m 15 p) rfl dX11_deliver_25 ?_
      refine lv_aload_n hx hb dX11_deliver_26 rfl (lv_at hl 0 rfl) ?_
      refine m_arr C0 hH hM 14 (by decide) fl_X11_53 dX11_deliver_27 ?_
      refine lv_iload_n hx hb dX11_deliver_30 rfl (lv_at hl 1 rfl) ?_
      refine m_ldI C0 hH hM 14 (by decide) rfl (n := 40) rfl (ix := p) (nI_clamp (by omega)) (by first | assumption | exact vp_in_nI (by omega) (by omega)) (v := m 14 p) rfl dX11_deliver_31 ?_
      refine lv_icmp_eq (tgt := 39) hx hb dX11_deliver_32 (by decide) (fun c32_6 => ?_) (fun c32_6 => ?_)
      · refine lv_iconst (v := 0) hx hb dX11_deliver_39 (by decide) ?_
        refine lv_iconst (v := 2) hx hb dX11_deliver_40 (by decide) ?_
        refine k_i hH (k_runV (rest := []) C0 hH (cM_isThrown l G A _ o ad (up m 45 0 (if (bi (¬ isPa m (nI p))) = 0 then 0 else 1)) hM 0 2 rfl) mv_X11_isThrown ml_X11_140 ci_15 hM.1 rfl ⟨Nat.le_of_ble_eq_true rfl, Nat.le_of_ble_eq_true rfl⟩ hl.1 rfl (Nat.le_of_ble_eq_true rfl) dX11_deliver_41 ⟨by show _ ≤ uC ((fDel m (nI p) t).2) - uC m; omega, by show _ ≤ uS ((fDel m (nI p) t).2) - uS m; omega⟩) (fun r_7 h H locs hp hH => ?_)
        obtain ⟨er_7, hM⟩ := hp
        subst er_7
        refine lv_if_eq (tgt := 49) hx hb dX11_deliver_44 (by decide) (fun c44_8 => ?_) (fun c44_8 => ?_)
        · refine lv_iload_n hx hb dX11_deliver_49 rfl (lv_at hl 2 rfl) ?_
          obtain ⟨M0, hM0⟩ : ∃ z, z = (up (up m 45 0 (if (bi (¬ isPa m (nI p))) = 0 then 0 else 1)) 45 0 (if 0 = 0 then 0 else 2)) := ⟨_, rfl⟩
          replace hM : RM h o ad M0 := by rw [hM0]; exact hM
          have hwM0 : WFa M0 := by rw [hM0]; exact (WFa.upx (WFa.upx hw (by unfold kWF; omega)) (by unfold kWF; omega))
          have grM0 : Gr 0 m M0 := by rw [hM0]; exact (((((Gr.refl 0 m)).trans (Gr.up (by omega)))).trans (Gr.up (by omega)))
          obtain ⟨gnM0, glM0, ghM0, gcM0, gsM0, gaM0, gbM0⟩ := id grM0
          have geM0 : uC M0 = uC (up (up m 45 0 (if (bi (¬ isPa m (nI p))) = 0 then 0 else 1)) 45 0 (if 0 = 0 then 0 else 2)) ∧ uS M0 = uS (up (up m 45 0 (if (bi (¬ isPa m (nI p))) = 0 then 0 else 1)) 45 0 (if 0 = 0 then 0 else 2)) := by rw [hM0]; exact ⟨rfl, rfl⟩
          have hpM0 : p < npN M0 := by omega
          have hQ : fDel m (nI p) t = fDel1 M0 p t := by rw [hM0]; simp [fDel, bi, thr, fNone, hcl, hcl, c5_2, eq_true c17_3, eq_true c32_6]
          refine lv_if_eq (tgt := 82) hx hb dX11_deliver_50 (by decide) (fun c50_9 => ?_) (fun c50_9 => ?_)
          · refine lv_aload_n hx hb dX11_deliver_82 rfl (lv_at hl 0 rfl) ?_
            refine m_arr C0 hH hM 23 (by decide) fl_X11_80 dX11_deliver_83 ?_
            refine lv_iload_n hx hb dX11_deliver_86 rfl (lv_at hl 1 rfl) ?_
            refine lv_dup2_11 hx hb dX11_deliver_87 rfl rfl ?_
            refine m_ldI C0 hH hM 23 (by decide) rfl (n := 40) rfl (ix := p) (nI_clamp (by omega)) (by first | assumption | exact vp_in_nI (by omega) (by omega)) (v := M0 23 p) rfl dX11_deliver_88 ?_
            refine lv_iconst (v := 1) hx hb dX11_deliver_89 (by decide) ?_
            refine lv_iadd hx hb dX11_deliver_90 ?_
            refine m_stI C0 hH hM 23 (by decide) rfl (n := 40) rfl (ix := p) (nI_clamp (by omega)) (by first | assumption | exact vp_in_nI (by omega) (by omega)) dX11_deliver_91 (fun h H locs hH hM => ?_)
            refine lv_aload_n hx hb dX11_deliver_92 rfl (lv_at hl 0 rfl) ?_
            refine lv_iload_n hx hb dX11_deliver_93 rfl (lv_at hl 1 rfl) ?_
            refine lv_bipush (v := 102) hx hb dX11_deliver_94 (by decide) ?_
            refine lv_iconst (v := (-1)) hx hb dX11_deliver_96 (by decide) ?_
            have ht0 := c50_9
            have hdg := del_gr hwM0 hpM0 ht0 (by omega)
            obtain ⟨M1, hM1⟩ : ∃ z, z = (up M0 23 p ((M0 23 p) + 1)) := ⟨_, rfl⟩
            replace hM : RM h o ad M1 := by rw [hM1]; exact hM
            have hwM1 : WFa M1 := by rw [hM1]; exact (WFa.upx hwM0 (by unfold kWF; omega))
            have grM1 : Gr 0 M0 M1 := by rw [hM1]; exact (((Gr.refl 0 M0)).trans (Gr.up (by omega)))
            obtain ⟨gnM1, glM1, ghM1, gcM1, gsM1, gaM1, gbM1⟩ := id grM1
            have geM1 : uC M1 = uC (up M0 23 p ((M0 23 p) + 1)) ∧ uS M1 = uS (up M0 23 p ((M0 23 p) + 1)) := by rw [hM1]; exact ⟨rfl, rfl⟩
            rw [← hM1] at hdg
            have hg8 := hdg.2.2
            rw [← hQ] at hg8
            obtain ⟨-, -, -, hg1, hg2, -, -⟩ := id hg8
            obtain ⟨-, -, -, hg3, hg4, -, -⟩ := id (Gr.hap hwM1 p 102 (-1))
            refine k_v hH (k_runV (rest := []) C0 hH (cM_happens l G A _ o ad M1 hM p 102 (-1) hwM1 (by omega) (by omega)) mv_X11_happens ml_X11_188 ci_15 hM.1 rfl ⟨Nat.le_of_ble_eq_true rfl, Nat.le_of_ble_eq_true rfl⟩ hl.1 rfl (Nat.le_of_ble_eq_true rfl) dX11_deliver_97 ⟨by show _ ≤ uC ((fDel m (nI p) t).2) - uC m; omega, by show _ ≤ uS ((fDel m (nI p) t).2) - uS m; omega⟩) (fun h H locs hp hH => ?_)
            obtain ⟨ad, hM⟩ := hp
            refine lv_aload_n hx hb dX11_deliver_100 rfl (lv_at hl 0 rfl) ?_
            obtain ⟨M2, hM2⟩ : ∃ z, z = fHap M1 p 102 (-1) := ⟨_, rfl⟩
            replace hM : RM h o ad M2 := by rw [hM2]; exact hM
            have hwM2 : WFa M2 := by rw [hM2]; exact hdg.1.1
            have grM2 : Gr 1 M1 M2 := by rw [hM2]; exact Gr.hap hwM1 p 102 (-1)
            obtain ⟨gnM2, glM2, ghM2, gcM2, gsM2, gaM2, gbM2⟩ := id grM2
            have geM2 : uC M2 = uC (fHap M1 p 102 (-1)) ∧ uS M2 = uS (fHap M1 p 102 (-1)) := by rw [hM2]; exact ⟨rfl, rfl⟩
            have hQ2 : fDel1 M0 p t = if M2 23 p < 3 - M2 12 p then (119, M2) else if ¬ M2 29 p = 0 then (104, fHap (up M2 28 p 104) p 104 (-1)) else (114, fTurns M2 p) := by unfold fDel1; rw [if_neg (Classical.not_not.mpr ht0), ← hM1, ← hM2]
            refine m_arr C0 hH hM 23 (by decide) fl_X11_80 dX11_deliver_101 ?_
            refine lv_iload_n hx hb dX11_deliver_104 rfl (lv_at hl 1 rfl) ?_
            refine m_ldI C0 hH hM 23 (by decide) rfl (n := 40) rfl (ix := p) (nI_clamp (by omega)) (by first | assumption | exact vp_in_nI (by omega) (by omega)) (v := M2 23 p) rfl dX11_deliver_105 ?_
            refine lv_iconst (v := 3) hx hb dX11_deliver_106 (by decide) ?_
            refine lv_aload_n hx hb dX11_deliver_107 rfl (lv_at hl 0 rfl) ?_
            refine m_arr C0 hH hM 12 (by decide) fl_X11_47 dX11_deliver_108 ?_
            refine lv_iload_n hx hb dX11_deliver_111 rfl (lv_at hl 1 rfl) ?_
            refine m_ldI C0 hH hM 12 (by decide) rfl (n := 40) rfl (ix := p) (nI_clamp (by omega)) (by first | assumption | exact vp_in_nI (by omega) (by omega)) (v := M2 12 p) rfl dX11_deliver_112 ?_
            refine lv_isub hx hb dX11_deliver_113 ?_
            refine lv_icmp_ge (tgt := 120) hx hb dX11_deliver_114 (by decide) (fun c114_10 => ?_) (fun c114_10 => ?_)
            · refine lv_aload_n hx hb dX11_deliver_120 rfl (lv_at hl 0 rfl) ?_
              refine m_arr C0 hH hM 29 (by decide) fl_X11_99 dX11_deliver_121 ?_
              refine lv_iload_n hx hb dX11_deliver_124 rfl (lv_at hl 1 rfl) ?_
              refine m_ldZ C0 hH hM 29 (by decide) rfl (n := 40) rfl (ix := p) (nI_clamp (by omega)) (by first | assumption | exact vp_in_nI (by omega) (by omega)) (v := M2 29 p) rfl dX11_deliver_125 ?_
              refine lv_if_eq (tgt := 148) hx hb dX11_deliver_126 (by decide) (fun c126_11 => ?_) (fun c126_11 => ?_)
              · refine lv_aload_n hx hb dX11_deliver_148 rfl (lv_at hl 0 rfl) ?_
                refine lv_iload_n hx hb dX11_deliver_149 rfl (lv_at hl 1 rfl) ?_
                have hRR : fDel1 M0 p t = (114, fTurns M2 p) := by rw [hQ2]; simp [hcl, c114_10, Int32.not_lt.mpr c114_10, eq_true c126_11]
                have hF : (fDel m (nI p) t).2 = (fTurns M2 p) := by rw [hQ, hRR]
                obtain ⟨-, -, -, hg1, hg2, -, -⟩ := id (Gr.turns hwM2 (show p < npN M2 by omega))
                have hF1 : uC (fTurns M2 p) = uC ((fDel m (nI p) t).2) ∧ uS (fTurns M2 p) = uS ((fDel m (nI p) t).2) := by rw [hF]; exact ⟨rfl, rfl⟩
                refine k_v hH (k_runV (rest := []) C0 hH (cM_turns l G A _ o ad M2 hM p hwM2 (by omega) (by omega)) mv_X11_turns ml_X11_219 ci_15 hM.1 rfl ⟨Nat.le_of_ble_eq_true rfl, Nat.le_of_ble_eq_true rfl⟩ hl.1 rfl (Nat.le_of_ble_eq_true rfl) dX11_deliver_150 ⟨by show _ ≤ uC ((fDel m (nI p) t).2) - uC m; omega, by show _ ≤ uS ((fDel m (nI p) t).2) - uS m; omega⟩) (fun h H locs hp hH => ?_)
                obtain ⟨ad, hM⟩ := hp
                refine lv_bipush (v := 114) hx hb dX11_deliver_153 (by decide) ?_
                have eR : 114 = (fDel m (nI p) t).1 := by rw [hQ, hRR]
                have eM : (fDel m (nI p) t).2 = (fTurns M2 p) := by rw [hQ, hRR]
                exact e_Z C0 hr (by decide) hH ⟨eR, _, by rw [eM]; exact hM⟩ (by omega) (by omega) dX11_deliver_155
              · refine lv_aload_n hx hb dX11_deliver_129 rfl (lv_at hl 0 rfl) ?_
                refine m_arr C0 hH hM 28 (by decide) fl_X11_95 dX11_deliver_130 ?_
                refine lv_iload_n hx hb dX11_deliver_133 rfl (lv_at hl 1 rfl) ?_
                refine lv_bipush (v := 104) hx hb dX11_deliver_134 (by decide) ?_
                refine m_stC C0 hH hM 28 (by decide) rfl (n := 40) rfl (ix := p) (nI_clamp (by omega)) (by first | assumption | exact vp_in_nI (by omega) (by omega)) (by decide) dX11_deliver_136 (fun h H locs hH hM => ?_)
                refine lv_aload_n hx hb dX11_deliver_137 rfl (lv_at hl 0 rfl) ?_
                refine lv_iload_n hx hb dX11_deliver_138 rfl (lv_at hl 1 rfl) ?_
                refine lv_bipush (v := 104) hx hb dX11_deliver_139 (by decide) ?_
                refine lv_iconst (v := (-1)) hx hb dX11_deliver_141 (by decide) ?_
                obtain ⟨M3, hM3⟩ : ∃ z, z = (up M2 28 p 104) := ⟨_, rfl⟩
                replace hM : RM h o ad M3 := by rw [hM3]; exact hM
                have hwM3 : WFa M3 := by rw [hM3]; exact (hwM2.up28 (Or.inr (Or.inr (Or.inr rfl))))
                have grM3 : Gr 0 M2 M3 := by rw [hM3]; exact (((Gr.refl 0 M2)).trans (Gr.up (by omega)))
                obtain ⟨gnM3, glM3, ghM3, gcM3, gsM3, gaM3, gbM3⟩ := id grM3
                have geM3 : uC M3 = uC (up M2 28 p 104) ∧ uS M3 = uS (up M2 28 p 104) := by rw [hM3]; exact ⟨rfl, rfl⟩
                have hRR : fDel1 M0 p t = (104, fHap M3 p 104 (-1)) := by rw [hQ2, hM3]; simp [hcl, c114_10, Int32.not_lt.mpr c114_10, eq_false c126_11]
                have hF : (fDel m (nI p) t).2 = (fHap M3 p 104 (-1)) := by rw [hQ, hRR]
                obtain ⟨-, -, -, hg1, hg2, -, -⟩ := id (Gr.hap hwM3 p 104 (-1))
                have hF1 : uC (fHap M3 p 104 (-1)) = uC ((fDel m (nI p) t).2) ∧ uS (fHap M3 p 104 (-1)) = uS ((fDel m (nI p) t).2) := by rw [hF]; exact ⟨rfl, rfl⟩
                refine k_v hH (k_runV (rest := []) C0 hH (cM_happens l G A _ o ad M3 hM p 104 (-1) hwM3 (by omega) (by omega)) mv_X11_happens ml_X11_188 ci_15 hM.1 rfl ⟨Nat.le_of_ble_eq_true rfl, Nat.le_of_ble_eq_true rfl⟩ hl.1 rfl (Nat.le_of_ble_eq_true rfl) dX11_deliver_142 ⟨by show _ ≤ uC ((fDel m (nI p) t).2) - uC m; omega, by show _ ≤ uS ((fDel m (nI p) t).2) - uS m; omega⟩) (fun h H locs hp hH => ?_)
                obtain ⟨ad, hM⟩ := hp
                refine lv_bipush (v := 104) hx hb dX11_deliver_145 (by decide) ?_
                have eR : 104 = (fDel m (nI p) t).1 := by rw [hQ, hRR]
                have eM : (fDel m (nI p) t).2 = (fHap M3 p 104 (-1)) := by rw [hQ, hRR]
                exact e_Z C0 hr (by decide) hH ⟨eR, _, by rw [eM]; exact hM⟩ (by omega) (by omega) dX11_deliver_147
            · refine lv_bipush (v := 119) hx hb dX11_deliver_117 (by decide) ?_
              have eR : 119 = (fDel m (nI p) t).1 := by rw [hQ, hQ2]; simp [hcl, c114_10, Int32.not_le.mp c114_10]
              have eM : (fDel m (nI p) t).2 = M2 := by rw [hQ, hQ2]; simp [hcl, c114_10, Int32.not_le.mp c114_10]
              exact e_Z C0 hr (by decide) hH ⟨eR, _, by rw [eM]; exact hM⟩ (by omega) (by omega) dX11_deliver_119
          · refine lv_aload_n hx hb dX11_deliver_53 rfl (lv_at hl 0 rfl) ?_
            refine m_arr C0 hH hM 28 (by decide) fl_X11_95 dX11_deliver_54 ?_
            refine lv_iload_n hx hb dX11_deliver_57 rfl (lv_at hl 1 rfl) ?_
            refine lv_bipush (v := 100) hx hb dX11_deliver_58 (by decide) ?_
            refine m_stC C0 hH hM 28 (by decide) rfl (n := 40) rfl (ix := p) (nI_clamp (by omega)) (by first | assumption | exact vp_in_nI (by omega) (by omega)) (by decide) dX11_deliver_60 (fun h H locs hH hM => ?_)
            refine lv_aload_n hx hb dX11_deliver_61 rfl (lv_at hl 0 rfl) ?_
            refine m_arr C0 hH hM 26 (by decide) fl_X11_89 dX11_deliver_62 ?_
            refine lv_iload_n hx hb dX11_deliver_65 rfl (lv_at hl 1 rfl) ?_
            refine lv_aload_n hx hb dX11_deliver_66 rfl (lv_at hl 0 rfl) ?_
            refine m_int C0 hH hM 41 (by decide) (by decide) fl_X11_150 (v := M0 41 0) rfl dX11_deliver_67 ?_
            refine m_stI C0 hH hM 26 (by decide) rfl (n := 40) rfl (ix := p) (nI_clamp (by omega)) (by first | assumption | exact vp_in_nI (by omega) (by omega)) dX11_deliver_70 (fun h H locs hH hM => ?_)
            refine lv_aload_n hx hb dX11_deliver_71 rfl (lv_at hl 0 rfl) ?_
            refine lv_iload_n hx hb dX11_deliver_72 rfl (lv_at hl 1 rfl) ?_
            refine lv_bipush (v := 100) hx hb dX11_deliver_73 (by decide) ?_
            refine lv_iconst (v := (-1)) hx hb dX11_deliver_75 (by decide) ?_
            obtain ⟨M1, hM1⟩ : ∃ z, z = (up (up M0 28 p 100) 26 p (M0 41 0)) := ⟨_, rfl⟩
            replace hM : RM h o ad M1 := by rw [hM1]; exact hM
            have hwM1 : WFa M1 := by rw [hM1]; exact ((hwM0.up28 (Or.inr (Or.inr (Or.inl rfl)))).upx (by unfold kWF; omega))
            have grM1 : Gr 0 M0 M1 := by rw [hM1]; exact (((((Gr.refl 0 M0)).trans (Gr.up (by omega)))).trans (Gr.up (by omega)))
            obtain ⟨gnM1, glM1, ghM1, gcM1, gsM1, gaM1, gbM1⟩ := id grM1
            have geM1 : uC M1 = uC (up (up M0 28 p 100) 26 p (M0 41 0)) ∧ uS M1 = uS (up (up M0 28 p 100) 26 p (M0 41 0)) := by rw [hM1]; exact ⟨rfl, rfl⟩
            have hRR : fDel1 M0 p t = (100, fHap M1 p 100 (-1)) := by unfold fDel1; rw [if_pos c50_9, hM1]
            have hF : (fDel m (nI p) t).2 = (fHap M1 p 100 (-1)) := by rw [hQ, hRR]
            obtain ⟨-, -, -, hg1, hg2, -, -⟩ := id (Gr.hap hwM1 p 100 (-1))
            have hF1 : uC (fHap M1 p 100 (-1)) = uC ((fDel m (nI p) t).2) ∧ uS (fHap M1 p 100 (-1)) = uS ((fDel m (nI p) t).2) := by rw [hF]; exact ⟨rfl, rfl⟩
            refine k_v hH (k_runV (rest := []) C0 hH (cM_happens l G A _ o ad M1 hM p 100 (-1) hwM1 (by omega) (by omega)) mv_X11_happens ml_X11_188 ci_15 hM.1 rfl ⟨Nat.le_of_ble_eq_true rfl, Nat.le_of_ble_eq_true rfl⟩ hl.1 rfl (Nat.le_of_ble_eq_true rfl) dX11_deliver_76 ⟨by show _ ≤ uC ((fDel m (nI p) t).2) - uC m; omega, by show _ ≤ uS ((fDel m (nI p) t).2) - uS m; omega⟩) (fun h H locs hp hH => ?_)
            obtain ⟨ad, hM⟩ := hp
            refine lv_bipush (v := 100) hx hb dX11_deliver_79 (by decide) ?_
            have eR : 100 = (fDel m (nI p) t).1 := by rw [hQ, hRR]
            have eM : (fDel m (nI p) t).2 = (fHap M1 p 100 (-1)) := by rw [hQ, hRR]
            exact e_Z C0 hr (by decide) hH ⟨eR, _, by rw [eM]; exact hM⟩ (by omega) (by omega) dX11_deliver_81
        · exact absurd (by decide) c44_8
      · refine lv_iconst (v := 1) hx hb dX11_deliver_35 (by decide) ?_
        refine lv_goto (tgt := 40) hx hb dX11_deliver_36 (by decide) ?_
        refine lv_iconst (v := 2) hx hb dX11_deliver_40 (by decide) ?_
        refine k_i hH (k_runV (rest := []) C0 hH (cM_isThrown l G A _ o ad (up m 45 0 (if (bi (¬ isPa m (nI p))) = 0 then 0 else 1)) hM 1 2 rfl) mv_X11_isThrown ml_X11_140 ci_15 hM.1 rfl ⟨Nat.le_of_ble_eq_true rfl, Nat.le_of_ble_eq_true rfl⟩ hl.1 rfl (Nat.le_of_ble_eq_true rfl) dX11_deliver_41 ⟨by show _ ≤ uC ((fDel m (nI p) t).2) - uC m; omega, by show _ ≤ uS ((fDel m (nI p) t).2) - uS m; omega⟩) (fun r_12 h H locs hp hH => ?_)
        obtain ⟨er_12, hM⟩ := hp
        subst er_12
        refine lv_if_eq (tgt := 49) hx hb dX11_deliver_44 (by decide) (fun c44_13 => ?_) (fun c44_13 => ?_)
        · exact absurd c44_13 (by decide)
        · refine lv_iconst (v := 0) hx hb dX11_deliver_47 (by decide) ?_
          have eR : 0 = (fDel m (nI p) t).1 := by simp [fDel, bi, thr, fNone, fNoLine, hcl, c5_2, eq_true c17_3, eq_false c32_6]
          have eM : (fDel m (nI p) t).2 = (up (up m 45 0 (if (bi (¬ isPa m (nI p))) = 0 then 0 else 1)) 45 0 (if 1 = 0 then 0 else 2)) := by simp [fDel, bi, thr, fNone, fNoLine, hcl, c5_2, eq_true c17_3, eq_false c32_6]
          exact e_Z C0 hr (by decide) hH ⟨eR, _, by rw [eM]; exact hM⟩ (by omega) (by omega) dX11_deliver_48
