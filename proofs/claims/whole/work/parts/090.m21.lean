set_option maxHeartbeats 4000000 in
set_option maxRecDepth 100000 in
theorem cM_pathAt (l : Launch) (G : GT) (A : Nat → Prop) (h : AH) (o : Nat) (ad : Nat → Nat) (m : MM) (hM : RM h o ad m) (x r9 : Int32) (hw : WFa m) : cmI l G A yX11_pathAt cX11_pathAt 4 (Option.some FieldType.int) 10 267 0 0 [.ref (o), .int (x), .int (r9)] h (fun r h' => r = (fPaA m x r9).1 ∧ RM h' o ad ((fPaA m x r9).2)) := by
  refine cm_of "RoutepostModel" rfl (by decide) (Nat.le_of_ble_eq_true rfl) ?_
  intro pr e s m9 below meth c C0 hr hname hH ls hl
  obtain ⟨hx, hb, hml, hown, hts, hK, hA, -⟩ := id C0
  have hl : lv_has ls 4 [(0, .ref (o)), (1, .int (x)), (2, .int (r9))] := hl
  have hnp := hw.np
  refine lv_aload_n hx hb dX11_pathAt_0 rfl (lv_at hl 0 rfl) ?_
  refine lv_iload_n hx hb dX11_pathAt_1 rfl (lv_at hl 1 rfl) ?_
  refine k_i hH (k_runV (rest := []) C0 hH (cM_isNotScanned l G A _ o ad m hM x hw) mv_X11_isNotScanned ml_X11_250 ci_15 hM.1 rfl ⟨by decide, by decide⟩ hl.1 rfl (Nat.le_of_ble_eq_true rfl) dX11_pathAt_2 (by simp)) (fun r_1 h H locs hp hH => ?_)
  obtain ⟨er_1, hM⟩ := hp
  subst er_1
  refine lv_if_eq (tgt := 10) hx hb dX11_pathAt_5 (by decide) (fun c5_2 => ?_) (fun c5_2 => ?_)
  · obtain ⟨p, hp, rfl⟩ := vp_in_of (notSc_ok hw c5_2) (by omega)
    have hcl : (nI p).toNatClampNeg = p := nI_clamp (by omega)
    have hq1 : (fNotSc m (nI p)).1 = 0 := c5_2
    obtain ⟨M1, hM1⟩ : ∃ z, z = (fNotSc m (nI p)).2 := ⟨_, rfl⟩
    replace hM : RM h o ad M1 := by rw [hM1]; exact hM
    have hwM1 : WFa M1 := by rw [hM1]; exact hw.notSc _
    have grM1 : Gr 0 m M1 := by rw [hM1]; exact Gr.of fun k hk => fNotSc_key m _ (by omega)
    obtain ⟨gnM1, glM1, ghM1, gcM1, gsM1, gaM1, gbM1⟩ := id grM1
    have geM1 : uC M1 = uC ((fNotSc m (nI p)).2) ∧ uS M1 = uS ((fNotSc m (nI p)).2) := by rw [hM1]; exact ⟨rfl, rfl⟩
    refine lv_aload_n hx hb dX11_pathAt_10 rfl (lv_at hl 0 rfl) ?_
    refine lv_iload_n hx hb dX11_pathAt_11 rfl (lv_at hl 1 rfl) ?_
    refine k_i hH (k_runV (rest := []) C0 hH (cM_lays l G A _ o ad M1 hM p hwM1 (by omega)) mv_X11_lays ml_X11_173 ci_15 hM.1 rfl ⟨by decide, by decide⟩ hl.1 rfl (Nat.le_of_ble_eq_true rfl) dX11_pathAt_12 (by simp)) (fun r_3 h H locs hp hH => ?_)
    obtain ⟨er_3, hM⟩ := hp
    subst er_3
    refine lv_if_eq (tgt := 25) hx hb dX11_pathAt_15 (by decide) (fun c15_4 => ?_) (fun c15_4 => ?_)
    · replace c15_4 := bi_0.mp c15_4
      refine lv_iconst (v := 0) hx hb dX11_pathAt_25 (by decide) ?_
      refine lv_istore_n (lv' := [(3, .int (0)), (0, .ref (o)), (1, .int ((nI p))), (2, .int (r9))]) hx hb dX11_pathAt_26 rfl hl (by decide) rfl (fun ls hl => ?_)
      refine lv_aload_n hx hb dX11_pathAt_27 rfl (lv_at hl 1 rfl) ?_
      refine lv_iload_n hx hb dX11_pathAt_28 rfl (lv_at hl 3 rfl) ?_
      refine lv_iconst (v := 0) hx hb dX11_pathAt_29 (by decide) ?_
      refine lv_iload_n hx hb dX11_pathAt_30 rfl (lv_at hl 0 rfl) ?_
      refine lv_iconst (v := 1) hx hb dX11_pathAt_31 (by decide) ?_
      refine lv_isub hx hb dX11_pathAt_32 ?_
      refine k_i hH (k_runS (rest := [.ref (o)]) C0 hH (cM_isIn l G A _ r9 0 (0 - 1)) mv_X11_isIn ml_X11_127 rfl ⟨by decide, by decide⟩ hl.1 rfl (Nat.le_of_ble_eq_true rfl) dX11_pathAt_33 (by simp)) (fun r_5 h1 H locs hp hH => ?_)
      obtain ⟨er_5, eh⟩ := hp
      rw [eh] at hH
      clear eh
      subst er_5
      refine lv_if_ne (tgt := 43) hx hb dX11_pathAt_36 (by decide) (fun c36_6 => ?_) (fun c36_6 => ?_)
      · replace c36_6 := bi_n0.mp c36_6
        have hv9 : inn r9 0 (-1) = true := c36_6
        have hr6 : vp_in r9 6 := vp_mono (inn_vp (n := 0) (by decide) c36_6) (by omega)
        refine lv_iconst (v := 0) hx hb dX11_pathAt_43 (by decide) ?_
        refine lv_iconst (v := 3) hx hb dX11_pathAt_44 (by decide) ?_
        refine k_i hH (k_runV (rest := []) C0 hH (cM_isThrown l G A _ o ad (fLays M1 p) hM 0 3 rfl) mv_X11_isThrown ml_X11_140 ci_15 hM.1 rfl ⟨by decide, by decide⟩ hl.1 rfl (Nat.le_of_ble_eq_true rfl) dX11_pathAt_45 (by simp)) (fun r_7 h H locs hp hH => ?_)
        obtain ⟨er_7, hM⟩ := hp
        subst er_7
        refine lv_if_eq (tgt := 55) hx hb dX11_pathAt_48 (by decide) (fun c48_8 => ?_) (fun c48_8 => ?_)
        · refine lv_aload_n hx hb dX11_pathAt_55 rfl (lv_at hl 1 rfl) ?_
          refine m_arr C0 hH hM 33 (by decide) fl_X11_111 dX11_pathAt_56 ?_
          refine lv_iload_n hx hb dX11_pathAt_59 rfl (lv_at hl 3 rfl) ?_
          refine m_ldI C0 hH hM 33 (by decide) rfl (n := 6) rfl (ix := r9.toNatClampNeg) rfl hr6 (v := (fLays M1 p) 33 r9.toNatClampNeg) rfl dX11_pathAt_60 ?_
          have eR : (fLays M1 p) 33 r9.toNatClampNeg = (fPaA m (nI p) r9).1 := by simp [fPaA, bi, thr, hq1, ← hM1, hcl, hcl, c15_4, hv9]
          have eM : (fPaA m (nI p) r9).2 = (up (fLays M1 p) 45 0 (if 0 = 0 then 0 else 3)) := by simp [fPaA, bi, thr, hq1, ← hM1, hcl, hcl, c15_4, hv9]
          exact e_I C0 hr hH ⟨eR, by rw [eM]; exact hM⟩ (Nat.le_refl _) (Nat.le_refl _) dX11_pathAt_61
        · exact absurd (by decide) c48_8
      · replace c36_6 := bi_0.mp c36_6
        have hv9 : ¬ inn r9 0 (-1) = true := c36_6
        refine lv_iconst (v := 1) hx hb dX11_pathAt_39 (by decide) ?_
        refine lv_goto (tgt := 44) hx hb dX11_pathAt_40 (by decide) ?_
        refine lv_iconst (v := 3) hx hb dX11_pathAt_44 (by decide) ?_
        refine k_i hH (k_runV (rest := []) C0 hH (cM_isThrown l G A _ o ad (fLays M1 p) hM 1 3 rfl) mv_X11_isThrown ml_X11_140 ci_15 hM.1 rfl ⟨by decide, by decide⟩ hl.1 rfl (Nat.le_of_ble_eq_true rfl) dX11_pathAt_45 (by simp)) (fun r_9 h H locs hp hH => ?_)
        obtain ⟨er_9, hM⟩ := hp
        subst er_9
        refine lv_if_eq (tgt := 55) hx hb dX11_pathAt_48 (by decide) (fun c48_10 => ?_) (fun c48_10 => ?_)
        · exact absurd c48_10 (by decide)
        · refine lv_iconst (v := 0) hx hb dX11_pathAt_51 (by decide) ?_
          refine lv_goto (tgt := 61) hx hb dX11_pathAt_52 (by decide) ?_
          have eR : 0 = (fPaA m (nI p) r9).1 := by simp [fPaA, bi, thr, hq1, ← hM1, hcl, hcl, c15_4, hv9]
          have eM : (fPaA m (nI p) r9).2 = (up (fLays M1 p) 45 0 (if 1 = 0 then 0 else 3)) := by simp [fPaA, bi, thr, hq1, ← hM1, hcl, hcl, c15_4, hv9]
          exact e_I C0 hr hH ⟨eR, by rw [eM]; exact hM⟩ (Nat.le_refl _) (Nat.le_refl _) dX11_pathAt_61
    · replace c15_4 := bi_n0.mp c15_4
      refine lv_aload_n hx hb dX11_pathAt_18 rfl (lv_at hl 0 rfl) ?_
      refine m_int C0 hH hM 43 (by decide) (by decide) fl_X11_157 (v := (fLays M1 p) 43 0) rfl dX11_pathAt_19 ?_
      refine lv_goto (tgt := 26) hx hb dX11_pathAt_22 (by decide) ?_
      refine lv_istore_n (lv' := [(3, .int ((fLays M1 p) 43 0)), (0, .ref (o)), (1, .int ((nI p))), (2, .int (r9))]) hx hb dX11_pathAt_26 rfl hl (by decide) rfl (fun ls hl => ?_)
      refine lv_aload_n hx hb dX11_pathAt_27 rfl (lv_at hl 1 rfl) ?_
      refine lv_iload_n hx hb dX11_pathAt_28 rfl (lv_at hl 3 rfl) ?_
      refine lv_iconst (v := 0) hx hb dX11_pathAt_29 (by decide) ?_
      refine lv_iload_n hx hb dX11_pathAt_30 rfl (lv_at hl 0 rfl) ?_
      refine lv_iconst (v := 1) hx hb dX11_pathAt_31 (by decide) ?_
      refine lv_isub hx hb dX11_pathAt_32 ?_
      refine k_i hH (k_runS (rest := [.ref (o)]) C0 hH (cM_isIn l G A _ r9 0 (((fLays M1 p) 43 0) - 1)) mv_X11_isIn ml_X11_127 rfl ⟨by decide, by decide⟩ hl.1 rfl (Nat.le_of_ble_eq_true rfl) dX11_pathAt_33 (by simp)) (fun r_11 h1 H locs hp hH => ?_)
      obtain ⟨er_11, eh⟩ := hp
      rw [eh] at hH
      clear eh
      subst er_11
      refine lv_if_ne (tgt := 43) hx hb dX11_pathAt_36 (by decide) (fun c36_12 => ?_) (fun c36_12 => ?_)
      · replace c36_12 := bi_n0.mp c36_12
        have hr6 : vp_in r9 6 := vp_mono (inn_vp (n := (fLays M1 p 43 0).toNatClampNeg) (by have := vp_nat (fLays_43 M1 p); omega) (by rw [← vp_nI (fLays_43 M1 p) (by decide)]; exact c36_12)) (Nat.le_of_lt (vp_nat (fLays_43 M1 p)))
        refine lv_iconst (v := 0) hx hb dX11_pathAt_43 (by decide) ?_
        refine lv_iconst (v := 3) hx hb dX11_pathAt_44 (by decide) ?_
        refine k_i hH (k_runV (rest := []) C0 hH (cM_isThrown l G A _ o ad (fLays M1 p) hM 0 3 rfl) mv_X11_isThrown ml_X11_140 ci_15 hM.1 rfl ⟨by decide, by decide⟩ hl.1 rfl (Nat.le_of_ble_eq_true rfl) dX11_pathAt_45 (by simp)) (fun r_13 h H locs hp hH => ?_)
        obtain ⟨er_13, hM⟩ := hp
        subst er_13
        refine lv_if_eq (tgt := 55) hx hb dX11_pathAt_48 (by decide) (fun c48_14 => ?_) (fun c48_14 => ?_)
        · refine lv_aload_n hx hb dX11_pathAt_55 rfl (lv_at hl 1 rfl) ?_
          refine m_arr C0 hH hM 33 (by decide) fl_X11_111 dX11_pathAt_56 ?_
          refine lv_iload_n hx hb dX11_pathAt_59 rfl (lv_at hl 3 rfl) ?_
          refine m_ldI C0 hH hM 33 (by decide) rfl (n := 6) rfl (ix := r9.toNatClampNeg) rfl hr6 (v := (fLays M1 p) 33 r9.toNatClampNeg) rfl dX11_pathAt_60 ?_
          have eR : (fLays M1 p) 33 r9.toNatClampNeg = (fPaA m (nI p) r9).1 := by simp [fPaA, bi, thr, hq1, ← hM1, hcl, hcl, c15_4, c36_12]
          have eM : (fPaA m (nI p) r9).2 = (up (fLays M1 p) 45 0 (if 0 = 0 then 0 else 3)) := by simp [fPaA, bi, thr, hq1, ← hM1, hcl, hcl, c15_4, c36_12]
          exact e_I C0 hr hH ⟨eR, by rw [eM]; exact hM⟩ (Nat.le_refl _) (Nat.le_refl _) dX11_pathAt_61
        · exact absurd (by decide) c48_14
      · replace c36_12 := bi_0.mp c36_12
        refine lv_iconst (v := 1) hx hb dX11_pathAt_39 (by decide) ?_
        refine lv_goto (tgt := 44) hx hb dX11_pathAt_40 (by decide) ?_
        refine lv_iconst (v := 3) hx hb dX11_pathAt_44 (by decide) ?_
        refine k_i hH (k_runV (rest := []) C0 hH (cM_isThrown l G A _ o ad (fLays M1 p) hM 1 3 rfl) mv_X11_isThrown ml_X11_140 ci_15 hM.1 rfl ⟨by decide, by decide⟩ hl.1 rfl (Nat.le_of_ble_eq_true rfl) dX11_pathAt_45 (by simp)) (fun r_15 h H locs hp hH => ?_)
        obtain ⟨er_15, hM⟩ := hp
        subst er_15
        refine lv_if_eq (tgt := 55) hx hb dX11_pathAt_48 (by decide) (fun c48_16 => ?_) (fun c48_16 => ?_)
        · exact absurd c48_16 (by decide)
        · refine lv_iconst (v := 0) hx hb dX11_pathAt_51 (by decide) ?_
          refine lv_goto (tgt := 61) hx hb dX11_pathAt_52 (by decide) ?_
          have eR : 0 = (fPaA m (nI p) r9).1 := by simp [fPaA, bi, thr, hq1, ← hM1, hcl, hcl, c15_4, c36_12]
          have eM : (fPaA m (nI p) r9).2 = (up (fLays M1 p) 45 0 (if 1 = 0 then 0 else 3)) := by simp [fPaA, bi, thr, hq1, ← hM1, hcl, hcl, c15_4, c36_12]
          exact e_I C0 hr hH ⟨eR, by rw [eM]; exact hM⟩ (Nat.le_refl _) (Nat.le_refl _) dX11_pathAt_61
  · refine lv_iconst (v := 0) hx hb dX11_pathAt_8 (by decide) ?_
    have eR : 0 = (fPaA m x r9).1 := by simp [fPaA, c5_2]
    have eM : (fPaA m x r9).2 = ((fNotSc m x).2) := by simp [fPaA, c5_2]
    exact e_I C0 hr hH ⟨eR, by rw [eM]; exact hM⟩ (Nat.le_refl _) (Nat.le_refl _) dX11_pathAt_9
