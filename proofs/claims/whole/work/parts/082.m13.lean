set_option maxHeartbeats 4000000 in
set_option maxRecDepth 100000 in
theorem cM_addLine (l : Launch) (G : GT) (A : Nat → Prop) (h : AH) (o : Nat) (ad : Nat → Nat) (m : MM) (hM : RM h o ad m) (f9 t9 a9 b9 c9 d9 : Int32) (hw : WFa m) : cmI l G A yX11_addLine cX11_addLine 7 (Option.some FieldType.int) 13 330 0 0 [.ref (o), .int (f9), .int (t9), .int (a9), .int (b9), .int (c9), .int (d9)] h (fun r h' => r = (fAddL m f9 t9 a9 b9 c9 d9).1 ∧ RM h' o ad ((fAddL m f9 t9 a9 b9 c9 d9).2)) := by
  refine cm_of "RoutepostModel" rfl (by decide) (Nat.le_of_ble_eq_true rfl) ?_
  intro pr e s m9 below meth c C0 hr hname hH ls hl
  obtain ⟨hx, hb, hml, hown, hts, hK, hA, -⟩ := id C0
  have hl : lv_has ls 7 [(0, .ref (o)), (1, .int (f9)), (2, .int (t9)), (3, .int (a9)), (4, .int (b9)), (5, .int (c9)), (6, .int (d9))] := hl
  have hnp := hw.np
  have hnl := hw.nl
  have hnh := hw.nh
  refine lv_aload_n hx hb dX11_addLine_0 rfl (lv_at hl 0 rfl) ?_
  refine lv_aload_n hx hb dX11_addLine_1 rfl (lv_at hl 0 rfl) ?_
  refine lv_iload_n hx hb dX11_addLine_2 rfl (lv_at hl 1 rfl) ?_
  refine k_i hH (k_runV (rest := [.ref (o)]) C0 hH (cM_isHub l G A _ o ad m hM f9) mv_X11_isHub ml_X11_192 ci_15 hM.1 rfl ⟨by decide, by decide⟩ hl.1 rfl (Nat.le_of_ble_eq_true rfl) dX11_addLine_3 (by simp)) (fun r_1 h1 H locs hp hH => ?_)
  obtain ⟨er_1, eh⟩ := hp
  rw [eh] at hH
  clear eh
  subst er_1
  refine lv_if_eq (tgt := 17) hx hb dX11_addLine_6 (by decide) (fun c6_2 => ?_) (fun c6_2 => ?_)
  · replace c6_2 := bi_0.mp c6_2
    refine lv_iconst (v := 1) hx hb dX11_addLine_17 (by decide) ?_
    refine lv_goto (tgt := 22) hx hb dX11_addLine_18 (by decide) ?_
    refine lv_iconst (v := 1) hx hb dX11_addLine_22 (by decide) ?_
    refine k_i hH (k_runV (rest := []) C0 hH (cM_isThrown l G A _ o ad m hM 1 1 rfl) mv_X11_isThrown ml_X11_140 ci_15 hM.1 rfl ⟨by decide, by decide⟩ hl.1 rfl (Nat.le_of_ble_eq_true rfl) dX11_addLine_23 (by simp)) (fun r_3 h H locs hp hH => ?_)
    obtain ⟨er_3, hM⟩ := hp
    subst er_3
    refine lv_if_ne (tgt := 111) hx hb dX11_addLine_26 (by decide) (fun c26_4 => ?_) (fun c26_4 => ?_)
    · refine lv_iconst (v := 0) hx hb dX11_addLine_111 (by decide) ?_
      have eR : 0 = (fAddL m f9 t9 a9 b9 c9 d9).1 := by simp [fAddL, lineBad, bi, thr, c6_2]
      have eM : (fAddL m f9 t9 a9 b9 c9 d9).2 = (up m 45 0 (if 1 = 0 then 0 else 1)) := by simp [fAddL, lineBad, bi, thr, c6_2]
      exact e_I C0 hr hH ⟨eR, by rw [eM]; exact hM⟩ (Nat.le_refl _) (Nat.le_refl _) dX11_addLine_112
    · exact absurd c26_4 (by decide)
  · replace c6_2 := bi_n0.mp c6_2
    refine lv_aload_n hx hb dX11_addLine_9 rfl (lv_at hl 0 rfl) ?_
    refine lv_iload_n hx hb dX11_addLine_10 rfl (lv_at hl 2 rfl) ?_
    refine k_i hH (k_runV (rest := [.ref (o)]) C0 hH (cM_isHub l G A _ o ad m hM t9) mv_X11_isHub ml_X11_192 ci_15 hM.1 rfl ⟨by decide, by decide⟩ hl.1 rfl (Nat.le_of_ble_eq_true rfl) dX11_addLine_11 (by simp)) (fun r_5 h1 H locs hp hH => ?_)
    obtain ⟨er_5, eh⟩ := hp
    rw [eh] at hH
    clear eh
    subst er_5
    refine lv_if_ne (tgt := 21) hx hb dX11_addLine_14 (by decide) (fun c14_6 => ?_) (fun c14_6 => ?_)
    · replace c14_6 := bi_n0.mp c14_6
      refine lv_iconst (v := 0) hx hb dX11_addLine_21 (by decide) ?_
      refine lv_iconst (v := 1) hx hb dX11_addLine_22 (by decide) ?_
      refine k_i hH (k_runV (rest := []) C0 hH (cM_isThrown l G A _ o ad m hM 0 1 rfl) mv_X11_isThrown ml_X11_140 ci_15 hM.1 rfl ⟨by decide, by decide⟩ hl.1 rfl (Nat.le_of_ble_eq_true rfl) dX11_addLine_23 (by simp)) (fun r_7 h H locs hp hH => ?_)
      obtain ⟨er_7, hM⟩ := hp
      subst er_7
      refine lv_if_ne (tgt := 111) hx hb dX11_addLine_26 (by decide) (fun c26_8 => ?_) (fun c26_8 => ?_)
      · exact absurd (by decide) c26_8
      · refine lv_aload_n hx hb dX11_addLine_29 rfl (lv_at hl 0 rfl) ?_
        refine lv_iload_n hx hb dX11_addLine_30 rfl (lv_at hl 1 rfl) ?_
        refine lv_iload_n hx hb dX11_addLine_31 rfl (lv_at hl 2 rfl) ?_
        refine lv_icmp_eq (tgt := 77) hx hb dX11_addLine_32 (by decide) (fun c32_9 => ?_) (fun c32_9 => ?_)
        · refine lv_iconst (v := 1) hx hb dX11_addLine_77 (by decide) ?_
          refine lv_goto (tgt := 82) hx hb dX11_addLine_78 (by decide) ?_
          refine lv_iconst (v := 2) hx hb dX11_addLine_82 (by decide) ?_
          refine k_i hH (k_runV (rest := []) C0 hH (cM_isThrown l G A _ o ad (up m 45 0 (if 0 = 0 then 0 else 1)) hM 1 2 rfl) mv_X11_isThrown ml_X11_140 ci_15 hM.1 rfl ⟨by decide, by decide⟩ hl.1 rfl (Nat.le_of_ble_eq_true rfl) dX11_addLine_83 (by simp)) (fun r_10 h H locs hp hH => ?_)
          obtain ⟨er_10, hM⟩ := hp
          subst er_10
          refine lv_if_ne (tgt := 111) hx hb dX11_addLine_86 (by decide) (fun c86_11 => ?_) (fun c86_11 => ?_)
          · refine lv_iconst (v := 0) hx hb dX11_addLine_111 (by decide) ?_
            have eR : 0 = (fAddL m f9 t9 a9 b9 c9 d9).1 := by simp [fAddL, lineBad, bi, thr, c6_2, c14_6, eq_true c32_9]
            have eM : (fAddL m f9 t9 a9 b9 c9 d9).2 = (up (up m 45 0 (if 0 = 0 then 0 else 1)) 45 0 (if 1 = 0 then 0 else 2)) := by simp [fAddL, lineBad, bi, thr, c6_2, c14_6, eq_true c32_9]
            exact e_I C0 hr hH ⟨eR, by rw [eM]; exact hM⟩ (Nat.le_refl _) (Nat.le_refl _) dX11_addLine_112
          · exact absurd c86_11 (by decide)
        · refine lv_iload_n hx hb dX11_addLine_35 rfl (lv_at hl 3 rfl) ?_
          refine lv_iconst (v := 0) hx hb dX11_addLine_36 (by decide) ?_
          refine lv_bipush (v := 59) hx hb dX11_addLine_37 (by decide) ?_
          refine k_i hH (k_runS (rest := [.ref (o)]) C0 hH (cM_isIn l G A _ a9 0 59) mv_X11_isIn ml_X11_127 rfl ⟨by decide, by decide⟩ hl.1 rfl (Nat.le_of_ble_eq_true rfl) dX11_addLine_39 (by simp)) (fun r_12 h1 H locs hp hH => ?_)
          obtain ⟨er_12, eh⟩ := hp
          rw [eh] at hH
          clear eh
          subst er_12
          refine lv_if_eq (tgt := 77) hx hb dX11_addLine_42 (by decide) (fun c42_13 => ?_) (fun c42_13 => ?_)
          · replace c42_13 := bi_0.mp c42_13
            refine lv_iconst (v := 1) hx hb dX11_addLine_77 (by decide) ?_
            refine lv_goto (tgt := 82) hx hb dX11_addLine_78 (by decide) ?_
            refine lv_iconst (v := 2) hx hb dX11_addLine_82 (by decide) ?_
            refine k_i hH (k_runV (rest := []) C0 hH (cM_isThrown l G A _ o ad (up m 45 0 (if 0 = 0 then 0 else 1)) hM 1 2 rfl) mv_X11_isThrown ml_X11_140 ci_15 hM.1 rfl ⟨by decide, by decide⟩ hl.1 rfl (Nat.le_of_ble_eq_true rfl) dX11_addLine_83 (by simp)) (fun r_14 h H locs hp hH => ?_)
            obtain ⟨er_14, hM⟩ := hp
            subst er_14
            refine lv_if_ne (tgt := 111) hx hb dX11_addLine_86 (by decide) (fun c86_15 => ?_) (fun c86_15 => ?_)
            · refine lv_iconst (v := 0) hx hb dX11_addLine_111 (by decide) ?_
              have eR : 0 = (fAddL m f9 t9 a9 b9 c9 d9).1 := by simp [fAddL, lineBad, bi, thr, c6_2, c14_6, eq_false c32_9, c42_13]
              have eM : (fAddL m f9 t9 a9 b9 c9 d9).2 = (up (up m 45 0 (if 0 = 0 then 0 else 1)) 45 0 (if 1 = 0 then 0 else 2)) := by simp [fAddL, lineBad, bi, thr, c6_2, c14_6, eq_false c32_9, c42_13]
              exact e_I C0 hr hH ⟨eR, by rw [eM]; exact hM⟩ (Nat.le_refl _) (Nat.le_refl _) dX11_addLine_112
            · exact absurd c86_15 (by decide)
          · replace c42_13 := bi_n0.mp c42_13
            refine lv_iload hx hb dX11_addLine_45 (lv_at hl 4 rfl) ?_
            refine lv_iconst (v := 5) hx hb dX11_addLine_47 (by decide) ?_
            refine lv_bipush (v := 60) hx hb dX11_addLine_48 (by decide) ?_
            refine k_i hH (k_runS (rest := [.ref (o)]) C0 hH (cM_isIn l G A _ b9 5 60) mv_X11_isIn ml_X11_127 rfl ⟨by decide, by decide⟩ hl.1 rfl (Nat.le_of_ble_eq_true rfl) dX11_addLine_50 (by simp)) (fun r_16 h1 H locs hp hH => ?_)
            obtain ⟨er_16, eh⟩ := hp
            rw [eh] at hH
            clear eh
            subst er_16
            refine lv_if_eq (tgt := 77) hx hb dX11_addLine_53 (by decide) (fun c53_17 => ?_) (fun c53_17 => ?_)
            · replace c53_17 := bi_0.mp c53_17
              refine lv_iconst (v := 1) hx hb dX11_addLine_77 (by decide) ?_
              refine lv_goto (tgt := 82) hx hb dX11_addLine_78 (by decide) ?_
              refine lv_iconst (v := 2) hx hb dX11_addLine_82 (by decide) ?_
              refine k_i hH (k_runV (rest := []) C0 hH (cM_isThrown l G A _ o ad (up m 45 0 (if 0 = 0 then 0 else 1)) hM 1 2 rfl) mv_X11_isThrown ml_X11_140 ci_15 hM.1 rfl ⟨by decide, by decide⟩ hl.1 rfl (Nat.le_of_ble_eq_true rfl) dX11_addLine_83 (by simp)) (fun r_18 h H locs hp hH => ?_)
              obtain ⟨er_18, hM⟩ := hp
              subst er_18
              refine lv_if_ne (tgt := 111) hx hb dX11_addLine_86 (by decide) (fun c86_19 => ?_) (fun c86_19 => ?_)
              · refine lv_iconst (v := 0) hx hb dX11_addLine_111 (by decide) ?_
                have eR : 0 = (fAddL m f9 t9 a9 b9 c9 d9).1 := by simp [fAddL, lineBad, bi, thr, c6_2, c14_6, eq_false c32_9, c42_13, c53_17]
                have eM : (fAddL m f9 t9 a9 b9 c9 d9).2 = (up (up m 45 0 (if 0 = 0 then 0 else 1)) 45 0 (if 1 = 0 then 0 else 2)) := by simp [fAddL, lineBad, bi, thr, c6_2, c14_6, eq_false c32_9, c42_13, c53_17]
                exact e_I C0 hr hH ⟨eR, by rw [eM]; exact hM⟩ (Nat.le_refl _) (Nat.le_refl _) dX11_addLine_112
              · exact absurd c86_19 (by decide)
            · replace c53_17 := bi_n0.mp c53_17
              refine lv_iload hx hb dX11_addLine_56 (lv_at hl 5 rfl) ?_
              refine lv_iconst (v := 1) hx hb dX11_addLine_58 (by decide) ?_
              refine lv_bipush (v := 60) hx hb dX11_addLine_59 (by decide) ?_
              refine k_i hH (k_runS (rest := [.ref (o)]) C0 hH (cM_isIn l G A _ c9 1 60) mv_X11_isIn ml_X11_127 rfl ⟨by decide, by decide⟩ hl.1 rfl (Nat.le_of_ble_eq_true rfl) dX11_addLine_61 (by simp)) (fun r_20 h1 H locs hp hH => ?_)
              obtain ⟨er_20, eh⟩ := hp
              rw [eh] at hH
              clear eh
              subst er_20
              refine lv_if_eq (tgt := 77) hx hb dX11_addLine_64 (by decide) (fun c64_21 => ?_) (fun c64_21 => ?_)
              · replace c64_21 := bi_0.mp c64_21
                refine lv_iconst (v := 1) hx hb dX11_addLine_77 (by decide) ?_
                refine lv_goto (tgt := 82) hx hb dX11_addLine_78 (by decide) ?_
                refine lv_iconst (v := 2) hx hb dX11_addLine_82 (by decide) ?_
                refine k_i hH (k_runV (rest := []) C0 hH (cM_isThrown l G A _ o ad (up m 45 0 (if 0 = 0 then 0 else 1)) hM 1 2 rfl) mv_X11_isThrown ml_X11_140 ci_15 hM.1 rfl ⟨by decide, by decide⟩ hl.1 rfl (Nat.le_of_ble_eq_true rfl) dX11_addLine_83 (by simp)) (fun r_22 h H locs hp hH => ?_)
                obtain ⟨er_22, hM⟩ := hp
                subst er_22
                refine lv_if_ne (tgt := 111) hx hb dX11_addLine_86 (by decide) (fun c86_23 => ?_) (fun c86_23 => ?_)
                · refine lv_iconst (v := 0) hx hb dX11_addLine_111 (by decide) ?_
                  have eR : 0 = (fAddL m f9 t9 a9 b9 c9 d9).1 := by simp [fAddL, lineBad, bi, thr, c6_2, c14_6, eq_false c32_9, c42_13, c53_17, c64_21]
                  have eM : (fAddL m f9 t9 a9 b9 c9 d9).2 = (up (up m 45 0 (if 0 = 0 then 0 else 1)) 45 0 (if 1 = 0 then 0 else 2)) := by simp [fAddL, lineBad, bi, thr, c6_2, c14_6, eq_false c32_9, c42_13, c53_17, c64_21]
                  exact e_I C0 hr hH ⟨eR, by rw [eM]; exact hM⟩ (Nat.le_refl _) (Nat.le_refl _) dX11_addLine_112
                · exact absurd c86_23 (by decide)
              · replace c64_21 := bi_n0.mp c64_21
                refine lv_iload hx hb dX11_addLine_67 (lv_at hl 6 rfl) ?_
                refine lv_iconst (v := 1) hx hb dX11_addLine_69 (by decide) ?_
                refine lv_iconst (v := 4) hx hb dX11_addLine_70 (by decide) ?_
                refine k_i hH (k_runS (rest := [.ref (o)]) C0 hH (cM_isIn l G A _ d9 1 4) mv_X11_isIn ml_X11_127 rfl ⟨by decide, by decide⟩ hl.1 rfl (Nat.le_of_ble_eq_true rfl) dX11_addLine_71 (by simp)) (fun r_24 h1 H locs hp hH => ?_)
                obtain ⟨er_24, eh⟩ := hp
                rw [eh] at hH
                clear eh
                subst er_24
                refine lv_if_ne (tgt := 81) hx hb dX11_addLine_74 (by decide) (fun c74_25 => ?_) (fun c74_25 => ?_)
                · replace c74_25 := bi_n0.mp c74_25
                  refine lv_iconst (v := 0) hx hb dX11_addLine_81 (by decide) ?_
                  refine lv_iconst (v := 2) hx hb dX11_addLine_82 (by decide) ?_
                  refine k_i hH (k_runV (rest := []) C0 hH (cM_isThrown l G A _ o ad (up m 45 0 (if 0 = 0 then 0 else 1)) hM 0 2 rfl) mv_X11_isThrown ml_X11_140 ci_15 hM.1 rfl ⟨by decide, by decide⟩ hl.1 rfl (Nat.le_of_ble_eq_true rfl) dX11_addLine_83 (by simp)) (fun r_26 h H locs hp hH => ?_)
                  obtain ⟨er_26, hM⟩ := hp
                  subst er_26
                  refine lv_if_ne (tgt := 111) hx hb dX11_addLine_86 (by decide) (fun c86_27 => ?_) (fun c86_27 => ?_)
                  · exact absurd (by decide) c86_27
                  · refine lv_aload_n hx hb dX11_addLine_89 rfl (lv_at hl 0 rfl) ?_
                    refine lv_aload_n hx hb dX11_addLine_90 rfl (lv_at hl 0 rfl) ?_
                    refine m_int C0 hH hM 38 (by decide) (by decide) fl_X11_137 (v := m 38 0) rfl dX11_addLine_91 ?_
                    refine lv_bipush (v := 12) hx hb dX11_addLine_94 (by decide) ?_
                    refine lv_icmp_ne (tgt := 103) hx hb dX11_addLine_96 (by decide) (fun c96_28 => ?_) (fun c96_28 => ?_)
                    · refine lv_iconst (v := 0) hx hb dX11_addLine_103 (by decide) ?_
                      refine lv_iconst (v := 3) hx hb dX11_addLine_104 (by decide) ?_
                      refine k_i hH (k_runV (rest := []) C0 hH (cM_isThrown l G A _ o ad (up (up m 45 0 (if 0 = 0 then 0 else 1)) 45 0 (if 0 = 0 then 0 else 2)) hM 0 3 rfl) mv_X11_isThrown ml_X11_140 ci_15 hM.1 rfl ⟨by decide, by decide⟩ hl.1 rfl (Nat.le_of_ble_eq_true rfl) dX11_addLine_105 (by simp)) (fun r_29 h H locs hp hH => ?_)
                      obtain ⟨er_29, hM⟩ := hp
                      subst er_29
                      refine lv_if_eq (tgt := 113) hx hb dX11_addLine_108 (by decide) (fun c108_30 => ?_) (fun c108_30 => ?_)
                      · refine lv_aload_n hx hb dX11_addLine_113 rfl (lv_at hl 0 rfl) ?_
                        have c91 : isHb m f9 = true ∧ isHb m t9 = true := ⟨c6_2, c14_6⟩
                        have c92 : ¬ lineBad f9 t9 a9 b9 c9 d9 := by simp [lineBad, c6_2, c14_6, eq_false c32_9, c42_13, c53_17, c64_21, c74_25, eq_false c96_28]
                        have c93 := c96_28
                        have hh1 := hw.isHb.mp c91.1
                        have hh2 := hw.isHb.mp c91.2
                        have hdd : inn d9 1 4 = true := c74_25
                        have hbb : ¬ b9 = 0 := by
                          intro z
                          have h1 : inn b9 5 60 = true := c53_17
                          rw [z] at h1
                          exact absurd h1 (by decide)
                        have h40 : nlN m < 12 := by
                          have h1 := hnl.2
                          rcases Nat.lt_or_eq_of_le h1 with z | z
                          · exact z
                          · exact absurd (by rw [hnl.1, z]; rfl) c93
                        obtain ⟨M0, hM0⟩ : ∃ z, z = thr (thr (thr m 0 1) 0 2) 0 3 := ⟨_, rfl⟩
                        replace hM : RM h o ad M0 := by rw [hM0]; exact hM
                        have hwM0 : WFa M0 := by rw [hM0]; exact ((hw.thr _ _).thr _ _).thr _ _
                        have grM0 : Gr 0 m M0 := by rw [hM0]; exact ((Gr.thr m _ _).trans (Gr.thr _ _ _)).trans (Gr.thr _ _ _)
                        obtain ⟨gnM0, glM0, ghM0, gcM0, gsM0, gaM0, gbM0⟩ := id grM0
                        have geM0 : uC M0 = uC (thr (thr (thr m 0 1) 0 2) 0 3) ∧ uS M0 = uS (thr (thr (thr m 0 1) 0 2) 0 3) := by rw [hM0]; exact ⟨rfl, rfl⟩
                        have h12 : vp_in (M0 38 0) 12 := by rw [hwM0.nl.1, glM0]; exact vp_in_nI h40 (by omega)
                        have hQ : fAddL m f9 t9 a9 b9 c9 d9 = (fPlansAll (mAdd M0 f9 t9 a9 b9 c9 d9) 38 0 - 1, fPlansAll (mAdd M0 f9 t9 a9 b9 c9 d9)) := by rw [fAddL_eq hw c91 c92 c93, hM0]
                        refine m_arr C0 hH hM 2 (by decide) fl_X11_16 dX11_addLine_114 ?_
                        refine lv_aload_n hx hb dX11_addLine_117 rfl (lv_at hl 0 rfl) ?_
                        refine m_int C0 hH hM 38 (by decide) (by decide) fl_X11_137 (v := M0 38 0) rfl dX11_addLine_118 ?_
                        refine lv_iload_n hx hb dX11_addLine_121 rfl (lv_at hl 1 rfl) ?_
                        refine m_stI C0 hH hM 2 (by decide) rfl (n := 12) rfl (ix := (M0 38 0).toNatClampNeg) rfl h12 dX11_addLine_122 (fun h H locs hH hM => ?_)
                        refine lv_aload_n hx hb dX11_addLine_123 rfl (lv_at hl 0 rfl) ?_
                        refine m_arr C0 hH hM 3 (by decide) fl_X11_19 dX11_addLine_124 ?_
                        refine lv_aload_n hx hb dX11_addLine_127 rfl (lv_at hl 0 rfl) ?_
                        refine m_int C0 hH hM 38 (by decide) (by decide) fl_X11_137 (v := M0 38 0) rfl dX11_addLine_128 ?_
                        refine lv_iload_n hx hb dX11_addLine_131 rfl (lv_at hl 2 rfl) ?_
                        refine m_stI C0 hH hM 3 (by decide) rfl (n := 12) rfl (ix := (M0 38 0).toNatClampNeg) rfl h12 dX11_addLine_132 (fun h H locs hH hM => ?_)
                        refine lv_aload_n hx hb dX11_addLine_133 rfl (lv_at hl 0 rfl) ?_
                        refine m_arr C0 hH hM 4 (by decide) fl_X11_22 dX11_addLine_134 ?_
                        refine lv_aload_n hx hb dX11_addLine_137 rfl (lv_at hl 0 rfl) ?_
                        refine m_int C0 hH hM 38 (by decide) (by decide) fl_X11_137 (v := M0 38 0) rfl dX11_addLine_138 ?_
                        refine lv_iload_n hx hb dX11_addLine_141 rfl (lv_at hl 3 rfl) ?_
                        refine m_stI C0 hH hM 4 (by decide) rfl (n := 12) rfl (ix := (M0 38 0).toNatClampNeg) rfl h12 dX11_addLine_142 (fun h H locs hH hM => ?_)
                        refine lv_aload_n hx hb dX11_addLine_143 rfl (lv_at hl 0 rfl) ?_
                        refine m_arr C0 hH hM 5 (by decide) fl_X11_25 dX11_addLine_144 ?_
                        refine lv_aload_n hx hb dX11_addLine_147 rfl (lv_at hl 0 rfl) ?_
                        refine m_int C0 hH hM 38 (by decide) (by decide) fl_X11_137 (v := M0 38 0) rfl dX11_addLine_148 ?_
                        refine lv_iload hx hb dX11_addLine_151 (lv_at hl 4 rfl) ?_
                        refine m_stI C0 hH hM 5 (by decide) rfl (n := 12) rfl (ix := (M0 38 0).toNatClampNeg) rfl h12 dX11_addLine_153 (fun h H locs hH hM => ?_)
                        refine lv_aload_n hx hb dX11_addLine_154 rfl (lv_at hl 0 rfl) ?_
                        refine m_arr C0 hH hM 6 (by decide) fl_X11_28 dX11_addLine_155 ?_
                        refine lv_aload_n hx hb dX11_addLine_158 rfl (lv_at hl 0 rfl) ?_
                        refine m_int C0 hH hM 38 (by decide) (by decide) fl_X11_137 (v := M0 38 0) rfl dX11_addLine_159 ?_
                        refine lv_iload hx hb dX11_addLine_162 (lv_at hl 5 rfl) ?_
                        refine m_stI C0 hH hM 6 (by decide) rfl (n := 12) rfl (ix := (M0 38 0).toNatClampNeg) rfl h12 dX11_addLine_164 (fun h H locs hH hM => ?_)
                        refine lv_aload_n hx hb dX11_addLine_165 rfl (lv_at hl 0 rfl) ?_
                        refine m_arr C0 hH hM 7 (by decide) fl_X11_31 dX11_addLine_166 ?_
                        refine lv_aload_n hx hb dX11_addLine_169 rfl (lv_at hl 0 rfl) ?_
                        refine m_int C0 hH hM 38 (by decide) (by decide) fl_X11_137 (v := M0 38 0) rfl dX11_addLine_170 ?_
                        refine lv_iload hx hb dX11_addLine_173 (lv_at hl 6 rfl) ?_
                        refine m_stI C0 hH hM 7 (by decide) rfl (n := 12) rfl (ix := (M0 38 0).toNatClampNeg) rfl h12 dX11_addLine_175 (fun h H locs hH hM => ?_)
                        refine lv_aload_n hx hb dX11_addLine_176 rfl (lv_at hl 0 rfl) ?_
                        refine lv_dup hx hb dX11_addLine_177 rfl ?_
                        refine m_int C0 hH hM 38 (by decide) (by decide) fl_X11_137 (v := M0 38 0) rfl dX11_addLine_178 ?_
                        refine lv_iconst (v := 1) hx hb dX11_addLine_181 (by decide) ?_
                        refine lv_iadd hx hb dX11_addLine_182 ?_
                        refine lv_topi (fun x9 ex9 => ?_)
                        replace ex9 : x9 = nI (nlN M0 + 1) := ex9.trans (by rw [hwM0.nl.1, nI_1])
                        subst ex9
                        refine m_put C0 hH hM 38 (by decide) (by decide) fl_X11_137 dX11_addLine_183 (fun h H locs hH hM => ?_)
                        refine lv_aload_n hx hb dX11_addLine_186 rfl (lv_at hl 0 rfl) ?_
                        obtain ⟨M1, hM1⟩ : ∃ z, z = mAdd M0 f9 t9 a9 b9 c9 d9 := ⟨_, rfl⟩
                        replace hM : RM h o ad M1 := by rw [hM1]; exact hM
                        have hwM1 : WFa M1 := by rw [hM1]; exact hwM0.addM (by omega) (by rw [ghM0]; exact hh1) (by rw [ghM0]; exact hh2) hbb hdd _ _
                        refine k_v hH (k_runV (rest := []) C0 hH (cM_plansAll l G A _ o ad M1 hM  hwM1) mv_X11_plansAll ml_X11_195 ci_15 hM.1 rfl ⟨by decide, by decide⟩ hl.1 rfl (Nat.le_of_ble_eq_true rfl) dX11_addLine_187 (by simp)) (fun h H locs hp hH => ?_)
                        have hM := hp
                        refine lv_aload_n hx hb dX11_addLine_190 rfl (lv_at hl 0 rfl) ?_
                        refine m_int C0 hH hM 38 (by decide) (by decide) fl_X11_137 (v := (fPlansAll M1) 38 0) rfl dX11_addLine_191 ?_
                        refine lv_iconst (v := 1) hx hb dX11_addLine_194 (by decide) ?_
                        refine lv_isub hx hb dX11_addLine_195 ?_
                        have eR : ((fPlansAll M1) 38 0) - 1 = (fAddL m f9 t9 a9 b9 c9 d9).1 := by rw [hQ, hM1]
                        have eM : (fAddL m f9 t9 a9 b9 c9 d9).2 = (fPlansAll M1) := by rw [hQ, hM1]
                        exact e_I C0 hr hH ⟨eR, by rw [eM]; exact hM⟩ (Nat.le_refl _) (Nat.le_refl _) dX11_addLine_196
                      · exact absurd (by decide) c108_30
                    · refine lv_iconst (v := 1) hx hb dX11_addLine_99 (by decide) ?_
                      refine lv_goto (tgt := 104) hx hb dX11_addLine_100 (by decide) ?_
                      refine lv_iconst (v := 3) hx hb dX11_addLine_104 (by decide) ?_
                      refine k_i hH (k_runV (rest := []) C0 hH (cM_isThrown l G A _ o ad (up (up m 45 0 (if 0 = 0 then 0 else 1)) 45 0 (if 0 = 0 then 0 else 2)) hM 1 3 rfl) mv_X11_isThrown ml_X11_140 ci_15 hM.1 rfl ⟨by decide, by decide⟩ hl.1 rfl (Nat.le_of_ble_eq_true rfl) dX11_addLine_105 (by simp)) (fun r_31 h H locs hp hH => ?_)
                      obtain ⟨er_31, hM⟩ := hp
                      subst er_31
                      refine lv_if_eq (tgt := 113) hx hb dX11_addLine_108 (by decide) (fun c108_32 => ?_) (fun c108_32 => ?_)
                      · exact absurd c108_32 (by decide)
                      · refine lv_iconst (v := 0) hx hb dX11_addLine_111 (by decide) ?_
                        have eR : 0 = (fAddL m f9 t9 a9 b9 c9 d9).1 := by simp [fAddL, lineBad, bi, thr, c6_2, c14_6, eq_false c32_9, c42_13, c53_17, c64_21, c74_25, eq_true c96_28]
                        have eM : (fAddL m f9 t9 a9 b9 c9 d9).2 = (up (up (up m 45 0 (if 0 = 0 then 0 else 1)) 45 0 (if 0 = 0 then 0 else 2)) 45 0 (if 1 = 0 then 0 else 3)) := by simp [fAddL, lineBad, bi, thr, c6_2, c14_6, eq_false c32_9, c42_13, c53_17, c64_21, c74_25, eq_true c96_28]
                        exact e_I C0 hr hH ⟨eR, by rw [eM]; exact hM⟩ (Nat.le_refl _) (Nat.le_refl _) dX11_addLine_112
                · replace c74_25 := bi_0.mp c74_25
                  refine lv_iconst (v := 1) hx hb dX11_addLine_77 (by decide) ?_
                  refine lv_goto (tgt := 82) hx hb dX11_addLine_78 (by decide) ?_
                  refine lv_iconst (v := 2) hx hb dX11_addLine_82 (by decide) ?_
                  refine k_i hH (k_runV (rest := []) C0 hH (cM_isThrown l G A _ o ad (up m 45 0 (if 0 = 0 then 0 else 1)) hM 1 2 rfl) mv_X11_isThrown ml_X11_140 ci_15 hM.1 rfl ⟨by decide, by decide⟩ hl.1 rfl (Nat.le_of_ble_eq_true rfl) dX11_addLine_83 (by simp)) (fun r_33 h H locs hp hH => ?_)
                  obtain ⟨er_33, hM⟩ := hp
                  subst er_33
                  refine lv_if_ne (tgt := 111) hx hb dX11_addLine_86 (by decide) (fun c86_34 => ?_) (fun c86_34 => ?_)
                  · refine lv_iconst (v := 0) hx hb dX11_addLine_111 (by decide) ?_
                    have eR : 0 = (fAddL m f9 t9 a9 b9 c9 d9).1 := by simp [fAddL, lineBad, bi, thr, c6_2, c14_6, eq_false c32_9, c42_13, c53_17, c64_21, c74_25]
                    have eM : (fAddL m f9 t9 a9 b9 c9 d9).2 = (up (up m 45 0 (if 0 = 0 then 0 else 1)) 45 0 (if 1 = 0 then 0 else 2)) := by simp [fAddL, lineBad, bi, thr, c6_2, c14_6, eq_false c32_9, c42_13, c53_17, c64_21, c74_25]
                    exact e_I C0 hr hH ⟨eR, by rw [eM]; exact hM⟩ (Nat.le_refl _) (Nat.le_refl _) dX11_addLine_112
                  · exact absurd c86_34 (by decide)
    · replace c14_6 := bi_0.mp c14_6
      refine lv_iconst (v := 1) hx hb dX11_addLine_17 (by decide) ?_
      refine lv_goto (tgt := 22) hx hb dX11_addLine_18 (by decide) ?_
      refine lv_iconst (v := 1) hx hb dX11_addLine_22 (by decide) ?_
      refine k_i hH (k_runV (rest := []) C0 hH (cM_isThrown l G A _ o ad m hM 1 1 rfl) mv_X11_isThrown ml_X11_140 ci_15 hM.1 rfl ⟨by decide, by decide⟩ hl.1 rfl (Nat.le_of_ble_eq_true rfl) dX11_addLine_23 (by simp)) (fun r_35 h H locs hp hH => ?_)
      obtain ⟨er_35, hM⟩ := hp
      subst er_35
      refine lv_if_ne (tgt := 111) hx hb dX11_addLine_26 (by decide) (fun c26_36 => ?_) (fun c26_36 => ?_)
      · refine lv_iconst (v := 0) hx hb dX11_addLine_111 (by decide) ?_
        have eR : 0 = (fAddL m f9 t9 a9 b9 c9 d9).1 := by simp [fAddL, lineBad, bi, thr, c6_2, c14_6]
        have eM : (fAddL m f9 t9 a9 b9 c9 d9).2 = (up m 45 0 (if 1 = 0 then 0 else 1)) := by simp [fAddL, lineBad, bi, thr, c6_2, c14_6]
        exact e_I C0 hr hH ⟨eR, by rw [eM]; exact hM⟩ (Nat.le_refl _) (Nat.le_refl _) dX11_addLine_112
      · exact absurd c26_36 (by decide)
set_option maxHeartbeats 4000000 in
set_option maxRecDepth 100000 in
theorem cM_openHub (l : Launch) (G : GT) (A : Nat → Prop) (h : AH) (o : Nat) (ad : Nat → Nat) (m : MM) (hM : RM h o ad m) (a9 b9 : Int32) (hw : WFa m) : cmI l G A yX11_openHub cX11_openHub 5 (Option.some FieldType.int) 2 46 0 0 [.ref (o), .int (a9), .int (b9)] h (fun r h' => r = (fOpen m a9 b9).1 ∧ RM h' o ad ((fOpen m a9 b9).2)) := by
  refine cm_of "RoutepostModel" rfl (by decide) (Nat.le_of_ble_eq_true rfl) ?_
  intro pr e s m9 below meth c C0 hr hname hH ls hl
  obtain ⟨hx, hb, hml, hown, hts, hK, hA, -⟩ := id C0
  have hl : lv_has ls 5 [(0, .ref (o)), (1, .int (a9)), (2, .int (b9))] := hl
  have hnp := hw.np
  have hnh := hw.nh
  have hB := hnh.1
  refine lv_iconst (v := 0) hx hb dX11_openHub_0 (by decide) ?_
  refine lv_istore_n (lv' := [(3, .int (0)), (0, .ref (o)), (1, .int (a9)), (2, .int (b9))]) hx hb dX11_openHub_1 rfl hl (by decide) rfl (fun ls hl => ?_)
  refine lv_iconst (v := 0) hx hb dX11_openHub_2 (by decide) ?_
  refine lv_istore (lv' := [(4, .int (0)), (3, .int (0)), (0, .ref (o)), (1, .int (a9)), (2, .int (b9))]) hx hb dX11_openHub_3 hl (by decide) rfl (fun ls hl => ?_)
  have K : ∀ (k i : Nat) (is : Int32), i + k = nhN m → hasCode m a9 k i is = hasCode m a9 (nhN m) 0 0 → ∀ (ls : Array Slot), lv_has ls 5 [(4, .int (nI i)), (3, .int (is)), (0, .ref (o)), (1, .int (a9)), (2, .int (b9))] → W pr l e (rmm 2 46 0 0) s m9 ([.ref (o), .int (a9), .int (b9)] : List Value).toArray below meth c s.heap [] 0 0 (QI below G A (fun r h' => r = (fOpen m a9 b9).1 ∧ RM h' o ad ((fOpen m a9 b9).2)) ([.ref (o), .int (a9), .int (b9)] : List Value).toArray s 0 0) (F0 m9 5 ls []) := by
    intro k
    induction k with
    | zero =>
      intro i is hik hT  ls hl
      refine lv_iload hx hb dX11_openHub_5 (lv_at hl 0 rfl) ?_
      refine lv_aload_n hx hb dX11_openHub_7 rfl (lv_at hl 2 rfl) ?_
      refine m_int C0 hH hM 37 (by decide) (by decide) fl_X11_134 (v := m 37 0) rfl dX11_openHub_8 ?_
      refine lv_icmp_ge (tgt := 39) hx hb dX11_openHub_11 (by decide) (fun c11_1 => ?_) (fun c11_1 => ?_)
      · have hT2 : is = hasCode m a9 (nhN m) 0 0 := hT
        subst hT2
        refine lv_aload_n hx hb dX11_openHub_39 rfl (lv_at hl 2 rfl) ?_
        refine lv_iload_n hx hb dX11_openHub_40 rfl (lv_at hl 3 rfl) ?_
        refine lv_iconst (v := 1) hx hb dX11_openHub_41 (by decide) ?_
        refine lv_sipush (v := 999) hx hb dX11_openHub_42 (by decide) ?_
        refine k_i hH (k_runS (rest := [.ref (o)]) C0 hH (cM_isDigits l G A _ a9 1 999) mv_X11_isDigits ml_X11_131 rfl ⟨by decide, by decide⟩ hl.1 rfl (Nat.le_of_ble_eq_true rfl) dX11_openHub_45 (by simp)) (fun r_2 h1 H locs hp hH => ?_)
        obtain ⟨er_2, eh⟩ := hp
        rw [eh] at hH
        clear eh
        subst er_2
        refine lv_if_eq (tgt := 61) hx hb dX11_openHub_48 (by decide) (fun c48_3 => ?_) (fun c48_3 => ?_)
        · refine lv_iconst (v := 1) hx hb dX11_openHub_61 (by decide) ?_
          refine lv_goto (tgt := 66) hx hb dX11_openHub_62 (by decide) ?_
          refine lv_iconst (v := 1) hx hb dX11_openHub_66 (by decide) ?_
          refine k_i hH (k_runV (rest := []) C0 hH (cM_isThrown l G A _ o ad m hM 1 1 rfl) mv_X11_isThrown ml_X11_140 ci_15 hM.1 rfl ⟨by decide, by decide⟩ hl.1 rfl (Nat.le_of_ble_eq_true rfl) dX11_openHub_67 (by simp)) (fun r_4 h H locs hp hH => ?_)
          obtain ⟨er_4, hM⟩ := hp
          subst er_4
          refine lv_if_ne (tgt := 99) hx hb dX11_openHub_70 (by decide) (fun c70_5 => ?_) (fun c70_5 => ?_)
          · refine lv_iconst (v := 0) hx hb dX11_openHub_99 (by decide) ?_
            have eR : 0 = (fOpen m a9 b9).1 := by simp [fOpen, bi, thr, c11_1, Int32.not_lt.mpr c11_1, eq_true c48_3]
            have eM : (fOpen m a9 b9).2 = (up m 45 0 (if 1 = 0 then 0 else 1)) := by simp [fOpen, bi, thr, c11_1, Int32.not_lt.mpr c11_1, eq_true c48_3]
            exact e_I C0 hr hH ⟨eR, by rw [eM]; exact hM⟩ (Nat.le_refl _) (Nat.le_refl _) dX11_openHub_100
          · exact absurd c70_5 (by decide)
        · refine lv_iload_n hx hb dX11_openHub_51 rfl (lv_at hl 4 rfl) ?_
          refine lv_iconst (v := 1) hx hb dX11_openHub_52 (by decide) ?_
          refine lv_bipush (v := 20) hx hb dX11_openHub_53 (by decide) ?_
          refine k_i hH (k_runS (rest := [.ref (o)]) C0 hH (cM_isIn l G A _ b9 1 20) mv_X11_isIn ml_X11_127 rfl ⟨by decide, by decide⟩ hl.1 rfl (Nat.le_of_ble_eq_true rfl) dX11_openHub_55 (by simp)) (fun r_6 h1 H locs hp hH => ?_)
          obtain ⟨er_6, eh⟩ := hp
          rw [eh] at hH
          clear eh
          subst er_6
          refine lv_if_ne (tgt := 65) hx hb dX11_openHub_58 (by decide) (fun c58_7 => ?_) (fun c58_7 => ?_)
          · replace c58_7 := bi_n0.mp c58_7
            refine lv_iconst (v := 0) hx hb dX11_openHub_65 (by decide) ?_
            refine lv_iconst (v := 1) hx hb dX11_openHub_66 (by decide) ?_
            refine k_i hH (k_runV (rest := []) C0 hH (cM_isThrown l G A _ o ad m hM 0 1 rfl) mv_X11_isThrown ml_X11_140 ci_15 hM.1 rfl ⟨by decide, by decide⟩ hl.1 rfl (Nat.le_of_ble_eq_true rfl) dX11_openHub_67 (by simp)) (fun r_8 h H locs hp hH => ?_)
            obtain ⟨er_8, hM⟩ := hp
            subst er_8
            refine lv_if_ne (tgt := 99) hx hb dX11_openHub_70 (by decide) (fun c70_9 => ?_) (fun c70_9 => ?_)
            · exact absurd (by decide) c70_9
            · refine lv_aload_n hx hb dX11_openHub_73 rfl (lv_at hl 2 rfl) ?_
              refine lv_iload_n hx hb dX11_openHub_74 rfl (lv_at hl 1 rfl) ?_
              refine lv_if_ne (tgt := 87) hx hb dX11_openHub_75 (by decide) (fun c75_10 => ?_) (fun c75_10 => ?_)
              · refine lv_iconst (v := 1) hx hb dX11_openHub_87 (by decide) ?_
                refine lv_goto (tgt := 92) hx hb dX11_openHub_88 (by decide) ?_
                refine lv_iconst (v := 2) hx hb dX11_openHub_92 (by decide) ?_
                refine k_i hH (k_runV (rest := []) C0 hH (cM_isThrown l G A _ o ad (up m 45 0 (if 0 = 0 then 0 else 1)) hM 1 2 rfl) mv_X11_isThrown ml_X11_140 ci_15 hM.1 rfl ⟨by decide, by decide⟩ hl.1 rfl (Nat.le_of_ble_eq_true rfl) dX11_openHub_93 (by simp)) (fun r_11 h H locs hp hH => ?_)
                obtain ⟨er_11, hM⟩ := hp
                subst er_11
                refine lv_if_eq (tgt := 101) hx hb dX11_openHub_96 (by decide) (fun c96_12 => ?_) (fun c96_12 => ?_)
                · exact absurd c96_12 (by decide)
                · refine lv_iconst (v := 0) hx hb dX11_openHub_99 (by decide) ?_
                  have eR : 0 = (fOpen m a9 b9).1 := by simp [fOpen, bi, thr, c11_1, Int32.not_lt.mpr c11_1, eq_false c48_3, c58_7, eq_false c75_10]
                  have eM : (fOpen m a9 b9).2 = (up (up m 45 0 (if 0 = 0 then 0 else 1)) 45 0 (if 1 = 0 then 0 else 2)) := by simp [fOpen, bi, thr, c11_1, Int32.not_lt.mpr c11_1, eq_false c48_3, c58_7, eq_false c75_10]
                  exact e_I C0 hr hH ⟨eR, by rw [eM]; exact hM⟩ (Nat.le_refl _) (Nat.le_refl _) dX11_openHub_100
              · refine lv_aload_n hx hb dX11_openHub_78 rfl (lv_at hl 2 rfl) ?_
                refine m_int C0 hH hM 37 (by decide) (by decide) fl_X11_134 (v := m 37 0) rfl dX11_openHub_79 ?_
                refine lv_bipush (v := 6) hx hb dX11_openHub_82 (by decide) ?_
                refine lv_icmp_ne (tgt := 91) hx hb dX11_openHub_84 (by decide) (fun c84_13 => ?_) (fun c84_13 => ?_)
                · refine lv_iconst (v := 0) hx hb dX11_openHub_91 (by decide) ?_
                  refine lv_iconst (v := 2) hx hb dX11_openHub_92 (by decide) ?_
                  refine k_i hH (k_runV (rest := []) C0 hH (cM_isThrown l G A _ o ad (up m 45 0 (if 0 = 0 then 0 else 1)) hM 0 2 rfl) mv_X11_isThrown ml_X11_140 ci_15 hM.1 rfl ⟨by decide, by decide⟩ hl.1 rfl (Nat.le_of_ble_eq_true rfl) dX11_openHub_93 (by simp)) (fun r_14 h H locs hp hH => ?_)
                  obtain ⟨er_14, hM⟩ := hp
                  subst er_14
                  refine lv_if_eq (tgt := 101) hx hb dX11_openHub_96 (by decide) (fun c96_15 => ?_) (fun c96_15 => ?_)
                  · refine lv_aload_n hx hb dX11_openHub_101 rfl (lv_at hl 2 rfl) ?_
                    have c91 : ¬ (isDg a9 1 999 = 0 ∨ ¬ inn b9 1 20 = true) := by simp [c11_1, Int32.not_lt.mpr c11_1, eq_false c48_3, c58_7, eq_true c75_10, eq_false c84_13]
                    have c92 : ¬ (¬ hasCode m a9 (nhN m) 0 0 = 0 ∨ m 37 0 = 6) := by simp [c11_1, Int32.not_lt.mpr c11_1, eq_false c48_3, c58_7, eq_true c75_10, eq_false c84_13]
                    have h40 : nhN m < 6 := by
                      have h1 := hnh.2
                      rcases Nat.lt_or_eq_of_le h1 with z | z
                      · exact z
                      · exact absurd (Or.inr (by rw [hnh.1, z]; rfl)) c92
                    obtain ⟨M0, hM0⟩ : ∃ z, z = thr (thr m 0 1) 0 2 := ⟨_, rfl⟩
                    replace hM : RM h o ad M0 := by rw [hM0]; exact hM
                    have hwM0 : WFa M0 := by rw [hM0]; exact (hw.thr _ _).thr _ _
                    have grM0 : Gr 0 m M0 := by rw [hM0]; exact (Gr.thr m _ _).trans (Gr.thr _ _ _)
                    obtain ⟨gnM0, glM0, ghM0, gcM0, gsM0, gaM0, gbM0⟩ := id grM0
                    have geM0 : uC M0 = uC (thr (thr m 0 1) 0 2) ∧ uS M0 = uS (thr (thr m 0 1) 0 2) := by rw [hM0]; exact ⟨rfl, rfl⟩
                    have h6 : vp_in (M0 37 0) 6 := by rw [hwM0.nh.1, ghM0]; exact vp_in_nI h40 (by omega)
                    have hQ : fOpen m a9 b9 = (nI (nhN M0 + 1) - 1, mOpn M0 a9 b9) := by rw [fOpen_eq hw c91 c92, ghM0, hM0]
                    refine m_arr C0 hH hM 0 (by decide) fl_X11_9 dX11_openHub_102 ?_
                    refine lv_aload_n hx hb dX11_openHub_105 rfl (lv_at hl 2 rfl) ?_
                    refine m_int C0 hH hM 37 (by decide) (by decide) fl_X11_134 (v := M0 37 0) rfl dX11_openHub_106 ?_
                    refine lv_iload_n hx hb dX11_openHub_109 rfl (lv_at hl 3 rfl) ?_
                    refine m_stI C0 hH hM 0 (by decide) rfl (n := 6) rfl (ix := (M0 37 0).toNatClampNeg) rfl h6 dX11_openHub_110 (fun h H locs hH hM => ?_)
                    refine lv_aload_n hx hb dX11_openHub_111 rfl (lv_at hl 2 rfl) ?_
                    refine m_arr C0 hH hM 1 (by decide) fl_X11_13 dX11_openHub_112 ?_
                    refine lv_aload_n hx hb dX11_openHub_115 rfl (lv_at hl 2 rfl) ?_
                    refine m_int C0 hH hM 37 (by decide) (by decide) fl_X11_134 (v := M0 37 0) rfl dX11_openHub_116 ?_
                    refine lv_iload_n hx hb dX11_openHub_119 rfl (lv_at hl 4 rfl) ?_
                    refine m_stI C0 hH hM 1 (by decide) rfl (n := 6) rfl (ix := (M0 37 0).toNatClampNeg) rfl h6 dX11_openHub_120 (fun h H locs hH hM => ?_)
                    refine lv_aload_n hx hb dX11_openHub_121 rfl (lv_at hl 2 rfl) ?_
                    refine lv_dup hx hb dX11_openHub_122 rfl ?_
                    refine m_int C0 hH hM 37 (by decide) (by decide) fl_X11_134 (v := M0 37 0) rfl dX11_openHub_123 ?_
                    refine lv_iconst (v := 1) hx hb dX11_openHub_126 (by decide) ?_
                    refine lv_iadd hx hb dX11_openHub_127 ?_
                    refine lv_topi (fun x9 ex9 => ?_)
                    replace ex9 : x9 = nI (nhN M0 + 1) := ex9.trans (by rw [hwM0.nh.1, nI_1])
                    subst ex9
                    refine m_put C0 hH hM 37 (by decide) (by decide) fl_X11_134 dX11_openHub_128 (fun h H locs hH hM => ?_)
                    refine lv_aload_n hx hb dX11_openHub_131 rfl (lv_at hl 2 rfl) ?_
                    refine m_int C0 hH hM 37 (by decide) (by decide) fl_X11_134 (v := nI (nhN M0 + 1)) (by simp [up]) dX11_openHub_132 ?_
                    refine lv_iconst (v := 1) hx hb dX11_openHub_135 (by decide) ?_
                    refine lv_isub hx hb dX11_openHub_136 ?_
                    have eR : (nI (nhN M0 + 1)) - 1 = (fOpen m a9 b9).1 := by rw [hQ]
                    have eM : (fOpen m a9 b9).2 = (up (up (up M0 0 ((M0 37 0).toNatClampNeg) a9) 1 ((M0 37 0).toNatClampNeg) b9) 37 0 (nI (nhN M0 + 1))) := by rw [hQ]; rfl
                    exact e_I C0 hr hH ⟨eR, by rw [eM]; exact hM⟩ (Nat.le_refl _) (Nat.le_refl _) dX11_openHub_137
                  · exact absurd (by decide) c96_15
                · refine lv_iconst (v := 1) hx hb dX11_openHub_87 (by decide) ?_
                  refine lv_goto (tgt := 92) hx hb dX11_openHub_88 (by decide) ?_
                  refine lv_iconst (v := 2) hx hb dX11_openHub_92 (by decide) ?_
                  refine k_i hH (k_runV (rest := []) C0 hH (cM_isThrown l G A _ o ad (up m 45 0 (if 0 = 0 then 0 else 1)) hM 1 2 rfl) mv_X11_isThrown ml_X11_140 ci_15 hM.1 rfl ⟨by decide, by decide⟩ hl.1 rfl (Nat.le_of_ble_eq_true rfl) dX11_openHub_93 (by simp)) (fun r_16 h H locs hp hH => ?_)
                  obtain ⟨er_16, hM⟩ := hp
                  subst er_16
                  refine lv_if_eq (tgt := 101) hx hb dX11_openHub_96 (by decide) (fun c96_17 => ?_) (fun c96_17 => ?_)
                  · exact absurd c96_17 (by decide)
                  · refine lv_iconst (v := 0) hx hb dX11_openHub_99 (by decide) ?_
                    have eR : 0 = (fOpen m a9 b9).1 := by simp [fOpen, bi, thr, c11_1, Int32.not_lt.mpr c11_1, eq_false c48_3, c58_7, eq_true c75_10, eq_true c84_13]
                    have eM : (fOpen m a9 b9).2 = (up (up m 45 0 (if 0 = 0 then 0 else 1)) 45 0 (if 1 = 0 then 0 else 2)) := by simp [fOpen, bi, thr, c11_1, Int32.not_lt.mpr c11_1, eq_false c48_3, c58_7, eq_true c75_10, eq_true c84_13]
                    exact e_I C0 hr hH ⟨eR, by rw [eM]; exact hM⟩ (Nat.le_refl _) (Nat.le_refl _) dX11_openHub_100
          · replace c58_7 := bi_0.mp c58_7
            refine lv_iconst (v := 1) hx hb dX11_openHub_61 (by decide) ?_
            refine lv_goto (tgt := 66) hx hb dX11_openHub_62 (by decide) ?_
            refine lv_iconst (v := 1) hx hb dX11_openHub_66 (by decide) ?_
            refine k_i hH (k_runV (rest := []) C0 hH (cM_isThrown l G A _ o ad m hM 1 1 rfl) mv_X11_isThrown ml_X11_140 ci_15 hM.1 rfl ⟨by decide, by decide⟩ hl.1 rfl (Nat.le_of_ble_eq_true rfl) dX11_openHub_67 (by simp)) (fun r_18 h H locs hp hH => ?_)
            obtain ⟨er_18, hM⟩ := hp
            subst er_18
            refine lv_if_ne (tgt := 99) hx hb dX11_openHub_70 (by decide) (fun c70_19 => ?_) (fun c70_19 => ?_)
            · refine lv_iconst (v := 0) hx hb dX11_openHub_99 (by decide) ?_
              have eR : 0 = (fOpen m a9 b9).1 := by simp [fOpen, bi, thr, c11_1, Int32.not_lt.mpr c11_1, eq_false c48_3, c58_7]
              have eM : (fOpen m a9 b9).2 = (up m 45 0 (if 1 = 0 then 0 else 1)) := by simp [fOpen, bi, thr, c11_1, Int32.not_lt.mpr c11_1, eq_false c48_3, c58_7]
              exact e_I C0 hr hH ⟨eR, by rw [eM]; exact hM⟩ (Nat.le_refl _) (Nat.le_refl _) dX11_openHub_100
            · exact absurd c70_19 (by decide)
      · exact absurd (by rw [hB]; exact nI_le (by omega) (by omega)) c11_1
    | succ k ih =>
      intro i is hik hT  ls hl
      refine lv_iload hx hb dX11_openHub_5 (lv_at hl 0 rfl) ?_
      refine lv_aload_n hx hb dX11_openHub_7 rfl (lv_at hl 2 rfl) ?_
      refine m_int C0 hH hM 37 (by decide) (by decide) fl_X11_134 (v := m 37 0) rfl dX11_openHub_8 ?_
      refine lv_icmp_ge (tgt := 39) hx hb dX11_openHub_11 (by decide) (fun c11_20 => ?_) (fun c11_20 => ?_)
      · exact absurd c11_20 (by rw [hB]; exact nI_ge (by omega) (by omega))
      · refine lv_iload_n hx hb dX11_openHub_14 rfl (lv_at hl 1 rfl) ?_
        refine lv_aload_n hx hb dX11_openHub_15 rfl (lv_at hl 2 rfl) ?_
        refine m_arr C0 hH hM 0 (by decide) fl_X11_9 dX11_openHub_16 ?_
        refine lv_iload hx hb dX11_openHub_19 (lv_at hl 0 rfl) ?_
        refine m_ldI C0 hH hM 0 (by decide) rfl (n := 6) rfl (ix := i) (nI_clamp (by omega)) (by first | assumption | exact vp_in_nI (by omega) (by omega)) (v := m 0 i) rfl dX11_openHub_21 ?_
        refine lv_iload_n hx hb dX11_openHub_22 rfl (lv_at hl 3 rfl) ?_
        refine lv_icmp_ne (tgt := 30) hx hb dX11_openHub_23 (by decide) (fun c23_21 => ?_) (fun c23_21 => ?_)
        · refine lv_iconst (v := 0) hx hb dX11_openHub_30 (by decide) ?_
          refine lv_ior hx hb dX11_openHub_31 ?_
          refine lv_istore_n (lv' := [(3, .int (is ||| 0)), (4, .int (nI i)), (0, .ref (o)), (1, .int (a9)), (2, .int (b9))]) hx hb dX11_openHub_32 rfl hl (by decide) rfl (fun ls hl => ?_)
          refine lv_iinc (v := nI (i + 1)) (lv' := [(4, .int (nI (i + 1))), (3, .int (is ||| 0)), (0, .ref (o)), (1, .int (a9)), (2, .int (b9))]) hx hb dX11_openHub_33 hl (k := 1) rfl (by rw [← nI_1]; rfl) (by decide) rfl (fun ls hl => ?_)
          refine lv_goto (tgt := 5) hx hb dX11_openHub_36 (by decide) ?_
          exact ih (i + 1) (is ||| 0) (by omega) (by rw [← hT]; simp [hasCode, bi, c11_20, Int32.not_le.mp c11_20, eq_false c23_21])  ls (lv_sub hl [0, 1, 2, 3, 4] rfl)
        · refine lv_iconst (v := 1) hx hb dX11_openHub_26 (by decide) ?_
          refine lv_goto (tgt := 31) hx hb dX11_openHub_27 (by decide) ?_
          refine lv_ior hx hb dX11_openHub_31 ?_
          refine lv_istore_n (lv' := [(3, .int (is ||| 1)), (4, .int (nI i)), (0, .ref (o)), (1, .int (a9)), (2, .int (b9))]) hx hb dX11_openHub_32 rfl hl (by decide) rfl (fun ls hl => ?_)
          refine lv_iinc (v := nI (i + 1)) (lv' := [(4, .int (nI (i + 1))), (3, .int (is ||| 1)), (0, .ref (o)), (1, .int (a9)), (2, .int (b9))]) hx hb dX11_openHub_33 hl (k := 1) rfl (by rw [← nI_1]; rfl) (by decide) rfl (fun ls hl => ?_)
          refine lv_goto (tgt := 5) hx hb dX11_openHub_36 (by decide) ?_
          exact ih (i + 1) (is ||| 1) (by omega) (by rw [← hT]; simp [hasCode, bi, c11_20, Int32.not_le.mp c11_20, eq_true c23_21])  ls (lv_sub hl [0, 1, 2, 3, 4] rfl)
  exact K (nhN m) 0 0 (by omega) (rfl)  ls (lv_sub hl [0, 1, 2, 3, 4] rfl)
