set_option maxHeartbeats 4000000 in
set_option maxRecDepth 100000 in
theorem cM_accept (l : Launch) (G : GT) (A : Nat → Prop) (h : AH) (o : Nat) (ad : Nat → Nat) (m : MM) (hM : RM h o ad m) (u9 x v9 s9 : Int32) (hw : WFa m) (hU : logN m + 1 ≤ 2 ^ 21) : cmI l G A yX11_accept cX11_accept 6 (Option.some FieldType.int) 13 330 (uC ((fAcc m u9 x v9 s9).2) - uC m) (uS ((fAcc m u9 x v9 s9).2) - uS m) [.ref (o), .int (u9), .int (x), .int (v9), .int (s9)] h (fun r h' => r = (fAcc m u9 x v9 s9).1 ∧ ∃ ad', RM h' o ad' ((fAcc m u9 x v9 s9).2)) := by
  refine cm_of "RoutepostModel" rfl (by decide) (Nat.le_of_ble_eq_true rfl) ?_
  intro pr e s m9 below meth c C0 hr hname hH ls hl
  obtain ⟨hx, hb, hml, hown, hts, hK, hA, -⟩ := id C0
  have hl : lv_has ls 6 [(0, .ref (o)), (1, .int (u9)), (2, .int (x)), (3, .int (v9)), (4, .int (s9))] := hl
  have hnp := hw.np
  have hnh := hw.nh
  refine lv_aload_n hx hb dX11_accept_0 rfl (lv_at hl 0 rfl) ?_
  refine lv_aload_n hx hb dX11_accept_1 rfl (lv_at hl 0 rfl) ?_
  refine lv_iload_n hx hb dX11_accept_2 rfl (lv_at hl 1 rfl) ?_
  refine k_i hH (k_runV (rest := [.ref (o)]) C0 hH (cM_isHub l G A _ o ad m hM u9) mv_X11_isHub ml_X11_192 ci_15 hM.1 rfl ⟨Nat.le_of_ble_eq_true rfl, Nat.le_of_ble_eq_true rfl⟩ hl.1 rfl (Nat.le_of_ble_eq_true rfl) dX11_accept_3 ⟨by show _ ≤ uC ((fAcc m u9 x v9 s9).2) - uC m; omega, by show _ ≤ uS ((fAcc m u9 x v9 s9).2) - uS m; omega⟩) (fun r_1 h1 H locs hp hH => ?_)
  obtain ⟨er_1, eh⟩ := hp
  rw [eh] at hH
  clear eh
  subst er_1
  refine lv_if_ne (tgt := 13) hx hb dX11_accept_6 (by decide) (fun c6_2 => ?_) (fun c6_2 => ?_)
  · replace c6_2 := bi_n0.mp c6_2
    refine lv_iconst (v := 0) hx hb dX11_accept_13 (by decide) ?_
    refine lv_iconst (v := 1) hx hb dX11_accept_14 (by decide) ?_
    refine k_i hH (k_runV (rest := []) C0 hH (cM_isThrown l G A _ o ad m hM 0 1 rfl) mv_X11_isThrown ml_X11_140 ci_15 hM.1 rfl ⟨Nat.le_of_ble_eq_true rfl, Nat.le_of_ble_eq_true rfl⟩ hl.1 rfl (Nat.le_of_ble_eq_true rfl) dX11_accept_15 ⟨by show _ ≤ uC ((fAcc m u9 x v9 s9).2) - uC m; omega, by show _ ≤ uS ((fAcc m u9 x v9 s9).2) - uS m; omega⟩) (fun r_3 h H locs hp hH => ?_)
    obtain ⟨er_3, hM⟩ := hp
    subst er_3
    refine lv_if_ne (tgt := 91) hx hb dX11_accept_18 (by decide) (fun c18_4 => ?_) (fun c18_4 => ?_)
    · exact absurd (by decide) c18_4
    · refine lv_aload_n hx hb dX11_accept_21 rfl (lv_at hl 0 rfl) ?_
      refine lv_iload_n hx hb dX11_accept_22 rfl (lv_at hl 2 rfl) ?_
      refine k_i hH (k_runS (rest := [.ref (o)]) C0 hH (cM_isAddress l G A _ x) mv_X11_isAddress ml_X11_204 rfl ⟨Nat.le_of_ble_eq_true rfl, Nat.le_of_ble_eq_true rfl⟩ hl.1 rfl (Nat.le_of_ble_eq_true rfl) dX11_accept_23 ⟨by show _ ≤ uC ((fAcc m u9 x v9 s9).2) - uC m; omega, by show _ ≤ uS ((fAcc m u9 x v9 s9).2) - uS m; omega⟩) (fun r_5 h1 H locs hp hH => ?_)
      obtain ⟨er_5, eh⟩ := hp
      rw [eh] at hH
      clear eh
      subst er_5
      refine lv_if_eq (tgt := 49) hx hb dX11_accept_26 (by decide) (fun c26_6 => ?_) (fun c26_6 => ?_)
      · refine lv_iconst (v := 1) hx hb dX11_accept_49 (by decide) ?_
        refine lv_goto (tgt := 54) hx hb dX11_accept_50 (by decide) ?_
        refine lv_iconst (v := 2) hx hb dX11_accept_54 (by decide) ?_
        refine k_i hH (k_runV (rest := []) C0 hH (cM_isThrown l G A _ o ad (up m 45 0 (if 0 = 0 then 0 else 1)) hM 1 2 rfl) mv_X11_isThrown ml_X11_140 ci_15 hM.1 rfl ⟨Nat.le_of_ble_eq_true rfl, Nat.le_of_ble_eq_true rfl⟩ hl.1 rfl (Nat.le_of_ble_eq_true rfl) dX11_accept_55 ⟨by show _ ≤ uC ((fAcc m u9 x v9 s9).2) - uC m; omega, by show _ ≤ uS ((fAcc m u9 x v9 s9).2) - uS m; omega⟩) (fun r_7 h H locs hp hH => ?_)
        obtain ⟨er_7, hM⟩ := hp
        subst er_7
        refine lv_if_ne (tgt := 91) hx hb dX11_accept_58 (by decide) (fun c58_8 => ?_) (fun c58_8 => ?_)
        · refine lv_iconst (v := 0) hx hb dX11_accept_91 (by decide) ?_
          have eR : 0 = (fAcc m u9 x v9 s9).1 := by simp [fAcc, bi, thr, found_up, c6_2, eq_true c26_6]
          have eM : (fAcc m u9 x v9 s9).2 = (up (up m 45 0 (if 0 = 0 then 0 else 1)) 45 0 (if 1 = 0 then 0 else 2)) := by simp [fAcc, bi, thr, found_up, c6_2, eq_true c26_6]
          exact e_I C0 hr hH ⟨eR, _, by rw [eM]; exact hM⟩ (by omega) (by omega) dX11_accept_92
        · exact absurd c58_8 (by decide)
      · refine lv_iload_n hx hb dX11_accept_29 rfl (lv_at hl 3 rfl) ?_
        refine lv_iconst (v := 1) hx hb dX11_accept_30 (by decide) ?_
        refine lv_bipush (v := 9) hx hb dX11_accept_31 (by decide) ?_
        refine k_i hH (k_runS (rest := [.ref (o)]) C0 hH (cM_isIn l G A _ v9 1 9) mv_X11_isIn ml_X11_127 rfl ⟨Nat.le_of_ble_eq_true rfl, Nat.le_of_ble_eq_true rfl⟩ hl.1 rfl (Nat.le_of_ble_eq_true rfl) dX11_accept_33 ⟨by show _ ≤ uC ((fAcc m u9 x v9 s9).2) - uC m; omega, by show _ ≤ uS ((fAcc m u9 x v9 s9).2) - uS m; omega⟩) (fun r_9 h1 H locs hp hH => ?_)
        obtain ⟨er_9, eh⟩ := hp
        rw [eh] at hH
        clear eh
        subst er_9
        refine lv_if_eq (tgt := 49) hx hb dX11_accept_36 (by decide) (fun c36_10 => ?_) (fun c36_10 => ?_)
        · replace c36_10 := bi_0.mp c36_10
          refine lv_iconst (v := 1) hx hb dX11_accept_49 (by decide) ?_
          refine lv_goto (tgt := 54) hx hb dX11_accept_50 (by decide) ?_
          refine lv_iconst (v := 2) hx hb dX11_accept_54 (by decide) ?_
          refine k_i hH (k_runV (rest := []) C0 hH (cM_isThrown l G A _ o ad (up m 45 0 (if 0 = 0 then 0 else 1)) hM 1 2 rfl) mv_X11_isThrown ml_X11_140 ci_15 hM.1 rfl ⟨Nat.le_of_ble_eq_true rfl, Nat.le_of_ble_eq_true rfl⟩ hl.1 rfl (Nat.le_of_ble_eq_true rfl) dX11_accept_55 ⟨by show _ ≤ uC ((fAcc m u9 x v9 s9).2) - uC m; omega, by show _ ≤ uS ((fAcc m u9 x v9 s9).2) - uS m; omega⟩) (fun r_11 h H locs hp hH => ?_)
          obtain ⟨er_11, hM⟩ := hp
          subst er_11
          refine lv_if_ne (tgt := 91) hx hb dX11_accept_58 (by decide) (fun c58_12 => ?_) (fun c58_12 => ?_)
          · refine lv_iconst (v := 0) hx hb dX11_accept_91 (by decide) ?_
            have eR : 0 = (fAcc m u9 x v9 s9).1 := by simp [fAcc, bi, thr, found_up, c6_2, eq_false c26_6, c36_10]
            have eM : (fAcc m u9 x v9 s9).2 = (up (up m 45 0 (if 0 = 0 then 0 else 1)) 45 0 (if 1 = 0 then 0 else 2)) := by simp [fAcc, bi, thr, found_up, c6_2, eq_false c26_6, c36_10]
            exact e_I C0 hr hH ⟨eR, _, by rw [eM]; exact hM⟩ (by omega) (by omega) dX11_accept_92
          · exact absurd c58_12 (by decide)
        · replace c36_10 := bi_n0.mp c36_10
          refine lv_iload hx hb dX11_accept_39 (lv_at hl 4 rfl) ?_
          refine lv_iconst (v := 0) hx hb dX11_accept_41 (by decide) ?_
          refine lv_iconst (v := 2) hx hb dX11_accept_42 (by decide) ?_
          refine k_i hH (k_runS (rest := [.ref (o)]) C0 hH (cM_isIn l G A _ s9 0 2) mv_X11_isIn ml_X11_127 rfl ⟨Nat.le_of_ble_eq_true rfl, Nat.le_of_ble_eq_true rfl⟩ hl.1 rfl (Nat.le_of_ble_eq_true rfl) dX11_accept_43 ⟨by show _ ≤ uC ((fAcc m u9 x v9 s9).2) - uC m; omega, by show _ ≤ uS ((fAcc m u9 x v9 s9).2) - uS m; omega⟩) (fun r_13 h1 H locs hp hH => ?_)
          obtain ⟨er_13, eh⟩ := hp
          rw [eh] at hH
          clear eh
          subst er_13
          refine lv_if_ne (tgt := 53) hx hb dX11_accept_46 (by decide) (fun c46_14 => ?_) (fun c46_14 => ?_)
          · replace c46_14 := bi_n0.mp c46_14
            refine lv_iconst (v := 0) hx hb dX11_accept_53 (by decide) ?_
            refine lv_iconst (v := 2) hx hb dX11_accept_54 (by decide) ?_
            refine k_i hH (k_runV (rest := []) C0 hH (cM_isThrown l G A _ o ad (up m 45 0 (if 0 = 0 then 0 else 1)) hM 0 2 rfl) mv_X11_isThrown ml_X11_140 ci_15 hM.1 rfl ⟨Nat.le_of_ble_eq_true rfl, Nat.le_of_ble_eq_true rfl⟩ hl.1 rfl (Nat.le_of_ble_eq_true rfl) dX11_accept_55 ⟨by show _ ≤ uC ((fAcc m u9 x v9 s9).2) - uC m; omega, by show _ ≤ uS ((fAcc m u9 x v9 s9).2) - uS m; omega⟩) (fun r_15 h H locs hp hH => ?_)
            obtain ⟨er_15, hM⟩ := hp
            subst er_15
            refine lv_if_ne (tgt := 91) hx hb dX11_accept_58 (by decide) (fun c58_16 => ?_) (fun c58_16 => ?_)
            · exact absurd (by decide) c58_16
            · refine lv_aload_n hx hb dX11_accept_61 rfl (lv_at hl 0 rfl) ?_
              refine lv_aload_n hx hb dX11_accept_62 rfl (lv_at hl 0 rfl) ?_
              refine lv_iload_n hx hb dX11_accept_63 rfl (lv_at hl 2 rfl) ?_
              refine k_i hH (k_runV (rest := [.ref (o)]) C0 hH (cM_found l G A _ o ad (up (up m 45 0 (if 0 = 0 then 0 else 1)) 45 0 (if 0 = 0 then 0 else 2)) hM x (WFa.upx (WFa.upx hw (by unfold kWF; omega)) (by unfold kWF; omega)).nh) mv_X11_found ml_X11_207 ci_15 hM.1 rfl ⟨Nat.le_of_ble_eq_true rfl, Nat.le_of_ble_eq_true rfl⟩ hl.1 rfl (Nat.le_of_ble_eq_true rfl) dX11_accept_64 ⟨by show _ ≤ uC ((fAcc m u9 x v9 s9).2) - uC m; omega, by show _ ≤ uS ((fAcc m u9 x v9 s9).2) - uS m; omega⟩) (fun r_17 h1 H locs hp hH => ?_)
              obtain ⟨er_17, eh⟩ := hp
              rw [eh] at hH
              clear eh
              replace er_17 : r_17 = found m x := er_17.trans (by simp [found_up])
              subst er_17
              refine lv_if_lt (tgt := 79) hx hb dX11_accept_67 (by decide) (fun c67_18 => ?_) (fun c67_18 => ?_)
              · refine lv_iconst (v := 1) hx hb dX11_accept_79 (by decide) ?_
                refine lv_goto (tgt := 84) hx hb dX11_accept_80 (by decide) ?_
                refine lv_iconst (v := 3) hx hb dX11_accept_84 (by decide) ?_
                refine k_i hH (k_runV (rest := []) C0 hH (cM_isThrown l G A _ o ad (up (up m 45 0 (if 0 = 0 then 0 else 1)) 45 0 (if 0 = 0 then 0 else 2)) hM 1 3 rfl) mv_X11_isThrown ml_X11_140 ci_15 hM.1 rfl ⟨Nat.le_of_ble_eq_true rfl, Nat.le_of_ble_eq_true rfl⟩ hl.1 rfl (Nat.le_of_ble_eq_true rfl) dX11_accept_85 ⟨by show _ ≤ uC ((fAcc m u9 x v9 s9).2) - uC m; omega, by show _ ≤ uS ((fAcc m u9 x v9 s9).2) - uS m; omega⟩) (fun r_19 h H locs hp hH => ?_)
                obtain ⟨er_19, hM⟩ := hp
                subst er_19
                refine lv_if_eq (tgt := 93) hx hb dX11_accept_88 (by decide) (fun c88_20 => ?_) (fun c88_20 => ?_)
                · exact absurd c88_20 (by decide)
                · refine lv_iconst (v := 0) hx hb dX11_accept_91 (by decide) ?_
                  have eR : 0 = (fAcc m u9 x v9 s9).1 := by simp [fAcc, bi, thr, found_up, c6_2, eq_false c26_6, c36_10, c46_14, c67_18, Int32.not_le.mpr c67_18]
                  have eM : (fAcc m u9 x v9 s9).2 = (up (up (up m 45 0 (if 0 = 0 then 0 else 1)) 45 0 (if 0 = 0 then 0 else 2)) 45 0 (if 1 = 0 then 0 else 3)) := by simp [fAcc, bi, thr, found_up, c6_2, eq_false c26_6, c36_10, c46_14, c67_18, Int32.not_le.mpr c67_18]
                  exact e_I C0 hr hH ⟨eR, _, by rw [eM]; exact hM⟩ (by omega) (by omega) dX11_accept_92
              · refine lv_aload_n hx hb dX11_accept_70 rfl (lv_at hl 0 rfl) ?_
                refine m_int C0 hH hM 39 (by decide) (by decide) fl_X11_144 (v := m 39 0) rfl dX11_accept_71 ?_
                refine lv_bipush (v := 40) hx hb dX11_accept_74 (by decide) ?_
                refine lv_icmp_ne (tgt := 83) hx hb dX11_accept_76 (by decide) (fun c76_21 => ?_) (fun c76_21 => ?_)
                · refine lv_iconst (v := 0) hx hb dX11_accept_83 (by decide) ?_
                  refine lv_iconst (v := 3) hx hb dX11_accept_84 (by decide) ?_
                  refine k_i hH (k_runV (rest := []) C0 hH (cM_isThrown l G A _ o ad (up (up m 45 0 (if 0 = 0 then 0 else 1)) 45 0 (if 0 = 0 then 0 else 2)) hM 0 3 rfl) mv_X11_isThrown ml_X11_140 ci_15 hM.1 rfl ⟨Nat.le_of_ble_eq_true rfl, Nat.le_of_ble_eq_true rfl⟩ hl.1 rfl (Nat.le_of_ble_eq_true rfl) dX11_accept_85 ⟨by show _ ≤ uC ((fAcc m u9 x v9 s9).2) - uC m; omega, by show _ ≤ uS ((fAcc m u9 x v9 s9).2) - uS m; omega⟩) (fun r_22 h H locs hp hH => ?_)
                  obtain ⟨er_22, hM⟩ := hp
                  subst er_22
                  refine lv_if_eq (tgt := 93) hx hb dX11_accept_88 (by decide) (fun c88_23 => ?_) (fun c88_23 => ?_)
                  · refine lv_aload_n hx hb dX11_accept_93 rfl (lv_at hl 0 rfl) ?_
                    have c91 := c6_2
                    have c92 : ¬ (isAd x = 0 ∨ ¬ inn v9 1 9 = true ∨ ¬ inn s9 0 2 = true) := by simp [c6_2, eq_false c26_6, c36_10, c46_14, c67_18, Int32.not_lt.mp c67_18, eq_false c76_21]
                    have c93 : ¬ (found m x < 0 ∨ m 39 0 = 40) := by simp [c6_2, eq_false c26_6, c36_10, c46_14, c67_18, Int32.not_lt.mp c67_18, eq_false c76_21]
                    have hh := hw.isHb.mp c91
                    have hd : vp_in (found m x) (nhN m) := (found_in hw x).resolve_left (fun z => c93 (Or.inl z))
                    have h40 : npN m < 40 := by
                      have h1 := hnp.2
                      rcases Nat.lt_or_eq_of_le h1 with z | z
                      · exact z
                      · exact absurd (Or.inr (by rw [hnp.1, z]; rfl)) c93
                    obtain ⟨M0, hM0⟩ : ∃ z, z = thr (thr (thr m 0 1) 0 2) 0 3 := ⟨_, rfl⟩
                    replace hM : RM h o ad M0 := by rw [hM0]; exact hM
                    have hwM0 : WFa M0 := by rw [hM0]; exact ((hw.thr _ _).thr _ _).thr _ _
                    have grM0 : Gr 0 m M0 := by rw [hM0]; exact ((Gr.thr m _ _).trans (Gr.thr _ _ _)).trans (Gr.thr _ _ _)
                    obtain ⟨gnM0, glM0, ghM0, gcM0, gsM0, gaM0, gbM0⟩ := id grM0
                    have geM0 : uC M0 = uC (thr (thr (thr m 0 1) 0 2) 0 3) ∧ uS M0 = uS (thr (thr (thr m 0 1) 0 2) 0 3) := by rw [hM0]; exact ⟨rfl, rfl⟩
                    have hQ : fAcc m u9 x v9 s9 = (nI (npN M0), fHap (fProm (mAcc M0 u9 (found M0 x) v9 s9 (M0 41 0)) (npN M0)) (npN M0) 97 (-1)) := by rw [fAcc_eq hw c91 c92 c93, gnM0, hM0, found_thr, found_thr, found_thr]; rfl
                    have hfd : found M0 x = found m x := by rw [hM0, found_thr, found_thr, found_thr]
                    refine m_int C0 hH hM 39 (by decide) (by decide) fl_X11_144 (v := M0 39 0) rfl dX11_accept_94 ?_
                    refine lv_topi (fun x9 ex9 => ?_)
                    replace ex9 : x9 = nI (npN M0) := ex9.trans (hwM0.np.1)
                    subst ex9
                    refine lv_istore (lv' := [(5, .int (nI (npN M0))), (0, .ref (o)), (1, .int (u9)), (2, .int (x)), (3, .int (v9)), (4, .int (s9))]) hx hb dX11_accept_97 hl (by decide) rfl (fun ls hl => ?_)
                    refine lv_aload_n hx hb dX11_accept_99 rfl (lv_at hl 1 rfl) ?_
                    refine lv_dup hx hb dX11_accept_100 rfl ?_
                    refine m_int C0 hH hM 39 (by decide) (by decide) fl_X11_144 (v := M0 39 0) rfl dX11_accept_101 ?_
                    refine lv_iconst (v := 1) hx hb dX11_accept_104 (by decide) ?_
                    refine lv_iadd hx hb dX11_accept_105 ?_
                    refine lv_topi (fun x9 ex9 => ?_)
                    replace ex9 : x9 = nI (npN M0 + 1) := ex9.trans (by rw [hwM0.np.1, nI_1])
                    subst ex9
                    refine m_put C0 hH hM 39 (by decide) (by decide) fl_X11_144 dX11_accept_106 (fun h H locs hH hM => ?_)
                    refine lv_aload_n hx hb dX11_accept_109 rfl (lv_at hl 1 rfl) ?_
                    refine m_arr C0 hH hM 11 (by decide) fl_X11_44 dX11_accept_110 ?_
                    refine lv_iload hx hb dX11_accept_113 (lv_at hl 0 rfl) ?_
                    refine lv_iload_n hx hb dX11_accept_115 rfl (lv_at hl 4 rfl) ?_
                    refine m_stI C0 hH hM 11 (by decide) rfl (n := 40) rfl (ix := (npN M0)) (nI_clamp (by omega)) (by first | assumption | exact vp_in_nI (by omega) (by omega)) dX11_accept_116 (fun h H locs hH hM => ?_)
                    refine lv_aload_n hx hb dX11_accept_117 rfl (lv_at hl 1 rfl) ?_
                    refine m_arr C0 hH hM 12 (by decide) fl_X11_47 dX11_accept_118 ?_
                    refine lv_iload hx hb dX11_accept_121 (lv_at hl 0 rfl) ?_
                    refine lv_iload hx hb dX11_accept_123 (lv_at hl 5 rfl) ?_
                    refine m_stI C0 hH hM 12 (by decide) rfl (n := 40) rfl (ix := (npN M0)) (nI_clamp (by omega)) (by first | assumption | exact vp_in_nI (by omega) (by omega)) dX11_accept_125 (fun h H locs hH hM => ?_)
                    refine lv_aload_n hx hb dX11_accept_126 rfl (lv_at hl 1 rfl) ?_
                    refine m_arr C0 hH hM 15 (by decide) fl_X11_56 dX11_accept_127 ?_
                    refine lv_iload hx hb dX11_accept_130 (lv_at hl 0 rfl) ?_
                    refine lv_iload_n hx hb dX11_accept_132 rfl (lv_at hl 2 rfl) ?_
                    refine m_stI C0 hH hM 15 (by decide) rfl (n := 40) rfl (ix := (npN M0)) (nI_clamp (by omega)) (by first | assumption | exact vp_in_nI (by omega) (by omega)) dX11_accept_133 (fun h H locs hH hM => ?_)
                    refine lv_aload_n hx hb dX11_accept_134 rfl (lv_at hl 1 rfl) ?_
                    refine m_arr C0 hH hM 13 (by decide) fl_X11_50 dX11_accept_135 ?_
                    refine lv_iload hx hb dX11_accept_138 (lv_at hl 0 rfl) ?_
                    refine lv_iload_n hx hb dX11_accept_140 rfl (lv_at hl 2 rfl) ?_
                    refine m_stI C0 hH hM 13 (by decide) rfl (n := 40) rfl (ix := (npN M0)) (nI_clamp (by omega)) (by first | assumption | exact vp_in_nI (by omega) (by omega)) dX11_accept_141 (fun h H locs hH hM => ?_)
                    refine lv_aload_n hx hb dX11_accept_142 rfl (lv_at hl 1 rfl) ?_
                    refine m_arr C0 hH hM 14 (by decide) fl_X11_53 dX11_accept_143 ?_
                    refine lv_iload hx hb dX11_accept_146 (lv_at hl 0 rfl) ?_
                    refine lv_aload_n hx hb dX11_accept_148 rfl (lv_at hl 1 rfl) ?_
                    refine lv_iload_n hx hb dX11_accept_149 rfl (lv_at hl 3 rfl) ?_
                    refine k_i hH (k_runV (rest := [.int (nI (npN M0)), .ref (ad 14)]) C0 hH (cM_found l G A _ o ad (up (up (up (up (up M0 39 0 (nI (npN M0 + 1))) 11 (npN M0) v9) 12 (npN M0) s9) 15 (npN M0) u9) 13 (npN M0) u9) hM x (by have := hwM0.nh; rw [HN, show ∀ a b, nhN (up a 13 (npN M0) b) = nhN a from fun a b => nhN_up (by decide), nhN_up (by decide), nhN_up (by decide), nhN_up (by decide), nhN_up (by decide), up_k (by decide), up_k (by decide), up_k (by decide), up_k (by decide), up_k (by decide)]; exact this)) mv_X11_found ml_X11_207 ci_15 hM.1 rfl ⟨Nat.le_of_ble_eq_true rfl, Nat.le_of_ble_eq_true rfl⟩ hl.1 rfl (Nat.le_of_ble_eq_true rfl) dX11_accept_150 ⟨by show _ ≤ uC ((fAcc m u9 x v9 s9).2) - uC m; omega, by show _ ≤ uS ((fAcc m u9 x v9 s9).2) - uS m; omega⟩) (fun r_24 h1 H locs hp hH => ?_)
                    obtain ⟨er_24, eh⟩ := hp
                    rw [eh] at hH
                    clear eh
                    replace er_24 : r_24 = found M0 x := er_24.trans (by simp [found_up])
                    subst er_24
                    refine m_stI C0 hH hM 14 (by decide) rfl (n := 40) rfl (ix := (npN M0)) (nI_clamp (by omega)) (by first | assumption | exact vp_in_nI (by omega) (by omega)) dX11_accept_153 (fun h H locs hH hM => ?_)
                    refine lv_aload_n hx hb dX11_accept_154 rfl (lv_at hl 1 rfl) ?_
                    refine m_arr C0 hH hM 28 (by decide) fl_X11_95 dX11_accept_155 ?_
                    refine lv_iload hx hb dX11_accept_158 (lv_at hl 0 rfl) ?_
                    refine lv_bipush (v := 115) hx hb dX11_accept_160 (by decide) ?_
                    refine m_stC C0 hH hM 28 (by decide) rfl (n := 40) rfl (ix := (npN M0)) (nI_clamp (by omega)) (by first | assumption | exact vp_in_nI (by omega) (by omega)) (by decide) dX11_accept_162 (fun h H locs hH hM => ?_)
                    refine lv_aload_n hx hb dX11_accept_163 rfl (lv_at hl 1 rfl) ?_
                    refine m_arr C0 hH hM 18 (by decide) fl_X11_65 dX11_accept_164 ?_
                    refine lv_iload hx hb dX11_accept_167 (lv_at hl 0 rfl) ?_
                    refine lv_aload_n hx hb dX11_accept_169 rfl (lv_at hl 1 rfl) ?_
                    refine m_int C0 hH hM 41 (by decide) (by decide) fl_X11_150 (v := M0 41 0) rfl dX11_accept_170 ?_
                    refine m_stI C0 hH hM 18 (by decide) rfl (n := 40) rfl (ix := (npN M0)) (nI_clamp (by omega)) (by first | assumption | exact vp_in_nI (by omega) (by omega)) dX11_accept_173 (fun h H locs hH hM => ?_)
                    refine lv_aload_n hx hb dX11_accept_174 rfl (lv_at hl 1 rfl) ?_
                    refine m_arr C0 hH hM 25 (by decide) fl_X11_86 dX11_accept_175 ?_
                    refine lv_iload hx hb dX11_accept_178 (lv_at hl 0 rfl) ?_
                    refine lv_aload_n hx hb dX11_accept_180 rfl (lv_at hl 1 rfl) ?_
                    refine m_int C0 hH hM 41 (by decide) (by decide) fl_X11_150 (v := M0 41 0) rfl dX11_accept_181 ?_
                    refine m_stI C0 hH hM 25 (by decide) rfl (n := 40) rfl (ix := (npN M0)) (nI_clamp (by omega)) (by first | assumption | exact vp_in_nI (by omega) (by omega)) dX11_accept_184 (fun h H locs hH hM => ?_)
                    refine lv_aload_n hx hb dX11_accept_185 rfl (lv_at hl 1 rfl) ?_
                    refine lv_iload hx hb dX11_accept_186 (lv_at hl 0 rfl) ?_
                    obtain ⟨M1, hM1⟩ : ∃ z, z = mAcc M0 u9 (found M0 x) v9 s9 (M0 41 0) := ⟨_, rfl⟩
                    replace hM : RM h o ad M1 := by rw [hM1]; exact hM
                    have hwM1 : WFa M1 := by rw [hM1]; exact hwM0.accM (by omega) (by rw [ghM0]; exact hh) (by rw [ghM0, hfd]; exact hd) _ _ _
                    obtain ⟨gnM1, glM1, ghM1, gcM1, gsM1, gaM1⟩ : npN M1 = npN M0 + 1 ∧ nlN M1 = nlN M0 ∧ nhN M1 = nhN M0 ∧ uC M1 = uC M0 ∧ uS M1 = uS M0 ∧ logN M1 = logN M0 := by rw [hM1]; exact acc_gr _ _ _ _ _ _ (by omega)
                    refine k_v hH (k_runV (rest := []) C0 hH (cM_promises l G A _ o ad M1 hM (npN M0) hwM1 (by omega)) mv_X11_promises ml_X11_185 ci_15 hM.1 rfl ⟨Nat.le_of_ble_eq_true rfl, Nat.le_of_ble_eq_true rfl⟩ hl.1 rfl (Nat.le_of_ble_eq_true rfl) dX11_accept_188 ⟨by show _ ≤ uC ((fAcc m u9 x v9 s9).2) - uC m; omega, by show _ ≤ uS ((fAcc m u9 x v9 s9).2) - uS m; omega⟩) (fun h H locs hp hH => ?_)
                    have hM := hp
                    refine lv_aload_n hx hb dX11_accept_191 rfl (lv_at hl 1 rfl) ?_
                    refine lv_iload hx hb dX11_accept_192 (lv_at hl 0 rfl) ?_
                    refine lv_bipush (v := 97) hx hb dX11_accept_194 (by decide) ?_
                    refine lv_iconst (v := (-1)) hx hb dX11_accept_196 (by decide) ?_
                    obtain ⟨M2, hM2⟩ : ∃ z, z = fProm M1 (npN M0) := ⟨_, rfl⟩
                    replace hM : RM h o ad M2 := by rw [hM2]; exact hM
                    have hwM2 : WFa M2 := by rw [hM2]; exact hwM1.prom _
                    have grM2 : Gr 0 M1 M2 := by rw [hM2]; exact Gr.prom M1 _
                    obtain ⟨gnM2, glM2, ghM2, gcM2, gsM2, gaM2, gbM2⟩ := id grM2
                    have geM2 : uC M2 = uC (fProm M1 (npN M0)) ∧ uS M2 = uS (fProm M1 (npN M0)) := by rw [hM2]; exact ⟨rfl, rfl⟩
                    have hF : (fAcc m u9 x v9 s9).2 = (fHap M2 (npN M0) 97 (-1)) := by rw [hQ, hM2, hM1]
                    obtain ⟨-, -, -, hg1, hg2, -, -⟩ := id (Gr.hap hwM2 (npN M0) 97 (-1))
                    have hF1 : uC (fHap M2 (npN M0) 97 (-1)) = uC ((fAcc m u9 x v9 s9).2) ∧ uS (fHap M2 (npN M0) 97 (-1)) = uS ((fAcc m u9 x v9 s9).2) := by rw [hF]; exact ⟨rfl, rfl⟩
                    refine k_v hH (k_runV (rest := []) C0 hH (cM_happens l G A _ o ad M2 hM (npN M0) 97 (-1) hwM2 (by omega) (by omega)) mv_X11_happens ml_X11_188 ci_15 hM.1 rfl ⟨Nat.le_of_ble_eq_true rfl, Nat.le_of_ble_eq_true rfl⟩ hl.1 rfl (Nat.le_of_ble_eq_true rfl) dX11_accept_197 ⟨by show _ ≤ uC ((fAcc m u9 x v9 s9).2) - uC m; omega, by show _ ≤ uS ((fAcc m u9 x v9 s9).2) - uS m; omega⟩) (fun h H locs hp hH => ?_)
                    obtain ⟨ad, hM⟩ := hp
                    refine lv_iload hx hb dX11_accept_200 (lv_at hl 0 rfl) ?_
                    have eR : nI (npN M0) = (fAcc m u9 x v9 s9).1 := by rw [hQ]
                    have eM : (fAcc m u9 x v9 s9).2 = (fHap M2 (npN M0) 97 (-1)) := hF
                    exact e_I C0 hr hH ⟨eR, _, by rw [eM]; exact hM⟩ (by omega) (by omega) dX11_accept_202
                  · exact absurd (by decide) c88_23
                · refine lv_iconst (v := 1) hx hb dX11_accept_79 (by decide) ?_
                  refine lv_goto (tgt := 84) hx hb dX11_accept_80 (by decide) ?_
                  refine lv_iconst (v := 3) hx hb dX11_accept_84 (by decide) ?_
                  refine k_i hH (k_runV (rest := []) C0 hH (cM_isThrown l G A _ o ad (up (up m 45 0 (if 0 = 0 then 0 else 1)) 45 0 (if 0 = 0 then 0 else 2)) hM 1 3 rfl) mv_X11_isThrown ml_X11_140 ci_15 hM.1 rfl ⟨Nat.le_of_ble_eq_true rfl, Nat.le_of_ble_eq_true rfl⟩ hl.1 rfl (Nat.le_of_ble_eq_true rfl) dX11_accept_85 ⟨by show _ ≤ uC ((fAcc m u9 x v9 s9).2) - uC m; omega, by show _ ≤ uS ((fAcc m u9 x v9 s9).2) - uS m; omega⟩) (fun r_25 h H locs hp hH => ?_)
                  obtain ⟨er_25, hM⟩ := hp
                  subst er_25
                  refine lv_if_eq (tgt := 93) hx hb dX11_accept_88 (by decide) (fun c88_26 => ?_) (fun c88_26 => ?_)
                  · exact absurd c88_26 (by decide)
                  · refine lv_iconst (v := 0) hx hb dX11_accept_91 (by decide) ?_
                    have eR : 0 = (fAcc m u9 x v9 s9).1 := by simp [fAcc, bi, thr, found_up, c6_2, eq_false c26_6, c36_10, c46_14, c67_18, Int32.not_lt.mp c67_18, eq_true c76_21]
                    have eM : (fAcc m u9 x v9 s9).2 = (up (up (up m 45 0 (if 0 = 0 then 0 else 1)) 45 0 (if 0 = 0 then 0 else 2)) 45 0 (if 1 = 0 then 0 else 3)) := by simp [fAcc, bi, thr, found_up, c6_2, eq_false c26_6, c36_10, c46_14, c67_18, Int32.not_lt.mp c67_18, eq_true c76_21]
                    exact e_I C0 hr hH ⟨eR, _, by rw [eM]; exact hM⟩ (by omega) (by omega) dX11_accept_92
          · replace c46_14 := bi_0.mp c46_14
            refine lv_iconst (v := 1) hx hb dX11_accept_49 (by decide) ?_
            refine lv_goto (tgt := 54) hx hb dX11_accept_50 (by decide) ?_
            refine lv_iconst (v := 2) hx hb dX11_accept_54 (by decide) ?_
            refine k_i hH (k_runV (rest := []) C0 hH (cM_isThrown l G A _ o ad (up m 45 0 (if 0 = 0 then 0 else 1)) hM 1 2 rfl) mv_X11_isThrown ml_X11_140 ci_15 hM.1 rfl ⟨Nat.le_of_ble_eq_true rfl, Nat.le_of_ble_eq_true rfl⟩ hl.1 rfl (Nat.le_of_ble_eq_true rfl) dX11_accept_55 ⟨by show _ ≤ uC ((fAcc m u9 x v9 s9).2) - uC m; omega, by show _ ≤ uS ((fAcc m u9 x v9 s9).2) - uS m; omega⟩) (fun r_27 h H locs hp hH => ?_)
            obtain ⟨er_27, hM⟩ := hp
            subst er_27
            refine lv_if_ne (tgt := 91) hx hb dX11_accept_58 (by decide) (fun c58_28 => ?_) (fun c58_28 => ?_)
            · refine lv_iconst (v := 0) hx hb dX11_accept_91 (by decide) ?_
              have eR : 0 = (fAcc m u9 x v9 s9).1 := by simp [fAcc, bi, thr, found_up, c6_2, eq_false c26_6, c36_10, c46_14]
              have eM : (fAcc m u9 x v9 s9).2 = (up (up m 45 0 (if 0 = 0 then 0 else 1)) 45 0 (if 1 = 0 then 0 else 2)) := by simp [fAcc, bi, thr, found_up, c6_2, eq_false c26_6, c36_10, c46_14]
              exact e_I C0 hr hH ⟨eR, _, by rw [eM]; exact hM⟩ (by omega) (by omega) dX11_accept_92
            · exact absurd c58_28 (by decide)
  · replace c6_2 := bi_0.mp c6_2
    refine lv_iconst (v := 1) hx hb dX11_accept_9 (by decide) ?_
    refine lv_goto (tgt := 14) hx hb dX11_accept_10 (by decide) ?_
    refine lv_iconst (v := 1) hx hb dX11_accept_14 (by decide) ?_
    refine k_i hH (k_runV (rest := []) C0 hH (cM_isThrown l G A _ o ad m hM 1 1 rfl) mv_X11_isThrown ml_X11_140 ci_15 hM.1 rfl ⟨Nat.le_of_ble_eq_true rfl, Nat.le_of_ble_eq_true rfl⟩ hl.1 rfl (Nat.le_of_ble_eq_true rfl) dX11_accept_15 ⟨by show _ ≤ uC ((fAcc m u9 x v9 s9).2) - uC m; omega, by show _ ≤ uS ((fAcc m u9 x v9 s9).2) - uS m; omega⟩) (fun r_29 h H locs hp hH => ?_)
    obtain ⟨er_29, hM⟩ := hp
    subst er_29
    refine lv_if_ne (tgt := 91) hx hb dX11_accept_18 (by decide) (fun c18_30 => ?_) (fun c18_30 => ?_)
    · refine lv_iconst (v := 0) hx hb dX11_accept_91 (by decide) ?_
      have eR : 0 = (fAcc m u9 x v9 s9).1 := by simp [fAcc, bi, thr, found_up, c6_2]
      have eM : (fAcc m u9 x v9 s9).2 = (up m 45 0 (if 1 = 0 then 0 else 1)) := by simp [fAcc, bi, thr, found_up, c6_2]
      exact e_I C0 hr hH ⟨eR, _, by rw [eM]; exact hM⟩ (by omega) (by omega) dX11_accept_92
    · exact absurd c18_30 (by decide)
