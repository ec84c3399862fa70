set_option maxHeartbeats 4000000 in
set_option maxRecDepth 100000 in
theorem cM_scan (l : Launch) (G : GT) (A : Nat → Prop) (h : AH) (o : Nat) (ad : Nat → Nat) (m : MM) (hM : RM h o ad m) (x u9 : Int32) (hw : WFa m) (hU : logN m + 2 ≤ 2 ^ 21) : cmI l G A yX11_scan cX11_scan 4 (Option.some FieldType.char) 13 330 (uC ((fScan m x u9).2) - uC m) (uS ((fScan m x u9).2) - uS m) [.ref (o), .int (x), .int (u9)] h (fun r h' => r = (fScan m x u9).1 ∧ ∃ ad', RM h' o ad' ((fScan m x u9).2)) := by
  refine cm_of "RoutepostModel" rfl (by decide) (Nat.le_of_ble_eq_true rfl) ?_
  intro pr e s m9 below meth c C0 hr hname hH ls hl
  obtain ⟨hx, hb, hml, hown, hts, hK, hA, -⟩ := id C0
  have hl : lv_has ls 4 [(0, .ref (o)), (1, .int (x)), (2, .int (u9))] := hl
  have hnp := hw.np
  have hnh := hw.nh
  refine lv_aload_n hx hb dX11_scan_0 rfl (lv_at hl 0 rfl) ?_
  refine lv_iload_n hx hb dX11_scan_1 rfl (lv_at hl 1 rfl) ?_
  refine lv_iconst (v := 0) hx hb dX11_scan_2 (by decide) ?_
  refine lv_aload_n hx hb dX11_scan_3 rfl (lv_at hl 0 rfl) ?_
  refine m_int C0 hH hM 39 (by decide) (by decide) fl_X11_144 (v := m 39 0) rfl dX11_scan_4 ?_
  refine lv_iconst (v := 1) hx hb dX11_scan_7 (by decide) ?_
  refine lv_isub hx hb dX11_scan_8 ?_
  refine k_i hH (k_runS (rest := [.ref (o)]) C0 hH (cM_isIn l G A _ x 0 ((m 39 0) - 1)) mv_X11_isIn ml_X11_127 rfl ⟨Nat.le_of_ble_eq_true rfl, Nat.le_of_ble_eq_true rfl⟩ hl.1 rfl (Nat.le_of_ble_eq_true rfl) dX11_scan_9 ⟨by show _ ≤ uC ((fScan m x u9).2) - uC m; omega, by show _ ≤ uS ((fScan m x u9).2) - uS m; omega⟩) (fun r_1 h1 H locs hp hH => ?_)
  obtain ⟨er_1, eh⟩ := hp
  rw [eh] at hH
  clear eh
  subst er_1
  refine lv_if_eq (tgt := 23) hx hb dX11_scan_12 (by decide) (fun c12_2 => ?_) (fun c12_2 => ?_)
  · replace c12_2 := bi_0.mp c12_2
    refine lv_iconst (v := 1) hx hb dX11_scan_23 (by decide) ?_
    refine lv_goto (tgt := 28) hx hb dX11_scan_24 (by decide) ?_
    refine lv_iconst (v := 1) hx hb dX11_scan_28 (by decide) ?_
    refine k_i hH (k_runV (rest := []) C0 hH (cM_isThrown l G A _ o ad m hM 1 1 rfl) mv_X11_isThrown ml_X11_140 ci_15 hM.1 rfl ⟨Nat.le_of_ble_eq_true rfl, Nat.le_of_ble_eq_true rfl⟩ hl.1 rfl (Nat.le_of_ble_eq_true rfl) dX11_scan_29 ⟨by show _ ≤ uC ((fScan m x u9).2) - uC m; omega, by show _ ≤ uS ((fScan m x u9).2) - uS m; omega⟩) (fun r_3 h H locs hp hH => ?_)
    obtain ⟨er_3, hM⟩ := hp
    subst er_3
    refine lv_if_ne (tgt := 48) hx hb dX11_scan_32 (by decide) (fun c32_4 => ?_) (fun c32_4 => ?_)
    · refine lv_iconst (v := 0) hx hb dX11_scan_48 (by decide) ?_
      have eR : 0 = (fScan m x u9).1 := by simp [fScan, isPa, bi, thr, fNone, fNoLine, c12_2]
      have eM : (fScan m x u9).2 = (up m 45 0 (if 1 = 0 then 0 else 1)) := by simp [fScan, isPa, bi, thr, fNone, fNoLine, c12_2]
      exact e_Z C0 hr (by decide) hH ⟨eR, _, by rw [eM]; exact hM⟩ (by omega) (by omega) dX11_scan_49
    · exact absurd c32_4 (by decide)
  · replace c12_2 := bi_n0.mp c12_2
    obtain ⟨p, hp, rfl⟩ := vp_in_of (hw.isPa.mp c12_2) (by omega)
    have hcl : (nI p).toNatClampNeg = p := nI_clamp (by omega)
    refine lv_aload_n hx hb dX11_scan_15 rfl (lv_at hl 0 rfl) ?_
    refine lv_iload_n hx hb dX11_scan_16 rfl (lv_at hl 2 rfl) ?_
    refine k_i hH (k_runV (rest := [.ref (o)]) C0 hH (cM_isHub l G A _ o ad m hM u9) mv_X11_isHub ml_X11_192 ci_15 hM.1 rfl ⟨Nat.le_of_ble_eq_true rfl, Nat.le_of_ble_eq_true rfl⟩ hl.1 rfl (Nat.le_of_ble_eq_true rfl) dX11_scan_17 ⟨by show _ ≤ uC ((fScan m (nI p) u9).2) - uC m; omega, by show _ ≤ uS ((fScan m (nI p) u9).2) - uS m; omega⟩) (fun r_5 h1 H locs hp hH => ?_)
    obtain ⟨er_5, eh⟩ := hp
    rw [eh] at hH
    clear eh
    subst er_5
    refine lv_if_ne (tgt := 27) hx hb dX11_scan_20 (by decide) (fun c20_6 => ?_) (fun c20_6 => ?_)
    · replace c20_6 := bi_n0.mp c20_6
      have hh := hw.isHb.mp c20_6
      refine lv_iconst (v := 0) hx hb dX11_scan_27 (by decide) ?_
      refine lv_iconst (v := 1) hx hb dX11_scan_28 (by decide) ?_
      refine k_i hH (k_runV (rest := []) C0 hH (cM_isThrown l G A _ o ad m hM 0 1 rfl) mv_X11_isThrown ml_X11_140 ci_15 hM.1 rfl ⟨Nat.le_of_ble_eq_true rfl, Nat.le_of_ble_eq_true rfl⟩ hl.1 rfl (Nat.le_of_ble_eq_true rfl) dX11_scan_29 ⟨by show _ ≤ uC ((fScan m (nI p) u9).2) - uC m; omega, by show _ ≤ uS ((fScan m (nI p) u9).2) - uS m; omega⟩) (fun r_7 h H locs hp hH => ?_)
      obtain ⟨er_7, hM⟩ := hp
      subst er_7
      refine lv_if_ne (tgt := 48) hx hb dX11_scan_32 (by decide) (fun c32_8 => ?_) (fun c32_8 => ?_)
      · exact absurd (by decide) c32_8
      · refine lv_aload_n hx hb dX11_scan_35 rfl (lv_at hl 0 rfl) ?_
        refine lv_aload_n hx hb dX11_scan_36 rfl (lv_at hl 0 rfl) ?_
        refine lv_iload_n hx hb dX11_scan_37 rfl (lv_at hl 1 rfl) ?_
        refine k_i hH (k_runV (rest := [.ref (o)]) C0 hH (cM_isOver l G A _ o ad (up m 45 0 (if 0 = 0 then 0 else 1)) hM p (WFa.upx hw (by unfold kWF; omega)) (by rw [npN_up (by decide)]; first | exact hp | (rw [hcl]; exact hp))) mv_X11_isOver ml_X11_210 ci_15 hM.1 rfl ⟨Nat.le_of_ble_eq_true rfl, Nat.le_of_ble_eq_true rfl⟩ hl.1 rfl (Nat.le_of_ble_eq_true rfl) dX11_scan_38 ⟨by show _ ≤ uC ((fScan m (nI p) u9).2) - uC m; omega, by show _ ≤ uS ((fScan m (nI p) u9).2) - uS m; omega⟩) (fun r_9 h1 H locs hp hH => ?_)
        obtain ⟨er_9, eh⟩ := hp
        rw [eh] at hH
        clear eh
        replace er_9 : r_9 = bi (isOver m p) := er_9
        subst er_9
        refine lv_iconst (v := 2) hx hb dX11_scan_41 (by decide) ?_
        refine k_i hH (k_runV (rest := []) C0 hH (cM_isThrown l G A _ o ad (up m 45 0 (if 0 = 0 then 0 else 1)) hM (bi (isOver m p)) 2 bi_nar) mv_X11_isThrown ml_X11_140 ci_15 hM.1 rfl ⟨Nat.le_of_ble_eq_true rfl, Nat.le_of_ble_eq_true rfl⟩ hl.1 rfl (Nat.le_of_ble_eq_true rfl) dX11_scan_42 ⟨by show _ ≤ uC ((fScan m (nI p) u9).2) - uC m; omega, by show _ ≤ uS ((fScan m (nI p) u9).2) - uS m; omega⟩) (fun r_10 h H locs hp hH => ?_)
        obtain ⟨er_10, hM⟩ := hp
        subst er_10
        refine lv_if_eq (tgt := 50) hx hb dX11_scan_45 (by decide) (fun c45_11 => ?_) (fun c45_11 => ?_)
        · replace c45_11 := bi_0.mp c45_11
          refine lv_aload_n hx hb dX11_scan_50 rfl (lv_at hl 0 rfl) ?_
          obtain ⟨M0, hM0⟩ : ∃ z, z = (up (up m 45 0 (if 0 = 0 then 0 else 1)) 45 0 (if (bi (isOver m p)) = 0 then 0 else 2)) := ⟨_, rfl⟩
          replace hM : RM h o ad M0 := by rw [hM0]; exact hM
          have hwM0 : WFa M0 := by rw [hM0]; exact (WFa.upx (WFa.upx hw (by unfold kWF; omega)) (by unfold kWF; omega))
          have grM0 : Gr 0 m M0 := by rw [hM0]; exact (((((Gr.refl 0 m)).trans (Gr.up (by omega)))).trans (Gr.up (by omega)))
          obtain ⟨gnM0, glM0, ghM0, gcM0, gsM0, gaM0, gbM0⟩ := id grM0
          have geM0 : uC M0 = uC (up (up m 45 0 (if 0 = 0 then 0 else 1)) 45 0 (if (bi (isOver m p)) = 0 then 0 else 2)) ∧ uS M0 = uS (up (up m 45 0 (if 0 = 0 then 0 else 1)) 45 0 (if (bi (isOver m p)) = 0 then 0 else 2)) := by rw [hM0]; exact ⟨rfl, rfl⟩
          have hpM0 : p < npN M0 := by omega
          have hhM0 : vp_in u9 (nhN M0) := by rw [ghM0]; exact hh
          have hQ : fScan m (nI p) u9 = fScan1 M0 p u9 := by rw [hM0]; simp [fScan, isPa, bi, thr, hcl, hcl, c12_2, c20_6, c45_11]
          refine m_arr C0 hH hM 28 (by decide) fl_X11_95 dX11_scan_51 ?_
          refine lv_iload_n hx hb dX11_scan_54 rfl (lv_at hl 1 rfl) ?_
          refine m_ldC C0 hH hM 28 (by decide) rfl (n := 40) rfl (ix := p) (nI_clamp (by omega)) (by first | assumption | exact vp_in_nI (by omega) (by omega)) (v := M0 28 p) rfl dX11_scan_55 ?_
          refine lv_bipush (v := 116) hx hb dX11_scan_56 (by decide) ?_
          refine lv_icmp_eq (tgt := 75) hx hb dX11_scan_58 (by decide) (fun c58_12 => ?_) (fun c58_12 => ?_)
          · refine lv_iconst (v := 0) hx hb dX11_scan_75 (by decide) ?_
            refine lv_istore_n (lv' := [(3, .int (0)), (0, .ref (o)), (1, .int ((nI p))), (2, .int (u9))]) hx hb dX11_scan_76 rfl hl (by decide) rfl (fun ls hl => ?_)
            refine lv_iload_n hx hb dX11_scan_77 rfl (lv_at hl 0 rfl) ?_
            refine lv_if_eq (tgt := 95) hx hb dX11_scan_78 (by decide) (fun c78_13 => ?_) (fun c78_13 => ?_)
            · refine lv_aload_n hx hb dX11_scan_95 rfl (lv_at hl 1 rfl) ?_
              refine m_arr C0 hH hM 15 (by decide) fl_X11_56 dX11_scan_96 ?_
              refine lv_iload_n hx hb dX11_scan_99 rfl (lv_at hl 2 rfl) ?_
              refine lv_iload_n hx hb dX11_scan_100 rfl (lv_at hl 3 rfl) ?_
              refine m_stI C0 hH hM 15 (by decide) rfl (n := 40) rfl (ix := p) (nI_clamp (by omega)) (by first | assumption | exact vp_in_nI (by omega) (by omega)) dX11_scan_101 (fun h H locs hH hM => ?_)
              refine lv_iload_n hx hb dX11_scan_102 rfl (lv_at hl 0 rfl) ?_
              refine lv_if_eq (tgt := 122) hx hb dX11_scan_103 (by decide) (fun c103_14 => ?_) (fun c103_14 => ?_)
              · refine lv_aload_n hx hb dX11_scan_122 rfl (lv_at hl 1 rfl) ?_
                refine m_arr C0 hH hM 22 (by decide) fl_X11_77 dX11_scan_123 ?_
                refine lv_iload_n hx hb dX11_scan_126 rfl (lv_at hl 2 rfl) ?_
                refine lv_dup2_11 hx hb dX11_scan_127 rfl rfl ?_
                refine m_ldI C0 hH hM 22 (by decide) rfl (n := 40) rfl (ix := p) (nI_clamp (by omega)) (by first | assumption | exact vp_in_nI (by omega) (by omega)) (v := M0 22 p) rfl dX11_scan_128 ?_
                refine lv_iconst (v := 1) hx hb dX11_scan_129 (by decide) ?_
                refine lv_iadd hx hb dX11_scan_130 ?_
                refine m_stI C0 hH hM 22 (by decide) rfl (n := 40) rfl (ix := p) (nI_clamp (by omega)) (by first | assumption | exact vp_in_nI (by omega) (by omega)) dX11_scan_131 (fun h H locs hH hM => ?_)
                refine lv_aload_n hx hb dX11_scan_132 rfl (lv_at hl 1 rfl) ?_
                refine lv_iload_n hx hb dX11_scan_133 rfl (lv_at hl 2 rfl) ?_
                refine lv_bipush (v := 109) hx hb dX11_scan_134 (by decide) ?_
                refine lv_iconst (v := (-1)) hx hb dX11_scan_136 (by decide) ?_
                have hn9 : ¬ (¬ M0 28 p = 116 ∧ M0 15 p = u9) := by simp [hcl, eq_true c58_12]
                have hsg := scan_gr hwM0 hpM0 hhM0 hn9 (by omega)
                obtain ⟨M1, hM1⟩ : ∃ z, z = (up (up M0 15 p u9) 22 p ((M0 22 p) + 1)) := ⟨_, rfl⟩
                replace hM : RM h o ad M1 := by rw [hM1]; exact hM
                have hwM1 : WFa M1 := by rw [hM1]; exact ((hwM0.up15 hhM0).upx (by unfold kWF; omega))
                have grM1 : Gr 0 M0 M1 := by rw [hM1]; exact (((((Gr.refl 0 M0)).trans (Gr.up (by omega)))).trans (Gr.up (by omega)))
                obtain ⟨gnM1, glM1, ghM1, gcM1, gsM1, gaM1, gbM1⟩ := id grM1
                have geM1 : uC M1 = uC (up (up M0 15 p u9) 22 p ((M0 22 p) + 1)) ∧ uS M1 = uS (up (up M0 15 p u9) 22 p ((M0 22 p) + 1)) := by rw [hM1]; exact ⟨rfl, rfl⟩
                rw [← hM1] at hsg
                have hg8 := hsg.2.2
                rw [← hQ] at hg8
                obtain ⟨-, -, -, hg1, hg2, -, -⟩ := id hg8
                obtain ⟨-, -, -, hg3, hg4, -, -⟩ := id (Gr.hap hwM1 p 109 (-1))
                refine k_v hH (k_runV (rest := []) C0 hH (cM_happens l G A _ o ad M1 hM p 109 (-1) hwM1 (by omega) (by omega)) mv_X11_happens ml_X11_188 ci_15 hM.1 rfl ⟨Nat.le_of_ble_eq_true rfl, Nat.le_of_ble_eq_true rfl⟩ hl.1 rfl (Nat.le_of_ble_eq_true rfl) dX11_scan_137 ⟨by show _ ≤ uC ((fScan m (nI p) u9).2) - uC m; omega, by show _ ≤ uS ((fScan m (nI p) u9).2) - uS m; omega⟩) (fun h H locs hp hH => ?_)
                obtain ⟨ad, hM⟩ := hp
                refine lv_aload_n hx hb dX11_scan_140 rfl (lv_at hl 1 rfl) ?_
                obtain ⟨M2, hM2⟩ : ∃ z, z = fHap M1 p 109 (-1) := ⟨_, rfl⟩
                replace hM : RM h o ad M2 := by rw [hM2]; exact hM
                have hwM2 : WFa M2 := by rw [hM2]; exact hsg.1.1
                have grM2 : Gr 1 M1 M2 := by rw [hM2]; exact Gr.hap hwM1 p 109 (-1)
                obtain ⟨gnM2, glM2, ghM2, gcM2, gsM2, gaM2, gbM2⟩ := id grM2
                have geM2 : uC M2 = uC (fHap M1 p 109 (-1)) ∧ uS M2 = uS (fHap M1 p 109 (-1)) := by rw [hM2]; exact ⟨rfl, rfl⟩
                have hQ2 : fScan1 M0 p u9 = if M2 22 p = 3 then (104, fHap (up M2 28 p 104) p 104 (-1)) else (109, fScans M2 p) := by
                  unfold fScan1
                  rw [if_neg (fun q => hn9 q.1)]
                  dsimp only
                  rw [if_neg hn9, hM2, hM1]
                  try simp only [up_key (show (22 : Nat) ≠ 15 by decide)]
                refine m_arr C0 hH hM 22 (by decide) fl_X11_77 dX11_scan_141 ?_
                refine lv_iload_n hx hb dX11_scan_144 rfl (lv_at hl 2 rfl) ?_
                refine m_ldI C0 hH hM 22 (by decide) rfl (n := 40) rfl (ix := p) (nI_clamp (by omega)) (by first | assumption | exact vp_in_nI (by omega) (by omega)) (v := M2 22 p) rfl dX11_scan_145 ?_
                refine lv_iconst (v := 3) hx hb dX11_scan_146 (by decide) ?_
                refine lv_icmp_ne (tgt := 169) hx hb dX11_scan_147 (by decide) (fun c147_15 => ?_) (fun c147_15 => ?_)
                · refine lv_aload_n hx hb dX11_scan_169 rfl (lv_at hl 1 rfl) ?_
                  refine lv_iload_n hx hb dX11_scan_170 rfl (lv_at hl 2 rfl) ?_
                  have hRR : fScan1 M0 p u9 = (109, fScans M2 p) := by rw [hQ2]; simp [hcl, eq_false c147_15]
                  have hF : (fScan m (nI p) u9).2 = (fScans M2 p) := by rw [hQ, hRR]
                  obtain ⟨-, -, -, hg1, hg2, -, -⟩ := id (Gr.scans M2 p)
                  have hF1 : uC (fScans M2 p) = uC ((fScan m (nI p) u9).2) ∧ uS (fScans M2 p) = uS ((fScan m (nI p) u9).2) := by rw [hF]; exact ⟨rfl, rfl⟩
                  refine k_v hH (k_runV (rest := []) C0 hH (cM_scans l G A _ o ad M2 hM p hwM2 (by omega)) mv_X11_scans ml_X11_213 ci_15 hM.1 rfl ⟨Nat.le_of_ble_eq_true rfl, Nat.le_of_ble_eq_true rfl⟩ hl.1 rfl (Nat.le_of_ble_eq_true rfl) dX11_scan_171 ⟨by show _ ≤ uC ((fScan m (nI p) u9).2) - uC m; omega, by show _ ≤ uS ((fScan m (nI p) u9).2) - uS m; omega⟩) (fun h H locs hp hH => ?_)
                  have hM := hp
                  refine lv_bipush (v := 109) hx hb dX11_scan_174 (by decide) ?_
                  have eR : 109 = (fScan m (nI p) u9).1 := by rw [hQ, hRR]
                  have eM : (fScan m (nI p) u9).2 = (fScans M2 p) := by rw [hQ, hRR]
                  exact e_Z C0 hr (by decide) hH ⟨eR, _, by rw [eM]; exact hM⟩ (by omega) (by omega) dX11_scan_176
                · refine lv_aload_n hx hb dX11_scan_150 rfl (lv_at hl 1 rfl) ?_
                  refine m_arr C0 hH hM 28 (by decide) fl_X11_95 dX11_scan_151 ?_
                  refine lv_iload_n hx hb dX11_scan_154 rfl (lv_at hl 2 rfl) ?_
                  refine lv_bipush (v := 104) hx hb dX11_scan_155 (by decide) ?_
                  refine m_stC C0 hH hM 28 (by decide) rfl (n := 40) rfl (ix := p) (nI_clamp (by omega)) (by first | assumption | exact vp_in_nI (by omega) (by omega)) (by decide) dX11_scan_157 (fun h H locs hH hM => ?_)
                  refine lv_aload_n hx hb dX11_scan_158 rfl (lv_at hl 1 rfl) ?_
                  refine lv_iload_n hx hb dX11_scan_159 rfl (lv_at hl 2 rfl) ?_
                  refine lv_bipush (v := 104) hx hb dX11_scan_160 (by decide) ?_
                  refine lv_iconst (v := (-1)) hx hb dX11_scan_162 (by decide) ?_
                  obtain ⟨M3, hM3⟩ : ∃ z, z = (up M2 28 p 104) := ⟨_, rfl⟩
                  replace hM : RM h o ad M3 := by rw [hM3]; exact hM
                  have hwM3 : WFa M3 := by rw [hM3]; exact (hwM2.up28 (Or.inr (Or.inr (Or.inr rfl))))
                  have grM3 : Gr 0 M2 M3 := by rw [hM3]; exact (((Gr.refl 0 M2)).trans (Gr.up (by omega)))
                  obtain ⟨gnM3, glM3, ghM3, gcM3, gsM3, gaM3, gbM3⟩ := id grM3
                  have geM3 : uC M3 = uC (up M2 28 p 104) ∧ uS M3 = uS (up M2 28 p 104) := by rw [hM3]; exact ⟨rfl, rfl⟩
                  have hRR : fScan1 M0 p u9 = (104, fHap M3 p 104 (-1)) := by rw [hQ2, hM3]; simp [hcl, eq_true c147_15]
                  have hF : (fScan m (nI p) u9).2 = (fHap M3 p 104 (-1)) := by rw [hQ, hRR]
                  obtain ⟨-, -, -, hg1, hg2, -, -⟩ := id (Gr.hap hwM3 p 104 (-1))
                  have hF1 : uC (fHap M3 p 104 (-1)) = uC ((fScan m (nI p) u9).2) ∧ uS (fHap M3 p 104 (-1)) = uS ((fScan m (nI p) u9).2) := by rw [hF]; exact ⟨rfl, rfl⟩
                  refine k_v hH (k_runV (rest := []) C0 hH (cM_happens l G A _ o ad M3 hM p 104 (-1) hwM3 (by omega) (by omega)) mv_X11_happens ml_X11_188 ci_15 hM.1 rfl ⟨Nat.le_of_ble_eq_true rfl, Nat.le_of_ble_eq_true rfl⟩ hl.1 rfl (Nat.le_of_ble_eq_true rfl) dX11_scan_163 ⟨by show _ ≤ uC ((fScan m (nI p) u9).2) - uC m; omega, by show _ ≤ uS ((fScan m (nI p) u9).2) - uS m; omega⟩) (fun h H locs hp hH => ?_)
                  obtain ⟨ad, hM⟩ := hp
                  refine lv_bipush (v := 104) hx hb dX11_scan_166 (by decide) ?_
                  have eR : 104 = (fScan m (nI p) u9).1 := by rw [hQ, hRR]
                  have eM : (fScan m (nI p) u9).2 = (fHap M3 p 104 (-1)) := by rw [hQ, hRR]
                  exact e_Z C0 hr (by decide) hH ⟨eR, _, by rw [eM]; exact hM⟩ (by omega) (by omega) dX11_scan_168
              · exact absurd (by decide) c103_14
            · exact absurd (by decide) c78_13
          · refine lv_aload_n hx hb dX11_scan_61 rfl (lv_at hl 0 rfl) ?_
            refine m_arr C0 hH hM 15 (by decide) fl_X11_56 dX11_scan_62 ?_
            refine lv_iload_n hx hb dX11_scan_65 rfl (lv_at hl 1 rfl) ?_
            refine m_ldI C0 hH hM 15 (by decide) rfl (n := 40) rfl (ix := p) (nI_clamp (by omega)) (by first | assumption | exact vp_in_nI (by omega) (by omega)) (v := M0 15 p) rfl dX11_scan_66 ?_
            refine lv_iload_n hx hb dX11_scan_67 rfl (lv_at hl 2 rfl) ?_
            refine lv_icmp_ne (tgt := 75) hx hb dX11_scan_68 (by decide) (fun c68_16 => ?_) (fun c68_16 => ?_)
            · refine lv_iconst (v := 0) hx hb dX11_scan_75 (by decide) ?_
              refine lv_istore_n (lv' := [(3, .int (0)), (0, .ref (o)), (1, .int ((nI p))), (2, .int (u9))]) hx hb dX11_scan_76 rfl hl (by decide) rfl (fun ls hl => ?_)
              refine lv_iload_n hx hb dX11_scan_77 rfl (lv_at hl 0 rfl) ?_
              refine lv_if_eq (tgt := 95) hx hb dX11_scan_78 (by decide) (fun c78_17 => ?_) (fun c78_17 => ?_)
              · refine lv_aload_n hx hb dX11_scan_95 rfl (lv_at hl 1 rfl) ?_
                refine m_arr C0 hH hM 15 (by decide) fl_X11_56 dX11_scan_96 ?_
                refine lv_iload_n hx hb dX11_scan_99 rfl (lv_at hl 2 rfl) ?_
                refine lv_iload_n hx hb dX11_scan_100 rfl (lv_at hl 3 rfl) ?_
                refine m_stI C0 hH hM 15 (by decide) rfl (n := 40) rfl (ix := p) (nI_clamp (by omega)) (by first | assumption | exact vp_in_nI (by omega) (by omega)) dX11_scan_101 (fun h H locs hH hM => ?_)
                refine lv_iload_n hx hb dX11_scan_102 rfl (lv_at hl 0 rfl) ?_
                refine lv_if_eq (tgt := 122) hx hb dX11_scan_103 (by decide) (fun c103_18 => ?_) (fun c103_18 => ?_)
                · refine lv_aload_n hx hb dX11_scan_122 rfl (lv_at hl 1 rfl) ?_
                  refine m_arr C0 hH hM 22 (by decide) fl_X11_77 dX11_scan_123 ?_
                  refine lv_iload_n hx hb dX11_scan_126 rfl (lv_at hl 2 rfl) ?_
                  refine lv_dup2_11 hx hb dX11_scan_127 rfl rfl ?_
                  refine m_ldI C0 hH hM 22 (by decide) rfl (n := 40) rfl (ix := p) (nI_clamp (by omega)) (by first | assumption | exact vp_in_nI (by omega) (by omega)) (v := M0 22 p) rfl dX11_scan_128 ?_
                  refine lv_iconst (v := 1) hx hb dX11_scan_129 (by decide) ?_
                  refine lv_iadd hx hb dX11_scan_130 ?_
                  refine m_stI C0 hH hM 22 (by decide) rfl (n := 40) rfl (ix := p) (nI_clamp (by omega)) (by first | assumption | exact vp_in_nI (by omega) (by omega)) dX11_scan_131 (fun h H locs hH hM => ?_)
                  refine lv_aload_n hx hb dX11_scan_132 rfl (lv_at hl 1 rfl) ?_
                  refine lv_iload_n hx hb dX11_scan_133 rfl (lv_at hl 2 rfl) ?_
                  refine lv_bipush (v := 109) hx hb dX11_scan_134 (by decide) ?_
                  refine lv_iconst (v := (-1)) hx hb dX11_scan_136 (by decide) ?_
                  have hn9 : ¬ (¬ M0 28 p = 116 ∧ M0 15 p = u9) := by simp [hcl, eq_false c58_12, eq_false c68_16]
                  have hsg := scan_gr hwM0 hpM0 hhM0 hn9 (by omega)
                  obtain ⟨M1, hM1⟩ : ∃ z, z = (up (up M0 15 p u9) 22 p ((M0 22 p) + 1)) := ⟨_, rfl⟩
                  replace hM : RM h o ad M1 := by rw [hM1]; exact hM
                  have hwM1 : WFa M1 := by rw [hM1]; exact ((hwM0.up15 hhM0).upx (by unfold kWF; omega))
                  have grM1 : Gr 0 M0 M1 := by rw [hM1]; exact (((((Gr.refl 0 M0)).trans (Gr.up (by omega)))).trans (Gr.up (by omega)))
                  obtain ⟨gnM1, glM1, ghM1, gcM1, gsM1, gaM1, gbM1⟩ := id grM1
                  have geM1 : uC M1 = uC (up (up M0 15 p u9) 22 p ((M0 22 p) + 1)) ∧ uS M1 = uS (up (up M0 15 p u9) 22 p ((M0 22 p) + 1)) := by rw [hM1]; exact ⟨rfl, rfl⟩
                  rw [← hM1] at hsg
                  have hg8 := hsg.2.2
                  rw [← hQ] at hg8
                  obtain ⟨-, -, -, hg1, hg2, -, -⟩ := id hg8
                  obtain ⟨-, -, -, hg3, hg4, -, -⟩ := id (Gr.hap hwM1 p 109 (-1))
                  refine k_v hH (k_runV (rest := []) C0 hH (cM_happens l G A _ o ad M1 hM p 109 (-1) hwM1 (by omega) (by omega)) mv_X11_happens ml_X11_188 ci_15 hM.1 rfl ⟨Nat.le_of_ble_eq_true rfl, Nat.le_of_ble_eq_true rfl⟩ hl.1 rfl (Nat.le_of_ble_eq_true rfl) dX11_scan_137 ⟨by show _ ≤ uC ((fScan m (nI p) u9).2) - uC m; omega, by show _ ≤ uS ((fScan m (nI p) u9).2) - uS m; omega⟩) (fun h H locs hp hH => ?_)
                  obtain ⟨ad, hM⟩ := hp
                  refine lv_aload_n hx hb dX11_scan_140 rfl (lv_at hl 1 rfl) ?_
                  obtain ⟨M2, hM2⟩ : ∃ z, z = fHap M1 p 109 (-1) := ⟨_, rfl⟩
                  replace hM : RM h o ad M2 := by rw [hM2]; exact hM
                  have hwM2 : WFa M2 := by rw [hM2]; exact hsg.1.1
                  have grM2 : Gr 1 M1 M2 := by rw [hM2]; exact Gr.hap hwM1 p 109 (-1)
                  obtain ⟨gnM2, glM2, ghM2, gcM2, gsM2, gaM2, gbM2⟩ := id grM2
                  have geM2 : uC M2 = uC (fHap M1 p 109 (-1)) ∧ uS M2 = uS (fHap M1 p 109 (-1)) := by rw [hM2]; exact ⟨rfl, rfl⟩
                  have hQ2 : fScan1 M0 p u9 = if M2 22 p = 3 then (104, fHap (up M2 28 p 104) p 104 (-1)) else (109, fScans M2 p) := by
                    unfold fScan1
                    rw [if_neg (fun q => hn9 q.1)]
                    dsimp only
                    rw [if_neg hn9, hM2, hM1]
                    try simp only [up_key (show (22 : Nat) ≠ 15 by decide)]
                  refine m_arr C0 hH hM 22 (by decide) fl_X11_77 dX11_scan_141 ?_
                  refine lv_iload_n hx hb dX11_scan_144 rfl (lv_at hl 2 rfl) ?_
                  refine m_ldI C0 hH hM 22 (by decide) rfl (n := 40) rfl (ix := p) (nI_clamp (by omega)) (by first | assumption | exact vp_in_nI (by omega) (by omega)) (v := M2 22 p) rfl dX11_scan_145 ?_
                  refine lv_iconst (v := 3) hx hb dX11_scan_146 (by decide) ?_
                  refine lv_icmp_ne (tgt := 169) hx hb dX11_scan_147 (by decide) (fun c147_19 => ?_) (fun c147_19 => ?_)
                  · refine lv_aload_n hx hb dX11_scan_169 rfl (lv_at hl 1 rfl) ?_
                    refine lv_iload_n hx hb dX11_scan_170 rfl (lv_at hl 2 rfl) ?_
                    have hRR : fScan1 M0 p u9 = (109, fScans M2 p) := by rw [hQ2]; simp [hcl, eq_false c147_19]
                    have hF : (fScan m (nI p) u9).2 = (fScans M2 p) := by rw [hQ, hRR]
                    obtain ⟨-, -, -, hg1, hg2, -, -⟩ := id (Gr.scans M2 p)
                    have hF1 : uC (fScans M2 p) = uC ((fScan m (nI p) u9).2) ∧ uS (fScans M2 p) = uS ((fScan m (nI p) u9).2) := by rw [hF]; exact ⟨rfl, rfl⟩
                    refine k_v hH (k_runV (rest := []) C0 hH (cM_scans l G A _ o ad M2 hM p hwM2 (by omega)) mv_X11_scans ml_X11_213 ci_15 hM.1 rfl ⟨Nat.le_of_ble_eq_true rfl, Nat.le_of_ble_eq_true rfl⟩ hl.1 rfl (Nat.le_of_ble_eq_true rfl) dX11_scan_171 ⟨by show _ ≤ uC ((fScan m (nI p) u9).2) - uC m; omega, by show _ ≤ uS ((fScan m (nI p) u9).2) - uS m; omega⟩) (fun h H locs hp hH => ?_)
                    have hM := hp
                    refine lv_bipush (v := 109) hx hb dX11_scan_174 (by decide) ?_
                    have eR : 109 = (fScan m (nI p) u9).1 := by rw [hQ, hRR]
                    have eM : (fScan m (nI p) u9).2 = (fScans M2 p) := by rw [hQ, hRR]
                    exact e_Z C0 hr (by decide) hH ⟨eR, _, by rw [eM]; exact hM⟩ (by omega) (by omega) dX11_scan_176
                  · refine lv_aload_n hx hb dX11_scan_150 rfl (lv_at hl 1 rfl) ?_
                    refine m_arr C0 hH hM 28 (by decide) fl_X11_95 dX11_scan_151 ?_
                    refine lv_iload_n hx hb dX11_scan_154 rfl (lv_at hl 2 rfl) ?_
                    refine lv_bipush (v := 104) hx hb dX11_scan_155 (by decide) ?_
                    refine m_stC C0 hH hM 28 (by decide) rfl (n := 40) rfl (ix := p) (nI_clamp (by omega)) (by first | assumption | exact vp_in_nI (by omega) (by omega)) (by decide) dX11_scan_157 (fun h H locs hH hM => ?_)
                    refine lv_aload_n hx hb dX11_scan_158 rfl (lv_at hl 1 rfl) ?_
                    refine lv_iload_n hx hb dX11_scan_159 rfl (lv_at hl 2 rfl) ?_
                    refine lv_bipush (v := 104) hx hb dX11_scan_160 (by decide) ?_
                    refine lv_iconst (v := (-1)) hx hb dX11_scan_162 (by decide) ?_
                    obtain ⟨M3, hM3⟩ : ∃ z, z = (up M2 28 p 104) := ⟨_, rfl⟩
                    replace hM : RM h o ad M3 := by rw [hM3]; exact hM
                    have hwM3 : WFa M3 := by rw [hM3]; exact (hwM2.up28 (Or.inr (Or.inr (Or.inr rfl))))
                    have grM3 : Gr 0 M2 M3 := by rw [hM3]; exact (((Gr.refl 0 M2)).trans (Gr.up (by omega)))
                    obtain ⟨gnM3, glM3, ghM3, gcM3, gsM3, gaM3, gbM3⟩ := id grM3
                    have geM3 : uC M3 = uC (up M2 28 p 104) ∧ uS M3 = uS (up M2 28 p 104) := by rw [hM3]; exact ⟨rfl, rfl⟩
                    have hRR : fScan1 M0 p u9 = (104, fHap M3 p 104 (-1)) := by rw [hQ2, hM3]; simp [hcl, eq_true c147_19]
                    have hF : (fScan m (nI p) u9).2 = (fHap M3 p 104 (-1)) := by rw [hQ, hRR]
                    obtain ⟨-, -, -, hg1, hg2, -, -⟩ := id (Gr.hap hwM3 p 104 (-1))
                    have hF1 : uC (fHap M3 p 104 (-1)) = uC ((fScan m (nI p) u9).2) ∧ uS (fHap M3 p 104 (-1)) = uS ((fScan m (nI p) u9).2) := by rw [hF]; exact ⟨rfl, rfl⟩
                    refine k_v hH (k_runV (rest := []) C0 hH (cM_happens l G A _ o ad M3 hM p 104 (-1) hwM3 (by omega) (by omega)) mv_X11_happens ml_X11_188 ci_15 hM.1 rfl ⟨Nat.le_of_ble_eq_true rfl, Nat.le_of_ble_eq_true rfl⟩ hl.1 rfl (Nat.le_of_ble_eq_true rfl) dX11_scan_163 ⟨by show _ ≤ uC ((fScan m (nI p) u9).2) - uC m; omega, by show _ ≤ uS ((fScan m (nI p) u9).2) - uS m; omega⟩) (fun h H locs hp hH => ?_)
                    obtain ⟨ad, hM⟩ := hp
                    refine lv_bipush (v := 104) hx hb dX11_scan_166 (by decide) ?_
                    have eR : 104 = (fScan m (nI p) u9).1 := by rw [hQ, hRR]
                    have eM : (fScan m (nI p) u9).2 = (fHap M3 p 104 (-1)) := by rw [hQ, hRR]
                    exact e_Z C0 hr (by decide) hH ⟨eR, _, by rw [eM]; exact hM⟩ (by omega) (by omega) dX11_scan_168
                · exact absurd (by decide) c103_18
              · exact absurd (by decide) c78_17
            · refine lv_iconst (v := 1) hx hb dX11_scan_71 (by decide) ?_
              refine lv_goto (tgt := 76) hx hb dX11_scan_72 (by decide) ?_
              refine lv_istore_n (lv' := [(3, .int (1)), (0, .ref (o)), (1, .int ((nI p))), (2, .int (u9))]) hx hb dX11_scan_76 rfl hl (by decide) rfl (fun ls hl => ?_)
              refine lv_iload_n hx hb dX11_scan_77 rfl (lv_at hl 0 rfl) ?_
              refine lv_if_eq (tgt := 95) hx hb dX11_scan_78 (by decide) (fun c78_20 => ?_) (fun c78_20 => ?_)
              · exact absurd c78_20 (by decide)
              · refine lv_aload_n hx hb dX11_scan_81 rfl (lv_at hl 1 rfl) ?_
                refine m_arr C0 hH hM 28 (by decide) fl_X11_95 dX11_scan_82 ?_
                refine lv_iload_n hx hb dX11_scan_85 rfl (lv_at hl 2 rfl) ?_
                refine m_ldC C0 hH hM 28 (by decide) rfl (n := 40) rfl (ix := p) (nI_clamp (by omega)) (by first | assumption | exact vp_in_nI (by omega) (by omega)) (v := M0 28 p) rfl dX11_scan_86 ?_
                refine lv_bipush (v := 115) hx hb dX11_scan_87 (by decide) ?_
                refine lv_icmp_ne (tgt := 95) hx hb dX11_scan_89 (by decide) (fun c89_21 => ?_) (fun c89_21 => ?_)
                · refine lv_aload_n hx hb dX11_scan_95 rfl (lv_at hl 1 rfl) ?_
                  refine m_arr C0 hH hM 15 (by decide) fl_X11_56 dX11_scan_96 ?_
                  refine lv_iload_n hx hb dX11_scan_99 rfl (lv_at hl 2 rfl) ?_
                  refine lv_iload_n hx hb dX11_scan_100 rfl (lv_at hl 3 rfl) ?_
                  refine m_stI C0 hH hM 15 (by decide) rfl (n := 40) rfl (ix := p) (nI_clamp (by omega)) (by first | assumption | exact vp_in_nI (by omega) (by omega)) dX11_scan_101 (fun h H locs hH hM => ?_)
                  refine lv_iload_n hx hb dX11_scan_102 rfl (lv_at hl 0 rfl) ?_
                  refine lv_if_eq (tgt := 122) hx hb dX11_scan_103 (by decide) (fun c103_22 => ?_) (fun c103_22 => ?_)
                  · exact absurd c103_22 (by decide)
                  · refine lv_aload_n hx hb dX11_scan_106 rfl (lv_at hl 1 rfl) ?_
                    refine lv_iload_n hx hb dX11_scan_107 rfl (lv_at hl 2 rfl) ?_
                    obtain ⟨M1, hM1⟩ : ∃ z, z = (up M0 15 p u9) := ⟨_, rfl⟩
                    replace hM : RM h o ad M1 := by rw [hM1]; exact hM
                    have hwM1 : WFa M1 := by rw [hM1]; exact hwM0.up15 hhM0
                    have grM1 : Gr 0 M0 M1 := by rw [hM1]; exact (((Gr.refl 0 M0)).trans (Gr.up (by omega)))
                    obtain ⟨gnM1, glM1, ghM1, gcM1, gsM1, gaM1, gbM1⟩ := id grM1
                    have geM1 : uC M1 = uC (up M0 15 p u9) ∧ uS M1 = uS (up M0 15 p u9) := by rw [hM1]; exact ⟨rfl, rfl⟩
                    refine k_v hH (k_runV (rest := []) C0 hH (cM_scans l G A _ o ad M1 hM p hwM1 (by omega)) mv_X11_scans ml_X11_213 ci_15 hM.1 rfl ⟨Nat.le_of_ble_eq_true rfl, Nat.le_of_ble_eq_true rfl⟩ hl.1 rfl (Nat.le_of_ble_eq_true rfl) dX11_scan_108 ⟨by show _ ≤ uC ((fScan m (nI p) u9).2) - uC m; omega, by show _ ≤ uS ((fScan m (nI p) u9).2) - uS m; omega⟩) (fun h H locs hp hH => ?_)
                    have hM := hp
                    refine lv_aload_n hx hb dX11_scan_111 rfl (lv_at hl 1 rfl) ?_
                    refine lv_iload_n hx hb dX11_scan_112 rfl (lv_at hl 2 rfl) ?_
                    refine lv_bipush (v := 115) hx hb dX11_scan_113 (by decide) ?_
                    refine lv_iconst (v := (-1)) hx hb dX11_scan_115 (by decide) ?_
                    obtain ⟨M2, hM2⟩ : ∃ z, z = fScans M1 p := ⟨_, rfl⟩
                    replace hM : RM h o ad M2 := by rw [hM2]; exact hM
                    have hwM2 : WFa M2 := by rw [hM2]; exact hwM1.scans p
                    have grM2 : Gr 0 M1 M2 := by rw [hM2]; exact Gr.scans M1 p
                    obtain ⟨gnM2, glM2, ghM2, gcM2, gsM2, gaM2, gbM2⟩ := id grM2
                    have geM2 : uC M2 = uC (fScans M1 p) ∧ uS M2 = uS (fScans M1 p) := by rw [hM2]; exact ⟨rfl, rfl⟩
                    have hRR : fScan1 M0 p u9 = (111, fHap M2 p 115 (-1)) := by rw [hM2, hM1]; simp [fScan1, hcl, eq_false c58_12, eq_true c68_16, eq_false c89_21]
                    have hF : (fScan m (nI p) u9).2 = (fHap M2 p 115 (-1)) := by rw [hQ, hRR]
                    obtain ⟨-, -, -, hg1, hg2, -, -⟩ := id (Gr.hap hwM2 p 115 (-1))
                    have hF1 : uC (fHap M2 p 115 (-1)) = uC ((fScan m (nI p) u9).2) ∧ uS (fHap M2 p 115 (-1)) = uS ((fScan m (nI p) u9).2) := by rw [hF]; exact ⟨rfl, rfl⟩
                    refine k_v hH (k_runV (rest := []) C0 hH (cM_happens l G A _ o ad M2 hM p 115 (-1) hwM2 (by omega) (by omega)) mv_X11_happens ml_X11_188 ci_15 hM.1 rfl ⟨Nat.le_of_ble_eq_true rfl, Nat.le_of_ble_eq_true rfl⟩ hl.1 rfl (Nat.le_of_ble_eq_true rfl) dX11_scan_116 ⟨by show _ ≤ uC ((fScan m (nI p) u9).2) - uC m; omega, by show _ ≤ uS ((fScan m (nI p) u9).2) - uS m; omega⟩) (fun h H locs hp hH => ?_)
                    obtain ⟨ad, hM⟩ := hp
                    refine lv_bipush (v := 111) hx hb dX11_scan_119 (by decide) ?_
                    have eR : 111 = (fScan m (nI p) u9).1 := by rw [hQ, hRR]
                    have eM : (fScan m (nI p) u9).2 = (fHap M2 p 115 (-1)) := by rw [hQ, hRR]
                    exact e_Z C0 hr (by decide) hH ⟨eR, _, by rw [eM]; exact hM⟩ (by omega) (by omega) dX11_scan_121
                · refine lv_bipush (v := 97) hx hb dX11_scan_92 (by decide) ?_
                  have eR : 97 = (fScan m (nI p) u9).1 := by rw [hQ]; simp [fScan1, hcl, eq_false c58_12, eq_true c68_16, eq_true c89_21]
                  have eM : (fScan m (nI p) u9).2 = M0 := by rw [hQ]; simp [fScan1, hcl, eq_false c58_12, eq_true c68_16, eq_true c89_21]
                  exact e_Z C0 hr (by decide) hH ⟨eR, _, by rw [eM]; exact hM⟩ (by omega) (by omega) dX11_scan_94
        · replace c45_11 := bi_n0.mp c45_11
          refine lv_iconst (v := 0) hx hb dX11_scan_48 (by decide) ?_
          have eR : 0 = (fScan m (nI p) u9).1 := by simp [fScan, isPa, bi, thr, fNone, fNoLine, hcl, c12_2, c20_6, c45_11]
          have eM : (fScan m (nI p) u9).2 = (up (up m 45 0 (if 0 = 0 then 0 else 1)) 45 0 (if (bi (isOver m p)) = 0 then 0 else 2)) := by simp [fScan, isPa, bi, thr, fNone, fNoLine, hcl, c12_2, c20_6, c45_11]
          exact e_Z C0 hr (by decide) hH ⟨eR, _, by rw [eM]; exact hM⟩ (by omega) (by omega) dX11_scan_49
    · replace c20_6 := bi_0.mp c20_6
      refine lv_iconst (v := 1) hx hb dX11_scan_23 (by decide) ?_
      refine lv_goto (tgt := 28) hx hb dX11_scan_24 (by decide) ?_
      refine lv_iconst (v := 1) hx hb dX11_scan_28 (by decide) ?_
      refine k_i hH (k_runV (rest := []) C0 hH (cM_isThrown l G A _ o ad m hM 1 1 rfl) mv_X11_isThrown ml_X11_140 ci_15 hM.1 rfl ⟨Nat.le_of_ble_eq_true rfl, Nat.le_of_ble_eq_true rfl⟩ hl.1 rfl (Nat.le_of_ble_eq_true rfl) dX11_scan_29 ⟨by show _ ≤ uC ((fScan m (nI p) u9).2) - uC m; omega, by show _ ≤ uS ((fScan m (nI p) u9).2) - uS m; omega⟩) (fun r_23 h H locs hp hH => ?_)
      obtain ⟨er_23, hM⟩ := hp
      subst er_23
      refine lv_if_ne (tgt := 48) hx hb dX11_scan_32 (by decide) (fun c32_24 => ?_) (fun c32_24 => ?_)
      · refine lv_iconst (v := 0) hx hb dX11_scan_48 (by decide) ?_
        have eR : 0 = (fScan m (nI p) u9).1 := by simp [fScan, isPa, bi, thr, fNone, fNoLine, hcl, c12_2, c20_6]
        have eM : (fScan m (nI p) u9).2 = (up m 45 0 (if 1 = 0 then 0 else 1)) := by simp [fScan, isPa, bi, thr, fNone, fNoLine, hcl, c12_2, c20_6]
        exact e_Z C0 hr (by decide) hH ⟨eR, _, by rw [eM]; exact hM⟩ (by omega) (by omega) dX11_scan_49
      · exact absurd c32_24 (by decide)
set_option maxHeartbeats 4000000 in
set_option maxRecDepth 100000 in
theorem cM_closeLine (l : Launch) (G : GT) (A : Nat → Prop) (h : AH) (o : Nat) (ad : Nat → Nat) (m : MM) (hM : RM h o ad m) (x : Int32) (hw : WFa m) : cmI l G A yX11_closeLine cX11_closeLine 3 (Option.some FieldType.int) 13 330 0 0 [.ref (o), .int (x)] h (fun r h' => r = (fClose m x).1 ∧ RM h' o ad ((fClose m x).2)) := by
  refine cm_of "RoutepostModel" rfl (by decide) (Nat.le_of_ble_eq_true rfl) ?_
  intro pr e s m9 below meth c C0 hr hname hH ls hl
  obtain ⟨hx, hb, hml, hown, hts, hK, hA, -⟩ := id C0
  have hl : lv_has ls 3 [(0, .ref (o)), (1, .int (x))] := hl
  have hnp := hw.np
  have hnl := hw.nl
  refine lv_aload_n hx hb dX11_closeLine_0 rfl (lv_at hl 0 rfl) ?_
  refine lv_iload_n hx hb dX11_closeLine_1 rfl (lv_at hl 1 rfl) ?_
  refine k_i hH (k_runV (rest := []) C0 hH (cM_isNoLine l G A _ o ad m hM x) mv_X11_isNoLine ml_X11_198 ci_15 hM.1 rfl ⟨by decide, by decide⟩ hl.1 rfl (Nat.le_of_ble_eq_true rfl) dX11_closeLine_2 (by simp)) (fun r_1 h H locs hp hH => ?_)
  obtain ⟨er_1, hM⟩ := hp
  subst er_1
  refine lv_if_ne (tgt := 22) hx hb dX11_closeLine_5 (by decide) (fun c5_2 => ?_) (fun c5_2 => ?_)
  · replace c5_2 := bi_n0.mp c5_2
    refine lv_iconst (v := 0) hx hb dX11_closeLine_22 (by decide) ?_
    have eR : 0 = (fClose m x).1 := by simp [fClose, bi, thr, fNone, fNoLine, c5_2]
    have eM : (fClose m x).2 = (up m 45 0 (if (bi (¬ isLn m x)) = 0 then 0 else 1)) := by simp [fClose, bi, thr, fNone, fNoLine, c5_2]
    exact e_I C0 hr hH ⟨eR, by rw [eM]; exact hM⟩ (Nat.le_refl _) (Nat.le_refl _) dX11_closeLine_23
  · replace c5_2 := bi_0.mp c5_2
    replace c5_2 := Classical.not_not.mp c5_2
    obtain ⟨i, hp, rfl⟩ := vp_in_of (hw.isLn.mp c5_2) (by omega)
    have hcl : (nI i).toNatClampNeg = i := nI_clamp (by omega)
    refine lv_aload_n hx hb dX11_closeLine_8 rfl (lv_at hl 0 rfl) ?_
    refine lv_aload_n hx hb dX11_closeLine_9 rfl (lv_at hl 0 rfl) ?_
    refine m_arr C0 hH hM 9 (by decide) fl_X11_37 dX11_closeLine_10 ?_
    refine lv_iload_n hx hb dX11_closeLine_13 rfl (lv_at hl 1 rfl) ?_
    refine m_ldZ C0 hH hM 9 (by decide) rfl (n := 12) rfl (ix := i) (nI_clamp (by omega)) (by first | assumption | exact vp_in_nI (by omega) (by omega)) (v := m 9 i) rfl dX11_closeLine_14 ?_
    refine lv_iconst (v := 2) hx hb dX11_closeLine_15 (by decide) ?_
    refine k_i hH (k_runV (rest := []) C0 hH (cM_isThrown l G A _ o ad (up m 45 0 (if (bi (¬ isLn m (nI i))) = 0 then 0 else 1)) hM (m 9 i) 2 (nar9 hw hp)) mv_X11_isThrown ml_X11_140 ci_15 hM.1 rfl ⟨by decide, by decide⟩ hl.1 rfl (Nat.le_of_ble_eq_true rfl) dX11_closeLine_16 (by simp)) (fun r_3 h H locs hp hH => ?_)
    obtain ⟨er_3, hM⟩ := hp
    subst er_3
    refine lv_if_eq (tgt := 24) hx hb dX11_closeLine_19 (by decide) (fun c19_4 => ?_) (fun c19_4 => ?_)
    · refine lv_aload_n hx hb dX11_closeLine_24 rfl (lv_at hl 0 rfl) ?_
      refine lv_iload_n hx hb dX11_closeLine_25 rfl (lv_at hl 1 rfl) ?_
      obtain ⟨M0, hM0⟩ : ∃ z, z = (up (up m 45 0 (if (bi (¬ isLn m (nI i))) = 0 then 0 else 1)) 45 0 (if (m 9 i) = 0 then 0 else 2)) := ⟨_, rfl⟩
      replace hM : RM h o ad M0 := by rw [hM0]; exact hM
      have hwM0 : WFa M0 := by rw [hM0]; exact (WFa.upx (WFa.upx hw (by unfold kWF; omega)) (by unfold kWF; omega))
      have grM0 : Gr 0 m M0 := by rw [hM0]; exact (((((Gr.refl 0 m)).trans (Gr.up (by omega)))).trans (Gr.up (by omega)))
      obtain ⟨gnM0, glM0, ghM0, gcM0, gsM0, gaM0, gbM0⟩ := id grM0
      have geM0 : uC M0 = uC (up (up m 45 0 (if (bi (¬ isLn m (nI i))) = 0 then 0 else 1)) 45 0 (if (m 9 i) = 0 then 0 else 2)) ∧ uS M0 = uS (up (up m 45 0 (if (bi (¬ isLn m (nI i))) = 0 then 0 else 1)) 45 0 (if (m 9 i) = 0 then 0 else 2)) := by rw [hM0]; exact ⟨rfl, rfl⟩
      have hQ : fClose m (nI i) = (waits m (nI i), fPlansAll (up M0 9 i 1)) := by rw [hM0]; simp [fClose, bi, thr, fNoLine, hcl, hcl, c5_2, eq_true c19_4]
      have hW : waits M0 (nI i) = waits m (nI i) := waits_ext (by rw [hM0]; simp [up_key]) (by rw [hM0]; simp [up_key]) (by rw [hM0]; simp [up_key]) _
      refine k_i hH (k_runV (rest := []) C0 hH (cM_waits l G A _ o ad M0 hM (nI i) hwM0) mv_X11_waits ml_X11_201 ci_15 hM.1 rfl ⟨by decide, by decide⟩ hl.1 rfl (Nat.le_of_ble_eq_true rfl) dX11_closeLine_26 (by simp)) (fun r_5 h1 H locs hp hH => ?_)
      obtain ⟨er_5, eh⟩ := hp
      rw [eh] at hH
      clear eh
      subst er_5
      refine lv_istore_n (lv' := [(2, .int (waits M0 (nI i))), (0, .ref (o)), (1, .int ((nI i)))]) hx hb dX11_closeLine_29 rfl hl (by decide) rfl (fun ls hl => ?_)
      refine lv_aload_n hx hb dX11_closeLine_30 rfl (lv_at hl 1 rfl) ?_
      refine m_arr C0 hH hM 9 (by decide) fl_X11_37 dX11_closeLine_31 ?_
      refine lv_iload_n hx hb dX11_closeLine_34 rfl (lv_at hl 2 rfl) ?_
      refine lv_iconst (v := 1) hx hb dX11_closeLine_35 (by decide) ?_
      refine m_stZ C0 hH hM 9 (by decide) rfl (n := 12) rfl (ix := i) (nI_clamp (by omega)) (by first | assumption | exact vp_in_nI (by omega) (by omega)) (by decide) dX11_closeLine_36 (fun h H locs hH hM => ?_)
      refine lv_aload_n hx hb dX11_closeLine_37 rfl (lv_at hl 1 rfl) ?_
      obtain ⟨M1, hM1⟩ : ∃ z, z = (up M0 9 i 1) := ⟨_, rfl⟩
      replace hM : RM h o ad M1 := by rw [hM1]; exact hM
      have hwM1 : WFa M1 := by rw [hM1]; exact hwM0.lset (by omega) (fun z => (by have h9 := hwM0.ln z; unfold lnOK at *; rw [show nhN (up M0 9 i 1) = nhN M0 from nhN_ext (up_key (by decide)), up_k (k' := 2) (by decide), up_k (k' := 3) (by decide), up_k (k' := 5) (by decide), up_k (k' := 8) (by decide), up_k (k' := 7) (by decide), up_s]; exact ⟨h9.1, h9.2.1, h9.2.2.1, h9.2.2.2.1, h9.2.2.2.2.1, Or.inr rfl⟩))
      have grM1 : Gr 0 M0 M1 := by rw [hM1]; exact (((Gr.refl 0 M0)).trans (Gr.up (by omega)))
      obtain ⟨gnM1, glM1, ghM1, gcM1, gsM1, gaM1, gbM1⟩ := id grM1
      have geM1 : uC M1 = uC (up M0 9 i 1) ∧ uS M1 = uS (up M0 9 i 1) := by rw [hM1]; exact ⟨rfl, rfl⟩
      refine k_v hH (k_runV (rest := []) C0 hH (cM_plansAll l G A _ o ad M1 hM  hwM1) mv_X11_plansAll ml_X11_195 ci_15 hM.1 rfl ⟨by decide, by decide⟩ hl.1 rfl (Nat.le_of_ble_eq_true rfl) dX11_closeLine_38 (by simp)) (fun h H locs hp hH => ?_)
      have hM := hp
      refine lv_iload_n hx hb dX11_closeLine_41 rfl (lv_at hl 0 rfl) ?_
      have eR : waits M0 (nI i) = (fClose m (nI i)).1 := by rw [hQ]; exact hW
      have eM : (fClose m (nI i)).2 = (fPlansAll M1) := by rw [hQ, hM1]
      exact e_I C0 hr hH ⟨eR, by rw [eM]; exact hM⟩ (Nat.le_refl _) (Nat.le_refl _) dX11_closeLine_42
    · refine lv_iconst (v := 0) hx hb dX11_closeLine_22 (by decide) ?_
      have eR : 0 = (fClose m (nI i)).1 := by simp [fClose, bi, thr, fNone, fNoLine, hcl, c5_2, eq_false c19_4]
      have eM : (fClose m (nI i)).2 = (up (up m 45 0 (if (bi (¬ isLn m (nI i))) = 0 then 0 else 1)) 45 0 (if (m 9 i) = 0 then 0 else 2)) := by simp [fClose, bi, thr, fNone, fNoLine, hcl, c5_2, eq_false c19_4]
      exact e_I C0 hr hH ⟨eR, by rw [eM]; exact hM⟩ (Nat.le_refl _) (Nat.le_refl _) dX11_closeLine_23
