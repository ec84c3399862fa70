set_option maxHeartbeats 4000000 in
set_option maxRecDepth 100000 in
theorem cM_waitingAt (l : Launch) (G : GT) (A : Nat → Prop) (h : AH) (o : Nat) (ad : Nat → Nat) (m : MM) (hM : RM h o ad m) (x r9 : Int32) (hw : WFa m) : cmI l G A yX11_waitingAt cX11_waitingAt 4 (Option.some FieldType.int) 2 46 0 0 [.ref (o), .int (x), .int (r9)] h (fun r h' => r = (fWaA m x r9).1 ∧ RM h' o ad ((fWaA m x r9).2)) := by
  refine cm_of "RoutepostModel" rfl (by decide) (Nat.le_of_ble_eq_true rfl) ?_
  intro pr e s m9 below meth c C0 hr hname hH ls hl
  obtain ⟨hx, hb, hml, hown, hts, hK, hA, -⟩ := id C0
  have hl : lv_has ls 4 [(0, .ref (o)), (1, .int (x)), (2, .int (r9))] := hl
  have hnp := hw.np
  refine lv_aload_n hx hb dX11_waitingAt_0 rfl (lv_at hl 0 rfl) ?_
  refine lv_iload_n hx hb dX11_waitingAt_1 rfl (lv_at hl 1 rfl) ?_
  refine k_i hH (k_runV (rest := []) C0 hH (cM_isNoLine l G A _ o ad m hM x) mv_X11_isNoLine ml_X11_198 ci_15 hM.1 rfl ⟨by decide, by decide⟩ hl.1 rfl (Nat.le_of_ble_eq_true rfl) dX11_waitingAt_2 (by simp)) (fun r_1 h H locs hp hH => ?_)
  obtain ⟨er_1, hM⟩ := hp
  subst er_1
  refine lv_if_eq (tgt := 10) hx hb dX11_waitingAt_5 (by decide) (fun c5_2 => ?_) (fun c5_2 => ?_)
  · replace c5_2 := bi_0.mp c5_2
    replace c5_2 := Classical.not_not.mp c5_2
    have hq1 : (fNoLine m x).1 = 0 := by simp [fNoLine, bi, c5_2]
    obtain ⟨M1, hM1⟩ : ∃ z, z = (fNoLine m x).2 := ⟨_, rfl⟩
    replace hM : RM h o ad M1 := by rw [hM1]; exact hM
    have hwM1 : WFa M1 := by rw [hM1]; exact hw.thr _ _
    have grM1 : Gr 0 m M1 := by rw [hM1]; exact Gr.thr m _ _
    obtain ⟨gnM1, glM1, ghM1, gcM1, gsM1, gaM1, gbM1⟩ := id grM1
    have geM1 : uC M1 = uC ((fNoLine m x).2) ∧ uS M1 = uS ((fNoLine m x).2) := by rw [hM1]; exact ⟨rfl, rfl⟩
    refine lv_aload_n hx hb dX11_waitingAt_10 rfl (lv_at hl 0 rfl) ?_
    refine lv_iload_n hx hb dX11_waitingAt_11 rfl (lv_at hl 1 rfl) ?_
    refine k_i hH (k_runV (rest := []) C0 hH (cM_lines l G A _ o ad M1 hM x hwM1) mv_X11_lines ml_X11_229 ci_15 hM.1 rfl ⟨by decide, by decide⟩ hl.1 rfl (Nat.le_of_ble_eq_true rfl) dX11_waitingAt_12 (by simp)) (fun r_3 h H locs hp hH => ?_)
    obtain ⟨er_3, hM⟩ := hp
    subst er_3
    have hLk := fLin_ok hwM1 x
    obtain ⟨M2, hM2⟩ : ∃ z, z = (fLin M1 x).2 := ⟨_, rfl⟩
    replace hM : RM h o ad M2 := by rw [hM2]; exact hM
    have hwM2 : WFa M2 := by rw [hM2]; exact hLk.1
    have grM2 : Gr 0 M1 M2 := by rw [hM2]; exact Gr.lin hwM1 x
    obtain ⟨gnM2, glM2, ghM2, gcM2, gsM2, gaM2, gbM2⟩ := id grM2
    have geM2 : uC M2 = uC ((fLin M1 x).2) ∧ uS M2 = uS ((fLin M1 x).2) := by rw [hM2]; exact ⟨rfl, rfl⟩
    obtain ⟨n, hn⟩ : ∃ z, z = (fLin M1 x).1 := ⟨_, rfl⟩
    rw [← hn]
    have hrw : rowOK n M2 := by rw [hn, hM2]; exact hLk.2.2.1
    have hnn : n ≤ npN M1 := by rw [hn]; exact hLk.2.2.2
    refine lv_istore_n (lv' := [(3, .int (nI n)), (0, .ref (o)), (1, .int (x)), (2, .int (r9))]) hx hb dX11_waitingAt_15 rfl hl (by decide) rfl (fun ls hl => ?_)
    refine lv_aload_n hx hb dX11_waitingAt_16 rfl (lv_at hl 1 rfl) ?_
    refine lv_iload_n hx hb dX11_waitingAt_17 rfl (lv_at hl 3 rfl) ?_
    refine lv_iconst (v := 0) hx hb dX11_waitingAt_18 (by decide) ?_
    refine lv_iload_n hx hb dX11_waitingAt_19 rfl (lv_at hl 0 rfl) ?_
    refine lv_iconst (v := 1) hx hb dX11_waitingAt_20 (by decide) ?_
    refine lv_isub hx hb dX11_waitingAt_21 ?_
    refine k_i hH (k_runS (rest := [.ref (o)]) C0 hH (cM_isIn l G A _ r9 0 ((nI n) - 1)) mv_X11_isIn ml_X11_127 rfl ⟨by decide, by decide⟩ hl.1 rfl (Nat.le_of_ble_eq_true rfl) dX11_waitingAt_22 (by simp)) (fun r_4 h1 H locs hp hH => ?_)
    obtain ⟨er_4, eh⟩ := hp
    rw [eh] at hH
    clear eh
    subst er_4
    refine lv_if_ne (tgt := 32) hx hb dX11_waitingAt_25 (by decide) (fun c25_5 => ?_) (fun c25_5 => ?_)
    · replace c25_5 := bi_n0.mp c25_5
      have hr40 : vp_in r9 40 := vp_mono (inn_vp (by omega) c25_5) (by omega)
      refine lv_iconst (v := 0) hx hb dX11_waitingAt_32 (by decide) ?_
      refine lv_iconst (v := 2) hx hb dX11_waitingAt_33 (by decide) ?_
      refine k_i hH (k_runV (rest := []) C0 hH (cM_isThrown l G A _ o ad M2 hM 0 2 rfl) mv_X11_isThrown ml_X11_140 ci_15 hM.1 rfl ⟨by decide, by decide⟩ hl.1 rfl (Nat.le_of_ble_eq_true rfl) dX11_waitingAt_34 (by simp)) (fun r_6 h H locs hp hH => ?_)
      obtain ⟨er_6, hM⟩ := hp
      subst er_6
      refine lv_if_eq (tgt := 44) hx hb dX11_waitingAt_37 (by decide) (fun c37_7 => ?_) (fun c37_7 => ?_)
      · refine lv_aload_n hx hb dX11_waitingAt_44 rfl (lv_at hl 1 rfl) ?_
        refine m_arr C0 hH hM 36 (by decide) fl_X11_120 dX11_waitingAt_45 ?_
        refine lv_iload_n hx hb dX11_waitingAt_48 rfl (lv_at hl 3 rfl) ?_
        refine m_ldI C0 hH hM 36 (by decide) rfl (n := 40) rfl (ix := r9.toNatClampNeg) rfl hr40 (v := M2 36 r9.toNatClampNeg) rfl dX11_waitingAt_49 ?_
        have eR : M2 36 r9.toNatClampNeg = (fWaA m x r9).1 := by simp [fWaA, bi, thr, hq1, ← hM1, ← hM2, ← hn, c25_5]
        have eM : (fWaA m x r9).2 = (up M2 45 0 (if 0 = 0 then 0 else 2)) := by simp [fWaA, bi, thr, hq1, ← hM1, ← hM2, ← hn, c25_5]
        exact e_I C0 hr hH ⟨eR, by rw [eM]; exact hM⟩ (Nat.le_refl _) (Nat.le_refl _) dX11_waitingAt_50
      · exact absurd (by decide) c37_7
    · replace c25_5 := bi_0.mp c25_5
      refine lv_iconst (v := 1) hx hb dX11_waitingAt_28 (by decide) ?_
      refine lv_goto (tgt := 33) hx hb dX11_waitingAt_29 (by decide) ?_
      refine lv_iconst (v := 2) hx hb dX11_waitingAt_33 (by decide) ?_
      refine k_i hH (k_runV (rest := []) C0 hH (cM_isThrown l G A _ o ad M2 hM 1 2 rfl) mv_X11_isThrown ml_X11_140 ci_15 hM.1 rfl ⟨by decide, by decide⟩ hl.1 rfl (Nat.le_of_ble_eq_true rfl) dX11_waitingAt_34 (by simp)) (fun r_8 h H locs hp hH => ?_)
      obtain ⟨er_8, hM⟩ := hp
      subst er_8
      refine lv_if_eq (tgt := 44) hx hb dX11_waitingAt_37 (by decide) (fun c37_9 => ?_) (fun c37_9 => ?_)
      · exact absurd c37_9 (by decide)
      · refine lv_iconst (v := 0) hx hb dX11_waitingAt_40 (by decide) ?_
        refine lv_goto (tgt := 50) hx hb dX11_waitingAt_41 (by decide) ?_
        have eR : 0 = (fWaA m x r9).1 := by simp [fWaA, bi, thr, hq1, ← hM1, ← hM2, ← hn, c25_5]
        have eM : (fWaA m x r9).2 = (up M2 45 0 (if 1 = 0 then 0 else 2)) := by simp [fWaA, bi, thr, hq1, ← hM1, ← hM2, ← hn, c25_5]
        exact e_I C0 hr hH ⟨eR, by rw [eM]; exact hM⟩ (Nat.le_refl _) (Nat.le_refl _) dX11_waitingAt_50
  · replace c5_2 := bi_n0.mp c5_2
    refine lv_iconst (v := 0) hx hb dX11_waitingAt_8 (by decide) ?_
    have eR : 0 = (fWaA m x r9).1 := by simp [fWaA, fNoLine, bi, thr, c5_2]
    have eM : (fWaA m x r9).2 = (up m 45 0 (if (bi (¬ isLn m x)) = 0 then 0 else 1)) := by simp [fWaA, fNoLine, bi, thr, c5_2]
    exact e_I C0 hr hH ⟨eR, by rw [eM]; exact hM⟩ (Nat.le_refl _) (Nat.le_refl _) dX11_waitingAt_9
set_option maxHeartbeats 4000000 in
set_option maxRecDepth 100000 in
theorem cM_bagsNeeded (l : Launch) (G : GT) (A : Nat → Prop) (h : AH) (o : Nat) (ad : Nat → Nat) (m : MM) (hM : RM h o ad m) (x : Int32) (hw : WFa m) : cmI l G A yX11_bagsNeeded cX11_bagsNeeded 5 (Option.some FieldType.int) 2 46 0 0 [.ref (o), .int (x)] h (fun r h' => r = (fBgN m x).1 ∧ RM h' o ad ((fBgN m x).2)) := by
  refine cm_of "RoutepostModel" rfl (by decide) (Nat.le_of_ble_eq_true rfl) ?_
  intro pr e s m9 below meth c C0 hr hname hH ls hl
  obtain ⟨hx, hb, hml, hown, hts, hK, hA, -⟩ := id C0
  have hl : lv_has ls 5 [(0, .ref (o)), (1, .int (x))] := hl
  have hnp := hw.np
  refine lv_aload_n hx hb dX11_bagsNeeded_0 rfl (lv_at hl 0 rfl) ?_
  refine lv_iload_n hx hb dX11_bagsNeeded_1 rfl (lv_at hl 1 rfl) ?_
  refine k_i hH (k_runV (rest := []) C0 hH (cM_isNoLine l G A _ o ad m hM x) mv_X11_isNoLine ml_X11_198 ci_15 hM.1 rfl ⟨by decide, by decide⟩ hl.1 rfl (Nat.le_of_ble_eq_true rfl) dX11_bagsNeeded_2 (by simp)) (fun r_1 h H locs hp hH => ?_)
  obtain ⟨er_1, hM⟩ := hp
  subst er_1
  refine lv_if_eq (tgt := 10) hx hb dX11_bagsNeeded_5 (by decide) (fun c5_2 => ?_) (fun c5_2 => ?_)
  · replace c5_2 := bi_0.mp c5_2
    replace c5_2 := Classical.not_not.mp c5_2
    have hq1 : (fNoLine m x).1 = 0 := by simp [fNoLine, bi, c5_2]
    obtain ⟨M1, hM1⟩ : ∃ z, z = (fNoLine m x).2 := ⟨_, rfl⟩
    replace hM : RM h o ad M1 := by rw [hM1]; exact hM
    have hwM1 : WFa M1 := by rw [hM1]; exact hw.thr _ _
    have grM1 : Gr 0 m M1 := by rw [hM1]; exact Gr.thr m _ _
    obtain ⟨gnM1, glM1, ghM1, gcM1, gsM1, gaM1, gbM1⟩ := id grM1
    have geM1 : uC M1 = uC ((fNoLine m x).2) ∧ uS M1 = uS ((fNoLine m x).2) := by rw [hM1]; exact ⟨rfl, rfl⟩
    refine lv_aload_n hx hb dX11_bagsNeeded_10 rfl (lv_at hl 0 rfl) ?_
    refine lv_iload_n hx hb dX11_bagsNeeded_11 rfl (lv_at hl 1 rfl) ?_
    refine k_i hH (k_runV (rest := []) C0 hH (cM_lines l G A _ o ad M1 hM x hwM1) mv_X11_lines ml_X11_229 ci_15 hM.1 rfl ⟨by decide, by decide⟩ hl.1 rfl (Nat.le_of_ble_eq_true rfl) dX11_bagsNeeded_12 (by simp)) (fun r_3 h H locs hp hH => ?_)
    obtain ⟨er_3, hM⟩ := hp
    subst er_3
    have hLk := fLin_ok hwM1 x
    obtain ⟨M2, hM2⟩ : ∃ z, z = (fLin M1 x).2 := ⟨_, rfl⟩
    replace hM : RM h o ad M2 := by rw [hM2]; exact hM
    have hwM2 : WFa M2 := by rw [hM2]; exact hLk.1
    have grM2 : Gr 0 M1 M2 := by rw [hM2]; exact Gr.lin hwM1 x
    obtain ⟨gnM2, glM2, ghM2, gcM2, gsM2, gaM2, gbM2⟩ := id grM2
    have geM2 : uC M2 = uC ((fLin M1 x).2) ∧ uS M2 = uS ((fLin M1 x).2) := by rw [hM2]; exact ⟨rfl, rfl⟩
    obtain ⟨n, hn⟩ : ∃ z, z = (fLin M1 x).1 := ⟨_, rfl⟩
    rw [← hn]
    have hrw : rowOK n M2 := by rw [hn, hM2]; exact hLk.2.2.1
    have hnn : n ≤ npN M1 := by rw [hn]; exact hLk.2.2.2
    refine lv_istore_n (lv' := [(2, .int (nI n)), (0, .ref (o)), (1, .int (x))]) hx hb dX11_bagsNeeded_15 rfl hl (by decide) rfl (fun ls hl => ?_)
    refine lv_aload_n hx hb dX11_bagsNeeded_16 rfl (lv_at hl 1 rfl) ?_
    refine lv_iconst (v := 0) hx hb dX11_bagsNeeded_17 (by decide) ?_
    refine m_put C0 hH hM 44 (by decide) (by decide) fl_X11_226 dX11_bagsNeeded_18 (fun h H locs hH hM => ?_)
    obtain ⟨M3, hM3⟩ : ∃ z, z = (up M2 44 0 0) := ⟨_, rfl⟩
    replace hM : RM h o ad M3 := by rw [hM3]; exact hM
    have hwM3 : WFa M3 := by rw [hM3]; exact (WFa.upx hwM2 (by unfold kWF; omega))
    have grM3 : Gr 0 M2 M3 := by rw [hM3]; exact (((Gr.refl 0 M2)).trans (Gr.up (by omega)))
    obtain ⟨gnM3, glM3, ghM3, gcM3, gsM3, gaM3, gbM3⟩ := id grM3
    have geM3 : uC M3 = uC (up M2 44 0 0) ∧ uS M3 = uS (up M2 44 0 0) := by rw [hM3]; exact ⟨rfl, rfl⟩
    have e0 : bagsN M3 = 0 := by rw [hM3]; show (up M2 44 0 0 44 0).toNatClampNeg = 0; rw [up_s]; rfl
    have hb3 : M3 44 0 = nI (bagsN M3) ∧ bagsN M3 ≤ 0 := ⟨by rw [e0, hM3, up_s]; rfl, by omega⟩
    have hr3 : rowOK n M3 := fun j hj => by rw [hM3, up_k (by decide), npN_up (by decide)]; exact hrw j hj
    have hQ : fBgN m x = (if ¬ (bgN n 0 1 M3).1 = 0 then (bgN n 0 1 M3).2 44 0 else 0, (bgN n 0 1 M3).2) := by rw [hM3]; simp [fBgN, hq1, ← hM1, ← hM2, ← hn]
    refine lv_iconst (v := 1) hx hb dX11_bagsNeeded_21 (by decide) ?_
    refine lv_istore_n (lv' := [(3, .int (1)), (2, .int (nI n)), (0, .ref (o)), (1, .int (x))]) hx hb dX11_bagsNeeded_22 rfl hl (by decide) rfl (fun ls hl => ?_)
    refine lv_iconst (v := 0) hx hb dX11_bagsNeeded_23 (by decide) ?_
    refine lv_istore (lv' := [(4, .int (0)), (3, .int (1)), (2, .int (nI n)), (0, .ref (o)), (1, .int (x))]) hx hb dX11_bagsNeeded_24 hl (by decide) rfl (fun ls hl => ?_)
    have K : ∀ (k i : Nat) (M : MM) (is : Int32), i + k = n → bgN k i is M = (bgN n 0 1 M3) → WFa M → Gr 0 m M → rowOK n M → M 44 0 = nI (bagsN M) ∧ bagsN M ≤ i → ∀ (h : AH) (H : Heap) (locs : List Loc) (hH : HS G.1 G.2.1 A s.heap h H locs) (hM : RM h o ad M) (ls : Array Slot), lv_has ls 5 [(4, .int (nI i)), (3, .int (is)), (2, .int (nI n)), (0, .ref (o)), (1, .int (x))] → W pr l e (rmm 2 46 0 0) s m9 ([.ref (o), .int (x)] : List Value).toArray below meth c H locs 0 0 (QI below G A (fun r h' => r = (fBgN m x).1 ∧ RM h' o ad ((fBgN m x).2)) ([.ref (o), .int (x)] : List Value).toArray s 0 0) (F0 m9 26 ls []) := by
      intro k
      induction k with
      | zero =>
        intro i M is hik hT hwM hgM hrM hbM h H locs hH hM ls hl
        obtain ⟨gnM, glM, ghM, gcM, gsM, gaM, gbM⟩ := id hgM
        refine lv_iload hx hb dX11_bagsNeeded_26 (lv_at hl 0 rfl) ?_
        refine lv_iload_n hx hb dX11_bagsNeeded_28 rfl (lv_at hl 2 rfl) ?_
        refine lv_icmp_ge (tgt := 54) hx hb dX11_bagsNeeded_29 (by decide) (fun c29_4 => ?_) (fun c29_4 => ?_)
        · refine lv_iload_n hx hb dX11_bagsNeeded_54 rfl (lv_at hl 1 rfl) ?_
          refine lv_if_eq (tgt := 65) hx hb dX11_bagsNeeded_55 (by decide) (fun c55_5 => ?_) (fun c55_5 => ?_)
          · refine lv_iconst (v := 0) hx hb dX11_bagsNeeded_65 (by decide) ?_
            have eR : 0 = (fBgN m x).1 := by rw [hQ, ← hT]; simp [bgN, c29_4, Int32.not_lt.mpr c29_4, eq_true c55_5]
            have eM : (fBgN m x).2 = M := by rw [hQ, ← hT]; simp [bgN, c29_4, Int32.not_lt.mpr c29_4, eq_true c55_5]
            exact e_I C0 hr hH ⟨eR, by rw [eM]; exact hM⟩ (Nat.le_refl _) (Nat.le_refl _) dX11_bagsNeeded_66
          · refine lv_aload_n hx hb dX11_bagsNeeded_58 rfl (lv_at hl 3 rfl) ?_
            refine m_int C0 hH hM 44 (by decide) (by decide) fl_X11_226 (v := M 44 0) rfl dX11_bagsNeeded_59 ?_
            refine lv_goto (tgt := 66) hx hb dX11_bagsNeeded_62 (by decide) ?_
            have eR : M 44 0 = (fBgN m x).1 := by rw [hQ, ← hT]; simp [bgN, c29_4, Int32.not_lt.mpr c29_4, eq_false c55_5]
            have eM : (fBgN m x).2 = M := by rw [hQ, ← hT]; simp [bgN, c29_4, Int32.not_lt.mpr c29_4, eq_false c55_5]
            exact e_I C0 hr hH ⟨eR, by rw [eM]; exact hM⟩ (Nat.le_refl _) (Nat.le_refl _) dX11_bagsNeeded_66
        · exact absurd (by rw [(rfl : nI n = nI n)]; exact nI_le (by omega) (by omega)) c29_4
      | succ k ih =>
        intro i M is hik hT hwM hgM hrM hbM h H locs hH hM ls hl
        obtain ⟨gnM, glM, ghM, gcM, gsM, gaM, gbM⟩ := id hgM
        refine lv_iload hx hb dX11_bagsNeeded_26 (lv_at hl 0 rfl) ?_
        refine lv_iload_n hx hb dX11_bagsNeeded_28 rfl (lv_at hl 2 rfl) ?_
        refine lv_icmp_ge (tgt := 54) hx hb dX11_bagsNeeded_29 (by decide) (fun c29_6 => ?_) (fun c29_6 => ?_)
        · exact absurd c29_6 (by rw [(rfl : nI n = nI n)]; exact nI_ge (by omega) (by omega))
        · refine lv_iload_n hx hb dX11_bagsNeeded_32 rfl (lv_at hl 1 rfl) ?_
          refine lv_aload_n hx hb dX11_bagsNeeded_33 rfl (lv_at hl 3 rfl) ?_
          refine lv_aload_n hx hb dX11_bagsNeeded_34 rfl (lv_at hl 3 rfl) ?_
          refine m_arr C0 hH hM 36 (by decide) fl_X11_120 dX11_bagsNeeded_35 ?_
          refine lv_iload hx hb dX11_bagsNeeded_38 (lv_at hl 0 rfl) ?_
          refine m_ldI C0 hH hM 36 (by decide) rfl (n := 40) rfl (ix := i) (nI_clamp (by omega)) (by first | assumption | exact vp_in_nI (by omega) (by omega)) (v := M 36 i) rfl dX11_bagsNeeded_40 ?_
          have h36 := hrM i (by omega)
          obtain ⟨p, hpe⟩ : ∃ z, z = (M 36 i).toNatClampNeg := ⟨_, rfl⟩
          have hp : p < npN M := by rw [hpe]; exact vp_nat h36
          refine lv_topi (fun x9 ex9 => ?_)
          replace ex9 : x9 = nI p := ex9.trans (by rw [hpe]; exact vp_nI h36 (by omega))
          subst ex9
          refine lv_bipush (v := 40) hx hb dX11_bagsNeeded_41 (by decide) ?_
          refine k_i hH (k_runV (rest := [.int (is)]) C0 hH (cM_isPut l G A _ o ad M hM p 40 hwM (by omega) ⟨hbM.1, by have := hbM.2; omega⟩) mv_X11_isPut ml_X11_231 ci_15 hM.1 rfl ⟨by decide, by decide⟩ hl.1 rfl (Nat.le_of_ble_eq_true rfl) dX11_bagsNeeded_43 (by simp)) (fun r_7 h H locs hp hH => ?_)
          obtain ⟨er_7, hM⟩ := hp
          subst er_7
          refine lv_iand hx hb dX11_bagsNeeded_46 ?_
          refine lv_istore_n (lv' := [(3, .int (is &&& ((fPut M p 40).1))), (4, .int (nI i)), (2, .int (nI n)), (0, .ref (o)), (1, .int (x))]) hx hb dX11_bagsNeeded_47 rfl hl (by decide) rfl (fun ls hl => ?_)
          refine lv_iinc (v := nI (i + 1)) (lv' := [(4, .int (nI (i + 1))), (3, .int (is &&& ((fPut M p 40).1))), (2, .int (nI n)), (0, .ref (o)), (1, .int (x))]) hx hb dX11_bagsNeeded_48 hl (k := 1) rfl (by rw [← nI_1]; rfl) (by decide) rfl (fun ls hl => ?_)
          refine lv_goto (tgt := 26) hx hb dX11_bagsNeeded_51 (by decide) ?_
          exact ih (i + 1) ((fPut M p 40).2) (is &&& ((fPut M p 40).1)) (by omega) (by rw [← hT, hpe]; rfl) (hwM.put p 40) ((hgM.trans (Gr.put M p 40)).mono (by omega)) (fun j hj => by rw [put_key M p 40 (k := 36) (by omega), (Gr.put M p 40).np]; exact hrM j hj) (put_bg hbM (by omega) p 40) _ _ _ hH hM ls (lv_sub hl [0, 1, 2, 3, 4] rfl)
    exact K (n) 0 M3 1 (by omega) (rfl) hwM3 (((grM1.trans grM2).trans grM3).mono (by omega)) hr3 hb3 _ _ _ hH hM ls (lv_sub hl [0, 1, 2, 3, 4] rfl)
  · replace c5_2 := bi_n0.mp c5_2
    refine lv_iconst (v := 0) hx hb dX11_bagsNeeded_8 (by decide) ?_
    have eR : 0 = (fBgN m x).1 := by simp [fBgN, fNoLine, bi, thr, c5_2]
    have eM : (fBgN m x).2 = (up m 45 0 (if (bi (¬ isLn m x)) = 0 then 0 else 1)) := by simp [fBgN, fNoLine, bi, thr, c5_2]
    exact e_I C0 hr hH ⟨eR, by rw [eM]; exact hM⟩ (Nat.le_refl _) (Nat.le_refl _) dX11_bagsNeeded_9
