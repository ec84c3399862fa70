set_option maxHeartbeats 4000000 in
set_option maxRecDepth 100000 in
theorem cM_eventKind (l : Launch) (G : GT) (A : Nat → Prop) (h : AH) (o : Nat) (ad : Nat → Nat) (m : MM) (hM : RM h o ad m) (x ix : Int32) (hw : WFa m) : cmI l G A yX11_eventKind cX11_eventKind 4 (Option.some FieldType.char) 3 67 0 0 [.ref (o), .int (x), .int (ix)] h (fun r h' => r = (fEvK 1 m x ix).1 ∧ RM h' o ad ((fEvK 1 m x ix).2)) := by
  refine cm_of "RoutepostModel" rfl (by decide) (Nat.le_of_ble_eq_true rfl) ?_
  intro pr e s m9 below meth c C0 hr hname hH ls hl
  obtain ⟨hx, hb, hml, hown, hts, hK, hA, -⟩ := id C0
  have hl : lv_has ls 4 [(0, .ref (o)), (1, .int (x)), (2, .int (ix))] := hl
  refine lv_aload_n hx hb dX11_eventKind_0 rfl (lv_at hl 0 rfl) ?_
  refine lv_iload_n hx hb dX11_eventKind_1 rfl (lv_at hl 1 rfl) ?_
  refine lv_iload_n hx hb dX11_eventKind_2 rfl (lv_at hl 2 rfl) ?_
  refine k_i hH (k_runV (rest := []) C0 hH (cM_event l G A _ o ad m hM x ix hw) mv_X11_event ml_X11_259 ci_15 hM.1 rfl ⟨by decide, by decide⟩ hl.1 rfl (Nat.le_of_ble_eq_true rfl) dX11_eventKind_3 (by simp)) (fun r_1 h H locs hp hH => ?_)
  obtain ⟨er_1, hM⟩ := hp
  subst er_1
  refine lv_istore_n (lv' := [(3, .int ((fEv m x ix).1)), (0, .ref (o)), (1, .int (x)), (2, .int (ix))]) hx hb dX11_eventKind_6 rfl hl (by decide) rfl (fun ls hl => ?_)
  refine lv_iload_n hx hb dX11_eventKind_7 rfl (lv_at hl 0 rfl) ?_
  refine lv_if_ge (tgt := 15) hx hb dX11_eventKind_8 (by decide) (fun c8_2 => ?_) (fun c8_2 => ?_)
  · have hv9 : vp_in ((fEv m x ix).1 + 1) (LLm (fEv m x ix).2) := evk_in hw (Int32.not_lt.mpr c8_2) (k := 1) (by decide)
    have hc9 := evk_ch hw (Int32.not_lt.mpr c8_2)
    refine lv_aload_n hx hb dX11_eventKind_15 rfl (lv_at hl 1 rfl) ?_
    refine m_arr C0 hH hM 31 (by decide) fl_X11_105 dX11_eventKind_16 ?_
    refine lv_iload_n hx hb dX11_eventKind_19 rfl (lv_at hl 0 rfl) ?_
    refine lv_iconst (v := 1) hx hb dX11_eventKind_20 (by decide) ?_
    refine lv_iadd hx hb dX11_eventKind_21 ?_
    refine m_ldI C0 hH hM 31 (by decide) rfl (n := LLm ((fEv m x ix).2)) rfl (ix := (((fEv m x ix).1) + 1).toNatClampNeg) rfl (by first | assumption | exact vp_in_nI (by omega) (by omega)) (v := ((fEv m x ix).2) 31 ((((fEv m x ix).1) + 1).toNatClampNeg)) rfl dX11_eventKind_22 ?_
    refine lv_i2c (v := ((fEv m x ix).2) 31 ((((fEv m x ix).1) + 1).toNatClampNeg)) hx hb dX11_eventKind_23 (char_cut hc9) ?_
    have eR : ((fEv m x ix).2) 31 ((((fEv m x ix).1) + 1).toNatClampNeg) = (fEvK 1 m x ix).1 := by simp [fEvK, c8_2, Int32.not_lt.mpr c8_2]
    have eM : (fEvK 1 m x ix).2 = ((fEv m x ix).2) := by simp [fEvK, c8_2, Int32.not_lt.mpr c8_2]
    exact e_Z C0 hr hc9 hH ⟨eR, by rw [eM]; exact hM⟩ (Nat.le_refl _) (Nat.le_refl _) dX11_eventKind_24
  · refine lv_iconst (v := 0) hx hb dX11_eventKind_11 (by decide) ?_
    refine lv_goto (tgt := 24) hx hb dX11_eventKind_12 (by decide) ?_
    have eR : 0 = (fEvK 1 m x ix).1 := by simp [fEvK, c8_2, Int32.not_le.mp c8_2]
    have eM : (fEvK 1 m x ix).2 = ((fEv m x ix).2) := by simp [fEvK, c8_2, Int32.not_le.mp c8_2]
    exact e_Z C0 hr (by decide) hH ⟨eR, by rw [eM]; exact hM⟩ (Nat.le_refl _) (Nat.le_refl _) dX11_eventKind_24
set_option maxHeartbeats 4000000 in
set_option maxRecDepth 100000 in
theorem cM_eventMinute (l : Launch) (G : GT) (A : Nat → Prop) (h : AH) (o : Nat) (ad : Nat → Nat) (m : MM) (hM : RM h o ad m) (x ix : Int32) (hw : WFa m) : cmI l G A yX11_eventMinute cX11_eventMinute 4 (Option.some FieldType.int) 3 67 0 0 [.ref (o), .int (x), .int (ix)] h (fun r h' => r = (fEvK 2 m x ix).1 ∧ RM h' o ad ((fEvK 2 m x ix).2)) := by
  refine cm_of "RoutepostModel" rfl (by decide) (Nat.le_of_ble_eq_true rfl) ?_
  intro pr e s m9 below meth c C0 hr hname hH ls hl
  obtain ⟨hx, hb, hml, hown, hts, hK, hA, -⟩ := id C0
  have hl : lv_has ls 4 [(0, .ref (o)), (1, .int (x)), (2, .int (ix))] := hl
  refine lv_aload_n hx hb dX11_eventMinute_0 rfl (lv_at hl 0 rfl) ?_
  refine lv_iload_n hx hb dX11_eventMinute_1 rfl (lv_at hl 1 rfl) ?_
  refine lv_iload_n hx hb dX11_eventMinute_2 rfl (lv_at hl 2 rfl) ?_
  refine k_i hH (k_runV (rest := []) C0 hH (cM_event l G A _ o ad m hM x ix hw) mv_X11_event ml_X11_259 ci_15 hM.1 rfl ⟨by decide, by decide⟩ hl.1 rfl (Nat.le_of_ble_eq_true rfl) dX11_eventMinute_3 (by simp)) (fun r_1 h H locs hp hH => ?_)
  obtain ⟨er_1, hM⟩ := hp
  subst er_1
  refine lv_istore_n (lv' := [(3, .int ((fEv m x ix).1)), (0, .ref (o)), (1, .int (x)), (2, .int (ix))]) hx hb dX11_eventMinute_6 rfl hl (by decide) rfl (fun ls hl => ?_)
  refine lv_iload_n hx hb dX11_eventMinute_7 rfl (lv_at hl 0 rfl) ?_
  refine lv_if_ge (tgt := 15) hx hb dX11_eventMinute_8 (by decide) (fun c8_2 => ?_) (fun c8_2 => ?_)
  · have hv9 : vp_in ((fEv m x ix).1 + 2) (LLm (fEv m x ix).2) := evk_in hw (Int32.not_lt.mpr c8_2) (k := 2) (by decide)
    have hc9 := evk_ch hw (Int32.not_lt.mpr c8_2)
    refine lv_aload_n hx hb dX11_eventMinute_15 rfl (lv_at hl 1 rfl) ?_
    refine m_arr C0 hH hM 31 (by decide) fl_X11_105 dX11_eventMinute_16 ?_
    refine lv_iload_n hx hb dX11_eventMinute_19 rfl (lv_at hl 0 rfl) ?_
    refine lv_iconst (v := 2) hx hb dX11_eventMinute_20 (by decide) ?_
    refine lv_iadd hx hb dX11_eventMinute_21 ?_
    refine m_ldI C0 hH hM 31 (by decide) rfl (n := LLm ((fEv m x ix).2)) rfl (ix := (((fEv m x ix).1) + 2).toNatClampNeg) rfl (by first | assumption | exact vp_in_nI (by omega) (by omega)) (v := ((fEv m x ix).2) 31 ((((fEv m x ix).1) + 2).toNatClampNeg)) rfl dX11_eventMinute_22 ?_
    have eR : ((fEv m x ix).2) 31 ((((fEv m x ix).1) + 2).toNatClampNeg) = (fEvK 2 m x ix).1 := by simp [fEvK, c8_2, Int32.not_lt.mpr c8_2]
    have eM : (fEvK 2 m x ix).2 = ((fEv m x ix).2) := by simp [fEvK, c8_2, Int32.not_lt.mpr c8_2]
    exact e_I C0 hr hH ⟨eR, by rw [eM]; exact hM⟩ (Nat.le_refl _) (Nat.le_refl _) dX11_eventMinute_23
  · refine lv_iconst (v := 0) hx hb dX11_eventMinute_11 (by decide) ?_
    refine lv_goto (tgt := 23) hx hb dX11_eventMinute_12 (by decide) ?_
    have eR : 0 = (fEvK 2 m x ix).1 := by simp [fEvK, c8_2, Int32.not_le.mp c8_2]
    have eM : (fEvK 2 m x ix).2 = ((fEv m x ix).2) := by simp [fEvK, c8_2, Int32.not_le.mp c8_2]
    exact e_I C0 hr hH ⟨eR, by rw [eM]; exact hM⟩ (Nat.le_refl _) (Nat.le_refl _) dX11_eventMinute_23
set_option maxHeartbeats 4000000 in
set_option maxRecDepth 100000 in
theorem cM_eventHub (l : Launch) (G : GT) (A : Nat → Prop) (h : AH) (o : Nat) (ad : Nat → Nat) (m : MM) (hM : RM h o ad m) (x ix : Int32) (hw : WFa m) : cmI l G A yX11_eventHub cX11_eventHub 4 (Option.some FieldType.int) 3 67 0 0 [.ref (o), .int (x), .int (ix)] h (fun r h' => r = (fEvK 3 m x ix).1 ∧ RM h' o ad ((fEvK 3 m x ix).2)) := by
  refine cm_of "RoutepostModel" rfl (by decide) (Nat.le_of_ble_eq_true rfl) ?_
  intro pr e s m9 below meth c C0 hr hname hH ls hl
  obtain ⟨hx, hb, hml, hown, hts, hK, hA, -⟩ := id C0
  have hl : lv_has ls 4 [(0, .ref (o)), (1, .int (x)), (2, .int (ix))] := hl
  refine lv_aload_n hx hb dX11_eventHub_0 rfl (lv_at hl 0 rfl) ?_
  refine lv_iload_n hx hb dX11_eventHub_1 rfl (lv_at hl 1 rfl) ?_
  refine lv_iload_n hx hb dX11_eventHub_2 rfl (lv_at hl 2 rfl) ?_
  refine k_i hH (k_runV (rest := []) C0 hH (cM_event l G A _ o ad m hM x ix hw) mv_X11_event ml_X11_259 ci_15 hM.1 rfl ⟨by decide, by decide⟩ hl.1 rfl (Nat.le_of_ble_eq_true rfl) dX11_eventHub_3 (by simp)) (fun r_1 h H locs hp hH => ?_)
  obtain ⟨er_1, hM⟩ := hp
  subst er_1
  refine lv_istore_n (lv' := [(3, .int ((fEv m x ix).1)), (0, .ref (o)), (1, .int (x)), (2, .int (ix))]) hx hb dX11_eventHub_6 rfl hl (by decide) rfl (fun ls hl => ?_)
  refine lv_iload_n hx hb dX11_eventHub_7 rfl (lv_at hl 0 rfl) ?_
  refine lv_if_ge (tgt := 15) hx hb dX11_eventHub_8 (by decide) (fun c8_2 => ?_) (fun c8_2 => ?_)
  · have hv9 : vp_in ((fEv m x ix).1 + 3) (LLm (fEv m x ix).2) := evk_in hw (Int32.not_lt.mpr c8_2) (k := 3) (by decide)
    have hc9 := evk_ch hw (Int32.not_lt.mpr c8_2)
    refine lv_aload_n hx hb dX11_eventHub_15 rfl (lv_at hl 1 rfl) ?_
    refine m_arr C0 hH hM 31 (by decide) fl_X11_105 dX11_eventHub_16 ?_
    refine lv_iload_n hx hb dX11_eventHub_19 rfl (lv_at hl 0 rfl) ?_
    refine lv_iconst (v := 3) hx hb dX11_eventHub_20 (by decide) ?_
    refine lv_iadd hx hb dX11_eventHub_21 ?_
    refine m_ldI C0 hH hM 31 (by decide) rfl (n := LLm ((fEv m x ix).2)) rfl (ix := (((fEv m x ix).1) + 3).toNatClampNeg) rfl (by first | assumption | exact vp_in_nI (by omega) (by omega)) (v := ((fEv m x ix).2) 31 ((((fEv m x ix).1) + 3).toNatClampNeg)) rfl dX11_eventHub_22 ?_
    have eR : ((fEv m x ix).2) 31 ((((fEv m x ix).1) + 3).toNatClampNeg) = (fEvK 3 m x ix).1 := by simp [fEvK, c8_2, Int32.not_lt.mpr c8_2]
    have eM : (fEvK 3 m x ix).2 = ((fEv m x ix).2) := by simp [fEvK, c8_2, Int32.not_lt.mpr c8_2]
    exact e_I C0 hr hH ⟨eR, by rw [eM]; exact hM⟩ (Nat.le_refl _) (Nat.le_refl _) dX11_eventHub_23
  · refine lv_iconst (v := 0) hx hb dX11_eventHub_11 (by decide) ?_
    refine lv_goto (tgt := 23) hx hb dX11_eventHub_12 (by decide) ?_
    have eR : 0 = (fEvK 3 m x ix).1 := by simp [fEvK, c8_2, Int32.not_le.mp c8_2]
    have eM : (fEvK 3 m x ix).2 = ((fEv m x ix).2) := by simp [fEvK, c8_2, Int32.not_le.mp c8_2]
    exact e_I C0 hr hH ⟨eR, by rw [eM]; exact hM⟩ (Nat.le_refl _) (Nat.le_refl _) dX11_eventHub_23
set_option maxHeartbeats 4000000 in
set_option maxRecDepth 100000 in
theorem cM_bagsAtLeast (l : Launch) (G : GT) (A : Nat → Prop) (h : AH) (o : Nat) (ad : Nat → Nat) (m : MM) (hM : RM h o ad m) (x : Int32) (hw : WFa m) : cmI l G A yX11_bagsAtLeast cX11_bagsAtLeast 6 (Option.some FieldType.int) 2 43 0 0 [.ref (o), .int (x)] h (fun r h' => r = (fBgA m x).1 ∧ RM h' o ad ((fBgA m x).2)) := by
  refine cm_of "RoutepostModel" rfl (by decide) (Nat.le_of_ble_eq_true rfl) ?_
  intro pr e s m9 below meth c C0 hr hname hH ls hl
  obtain ⟨hx, hb, hml, hown, hts, hK, hA, -⟩ := id C0
  have hl : lv_has ls 6 [(0, .ref (o)), (1, .int (x))] := hl
  have hnp := hw.np
  have hnl := hw.nl
  have hnh := hw.nh
  refine lv_aload_n hx hb dX11_bagsAtLeast_0 rfl (lv_at hl 0 rfl) ?_
  refine lv_iload_n hx hb dX11_bagsAtLeast_1 rfl (lv_at hl 1 rfl) ?_
  refine k_i hH (k_runV (rest := []) C0 hH (cM_isNoLine l G A _ o ad m hM x) mv_X11_isNoLine ml_X11_198 ci_15 hM.1 rfl ⟨by decide, by decide⟩ hl.1 rfl (Nat.le_of_ble_eq_true rfl) dX11_bagsAtLeast_2 (by simp)) (fun r_1 h H locs hp hH => ?_)
  obtain ⟨er_1, hM⟩ := hp
  subst er_1
  refine lv_if_eq (tgt := 10) hx hb dX11_bagsAtLeast_5 (by decide) (fun c5_2 => ?_) (fun c5_2 => ?_)
  · replace c5_2 := bi_0.mp c5_2
    replace c5_2 := Classical.not_not.mp c5_2
    have hq1 : (fNoLine m x).1 = 0 := by simp [fNoLine, bi, c5_2]
    obtain ⟨M1, hM1⟩ : ∃ z, z = (fNoLine m x).2 := ⟨_, rfl⟩
    replace hM : RM h o ad M1 := by rw [hM1]; exact hM
    have hwM1 : WFa M1 := by rw [hM1]; exact hw.thr _ _
    have hB := hwM1.nh.1
    have hB2 := hwM1.np.1
    have hnp1 := hwM1.np
    have hnh1 := hwM1.nh
    refine lv_iconst (v := 0) hx hb dX11_bagsAtLeast_10 (by decide) ?_
    refine lv_istore_n (lv' := [(2, .int (0)), (0, .ref (o)), (1, .int (x))]) hx hb dX11_bagsAtLeast_11 rfl hl (by decide) rfl (fun ls hl => ?_)
    refine lv_iconst (v := 0) hx hb dX11_bagsAtLeast_12 (by decide) ?_
    refine lv_istore_n (lv' := [(3, .int (0)), (2, .int (0)), (0, .ref (o)), (1, .int (x))]) hx hb dX11_bagsAtLeast_13 rfl hl (by decide) rfl (fun ls hl => ?_)
    have K : ∀ (k i : Nat) (sv : Int32), i + k = nhN M1 → bgA M1 x k i sv = bgA M1 x (nhN M1) 0 0 → ∀ (ls : Array Slot), lv_has ls 6 [(3, .int (nI i)), (2, .int (sv)), (0, .ref (o)), (1, .int (x))] → W pr l e (rmm 2 43 0 0) s m9 ([.ref (o), .int (x)] : List Value).toArray below meth c H locs 0 0 (QI below G A (fun r h' => r = (fBgA m x).1 ∧ RM h' o ad ((fBgA m x).2)) ([.ref (o), .int (x)] : List Value).toArray s 0 0) (F0 m9 14 ls []) := by
      intro k
      induction k with
      | zero =>
        intro i sv hik hT  ls hl
        refine lv_iload_n hx hb dX11_bagsAtLeast_14 rfl (lv_at hl 0 rfl) ?_
        refine lv_aload_n hx hb dX11_bagsAtLeast_15 rfl (lv_at hl 2 rfl) ?_
        refine m_int C0 hH hM 37 (by decide) (by decide) fl_X11_134 (v := M1 37 0) rfl dX11_bagsAtLeast_16 ?_
        refine lv_icmp_ge (tgt := 112) hx hb dX11_bagsAtLeast_19 (by decide) (fun c19_3 => ?_) (fun c19_3 => ?_)
        · refine lv_iload_n hx hb dX11_bagsAtLeast_112 rfl (lv_at hl 1 rfl) ?_
          have eR : sv = (fBgA m x).1 := by rw [show sv = _ from hT]; simp [fBgA, hq1, ← hM1]
          have eM : (fBgA m x).2 = M1 := by simp [fBgA, hM1]
          exact e_I C0 hr hH ⟨eR, by rw [eM]; exact hM⟩ (Nat.le_refl _) (Nat.le_refl _) dX11_bagsAtLeast_113
        · exact absurd (by rw [hB]; exact nI_le (by omega) (by omega)) c19_3
      | succ k ih =>
        intro i sv hik hT  ls hl
        refine lv_iload_n hx hb dX11_bagsAtLeast_14 rfl (lv_at hl 0 rfl) ?_
        refine lv_aload_n hx hb dX11_bagsAtLeast_15 rfl (lv_at hl 2 rfl) ?_
        refine m_int C0 hH hM 37 (by decide) (by decide) fl_X11_134 (v := M1 37 0) rfl dX11_bagsAtLeast_16 ?_
        refine lv_icmp_ge (tgt := 112) hx hb dX11_bagsAtLeast_19 (by decide) (fun c19_4 => ?_) (fun c19_4 => ?_)
        · exact absurd c19_4 (by rw [hB]; exact nI_ge (by omega) (by omega))
        · refine lv_iconst (v := 0) hx hb dX11_bagsAtLeast_22 (by decide) ?_
          refine lv_istore (lv' := [(4, .int (0)), (3, .int (nI i)), (2, .int (sv)), (0, .ref (o)), (1, .int (x))]) hx hb dX11_bagsAtLeast_23 hl (by decide) rfl (fun ls hl => ?_)
          refine lv_iconst (v := 0) hx hb dX11_bagsAtLeast_25 (by decide) ?_
          refine lv_istore (lv' := [(5, .int (0)), (4, .int (0)), (3, .int (nI i)), (2, .int (sv)), (0, .ref (o)), (1, .int (x))]) hx hb dX11_bagsAtLeast_26 hl (by decide) rfl (fun ls hl => ?_)
          have K2 : ∀ (k2 i2 : Nat) (v : Int32), i2 + k2 = npN M1 → volL M1 x (nI i) k2 i2 v = volL M1 x (nI i) (npN M1) 0 0 → ∀ (ls : Array Slot), lv_has ls 6 [(5, .int (nI i2)), (4, .int (v)), (3, .int (nI i)), (2, .int (sv)), (0, .ref (o)), (1, .int (x))] → W pr l e (rmm 2 43 0 0) s m9 ([.ref (o), .int (x)] : List Value).toArray below meth c H locs 0 0 (QI below G A (fun r h' => r = (fBgA m x).1 ∧ RM h' o ad ((fBgA m x).2)) ([.ref (o), .int (x)] : List Value).toArray s 0 0) (F0 m9 28 ls []) := by
            intro k2
            induction k2 with
            | zero =>
              intro i2 v hik2 hT2  ls hl
              refine lv_iload hx hb dX11_bagsAtLeast_28 (lv_at hl 0 rfl) ?_
              refine lv_aload_n hx hb dX11_bagsAtLeast_30 rfl (lv_at hl 4 rfl) ?_
              refine m_int C0 hH hM 39 (by decide) (by decide) fl_X11_144 (v := M1 39 0) rfl dX11_bagsAtLeast_31 ?_
              refine lv_icmp_ge (tgt := 93) hx hb dX11_bagsAtLeast_34 (by decide) (fun c34_5 => ?_) (fun c34_5 => ?_)
              · have hT2 : v = volL M1 x (nI i) (npN M1) 0 0 := hT2
                subst hT2
                refine lv_iload_n hx hb dX11_bagsAtLeast_93 rfl (lv_at hl 3 rfl) ?_
                refine lv_iload hx hb dX11_bagsAtLeast_94 (lv_at hl 1 rfl) ?_
                refine lv_bipush (v := 12) hx hb dX11_bagsAtLeast_96 (by decide) ?_
                refine lv_iadd hx hb dX11_bagsAtLeast_98 ?_
                refine lv_iconst (v := 1) hx hb dX11_bagsAtLeast_99 (by decide) ?_
                refine lv_isub hx hb dX11_bagsAtLeast_100 ?_
                refine lv_bipush (v := 12) hx hb dX11_bagsAtLeast_101 (by decide) ?_
                refine lv_idiv hx hb dX11_bagsAtLeast_103 (by decide) ?_
                refine lv_iadd hx hb dX11_bagsAtLeast_104 ?_
                refine lv_istore_n (lv' := [(2, .int (sv + ((((volL M1 x (nI i) (npN M1) 0 0) + 12) - 1) / 12))), (5, .int (nI i2)), (4, .int ((volL M1 x (nI i) (npN M1) 0 0))), (3, .int (nI i)), (0, .ref (o)), (1, .int (x))]) hx hb dX11_bagsAtLeast_105 rfl hl (by decide) rfl (fun ls hl => ?_)
                refine lv_iinc (v := nI (i + 1)) (lv' := [(3, .int (nI (i + 1))), (2, .int (sv + ((((volL M1 x (nI i) (npN M1) 0 0) + 12) - 1) / 12))), (5, .int (nI i2)), (4, .int ((volL M1 x (nI i) (npN M1) 0 0))), (0, .ref (o)), (1, .int (x))]) hx hb dX11_bagsAtLeast_106 hl (k := 3) rfl (by rw [← nI_1]; rfl) (by decide) rfl (fun ls hl => ?_)
                refine lv_goto (tgt := 14) hx hb dX11_bagsAtLeast_109 (by decide) ?_
                exact ih (i + 1) (sv + ((((volL M1 x (nI i) (npN M1) 0 0) + 12) - 1) / 12)) (by omega) (by rw [← hT]; rfl)  ls (lv_sub hl [0, 1, 4, 5] rfl)
              · exact absurd (by rw [hB2]; exact nI_le (by omega) (by omega)) c34_5
            | succ k2 ih2 =>
              intro i2 v hik2 hT2  ls hl
              refine lv_iload hx hb dX11_bagsAtLeast_28 (lv_at hl 0 rfl) ?_
              refine lv_aload_n hx hb dX11_bagsAtLeast_30 rfl (lv_at hl 4 rfl) ?_
              refine m_int C0 hH hM 39 (by decide) (by decide) fl_X11_144 (v := M1 39 0) rfl dX11_bagsAtLeast_31 ?_
              refine lv_icmp_ge (tgt := 93) hx hb dX11_bagsAtLeast_34 (by decide) (fun c34_6 => ?_) (fun c34_6 => ?_)
              · exact absurd c34_6 (by rw [hB2]; exact nI_ge (by omega) (by omega))
              · refine lv_iload hx hb dX11_bagsAtLeast_37 (lv_at hl 1 rfl) ?_
                refine lv_aload_n hx hb dX11_bagsAtLeast_39 rfl (lv_at hl 4 rfl) ?_
                refine m_arr C0 hH hM 28 (by decide) fl_X11_95 dX11_bagsAtLeast_40 ?_
                refine lv_iload hx hb dX11_bagsAtLeast_43 (lv_at hl 0 rfl) ?_
                refine m_ldC C0 hH hM 28 (by decide) rfl (n := 40) rfl (ix := i2) (nI_clamp (by omega)) (by first | assumption | exact vp_in_nI (by omega) (by omega)) (v := M1 28 i2) rfl dX11_bagsAtLeast_45 ?_
                refine lv_bipush (v := 115) hx hb dX11_bagsAtLeast_46 (by decide) ?_
                refine lv_icmp_ne (tgt := 83) hx hb dX11_bagsAtLeast_48 (by decide) (fun c48_7 => ?_) (fun c48_7 => ?_)
                · refine lv_iconst (v := 0) hx hb dX11_bagsAtLeast_83 (by decide) ?_
                  refine lv_iadd hx hb dX11_bagsAtLeast_84 ?_
                  refine lv_istore (lv' := [(4, .int (v + 0)), (5, .int (nI i2)), (3, .int (nI i)), (2, .int (sv)), (0, .ref (o)), (1, .int (x))]) hx hb dX11_bagsAtLeast_85 hl (by decide) rfl (fun ls hl => ?_)
                  refine lv_iinc (v := nI (i2 + 1)) (lv' := [(5, .int (nI (i2 + 1))), (4, .int (v + 0)), (3, .int (nI i)), (2, .int (sv)), (0, .ref (o)), (1, .int (x))]) hx hb dX11_bagsAtLeast_87 hl (k := 1) rfl (by rw [← nI_1]; rfl) (by decide) rfl (fun ls hl => ?_)
                  refine lv_goto (tgt := 28) hx hb dX11_bagsAtLeast_90 (by decide) ?_
                  exact ih2 (i2 + 1) (v + 0) (by omega) (by rw [← hT2]; simp [volL, c34_6, Int32.not_le.mp c34_6, eq_false c48_7])  ls (lv_sub hl [0, 1, 2, 3, 4, 5] rfl)
                · refine lv_aload_n hx hb dX11_bagsAtLeast_51 rfl (lv_at hl 4 rfl) ?_
                  refine m_arr C0 hH hM 19 (by decide) fl_X11_68 dX11_bagsAtLeast_52 ?_
                  refine lv_iload hx hb dX11_bagsAtLeast_55 (lv_at hl 0 rfl) ?_
                  refine m_ldI C0 hH hM 19 (by decide) rfl (n := 40) rfl (ix := i2) (nI_clamp (by omega)) (by first | assumption | exact vp_in_nI (by omega) (by omega)) (v := M1 19 i2) rfl dX11_bagsAtLeast_57 ?_
                  refine lv_iload_n hx hb dX11_bagsAtLeast_58 rfl (lv_at hl 5 rfl) ?_
                  refine lv_icmp_ne (tgt := 83) hx hb dX11_bagsAtLeast_59 (by decide) (fun c59_8 => ?_) (fun c59_8 => ?_)
                  · refine lv_iconst (v := 0) hx hb dX11_bagsAtLeast_83 (by decide) ?_
                    refine lv_iadd hx hb dX11_bagsAtLeast_84 ?_
                    refine lv_istore (lv' := [(4, .int (v + 0)), (5, .int (nI i2)), (3, .int (nI i)), (2, .int (sv)), (0, .ref (o)), (1, .int (x))]) hx hb dX11_bagsAtLeast_85 hl (by decide) rfl (fun ls hl => ?_)
                    refine lv_iinc (v := nI (i2 + 1)) (lv' := [(5, .int (nI (i2 + 1))), (4, .int (v + 0)), (3, .int (nI i)), (2, .int (sv)), (0, .ref (o)), (1, .int (x))]) hx hb dX11_bagsAtLeast_87 hl (k := 1) rfl (by rw [← nI_1]; rfl) (by decide) rfl (fun ls hl => ?_)
                    refine lv_goto (tgt := 28) hx hb dX11_bagsAtLeast_90 (by decide) ?_
                    exact ih2 (i2 + 1) (v + 0) (by omega) (by rw [← hT2]; simp [volL, c34_6, Int32.not_le.mp c34_6, eq_true c48_7, eq_false c59_8])  ls (lv_sub hl [0, 1, 2, 3, 4, 5] rfl)
                  · refine lv_aload_n hx hb dX11_bagsAtLeast_62 rfl (lv_at hl 4 rfl) ?_
                    refine m_arr C0 hH hM 14 (by decide) fl_X11_53 dX11_bagsAtLeast_63 ?_
                    refine lv_iload hx hb dX11_bagsAtLeast_66 (lv_at hl 0 rfl) ?_
                    refine m_ldI C0 hH hM 14 (by decide) rfl (n := 40) rfl (ix := i2) (nI_clamp (by omega)) (by first | assumption | exact vp_in_nI (by omega) (by omega)) (v := M1 14 i2) rfl dX11_bagsAtLeast_68 ?_
                    refine lv_iload_n hx hb dX11_bagsAtLeast_69 rfl (lv_at hl 2 rfl) ?_
                    refine lv_icmp_ne (tgt := 83) hx hb dX11_bagsAtLeast_70 (by decide) (fun c70_9 => ?_) (fun c70_9 => ?_)
                    · refine lv_iconst (v := 0) hx hb dX11_bagsAtLeast_83 (by decide) ?_
                      refine lv_iadd hx hb dX11_bagsAtLeast_84 ?_
                      refine lv_istore (lv' := [(4, .int (v + 0)), (5, .int (nI i2)), (3, .int (nI i)), (2, .int (sv)), (0, .ref (o)), (1, .int (x))]) hx hb dX11_bagsAtLeast_85 hl (by decide) rfl (fun ls hl => ?_)
                      refine lv_iinc (v := nI (i2 + 1)) (lv' := [(5, .int (nI (i2 + 1))), (4, .int (v + 0)), (3, .int (nI i)), (2, .int (sv)), (0, .ref (o)), (1, .int (x))]) hx hb dX11_bagsAtLeast_87 hl (k := 1) rfl (by rw [← nI_1]; rfl) (by decide) rfl (fun ls hl => ?_)
                      refine lv_goto (tgt := 28) hx hb dX11_bagsAtLeast_90 (by decide) ?_
                      exact ih2 (i2 + 1) (v + 0) (by omega) (by rw [← hT2]; simp [volL, c34_6, Int32.not_le.mp c34_6, eq_true c48_7, eq_true c59_8, eq_false c70_9])  ls (lv_sub hl [0, 1, 2, 3, 4, 5] rfl)
                    · refine lv_aload_n hx hb dX11_bagsAtLeast_73 rfl (lv_at hl 4 rfl) ?_
                      refine m_arr C0 hH hM 11 (by decide) fl_X11_44 dX11_bagsAtLeast_74 ?_
                      refine lv_iload hx hb dX11_bagsAtLeast_77 (lv_at hl 0 rfl) ?_
                      refine m_ldI C0 hH hM 11 (by decide) rfl (n := 40) rfl (ix := i2) (nI_clamp (by omega)) (by first | assumption | exact vp_in_nI (by omega) (by omega)) (v := M1 11 i2) rfl dX11_bagsAtLeast_79 ?_
                      refine lv_goto (tgt := 84) hx hb dX11_bagsAtLeast_80 (by decide) ?_
                      refine lv_iadd hx hb dX11_bagsAtLeast_84 ?_
                      refine lv_istore (lv' := [(4, .int (v + (M1 11 i2))), (5, .int (nI i2)), (3, .int (nI i)), (2, .int (sv)), (0, .ref (o)), (1, .int (x))]) hx hb dX11_bagsAtLeast_85 hl (by decide) rfl (fun ls hl => ?_)
                      refine lv_iinc (v := nI (i2 + 1)) (lv' := [(5, .int (nI (i2 + 1))), (4, .int (v + (M1 11 i2))), (3, .int (nI i)), (2, .int (sv)), (0, .ref (o)), (1, .int (x))]) hx hb dX11_bagsAtLeast_87 hl (k := 1) rfl (by rw [← nI_1]; rfl) (by decide) rfl (fun ls hl => ?_)
                      refine lv_goto (tgt := 28) hx hb dX11_bagsAtLeast_90 (by decide) ?_
                      exact ih2 (i2 + 1) (v + (M1 11 i2)) (by omega) (by rw [← hT2]; simp [volL, c34_6, Int32.not_le.mp c34_6, eq_true c48_7, eq_true c59_8, eq_true c70_9])  ls (lv_sub hl [0, 1, 2, 3, 4, 5] rfl)
          exact K2 (npN M1) 0 0 (by omega) (rfl)  ls (lv_sub hl [0, 1, 2, 3, 4, 5] rfl)
    exact K (nhN M1) 0 0 (by omega) (rfl)  ls (lv_sub hl [0, 1, 2, 3] rfl)
  · replace c5_2 := bi_n0.mp c5_2
    refine lv_iconst (v := 0) hx hb dX11_bagsAtLeast_8 (by decide) ?_
    have eR : 0 = (fBgA m x).1 := by simp [fBgA, bi, thr, fNone, fNoLine, c5_2]
    have eM : (fBgA m x).2 = (up m 45 0 (if (bi (¬ isLn m x)) = 0 then 0 else 1)) := by simp [fBgA, bi, thr, fNone, fNoLine, c5_2]
    exact e_I C0 hr hH ⟨eR, by rw [eM]; exact hM⟩ (Nat.le_refl _) (Nat.le_refl _) dX11_bagsAtLeast_9
set_option maxHeartbeats 4000000 in
set_option maxRecDepth 100000 in
theorem cM_hubOf (l : Launch) (G : GT) (A : Nat → Prop) (h : AH) (o : Nat) (ad : Nat → Nat) (m : MM) (hM : RM h o ad m) (x : Int32) (hw : WFa m) : cmI l G A yX11_hubOf cX11_hubOf 2 (Option.some FieldType.int) 3 66 0 0 [.ref (o), .int (x)] h (fun r h' => r = (fHubOf m x).1 ∧ RM h' o ad ((fHubOf m x).2)) := by
  refine cm_of "RoutepostModel" rfl (by decide) (Nat.le_of_ble_eq_true rfl) ?_
  intro pr e s m9 below meth c C0 hr hname hH ls hl
  obtain ⟨hx, hb, hml, hown, hts, hK, hA, -⟩ := id C0
  have hl : lv_has ls 2 [(0, .ref (o)), (1, .int (x))] := hl
  refine lv_aload_n hx hb dX11_hubOf_0 rfl (lv_at hl 0 rfl) ?_
  refine lv_iload_n hx hb dX11_hubOf_1 rfl (lv_at hl 1 rfl) ?_
  refine k_i hH (k_runS (rest := [.ref (o)]) C0 hH (cM_isAddress l G A _ x) mv_X11_isAddress ml_X11_204 rfl ⟨by decide, by decide⟩ hl.1 rfl (Nat.le_of_ble_eq_true rfl) dX11_hubOf_2 (by simp)) (fun r_1 h1 H locs hp hH => ?_)
  obtain ⟨er_1, eh⟩ := hp
  rw [eh] at hH
  clear eh
  subst er_1
  refine lv_if_ne (tgt := 12) hx hb dX11_hubOf_5 (by decide) (fun c5_2 => ?_) (fun c5_2 => ?_)
  · refine lv_iconst (v := 0) hx hb dX11_hubOf_12 (by decide) ?_
    refine lv_iconst (v := 1) hx hb dX11_hubOf_13 (by decide) ?_
    refine k_i hH (k_runV (rest := []) C0 hH (cM_isThrown l G A _ o ad m hM 0 1 rfl) mv_X11_isThrown ml_X11_140 ci_15 hM.1 rfl ⟨by decide, by decide⟩ hl.1 rfl (Nat.le_of_ble_eq_true rfl) dX11_hubOf_14 (by simp)) (fun r_3 h H locs hp hH => ?_)
    obtain ⟨er_3, hM⟩ := hp
    subst er_3
    refine lv_if_eq (tgt := 24) hx hb dX11_hubOf_17 (by decide) (fun c17_4 => ?_) (fun c17_4 => ?_)
    · refine lv_aload_n hx hb dX11_hubOf_24 rfl (lv_at hl 0 rfl) ?_
      refine lv_iload_n hx hb dX11_hubOf_25 rfl (lv_at hl 1 rfl) ?_
      refine k_i hH (k_runV (rest := []) C0 hH (cM_found l G A _ o ad (up m 45 0 (if 0 = 0 then 0 else 1)) hM x (WFa.upx hw (by unfold kWF; omega)).nh) mv_X11_found ml_X11_207 ci_15 hM.1 rfl ⟨by decide, by decide⟩ hl.1 rfl (Nat.le_of_ble_eq_true rfl) dX11_hubOf_26 (by simp)) (fun r_5 h1 H locs hp hH => ?_)
      obtain ⟨er_5, eh⟩ := hp
      rw [eh] at hH
      clear eh
      subst er_5
      have eR : found (up m 45 0 (if 0 = 0 then 0 else 1)) x = (fHubOf m x).1 := by simp [fHubOf, bi, thr, eq_false c5_2]
      have eM : (fHubOf m x).2 = (up m 45 0 (if 0 = 0 then 0 else 1)) := by simp [fHubOf, bi, thr, eq_false c5_2]
      exact e_I C0 hr hH ⟨eR, by rw [eM]; exact hM⟩ (Nat.le_refl _) (Nat.le_refl _) dX11_hubOf_29
    · exact absurd (by decide) c17_4
  · refine lv_iconst (v := 1) hx hb dX11_hubOf_8 (by decide) ?_
    refine lv_goto (tgt := 13) hx hb dX11_hubOf_9 (by decide) ?_
    refine lv_iconst (v := 1) hx hb dX11_hubOf_13 (by decide) ?_
    refine k_i hH (k_runV (rest := []) C0 hH (cM_isThrown l G A _ o ad m hM 1 1 rfl) mv_X11_isThrown ml_X11_140 ci_15 hM.1 rfl ⟨by decide, by decide⟩ hl.1 rfl (Nat.le_of_ble_eq_true rfl) dX11_hubOf_14 (by simp)) (fun r_6 h H locs hp hH => ?_)
    obtain ⟨er_6, hM⟩ := hp
    subst er_6
    refine lv_if_eq (tgt := 24) hx hb dX11_hubOf_17 (by decide) (fun c17_7 => ?_) (fun c17_7 => ?_)
    · exact absurd c17_7 (by decide)
    · refine lv_iconst (v := 0) hx hb dX11_hubOf_20 (by decide) ?_
      refine lv_goto (tgt := 29) hx hb dX11_hubOf_21 (by decide) ?_
      have eR : 0 = (fHubOf m x).1 := by simp [fHubOf, bi, thr, eq_true c5_2]
      have eM : (fHubOf m x).2 = (up m 45 0 (if 1 = 0 then 0 else 1)) := by simp [fHubOf, bi, thr, eq_true c5_2]
      exact e_I C0 hr hH ⟨eR, by rw [eM]; exact hM⟩ (Nat.le_refl _) (Nat.le_refl _) dX11_hubOf_29
set_option maxHeartbeats 4000000 in
set_option maxRecDepth 100000 in
theorem cM_hubByTrying (l : Launch) (G : GT) (A : Nat → Prop) (h : AH) (o : Nat) (ad : Nat → Nat) (m : MM) (hM : RM h o ad m) (x : Int32) (hw : WFa m) : cmI l G A yX11_hubByTrying cX11_hubByTrying 2 (Option.some FieldType.int) 4 87 0 0 [.ref (o), .int (x)] h (fun r h' => r = (fHubOf m x).1 ∧ RM h' o ad ((fHubOf m x).2)) := by
  refine cm_of "RoutepostModel" rfl (by decide) (Nat.le_of_ble_eq_true rfl) ?_
  intro pr e s m9 below meth c C0 hr hname hH ls hl
  obtain ⟨hx, hb, hml, hown, hts, hK, hA, -⟩ := id C0
  have hl : lv_has ls 2 [(0, .ref (o)), (1, .int (x))] := hl
  refine lv_aload_n hx hb dX11_hubByTrying_0 rfl (lv_at hl 0 rfl) ?_
  refine lv_iload_n hx hb dX11_hubByTrying_1 rfl (lv_at hl 1 rfl) ?_
  refine k_i hH (k_runV (rest := []) C0 hH (cM_hubOf l G A _ o ad m hM x hw) mv_X11_hubOf ml_X11_244 ci_15 hM.1 rfl ⟨by decide, by decide⟩ hl.1 rfl (Nat.le_of_ble_eq_true rfl) dX11_hubByTrying_2 (by simp)) (fun r_1 h H locs hp hH => ?_)
  obtain ⟨er_1, hM⟩ := hp
  subst er_1
  have eR : (fHubOf m x).1 = (fHubOf m x).1 := rfl
  have eM : (fHubOf m x).2 = ((fHubOf m x).2) := rfl
  exact e_I C0 hr hH ⟨eR, by rw [eM]; exact hM⟩ (Nat.le_refl _) (Nat.le_refl _) dX11_hubByTrying_5
set_option maxHeartbeats 4000000 in
set_option maxRecDepth 100000 in
theorem cM_nextDeparture (l : Launch) (G : GT) (A : Nat → Prop) (h : AH) (o : Nat) (ad : Nat → Nat) (m : MM) (hM : RM h o ad m) (x : Int32) (hw : WFa m) : cmI l G A yX11_nextDeparture cX11_nextDeparture 2 (Option.some FieldType.int) 2 43 0 0 [.ref (o), .int (x)] h (fun r h' => r = (fNext m x).1 ∧ RM h' o ad ((fNext m x).2)) := by
  refine cm_of "RoutepostModel" rfl (by decide) (Nat.le_of_ble_eq_true rfl) ?_
  intro pr e s m9 below meth c C0 hr hname hH ls hl
  obtain ⟨hx, hb, hml, hown, hts, hK, hA, -⟩ := id C0
  have hl : lv_has ls 2 [(0, .ref (o)), (1, .int (x))] := hl
  have hnp := hw.np
  have hnl := hw.nl
  have hnh := hw.nh
  refine lv_aload_n hx hb dX11_nextDeparture_0 rfl (lv_at hl 0 rfl) ?_
  refine lv_iload_n hx hb dX11_nextDeparture_1 rfl (lv_at hl 1 rfl) ?_
  refine k_i hH (k_runV (rest := []) C0 hH (cM_isNoLine l G A _ o ad m hM x) mv_X11_isNoLine ml_X11_198 ci_15 hM.1 rfl ⟨by decide, by decide⟩ hl.1 rfl (Nat.le_of_ble_eq_true rfl) dX11_nextDeparture_2 (by simp)) (fun r_1 h H locs hp hH => ?_)
  obtain ⟨er_1, hM⟩ := hp
  subst er_1
  refine lv_if_ne (tgt := 22) hx hb dX11_nextDeparture_5 (by decide) (fun c5_2 => ?_) (fun c5_2 => ?_)
  · replace c5_2 := bi_n0.mp c5_2
    refine lv_iconst (v := 0) hx hb dX11_nextDeparture_22 (by decide) ?_
    refine lv_goto (tgt := 37) hx hb dX11_nextDeparture_23 (by decide) ?_
    have eR : 0 = (fNext m x).1 := by simp [fNext, bi, thr, fNone, fNoLine, c5_2]
    have eM : (fNext m x).2 = (up m 45 0 (if (bi (¬ isLn m x)) = 0 then 0 else 1)) := by simp [fNext, bi, thr, fNone, fNoLine, c5_2]
    exact e_I C0 hr hH ⟨eR, by rw [eM]; exact hM⟩ (Nat.le_refl _) (Nat.le_refl _) dX11_nextDeparture_37
  · replace c5_2 := bi_0.mp c5_2
    replace c5_2 := Classical.not_not.mp c5_2
    obtain ⟨i, hp, rfl⟩ := vp_in_of (hw.isLn.mp c5_2) (by omega)
    have hcl : (nI i).toNatClampNeg = i := nI_clamp (by omega)
    refine lv_aload_n hx hb dX11_nextDeparture_8 rfl (lv_at hl 0 rfl) ?_
    refine lv_aload_n hx hb dX11_nextDeparture_9 rfl (lv_at hl 0 rfl) ?_
    refine m_arr C0 hH hM 9 (by decide) fl_X11_37 dX11_nextDeparture_10 ?_
    refine lv_iload_n hx hb dX11_nextDeparture_13 rfl (lv_at hl 1 rfl) ?_
    refine m_ldZ C0 hH hM 9 (by decide) rfl (n := 12) rfl (ix := i) (nI_clamp (by omega)) (by first | assumption | exact vp_in_nI (by omega) (by omega)) (v := m 9 i) rfl dX11_nextDeparture_14 ?_
    refine lv_iconst (v := 2) hx hb dX11_nextDeparture_15 (by decide) ?_
    refine k_i hH (k_runV (rest := []) C0 hH (cM_isThrown l G A _ o ad (up m 45 0 (if (bi (¬ isLn m (nI i))) = 0 then 0 else 1)) hM (m 9 i) 2 (nar9 hw hp)) mv_X11_isThrown ml_X11_140 ci_15 hM.1 rfl ⟨by decide, by decide⟩ hl.1 rfl (Nat.le_of_ble_eq_true rfl) dX11_nextDeparture_16 (by simp)) (fun r_3 h H locs hp hH => ?_)
    obtain ⟨er_3, hM⟩ := hp
    subst er_3
    refine lv_if_eq (tgt := 26) hx hb dX11_nextDeparture_19 (by decide) (fun c19_4 => ?_) (fun c19_4 => ?_)
    · refine lv_aload_n hx hb dX11_nextDeparture_26 rfl (lv_at hl 0 rfl) ?_
      refine lv_iload_n hx hb dX11_nextDeparture_27 rfl (lv_at hl 1 rfl) ?_
      refine lv_aload_n hx hb dX11_nextDeparture_28 rfl (lv_at hl 0 rfl) ?_
      refine m_int C0 hH hM 41 (by decide) (by decide) fl_X11_150 (v := m 41 0) rfl dX11_nextDeparture_29 ?_
      refine lv_iconst (v := 1) hx hb dX11_nextDeparture_32 (by decide) ?_
      refine lv_iadd hx hb dX11_nextDeparture_33 ?_
      refine k_i hH (k_runV (rest := []) C0 hH (cM_leaves l G A _ o ad (up (up m 45 0 (if (bi (¬ isLn m (nI i))) = 0 then 0 else 1)) 45 0 (if (m 9 i) = 0 then 0 else 2)) hM i ((m 41 0) + 1) (WFa.upx (WFa.upx hw (by unfold kWF; omega)) (by unfold kWF; omega)) hp) mv_X11_leaves ml_X11_166 ci_15 hM.1 rfl ⟨by decide, by decide⟩ hl.1 rfl (Nat.le_of_ble_eq_true rfl) dX11_nextDeparture_34 (by simp)) (fun r_5 h1 H locs hp hH => ?_)
      obtain ⟨er_5, eh⟩ := hp
      rw [eh] at hH
      clear eh
      replace er_5 : r_5 = lvs m i ((m 41 0) + 1) := er_5
      subst er_5
      have eR : lvs m i ((m 41 0) + 1) = (fNext m (nI i)).1 := by simp [fNext, bi, thr, fNone, fNoLine, hcl, c5_2, eq_true c19_4]
      have eM : (fNext m (nI i)).2 = (up (up m 45 0 (if (bi (¬ isLn m (nI i))) = 0 then 0 else 1)) 45 0 (if (m 9 i) = 0 then 0 else 2)) := by simp [fNext, bi, thr, fNone, fNoLine, hcl, c5_2, eq_true c19_4]
      exact e_I C0 hr hH ⟨eR, by rw [eM]; exact hM⟩ (Nat.le_refl _) (Nat.le_refl _) dX11_nextDeparture_37
    · refine lv_iconst (v := 0) hx hb dX11_nextDeparture_22 (by decide) ?_
      refine lv_goto (tgt := 37) hx hb dX11_nextDeparture_23 (by decide) ?_
      have eR : 0 = (fNext m (nI i)).1 := by simp [fNext, bi, thr, fNone, fNoLine, hcl, c5_2, eq_false c19_4]
      have eM : (fNext m (nI i)).2 = (up (up m 45 0 (if (bi (¬ isLn m (nI i))) = 0 then 0 else 1)) 45 0 (if (m 9 i) = 0 then 0 else 2)) := by simp [fNext, bi, thr, fNone, fNoLine, hcl, c5_2, eq_false c19_4]
      exact e_I C0 hr hH ⟨eR, by rw [eM]; exact hM⟩ (Nat.le_refl _) (Nat.le_refl _) dX11_nextDeparture_37
