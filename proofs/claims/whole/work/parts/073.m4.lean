set_option maxHeartbeats 4000000 in
set_option maxRecDepth 100000 in
theorem cM_happened (l : Launch) (G : GT) (A : Nat → Prop) (h : AH) (o : Nat) (ad : Nat → Nat) (m : MM) (hM : RM h o ad m) (x : Int32) (hw : WFa m) : cmI l G A yX11_happened cX11_happened 4 (Option.some FieldType.int) 0 0 0 0 [.ref (o), .int (x)] h (fun r h' => r = hap m x ∧ h' = h) := by
  refine cm_of "RoutepostModel" rfl (by decide) (Nat.le_of_ble_eq_true rfl) ?_
  intro pr e s m9 below meth c C0 hr hname hH ls hl
  obtain ⟨hx, hb, hml, hown, hts, hK, hA, -⟩ := id C0
  have hl : lv_has ls 4 [(0, .ref (o)), (1, .int (x))] := hl
  have hlg := hw.lg
  have hB := hlg.1
  refine lv_iconst (v := 0) hx hb dX11_happened_0 (by decide) ?_
  refine lv_istore_n (lv' := [(2, .int (0)), (0, .ref (o)), (1, .int (x))]) hx hb dX11_happened_1 rfl hl (by decide) rfl (fun ls hl => ?_)
  refine lv_iconst (v := 0) hx hb dX11_happened_2 (by decide) ?_
  refine lv_istore_n (lv' := [(3, .int (0)), (2, .int (0)), (0, .ref (o)), (1, .int (x))]) hx hb dX11_happened_3 rfl hl (by decide) rfl (fun ls hl => ?_)
  have K : ∀ (k i : Nat) (n : Int32), i + k = logN m → hpL m x k i n = hap m x → ∀ (ls : Array Slot), lv_has ls 4 [(3, .int (nI (4 * i))), (2, .int (n)), (0, .ref (o)), (1, .int (x))] → W pr l e (rmm 0 0 0 0) s m9 ([.ref (o), .int (x)] : List Value).toArray below meth c s.heap [] 0 0 (QI below G A (fun r h' => r = hap m x ∧ h' = h) ([.ref (o), .int (x)] : List Value).toArray s 0 0) (F0 m9 4 ls []) := by
    intro k
    induction k with
    | zero =>
      intro i n hik hT  ls hl
      refine lv_iload_n hx hb dX11_happened_4 rfl (lv_at hl 0 rfl) ?_
      refine lv_aload_n hx hb dX11_happened_5 rfl (lv_at hl 2 rfl) ?_
      refine m_int C0 hH hM 40 (by decide) (by decide) fl_X11_147 (v := m 40 0) rfl dX11_happened_6 ?_
      refine lv_icmp_ge (tgt := 36) hx hb dX11_happened_9 (by decide) (fun c9_1 => ?_) (fun c9_1 => ?_)
      · refine lv_iload_n hx hb dX11_happened_36 rfl (lv_at hl 1 rfl) ?_
        have eR : n = hap m x := hT
        exact e_I C0 hr hH ⟨eR, rfl⟩ (Nat.le_refl _) (Nat.le_refl _) dX11_happened_37
      · exact absurd (by rw [hB]; exact nI_le (by omega) (by omega)) c9_1
    | succ k ih =>
      intro i n hik hT  ls hl
      refine lv_iload_n hx hb dX11_happened_4 rfl (lv_at hl 0 rfl) ?_
      refine lv_aload_n hx hb dX11_happened_5 rfl (lv_at hl 2 rfl) ?_
      refine m_int C0 hH hM 40 (by decide) (by decide) fl_X11_147 (v := m 40 0) rfl dX11_happened_6 ?_
      refine lv_icmp_ge (tgt := 36) hx hb dX11_happened_9 (by decide) (fun c9_2 => ?_) (fun c9_2 => ?_)
      · exact absurd c9_2 (by rw [hB]; exact nI_ge (by omega) (by omega))
      · refine lv_iload_n hx hb dX11_happened_12 rfl (lv_at hl 1 rfl) ?_
        refine lv_aload_n hx hb dX11_happened_13 rfl (lv_at hl 2 rfl) ?_
        refine m_arr C0 hH hM 31 (by decide) fl_X11_105 dX11_happened_14 ?_
        refine lv_iload_n hx hb dX11_happened_17 rfl (lv_at hl 0 rfl) ?_
        refine m_ldI C0 hH hM 31 (by decide) rfl (n := LLm m) rfl (ix := (4 * i)) (nI_clamp (by omega)) (by first | assumption | exact vp_in_nI (by omega) (by omega)) (v := m 31 (4 * i)) rfl dX11_happened_18 ?_
        refine lv_iload_n hx hb dX11_happened_19 rfl (lv_at hl 3 rfl) ?_
        refine lv_icmp_ne (tgt := 27) hx hb dX11_happened_20 (by decide) (fun c20_3 => ?_) (fun c20_3 => ?_)
        · refine lv_iconst (v := 0) hx hb dX11_happened_27 (by decide) ?_
          refine lv_iadd hx hb dX11_happened_28 ?_
          refine lv_istore_n (lv' := [(2, .int (n + 0)), (3, .int (nI (4 * i))), (0, .ref (o)), (1, .int (x))]) hx hb dX11_happened_29 rfl hl (by decide) rfl (fun ls hl => ?_)
          refine lv_iinc (v := nI (4 * (i + 1))) (lv' := [(3, .int (nI (4 * (i + 1)))), (2, .int (n + 0)), (0, .ref (o)), (1, .int (x))]) hx hb dX11_happened_30 hl (k := 1) rfl (by rw [show 4 * (i + 1) = 4 * i + 4 from by omega, ← nI_add]; rfl) (by decide) rfl (fun ls hl => ?_)
          refine lv_goto (tgt := 4) hx hb dX11_happened_33 (by decide) ?_
          exact ih (i + 1) (n + 0) (by omega) (by rw [← hT]; simp [hpL, bi, c9_2, Int32.not_le.mp c9_2, eq_false c20_3])  ls (lv_sub hl [0, 1, 2, 3] rfl)
        · refine lv_iconst (v := 1) hx hb dX11_happened_23 (by decide) ?_
          refine lv_goto (tgt := 28) hx hb dX11_happened_24 (by decide) ?_
          refine lv_iadd hx hb dX11_happened_28 ?_
          refine lv_istore_n (lv' := [(2, .int (n + 1)), (3, .int (nI (4 * i))), (0, .ref (o)), (1, .int (x))]) hx hb dX11_happened_29 rfl hl (by decide) rfl (fun ls hl => ?_)
          refine lv_iinc (v := nI (4 * (i + 1))) (lv' := [(3, .int (nI (4 * (i + 1)))), (2, .int (n + 1)), (0, .ref (o)), (1, .int (x))]) hx hb dX11_happened_30 hl (k := 1) rfl (by rw [show 4 * (i + 1) = 4 * i + 4 from by omega, ← nI_add]; rfl) (by decide) rfl (fun ls hl => ?_)
          refine lv_goto (tgt := 4) hx hb dX11_happened_33 (by decide) ?_
          exact ih (i + 1) (n + 1) (by omega) (by rw [← hT]; simp [hpL, bi, c9_2, Int32.not_le.mp c9_2, eq_true c20_3])  ls (lv_sub hl [0, 1, 2, 3] rfl)
  exact K (logN m) 0 0 (by omega) (rfl)  ls (lv_sub hl [0, 1, 2, 3] rfl)
set_option maxHeartbeats 4000000 in
set_option maxRecDepth 100000 in
theorem cM_events (l : Launch) (G : GT) (A : Nat → Prop) (h : AH) (o : Nat) (ad : Nat → Nat) (m : MM) (hM : RM h o ad m) (x : Int32) (hw : WFa m) : cmI l G A yX11_events cX11_events 2 (Option.some FieldType.int) 2 43 0 0 [.ref (o), .int (x)] h (fun r h' => r = (fEvs m x).1 ∧ RM h' o ad ((fEvs m x).2)) := by
  refine cm_of "RoutepostModel" rfl (by decide) (Nat.le_of_ble_eq_true rfl) ?_
  intro pr e s m9 below meth c C0 hr hname hH ls hl
  obtain ⟨hx, hb, hml, hown, hts, hK, hA, -⟩ := id C0
  have hl : lv_has ls 2 [(0, .ref (o)), (1, .int (x))] := hl
  have hnp := hw.np
  have hnl := hw.nl
  have hnh := hw.nh
  refine lv_aload_n hx hb dX11_events_0 rfl (lv_at hl 0 rfl) ?_
  refine lv_iload_n hx hb dX11_events_1 rfl (lv_at hl 1 rfl) ?_
  refine k_i hH (k_runV (rest := []) C0 hH (cM_isNone l G A _ o ad m hM x) mv_X11_isNone ml_X11_216 ci_15 hM.1 rfl ⟨by decide, by decide⟩ hl.1 rfl (Nat.le_of_ble_eq_true rfl) dX11_events_2 (by simp)) (fun r_1 h H locs hp hH => ?_)
  obtain ⟨er_1, hM⟩ := hp
  subst er_1
  refine lv_if_eq (tgt := 12) hx hb dX11_events_5 (by decide) (fun c5_2 => ?_) (fun c5_2 => ?_)
  · replace c5_2 := bi_0.mp c5_2
    replace c5_2 := Classical.not_not.mp c5_2
    have hx9 := hw.isPa.mp c5_2
    refine lv_aload_n hx hb dX11_events_12 rfl (lv_at hl 0 rfl) ?_
    refine lv_iload_n hx hb dX11_events_13 rfl (lv_at hl 1 rfl) ?_
    refine k_i hH (k_runV (rest := []) C0 hH (cM_happened l G A _ o ad (up m 45 0 (if (bi (¬ isPa m x)) = 0 then 0 else 1)) hM x (WFa.upx hw (by unfold kWF; omega))) mv_X11_happened ml_X11_256 ci_15 hM.1 rfl ⟨by decide, by decide⟩ hl.1 rfl (Nat.le_of_ble_eq_true rfl) dX11_events_14 (by simp)) (fun r_3 h1 H locs hp hH => ?_)
    obtain ⟨er_3, eh⟩ := hp
    rw [eh] at hH
    clear eh
    subst er_3
    have eR : hap (up m 45 0 (if (bi (¬ isPa m x)) = 0 then 0 else 1)) x = (fEvs m x).1 := by simp [fEvs, bi, thr, fNone, fNoLine, c5_2]
    have eM : (fEvs m x).2 = (up m 45 0 (if (bi (¬ isPa m x)) = 0 then 0 else 1)) := by simp [fEvs, bi, thr, fNone, fNoLine, c5_2]
    exact e_I C0 hr hH ⟨eR, by rw [eM]; exact hM⟩ (Nat.le_refl _) (Nat.le_refl _) dX11_events_17
  · replace c5_2 := bi_n0.mp c5_2
    refine lv_iconst (v := 0) hx hb dX11_events_8 (by decide) ?_
    refine lv_goto (tgt := 17) hx hb dX11_events_9 (by decide) ?_
    have eR : 0 = (fEvs m x).1 := by simp [fEvs, bi, thr, fNone, fNoLine, c5_2]
    have eM : (fEvs m x).2 = (up m 45 0 (if (bi (¬ isPa m x)) = 0 then 0 else 1)) := by simp [fEvs, bi, thr, fNone, fNoLine, c5_2]
    exact e_I C0 hr hH ⟨eR, by rw [eM]; exact hM⟩ (Nat.le_refl _) (Nat.le_refl _) dX11_events_17
set_option maxHeartbeats 4000000 in
set_option maxRecDepth 100000 in
theorem cM_event (l : Launch) (G : GT) (A : Nat → Prop) (h : AH) (o : Nat) (ad : Nat → Nat) (m : MM) (hM : RM h o ad m) (x ix : Int32) (hw : WFa m) : cmI l G A yX11_event cX11_event 5 (Option.some FieldType.int) 2 43 0 0 [.ref (o), .int (x), .int (ix)] h (fun r h' => r = (fEv m x ix).1 ∧ RM h' o ad ((fEv m x ix).2)) := by
  refine cm_of "RoutepostModel" rfl (by decide) (Nat.le_of_ble_eq_true rfl) ?_
  intro pr e s m9 below meth c C0 hr hname hH ls hl
  obtain ⟨hx, hb, hml, hown, hts, hK, hA, -⟩ := id C0
  have hl : lv_has ls 5 [(0, .ref (o)), (1, .int (x)), (2, .int (ix))] := hl
  have hnp := hw.np
  have hnl := hw.nl
  have hnh := hw.nh
  refine lv_aload_n hx hb dX11_event_0 rfl (lv_at hl 0 rfl) ?_
  refine lv_iload_n hx hb dX11_event_1 rfl (lv_at hl 1 rfl) ?_
  refine k_i hH (k_runV (rest := []) C0 hH (cM_isNone l G A _ o ad m hM x) mv_X11_isNone ml_X11_216 ci_15 hM.1 rfl ⟨by decide, by decide⟩ hl.1 rfl (Nat.le_of_ble_eq_true rfl) dX11_event_2 (by simp)) (fun r_1 h H locs hp hH => ?_)
  obtain ⟨er_1, hM⟩ := hp
  subst er_1
  refine lv_if_ne (tgt := 36) hx hb dX11_event_5 (by decide) (fun c5_2 => ?_) (fun c5_2 => ?_)
  · replace c5_2 := bi_n0.mp c5_2
    refine lv_iconst (v := (-1)) hx hb dX11_event_36 (by decide) ?_
    have eR : (-1) = (fEv m x ix).1 := by simp [fEv, bi, fNone, thr, c5_2]
    have eM : (fEv m x ix).2 = (up m 45 0 (if (bi (¬ isPa m x)) = 0 then 0 else 1)) := by simp [fEv, bi, thr, fNone, c5_2]
    exact e_I C0 hr hH ⟨eR, by rw [eM]; exact hM⟩ (Nat.le_refl _) (Nat.le_refl _) dX11_event_37
  · replace c5_2 := bi_0.mp c5_2
    replace c5_2 := Classical.not_not.mp c5_2
    have hq1 : (fNone m x).1 = 0 := by simp [fNone, bi, c5_2]
    obtain ⟨M1, hM1⟩ : ∃ z, z = (fNone m x).2 := ⟨_, rfl⟩
    replace hM : RM h o ad M1 := by rw [hM1]; exact hM
    have hwM1 : WFa M1 := by rw [hM1]; exact hw.thr _ _
    refine lv_aload_n hx hb dX11_event_8 rfl (lv_at hl 0 rfl) ?_
    refine lv_iload_n hx hb dX11_event_9 rfl (lv_at hl 2 rfl) ?_
    refine lv_iconst (v := 0) hx hb dX11_event_10 (by decide) ?_
    refine lv_aload_n hx hb dX11_event_11 rfl (lv_at hl 0 rfl) ?_
    refine lv_iload_n hx hb dX11_event_12 rfl (lv_at hl 1 rfl) ?_
    refine k_i hH (k_runV (rest := [.int (0), .int (ix), .ref (o)]) C0 hH (cM_happened l G A _ o ad M1 hM x hwM1) mv_X11_happened ml_X11_256 ci_15 hM.1 rfl ⟨by decide, by decide⟩ hl.1 rfl (Nat.le_of_ble_eq_true rfl) dX11_event_13 (by simp)) (fun r_3 h1 H locs hp hH => ?_)
    obtain ⟨er_3, eh⟩ := hp
    rw [eh] at hH
    clear eh
    subst er_3
    refine lv_iconst (v := 1) hx hb dX11_event_16 (by decide) ?_
    refine lv_isub hx hb dX11_event_17 ?_
    refine k_i hH (k_runS (rest := [.ref (o)]) C0 hH (cM_isIn l G A _ ix 0 ((hap M1 x) - 1)) mv_X11_isIn ml_X11_127 rfl ⟨by decide, by decide⟩ hl.1 rfl (Nat.le_of_ble_eq_true rfl) dX11_event_18 (by simp)) (fun r_4 h1 H locs hp hH => ?_)
    obtain ⟨er_4, eh⟩ := hp
    rw [eh] at hH
    clear eh
    subst er_4
    refine lv_if_ne (tgt := 28) hx hb dX11_event_21 (by decide) (fun c21_5 => ?_) (fun c21_5 => ?_)
    · replace c21_5 := bi_n0.mp c21_5
      have hc18 := c21_5
      refine lv_iconst (v := 0) hx hb dX11_event_28 (by decide) ?_
      refine lv_iconst (v := 2) hx hb dX11_event_29 (by decide) ?_
      refine k_i hH (k_runV (rest := []) C0 hH (cM_isThrown l G A _ o ad M1 hM 0 2 rfl) mv_X11_isThrown ml_X11_140 ci_15 hM.1 rfl ⟨by decide, by decide⟩ hl.1 rfl (Nat.le_of_ble_eq_true rfl) dX11_event_30 (by simp)) (fun r_6 h H locs hp hH => ?_)
      obtain ⟨er_6, hM⟩ := hp
      subst er_6
      refine lv_if_eq (tgt := 38) hx hb dX11_event_33 (by decide) (fun c33_7 => ?_) (fun c33_7 => ?_)
      · refine lv_iconst (v := 0) hx hb dX11_event_38 (by decide) ?_
        refine lv_istore_n (lv' := [(3, .int (0)), (0, .ref (o)), (1, .int (x)), (2, .int (ix))]) hx hb dX11_event_39 rfl hl (by decide) rfl (fun ls hl => ?_)
        refine lv_iload_n hx hb dX11_event_40 rfl (lv_at hl 3 rfl) ?_
        refine lv_istore (lv' := [(4, .int (ix)), (3, .int (0)), (0, .ref (o)), (1, .int (x)), (2, .int (ix))]) hx hb dX11_event_41 hl (by decide) rfl (fun ls hl => ?_)
        obtain ⟨M, eM0⟩ : ∃ z, z = (up M1 45 0 (if 0 = 0 then 0 else 2)) := ⟨_, rfl⟩
        replace hM : RM h o ad M := by rw [eM0]; exact hM
        have hwM : WFa M := by rw [eM0]; exact hwM1.upx (by unfold kWF; omega)
        have hlg := hwM.lg
        have hlc := hcnt_le M x (logN M) 0
        have hTf : (fEv m x ix).1 = nI (4 * evL M x (logN M) 0 ix) := by rw [eM0]; simp [fEv, hq1, ← hM1, bi, hc18, thr]
        have hMf : (fEv m x ix).2 = M := by rw [eM0]; simp [fEv, hq1, ← hM1, bi, hc18, thr]
        have hcM : hcnt M x (logN M) 0 = hcnt M1 x (logN M1) 0 := by rw [eM0]; exact hcnt_ext (up_key (by decide)) (up_key (by decide))
        obtain ⟨lf0, e0, hlf0⟩ : ∃ lf, ix = nI lf ∧ lf < hcnt M x (logN M) 0 := by rw [hcM]; exact ev_in hwM1 hc18
        rw [e0] at hl
        have K : ∀ (k : Nat) (j : Nat) (lf : Nat), j + k = logN M → lf < hcnt M x k j → hcnt M x k j ≤ k → evL M x k j (nI lf) = evL M x (logN M) 0 (nI lf0) → ∀ (ls : Array Slot), lv_has ls 5 [(3, .int (nI (4 * j))), (4, .int (nI lf)), (0, .ref (o)), (1, .int (x)), (2, .int (nI lf0))] → W pr l e (rmm 2 43 0 0) s m9 ([.ref (o), .int (x), .int (ix)] : List Value).toArray below meth c H locs 0 0 (QI below G A (fun r h' => r = (fEv m x ix).1 ∧ RM h' o ad ((fEv m x ix).2)) ([.ref (o), .int (x), .int (ix)] : List Value).toArray s 0 0) (F0 m9 43 ls []) := by
          intro k
          induction k with
          | zero =>
            intro j lf hjk hlf hlk hT ls hl
            refine lv_aload_n hx hb dX11_event_43 rfl (lv_at hl 2 rfl) ?_
            refine m_arr C0 hH hM 31 (by decide) fl_X11_105 dX11_event_44 ?_
            refine lv_iload_n hx hb dX11_event_47 rfl (lv_at hl 0 rfl) ?_
            refine m_ldI C0 hH hM 31 (by decide) rfl (n := LLm M) rfl (ix := (4 * j)) (nI_clamp (by omega)) (vp_in_nI (by have := hlf; have := hlk; omega) (by omega)) (v := M 31 (4 * j)) rfl dX11_event_48 ?_
            refine lv_iload_n hx hb dX11_event_49 rfl (lv_at hl 3 rfl) ?_
            refine lv_icmp_ne (tgt := 58) hx hb dX11_event_50 (by decide) (fun c50_8 => ?_) (fun c50_8 => ?_)
            · exact absurd hlf (Nat.not_lt_zero _)
            · exact absurd hlf (Nat.not_lt_zero _)
          | succ k ih =>
            intro j lf hjk hlf hlk hT ls hl
            refine lv_aload_n hx hb dX11_event_43 rfl (lv_at hl 2 rfl) ?_
            refine m_arr C0 hH hM 31 (by decide) fl_X11_105 dX11_event_44 ?_
            refine lv_iload_n hx hb dX11_event_47 rfl (lv_at hl 0 rfl) ?_
            refine m_ldI C0 hH hM 31 (by decide) rfl (n := LLm M) rfl (ix := (4 * j)) (nI_clamp (by omega)) (vp_in_nI (by have := hlf; have := hlk; omega) (by omega)) (v := M 31 (4 * j)) rfl dX11_event_48 ?_
            refine lv_iload_n hx hb dX11_event_49 rfl (lv_at hl 3 rfl) ?_
            refine lv_icmp_ne (tgt := 58) hx hb dX11_event_50 (by decide) (fun c50_9 => ?_) (fun c50_9 => ?_)
            · refine lv_iload hx hb dX11_event_58 (lv_at hl 1 rfl) ?_
              refine lv_aload_n hx hb dX11_event_60 rfl (lv_at hl 2 rfl) ?_
              refine m_arr C0 hH hM 31 (by decide) fl_X11_105 dX11_event_61 ?_
              refine lv_iload_n hx hb dX11_event_64 rfl (lv_at hl 0 rfl) ?_
              refine m_ldI C0 hH hM 31 (by decide) rfl (n := LLm M) rfl (ix := (4 * j)) (nI_clamp (by omega)) (vp_in_nI (by have := hlf; have := hlk; omega) (by omega)) (v := M 31 (4 * j)) rfl dX11_event_65 ?_
              refine lv_iload_n hx hb dX11_event_66 rfl (lv_at hl 3 rfl) ?_
              refine lv_icmp_ne (tgt := 74) hx hb dX11_event_67 (by decide) (fun c67_10 => ?_) (fun c67_10 => ?_)
              · refine lv_iconst (v := 0) hx hb dX11_event_74 (by decide) ?_
                refine lv_isub hx hb dX11_event_75 ?_
                refine lv_istore (lv' := [(4, .int ((nI lf) - 0)), (3, .int (nI (4 * j))), (0, .ref (o)), (1, .int (x)), (2, .int (nI lf0))]) hx hb dX11_event_76 hl (by decide) rfl (fun ls hl => ?_)
                refine lv_iinc (v := nI (4 * (j + 1))) (lv' := [(3, .int (nI (4 * (j + 1)))), (4, .int ((nI lf) - 0)), (0, .ref (o)), (1, .int (x)), (2, .int (nI lf0))]) hx hb dX11_event_78 hl (k := 1) rfl (by rw [show 4 * (j + 1) = 4 * j + 4 from by omega, ← nI_add]; rfl) (by decide) rfl (fun ls hl => ?_)
                refine lv_goto (tgt := 43) hx hb dX11_event_81 (by decide) ?_
                rw [nI_sub0] at hl
                exact ih (j + 1) lf (by omega) (by simpa [hcnt, eq_false c50_9] using hlf) (hcnt_le _ _ _ _) (by rw [← hT]; simp [evL, bi, eq_false c50_9, nI_sub0]) ls (lv_sub hl [0, 1, 2, 3, 4] rfl)
              · exact absurd c67_10 c50_9
            · refine lv_iload hx hb dX11_event_53 (lv_at hl 1 rfl) ?_
              refine lv_if_le (tgt := 84) hx hb dX11_event_55 (by decide) (fun c55_11 => ?_) (fun c55_11 => ?_)
              · refine lv_iload_n hx hb dX11_event_84 rfl (lv_at hl 0 rfl) ?_
                have eR : nI (4 * j) = (fEv m x ix).1 := by rw [hTf, e0, ← hT]; simp [evL, eq_true c50_9, c55_11, Int32.not_lt.mpr c55_11]
                have eM : (fEv m x ix).2 = M := hMf
                exact e_I C0 hr hH ⟨eR, by rw [eM]; exact hM⟩ (Nat.le_refl _) (Nat.le_refl _) dX11_event_85
              · refine lv_iload hx hb dX11_event_58 (lv_at hl 1 rfl) ?_
                refine lv_aload_n hx hb dX11_event_60 rfl (lv_at hl 2 rfl) ?_
                refine m_arr C0 hH hM 31 (by decide) fl_X11_105 dX11_event_61 ?_
                refine lv_iload_n hx hb dX11_event_64 rfl (lv_at hl 0 rfl) ?_
                refine m_ldI C0 hH hM 31 (by decide) rfl (n := LLm M) rfl (ix := (4 * j)) (nI_clamp (by omega)) (vp_in_nI (by have := hlf; have := hlk; omega) (by omega)) (v := M 31 (4 * j)) rfl dX11_event_65 ?_
                refine lv_iload_n hx hb dX11_event_66 rfl (lv_at hl 3 rfl) ?_
                refine lv_icmp_ne (tgt := 74) hx hb dX11_event_67 (by decide) (fun c67_12 => ?_) (fun c67_12 => ?_)
                · exact absurd c50_9 c67_12
                · refine lv_iconst (v := 1) hx hb dX11_event_70 (by decide) ?_
                  refine lv_goto (tgt := 75) hx hb dX11_event_71 (by decide) ?_
                  refine lv_isub hx hb dX11_event_75 ?_
                  refine lv_istore (lv' := [(4, .int ((nI lf) - 1)), (3, .int (nI (4 * j))), (0, .ref (o)), (1, .int (x)), (2, .int (nI lf0))]) hx hb dX11_event_76 hl (by decide) rfl (fun ls hl => ?_)
                  refine lv_iinc (v := nI (4 * (j + 1))) (lv' := [(3, .int (nI (4 * (j + 1)))), (4, .int ((nI lf) - 1)), (0, .ref (o)), (1, .int (x)), (2, .int (nI lf0))]) hx hb dX11_event_78 hl (k := 1) rfl (by rw [show 4 * (j + 1) = 4 * j + 4 from by omega, ← nI_add]; rfl) (by decide) rfl (fun ls hl => ?_)
                  refine lv_goto (tgt := 43) hx hb dX11_event_81 (by decide) ?_
                  obtain ⟨lf2, rfl⟩ : ∃ z, lf = z + 1 := ⟨lf - 1, by have := mt (nI_pos0 (n := lf) (by omega)).mpr c55_11; omega⟩
                  rw [nI_pred] at hl
                  exact ih (j + 1) lf2 (by omega) (by have := hlf; simp [hcnt, eq_true c50_9] at this; omega) (hcnt_le _ _ _ _) (by rw [← hT]; simp [evL, bi, eq_true c50_9, eq_false c55_11, nI_pred]) ls (lv_sub hl [0, 1, 2, 3, 4] rfl)
        exact K (logN M) 0 lf0 (by omega) hlf0 hlc rfl ls (lv_sub hl [1, 0, 2, 3, 4] rfl)
      · exact absurd (by decide) c33_7
    · replace c21_5 := bi_0.mp c21_5
      refine lv_iconst (v := 1) hx hb dX11_event_24 (by decide) ?_
      refine lv_goto (tgt := 29) hx hb dX11_event_25 (by decide) ?_
      refine lv_iconst (v := 2) hx hb dX11_event_29 (by decide) ?_
      refine k_i hH (k_runV (rest := []) C0 hH (cM_isThrown l G A _ o ad M1 hM 1 2 rfl) mv_X11_isThrown ml_X11_140 ci_15 hM.1 rfl ⟨by decide, by decide⟩ hl.1 rfl (Nat.le_of_ble_eq_true rfl) dX11_event_30 (by simp)) (fun r_13 h H locs hp hH => ?_)
      obtain ⟨er_13, hM⟩ := hp
      subst er_13
      refine lv_if_eq (tgt := 38) hx hb dX11_event_33 (by decide) (fun c33_14 => ?_) (fun c33_14 => ?_)
      · exact absurd c33_14 (by decide)
      · refine lv_iconst (v := (-1)) hx hb dX11_event_36 (by decide) ?_
        have eR : (-1) = (fEv m x ix).1 := by simp [fEv, bi, hq1, ← hM1, c21_5]
        have eM : (fEv m x ix).2 = (up M1 45 0 (if 1 = 0 then 0 else 2)) := by simp [fEv, bi, thr, hq1, ← hM1, c21_5]
        exact e_I C0 hr hH ⟨eR, by rw [eM]; exact hM⟩ (Nat.le_refl _) (Nat.le_refl _) dX11_event_37
