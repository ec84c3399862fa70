set_option maxHeartbeats 4000000 in
set_option maxRecDepth 100000 in
theorem cM_lays (l : Launch) (G : GT) (A : Nat → Prop) (h : AH) (o : Nat) (ad : Nat → Nat) (m : MM) (hM : RM h o ad m) (p : Nat) (hw : WFa m) (hp : p < npN m) : cmI l G A yX11_lays cX11_lays 2 (Option.some FieldType.boolean) 9 246 0 0 [.ref (o), .int (nI p)] h (fun r h' => r = bi (hasP (fLays m p)) ∧ RM h' o ad (fLays m p)) := by
  refine cm_of "RoutepostModel" rfl (by decide) (Nat.le_of_ble_eq_true rfl) ?_
  intro pr e s m9 below meth c C0 hr hname hH ls hl
  obtain ⟨hx, hb, hml, hown, hts, hK, hA, -⟩ := id C0
  have hl : lv_has ls 2 [(0, .ref (o)), (1, .int (nI p))] := hl
  have hnp := hw.np
  have h15 := hw.hub6 hp
  have hus : (1 : Int32) <<< (m 15 p &&& 31) = nI (2 ^ (m 15 p).toNatClampNeg) ∧ 2 ^ (m 15 p).toNatClampNeg < 64 ∧ unv (2 ^ (m 15 p).toNatClampNeg) = 5 := by
    have := unv_one0 _ (vp_nat h15)
    rwa [← vp_nI h15 (by decide)] at this
  refine lv_aload_n hx hb dX11_lays_0 rfl (lv_at hl 0 rfl) ?_
  refine lv_iconst (v := (-1)) hx hb dX11_lays_1 (by decide) ?_
  refine m_put C0 hH hM 42 (by decide) (by decide) fl_X11_154 dX11_lays_2 (fun h H locs hH hM => ?_)
  refine lv_aload_n hx hb dX11_lays_5 rfl (lv_at hl 0 rfl) ?_
  refine lv_iconst (v := 0) hx hb dX11_lays_6 (by decide) ?_
  refine m_put C0 hH hM 43 (by decide) (by decide) fl_X11_157 dX11_lays_7 (fun h H locs hH hM => ?_)
  refine lv_aload_n hx hb dX11_lays_10 rfl (lv_at hl 0 rfl) ?_
  refine lv_aload_n hx hb dX11_lays_11 rfl (lv_at hl 0 rfl) ?_
  refine m_arr C0 hH hM 15 (by decide) fl_X11_56 dX11_lays_12 ?_
  refine lv_iload_n hx hb dX11_lays_15 rfl (lv_at hl 1 rfl) ?_
  refine m_ldI C0 hH hM 15 (by decide) rfl (n := 40) rfl (ix := p) (nI_clamp (by omega)) (by first | assumption | exact vp_in_nI (by omega) (by omega)) (v := m 15 p) rfl dX11_lays_16 ?_
  refine lv_iconst (v := 0) hx hb dX11_lays_17 (by decide) ?_
  refine lv_aload_n hx hb dX11_lays_18 rfl (lv_at hl 0 rfl) ?_
  refine m_arr C0 hH hM 18 (by decide) fl_X11_65 dX11_lays_19 ?_
  refine lv_iload_n hx hb dX11_lays_22 rfl (lv_at hl 1 rfl) ?_
  refine m_ldI C0 hH hM 18 (by decide) rfl (n := 40) rfl (ix := p) (nI_clamp (by omega)) (by first | assumption | exact vp_in_nI (by omega) (by omega)) (v := m 18 p) rfl dX11_lays_23 ?_
  refine lv_aload_n hx hb dX11_lays_24 rfl (lv_at hl 0 rfl) ?_
  refine m_int C0 hH hM 41 (by decide) (by decide) fl_X11_150 (v := m 41 0) rfl dX11_lays_25 ?_
  refine lv_aload_n hx hb dX11_lays_28 rfl (lv_at hl 0 rfl) ?_
  refine m_arr C0 hH hM 14 (by decide) fl_X11_53 dX11_lays_29 ?_
  refine lv_iload_n hx hb dX11_lays_32 rfl (lv_at hl 1 rfl) ?_
  refine m_ldI C0 hH hM 14 (by decide) rfl (n := 40) rfl (ix := p) (nI_clamp (by omega)) (by first | assumption | exact vp_in_nI (by omega) (by omega)) (v := m 14 p) rfl dX11_lays_33 ?_
  refine lv_iconst (v := 1) hx hb dX11_lays_34 (by decide) ?_
  refine lv_aload_n hx hb dX11_lays_35 rfl (lv_at hl 0 rfl) ?_
  refine m_arr C0 hH hM 15 (by decide) fl_X11_56 dX11_lays_36 ?_
  refine lv_iload_n hx hb dX11_lays_39 rfl (lv_at hl 1 rfl) ?_
  refine m_ldI C0 hH hM 15 (by decide) rfl (n := 40) rfl (ix := p) (nI_clamp (by omega)) (by first | assumption | exact vp_in_nI (by omega) (by omega)) (v := m 15 p) rfl dX11_lays_40 ?_
  refine lv_ishl hx hb dX11_lays_41 ?_
  rw [hus.1]
  refine k_v hH (k_runV (rest := []) C0 hH (cM_tries l G A o ad 6 h (up (up m 42 0 (-1)) 43 0 0) hM (WFa.upx (WFa.upx hw (by unfold kWF; omega)) (by unfold kWF; omega)) (m 15 p) (m 18 p) (m 41 0) (m 14 p) 0 (2 ^ (m 15 p).toNatClampNeg) h15 hus.2.1 (by rw [hus.2.2]; decide) (by have := hus.2.2; omega)) mv_X11_tries ml_X11_169 ci_15 hM.1 rfl ⟨by decide, by decide⟩ hl.1 rfl (Nat.le_of_ble_eq_true rfl) dX11_lays_42 (by simp)) (fun h H locs hp9 hH => ?_)
  have hM := hp9
  rw [← hus.1] at hM
  replace hM : RM h o ad (fLays m p) := hM
  refine lv_aload_n hx hb dX11_lays_45 rfl (lv_at hl 0 rfl) ?_
  refine m_int C0 hH hM 42 (by decide) (by decide) fl_X11_154 (v := (fLays m p) 42 0) rfl dX11_lays_46 ?_
  refine lv_if_lt (tgt := 56) hx hb dX11_lays_49 (by decide) (fun c49_1 => ?_) (fun c49_1 => ?_)
  · refine lv_iconst (v := 0) hx hb dX11_lays_56 (by decide) ?_
    have eR : 0 = bi (hasP (fLays m p)) := by simp [bi, hasP, c49_1, Int32.not_le.mpr c49_1]
    have eM : fLays m p = (fLays m p) := by simp [bi, hasP, c49_1, Int32.not_le.mpr c49_1]
    exact e_Z C0 hr (by decide) hH ⟨eR, by rw [eM]; exact hM⟩ (Nat.le_refl _) (Nat.le_refl _) dX11_lays_57
  · refine lv_iconst (v := 1) hx hb dX11_lays_52 (by decide) ?_
    refine lv_goto (tgt := 57) hx hb dX11_lays_53 (by decide) ?_
    have eR : 1 = bi (hasP (fLays m p)) := by simp [bi, hasP, c49_1, Int32.not_lt.mp c49_1]
    have eM : fLays m p = (fLays m p) := by simp [bi, hasP, c49_1, Int32.not_lt.mp c49_1]
    exact e_Z C0 hr (by decide) hH ⟨eR, by rw [eM]; exact hM⟩ (Nat.le_refl _) (Nat.le_refl _) dX11_lays_57
set_option maxHeartbeats 4000000 in
set_option maxRecDepth 100000 in
theorem cM_planned (l : Launch) (G : GT) (A : Nat → Prop) (h : AH) (o : Nat) (ad : Nat → Nat) (m : MM) (hM : RM h o ad m) (p : Nat) (hw : WFa m) (hp : p < npN m) : cmI l G A yX11_planned cX11_planned 2 (Option.some FieldType.int) 10 267 0 0 [.ref (o), .int (nI p)] h (fun r h' => r = fPlan m p ∧ RM h' o ad (fLays m p)) := by
  refine cm_of "RoutepostModel" rfl (by decide) (Nat.le_of_ble_eq_true rfl) ?_
  intro pr e s m9 below meth c C0 hr hname hH ls hl
  obtain ⟨hx, hb, hml, hown, hts, hK, hA, -⟩ := id C0
  have hl : lv_has ls 2 [(0, .ref (o)), (1, .int (nI p))] := hl
  refine lv_aload_n hx hb dX11_planned_0 rfl (lv_at hl 0 rfl) ?_
  refine lv_iload_n hx hb dX11_planned_1 rfl (lv_at hl 1 rfl) ?_
  refine k_i hH (k_runV (rest := []) C0 hH (cM_lays l G A _ o ad m hM p hw hp) mv_X11_lays ml_X11_173 ci_15 hM.1 rfl ⟨by decide, by decide⟩ hl.1 rfl (Nat.le_of_ble_eq_true rfl) dX11_planned_2 (by simp)) (fun r_1 h H locs hp hH => ?_)
  obtain ⟨er_1, hM⟩ := hp
  subst er_1
  refine lv_if_eq (tgt := 24) hx hb dX11_planned_5 (by decide) (fun c5_2 => ?_) (fun c5_2 => ?_)
  · replace c5_2 := bi_0.mp c5_2
    refine lv_iconst (v := (-1)) hx hb dX11_planned_24 (by decide) ?_
    have eR : (-1) = fPlan m p := by simp [fPlan, bi, c5_2]
    have eM : fLays m p = (fLays m p) := by simp [fPlan, bi, c5_2]
    exact e_I C0 hr hH ⟨eR, by rw [eM]; exact hM⟩ (Nat.le_refl _) (Nat.le_refl _) dX11_planned_25
  · replace c5_2 := bi_n0.mp c5_2
    refine lv_aload_n hx hb dX11_planned_8 rfl (lv_at hl 0 rfl) ?_
    refine m_int C0 hH hM 43 (by decide) (by decide) fl_X11_157 (v := (fLays m p) 43 0) rfl dX11_planned_9 ?_
    refine lv_if_le (tgt := 24) hx hb dX11_planned_12 (by decide) (fun c12_3 => ?_) (fun c12_3 => ?_)
    · refine lv_iconst (v := (-1)) hx hb dX11_planned_24 (by decide) ?_
      have eR : (-1) = fPlan m p := by simp [fPlan, bi, c5_2, c12_3, Int32.not_lt.mpr c12_3]
      have eM : fLays m p = (fLays m p) := by simp [fPlan, bi, c5_2, c12_3, Int32.not_lt.mpr c12_3]
      exact e_I C0 hr hH ⟨eR, by rw [eM]; exact hM⟩ (Nat.le_refl _) (Nat.le_refl _) dX11_planned_25
    · refine lv_aload_n hx hb dX11_planned_15 rfl (lv_at hl 0 rfl) ?_
      refine m_arr C0 hH hM 33 (by decide) fl_X11_111 dX11_planned_16 ?_
      refine lv_iconst (v := 0) hx hb dX11_planned_19 (by decide) ?_
      refine m_ldI C0 hH hM 33 (by decide) rfl (n := 6) rfl (ix := 0) (by decide) (by unfold vp_in; decide) (v := (fLays m p) 33 0) rfl dX11_planned_20 ?_
      refine lv_goto (tgt := 25) hx hb dX11_planned_21 (by decide) ?_
      have eR : (fLays m p) 33 0 = fPlan m p := by simp [fPlan, bi, c5_2, c12_3, Int32.not_le.mp c12_3]
      have eM : fLays m p = (fLays m p) := by simp [fPlan, bi, c5_2, c12_3, Int32.not_le.mp c12_3]
      exact e_I C0 hr hH ⟨eR, by rw [eM]; exact hM⟩ (Nat.le_refl _) (Nat.le_refl _) dX11_planned_25
set_option maxHeartbeats 4000000 in
set_option maxRecDepth 100000 in
theorem cM_plans (l : Launch) (G : GT) (A : Nat → Prop) (h : AH) (o : Nat) (ad : Nat → Nat) (m : MM) (hM : RM h o ad m) (p : Nat) (hw : WFa m) (hp : p < npN m) : cmV l G A yX11_plans cX11_plans 2 11 288 0 0 [.ref (o), .int (nI p)] h (fun h' => RM h' o ad (fPlans m p)) := by
  refine cm_of "RoutepostModel" rfl (by decide) (Nat.le_of_ble_eq_true rfl) ?_
  intro pr e s m9 below meth c C0 hr hname hH ls hl
  obtain ⟨hx, hb, hml, hown, hts, hK, hA, -⟩ := id C0
  have hl : lv_has ls 2 [(0, .ref (o)), (1, .int (nI p))] := hl
  have hnp := hw.np
  refine lv_aload_n hx hb dX11_plans_0 rfl (lv_at hl 0 rfl) ?_
  refine m_arr C0 hH hM 19 (by decide) fl_X11_68 dX11_plans_1 ?_
  refine lv_iload_n hx hb dX11_plans_4 rfl (lv_at hl 1 rfl) ?_
  refine lv_aload_n hx hb dX11_plans_5 rfl (lv_at hl 0 rfl) ?_
  refine lv_iload_n hx hb dX11_plans_6 rfl (lv_at hl 1 rfl) ?_
  refine k_i hH (k_runV (rest := [.int (nI p), .ref (ad 19)]) C0 hH (cM_planned l G A _ o ad m hM p hw hp) mv_X11_planned ml_X11_177 ci_15 hM.1 rfl ⟨by decide, by decide⟩ hl.1 rfl (Nat.le_of_ble_eq_true rfl) dX11_plans_7 (by simp)) (fun r_1 h H locs hp hH => ?_)
  obtain ⟨er_1, hM⟩ := hp
  subst er_1
  refine m_stI C0 hH hM 19 (by decide) rfl (n := 40) rfl (ix := p) (nI_clamp (by omega)) (by first | assumption | exact vp_in_nI (by omega) (by omega)) dX11_plans_10 (fun h H locs hH hM => ?_)
  have eM : fPlans m p = (up (fLays m p) 19 p (fPlan m p)) := rfl
  exact e_V C0 hr hH (by rw [eM]; exact hM) (Nat.le_refl _) (Nat.le_refl _) dX11_plans_11
set_option maxHeartbeats 4000000 in
set_option maxRecDepth 100000 in
theorem cM_plansAll (l : Launch) (G : GT) (A : Nat → Prop) (h : AH) (o : Nat) (ad : Nat → Nat) (m : MM) (hM : RM h o ad m) (hw : WFa m) : cmV l G A yX11_plansAll cX11_plansAll 2 12 309 0 0 [.ref (o)] h (fun h' => RM h' o ad (fPlansAll m)) := by
  refine cm_of "RoutepostModel" rfl (by decide) (Nat.le_of_ble_eq_true rfl) ?_
  intro pr e s m9 below meth c C0 hr hname hH ls hl
  obtain ⟨hx, hb, hml, hown, hts, hK, hA, -⟩ := id C0
  have hl : lv_has ls 2 [(0, .ref (o))] := hl
  have hnp := hw.np
  refine lv_iconst (v := 0) hx hb dX11_plansAll_0 (by decide) ?_
  refine lv_istore_n (lv' := [(1, .int (0)), (0, .ref (o))]) hx hb dX11_plansAll_1 rfl hl (by decide) rfl (fun ls hl => ?_)
  have K : ∀ (k i : Nat) (M : MM), i + k = npN m → plAll k i M = fPlansAll m → WFa M → npN M = npN m → ∀ (h : AH) (H : Heap) (locs : List Loc) (hH : HS G.1 G.2.1 A s.heap h H locs) (hM : RM h o ad M) (ls : Array Slot), lv_has ls 2 [(1, .int (nI i)), (0, .ref (o))] → W pr l e (rmm 12 309 0 0) s m9 ([.ref (o)] : List Value).toArray below meth c H locs 0 0 (QV below G A (fun h' => RM h' o ad (fPlansAll m)) ([.ref (o)] : List Value).toArray s 0 0) (F0 m9 2 ls []) := by
    intro k
    induction k with
    | zero =>
      intro i M hik hT hwM hnM h H locs hH hM ls hl
      have hB : M 39 0 = nI (npN m) := by rw [← hnM]; exact hwM.np.1
      refine lv_iload_n hx hb dX11_plansAll_2 rfl (lv_at hl 0 rfl) ?_
      refine lv_aload_n hx hb dX11_plansAll_3 rfl (lv_at hl 1 rfl) ?_
      refine m_int C0 hH hM 39 (by decide) (by decide) fl_X11_144 (v := M 39 0) rfl dX11_plansAll_4 ?_
      refine lv_icmp_ge (tgt := 32) hx hb dX11_plansAll_7 (by decide) (fun c7_1 => ?_) (fun c7_1 => ?_)
      · have eM : fPlansAll m = M := hT.symm
        exact e_V C0 hr hH (by rw [eM]; exact hM) (Nat.le_refl _) (Nat.le_refl _) dX11_plansAll_32
      · exact absurd (by rw [hB]; exact nI_le (by omega) (by omega)) c7_1
    | succ k ih =>
      intro i M hik hT hwM hnM h H locs hH hM ls hl
      have hB : M 39 0 = nI (npN m) := by rw [← hnM]; exact hwM.np.1
      refine lv_iload_n hx hb dX11_plansAll_2 rfl (lv_at hl 0 rfl) ?_
      refine lv_aload_n hx hb dX11_plansAll_3 rfl (lv_at hl 1 rfl) ?_
      refine m_int C0 hH hM 39 (by decide) (by decide) fl_X11_144 (v := M 39 0) rfl dX11_plansAll_4 ?_
      refine lv_icmp_ge (tgt := 32) hx hb dX11_plansAll_7 (by decide) (fun c7_2 => ?_) (fun c7_2 => ?_)
      · exact absurd c7_2 (by rw [hB]; exact nI_ge (by omega) (by omega))
      · have hp : i < npN M := by omega
        refine lv_aload_n hx hb dX11_plansAll_10 rfl (lv_at hl 1 rfl) ?_
        refine m_arr C0 hH hM 28 (by decide) fl_X11_95 dX11_plansAll_11 ?_
        refine lv_iload_n hx hb dX11_plansAll_14 rfl (lv_at hl 0 rfl) ?_
        refine m_ldC C0 hH hM 28 (by decide) rfl (n := 40) rfl (ix := i) (nI_clamp (by omega)) (by first | assumption | exact vp_in_nI (by omega) (by omega)) (v := M 28 i) rfl dX11_plansAll_15 ?_
        refine lv_bipush (v := 115) hx hb dX11_plansAll_16 (by decide) ?_
        refine lv_icmp_ne (tgt := 26) hx hb dX11_plansAll_18 (by decide) (fun c18_3 => ?_) (fun c18_3 => ?_)
        · refine lv_iinc (v := nI (i + 1)) (lv' := [(1, .int (nI (i + 1))), (0, .ref (o))]) hx hb dX11_plansAll_26 hl (k := 0) rfl (by rw [← nI_1]; rfl) (by decide) rfl (fun ls hl => ?_)
          refine lv_goto (tgt := 2) hx hb dX11_plansAll_29 (by decide) ?_
          exact ih (i + 1) M (by omega) (by rw [← hT]; simp [plAll, c7_2, Int32.not_le.mp c7_2, eq_false c18_3]) hwM hnM _ _ _ hH hM ls (lv_sub hl [0, 1] rfl)
        · refine lv_aload_n hx hb dX11_plansAll_21 rfl (lv_at hl 1 rfl) ?_
          refine lv_iload_n hx hb dX11_plansAll_22 rfl (lv_at hl 0 rfl) ?_
          refine k_v hH (k_runV (rest := []) C0 hH (cM_plans l G A _ o ad M hM i hwM hp) mv_X11_plans ml_X11_181 ci_15 hM.1 rfl ⟨by decide, by decide⟩ hl.1 rfl (Nat.le_of_ble_eq_true rfl) dX11_plansAll_23 (by simp)) (fun h H locs hp hH => ?_)
          have hM := hp
          refine lv_iinc (v := nI (i + 1)) (lv' := [(1, .int (nI (i + 1))), (0, .ref (o))]) hx hb dX11_plansAll_26 hl (k := 0) rfl (by rw [← nI_1]; rfl) (by decide) rfl (fun ls hl => ?_)
          refine lv_goto (tgt := 2) hx hb dX11_plansAll_29 (by decide) ?_
          exact ih (i + 1) (fPlans M i) (by omega) (by rw [← hT]; simp [plAll, c7_2, Int32.not_le.mp c7_2, eq_true c18_3]) (hwM.plans i) (by rw [npN_plans]; exact hnM) _ _ _ hH hM ls (lv_sub hl [0, 1] rfl)
  exact K (npN m) 0 m (by omega) (rfl) hw rfl _ _ _ hH hM ls (lv_sub hl [0, 1] rfl)
