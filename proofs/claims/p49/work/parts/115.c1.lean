set_option maxHeartbeats 800000 in
set_option maxRecDepth 100000 in
theorem cC_X3_readyFrom (l : Launch) (G : GT) (A : Nat → Prop) (h : AH) (b : BA) (u : MM) (hR : RC G.2.2.1 h b u) (hw : WFc u) (x : Nat) (sc now : Int32) (hx0 : x < nhN u) : cmI l G A yX3_readyFrom cX3_readyFrom 3 (Option.some FieldType.int) 1 21 0 0 [.ref (b 7 x), .int (sc), .int (now)] h (fun r h' => r = cRdy u x sc now ∧ h' = h) := by
  refine cm_of "Routepost$Hub" rfl (by decide) (Nat.le_of_ble_eq_true rfl) ?_
  intro pr e s m9 below meth c C0 hr hname hH ls hl
  obtain ⟨hx, hb, hml, hown, hts, hK, hA, -⟩ := id C0
  have hl : lv_has ls 3 [(0, .ref (b 7 x)), (1, .int (sc)), (2, .int (now))] := hl
  have hc7 := hw.cnt6 7
  have hc8 := hw.cnt6 8
  have hc9 := hw.cnt6 9
  refine lv_iload_n hx hb dX3_readyFrom_0 rfl (lv_at hl 2 rfl) ?_
  refine lv_iconst (v := 1) hx hb dX3_readyFrom_1 (by decide) ?_
  refine lv_iadd hx hb dX3_readyFrom_2 ?_
  refine lv_iload_n hx hb dX3_readyFrom_3 rfl (lv_at hl 1 rfl) ?_
  refine lv_aload_n hx hb dX3_readyFrom_4 rfl (lv_at hl 0 rfl) ?_
  refine c_getI C0 hH hR ci_7 (i := x) (j := 2) hx0 rfl (by decide) rfl fl_X3_16 (v := u 1 x) rfl dX3_readyFrom_5 ?_
  refine lv_iadd hx hb dX3_readyFrom_8 ?_
  refine o_mmax C0 ml_X3_19 hl.1 dX3_readyFrom_9 (Nat.le_of_ble_eq_true rfl) (Nat.le_of_ble_eq_true rfl) (by simp) ?_
  have eR : (mx (now + 1) (sc + (u 1 x)) : Int32) = cRdy u x sc now := rfl
  exact e_I C0 hr hH ⟨eR, rfl⟩ (Nat.le_of_ble_eq_true rfl) (Nat.le_of_ble_eq_true rfl) dX3_readyFrom_12
set_option maxHeartbeats 800000 in
set_option maxRecDepth 100000 in
theorem cC_X4_departureFrom (l : Launch) (G : GT) (A : Nat → Prop) (h : AH) (b : BA) (u : MM) (hR : RC G.2.2.1 h b u) (hw : WFc u) (l0 : Nat) (e0 : Int32) (hl0 : l0 < nlN u) : cmI l G A yX4_departureFrom cX4_departureFrom 3 (Option.some FieldType.int) 0 0 0 0 [.ref (b 8 l0), .int (e0)] h (fun r h' => r = cDep u l0 e0 ∧ h' = h) := by
  refine cm_of "Routepost$Line" rfl (by decide) (Nat.le_of_ble_eq_true rfl) ?_
  intro pr e s m9 below meth c C0 hr hname hH ls hl
  obtain ⟨hx, hb, hml, hown, hts, hK, hA, -⟩ := id C0
  have hl : lv_has ls 3 [(0, .ref (b 8 l0)), (1, .int (e0))] := hl
  have hc7 := hw.cnt6 7
  have hc8 := hw.cnt6 8
  have hc9 := hw.cnt6 9
  refine lv_iload_n hx hb dX4_departureFrom_0 rfl (lv_at hl 1 rfl) ?_
  refine lv_aload_n hx hb dX4_departureFrom_1 rfl (lv_at hl 0 rfl) ?_
  refine c_getI C0 hH hR ci_8 (i := l0) (j := 5) hl0 rfl (by decide) rfl fl_X4_34 (v := u 4 l0) rfl dX4_departureFrom_2 ?_
  refine lv_icmp_le (tgt := 15) hx hb dX4_departureFrom_5 (by decide) (fun c5_1 => ?_) (fun c5_1 => ?_)
  · refine lv_aload_n hx hb dX4_departureFrom_15 rfl (lv_at hl 0 rfl) ?_
    refine c_getI C0 hH hR ci_8 (i := l0) (j := 5) hl0 rfl (by decide) rfl fl_X4_34 (v := u 4 l0) rfl dX4_departureFrom_16 ?_
    have eR : (u 4 l0 : Int32) = cDep u l0 e0 := by simp [cDep, cLateBy, c5_1, Int32.not_lt.mpr c5_1]
    exact e_I C0 hr hH ⟨eR, rfl⟩ (Nat.le_of_ble_eq_true rfl) (Nat.le_of_ble_eq_true rfl) dX4_departureFrom_19
  · refine lv_aload_n hx hb dX4_departureFrom_8 rfl (lv_at hl 0 rfl) ?_
    refine c_getI C0 hH hR ci_8 (i := l0) (j := 6) hl0 rfl (by decide) rfl fl_X4_37 (v := u 5 l0) rfl dX4_departureFrom_9 ?_
    refine lv_if_gt (tgt := 20) hx hb dX4_departureFrom_12 (by decide) (fun c12_2 => ?_) (fun c12_2 => ?_)
    · refine lv_iload_n hx hb dX4_departureFrom_20 rfl (lv_at hl 1 rfl) ?_
      refine lv_aload_n hx hb dX4_departureFrom_21 rfl (lv_at hl 0 rfl) ?_
      refine c_getI C0 hH hR ci_8 (i := l0) (j := 5) hl0 rfl (by decide) rfl fl_X4_34 (v := u 4 l0) rfl dX4_departureFrom_22 ?_
      refine lv_isub hx hb dX4_departureFrom_25 ?_
      refine lv_aload_n hx hb dX4_departureFrom_26 rfl (lv_at hl 0 rfl) ?_
      refine c_getI C0 hH hR ci_8 (i := l0) (j := 6) hl0 rfl (by decide) rfl fl_X4_37 (v := u 5 l0) rfl dX4_departureFrom_27 ?_
      refine lv_irem hx hb dX4_departureFrom_30 (fun z => by have := c12_2; rw [z] at this; exact absurd this (by decide)) ?_
      refine lv_istore_n (lv' := [(2, .int ((e0 - (u 4 l0)) - (e0 - (u 4 l0)) / (u 5 l0) * (u 5 l0))), (0, .ref (b 8 l0)), (1, .int (e0))]) hx hb dX4_departureFrom_31 rfl hl (by decide) rfl (fun ls hl => ?_)
      refine lv_iload_n hx hb dX4_departureFrom_32 rfl (lv_at hl 0 rfl) ?_
      refine lv_if_ne (tgt := 40) hx hb dX4_departureFrom_33 (by decide) (fun c33_3 => ?_) (fun c33_3 => ?_)
      · refine lv_iload_n hx hb dX4_departureFrom_40 rfl (lv_at hl 2 rfl) ?_
        refine lv_iload_n hx hb dX4_departureFrom_41 rfl (lv_at hl 0 rfl) ?_
        refine lv_isub hx hb dX4_departureFrom_42 ?_
        refine lv_aload_n hx hb dX4_departureFrom_43 rfl (lv_at hl 1 rfl) ?_
        refine c_getI C0 hH hR ci_8 (i := l0) (j := 6) hl0 rfl (by decide) rfl fl_X4_37 (v := u 5 l0) rfl dX4_departureFrom_44 ?_
        refine lv_iadd hx hb dX4_departureFrom_47 ?_
        have eR : ((e0 - ((e0 - (u 4 l0)) - (e0 - (u 4 l0)) / (u 5 l0) * (u 5 l0))) + (u 5 l0) : Int32) = cDep u l0 e0 := by simp [cDep, cLateBy, c5_1, Int32.not_le.mp c5_1, c12_2, Int32.not_le.mpr c12_2, eq_false c33_3]
        exact e_I C0 hr hH ⟨eR, rfl⟩ (Nat.le_of_ble_eq_true rfl) (Nat.le_of_ble_eq_true rfl) dX4_departureFrom_48
      · refine lv_iload_n hx hb dX4_departureFrom_36 rfl (lv_at hl 2 rfl) ?_
        refine lv_goto (tgt := 48) hx hb dX4_departureFrom_37 (by decide) ?_
        have eR : (e0 : Int32) = cDep u l0 e0 := by simp [cDep, cLateBy, c5_1, Int32.not_le.mp c5_1, c12_2, Int32.not_le.mpr c12_2, eq_true c33_3]
        exact e_I C0 hr hH ⟨eR, rfl⟩ (Nat.le_of_ble_eq_true rfl) (Nat.le_of_ble_eq_true rfl) dX4_departureFrom_48
    · refine lv_aload_n hx hb dX4_departureFrom_15 rfl (lv_at hl 0 rfl) ?_
      refine c_getI C0 hH hR ci_8 (i := l0) (j := 5) hl0 rfl (by decide) rfl fl_X4_34 (v := u 4 l0) rfl dX4_departureFrom_16 ?_
      have eR : (u 4 l0 : Int32) = cDep u l0 e0 := by simp [cDep, cLateBy, c5_1, Int32.not_le.mp c5_1, c12_2, Int32.not_lt.mp c12_2]
      exact e_I C0 hr hH ⟨eR, rfl⟩ (Nat.le_of_ble_eq_true rfl) (Nat.le_of_ble_eq_true rfl) dX4_departureFrom_19
set_option maxHeartbeats 800000 in
set_option maxRecDepth 100000 in
theorem cC_X4_leavesIn (l : Launch) (G : GT) (A : Nat → Prop) (h : AH) (b : BA) (u : MM) (hR : RC G.2.2.1 h b u) (hw : WFc u) (l0 : Nat) (now : Int32) (hl0 : l0 < nlN u) : cmI l G A yX4_leavesIn cX4_leavesIn 2 (Option.some FieldType.boolean) 1 22 0 0 [.ref (b 8 l0), .int (now)] h (fun r h' => r = cLvn u l0 now ∧ h' = h) := by
  refine cm_of "Routepost$Line" rfl (by decide) (Nat.le_of_ble_eq_true rfl) ?_
  intro pr e s m9 below meth c C0 hr hname hH ls hl
  obtain ⟨hx, hb, hml, hown, hts, hK, hA, -⟩ := id C0
  have hl : lv_has ls 2 [(0, .ref (b 8 l0)), (1, .int (now))] := hl
  have hc7 := hw.cnt6 7
  have hc8 := hw.cnt6 8
  have hc9 := hw.cnt6 9
  refine lv_aload_n hx hb dX4_leavesIn_0 rfl (lv_at hl 0 rfl) ?_
  refine c_getI C0 hH hR ci_8 (i := l0) (j := 8) hl0 rfl (by decide) rfl fl_X4_30 (v := u 108 l0) rfl dX4_leavesIn_1 ?_
  refine lv_if_eq (tgt := 20) hx hb dX4_leavesIn_4 (by decide) (fun c4_1 => ?_) (fun c4_1 => ?_)
  · refine lv_iconst (v := 0) hx hb dX4_leavesIn_20 (by decide) ?_
    have eR : (0 : Int32) = cLvn u l0 now := by simp [cLvn, bi, eq_true c4_1]
    exact e_Z C0 hr (by decide) hH ⟨eR, rfl⟩ (Nat.le_of_ble_eq_true rfl) (Nat.le_of_ble_eq_true rfl) dX4_leavesIn_21
  · refine lv_aload_n hx hb dX4_leavesIn_7 rfl (lv_at hl 0 rfl) ?_
    refine lv_iload_n hx hb dX4_leavesIn_8 rfl (lv_at hl 1 rfl) ?_
    refine k_i hH (k_runV (rest := []) C0 hH (cC_X4_departureFrom l G A _ b _ hR hw l0 now hl0) mv_X4_departureFrom ml_X4_43 ci_8 (hR.kind (K := 8) (i := l0) hl0) rfl ⟨Nat.le_of_ble_eq_true rfl, Nat.le_of_ble_eq_true rfl⟩ hl.1 rfl (Nat.le_of_ble_eq_true rfl) dX4_leavesIn_9 (by simp)) (fun r_2 h1 H locs hp hH => ?_)
    obtain ⟨er_2, eh⟩ := hp
    rw [eh] at hH
    clear eh
    subst er_2
    refine lv_iload_n hx hb dX4_leavesIn_12 rfl (lv_at hl 1 rfl) ?_
    refine lv_icmp_ne (tgt := 20) hx hb dX4_leavesIn_13 (by decide) (fun c13_3 => ?_) (fun c13_3 => ?_)
    · refine lv_iconst (v := 0) hx hb dX4_leavesIn_20 (by decide) ?_
      have eR : (0 : Int32) = cLvn u l0 now := by simp [cLvn, bi, eq_false c4_1, eq_false c13_3]
      exact e_Z C0 hr (by decide) hH ⟨eR, rfl⟩ (Nat.le_of_ble_eq_true rfl) (Nat.le_of_ble_eq_true rfl) dX4_leavesIn_21
    · refine lv_iconst (v := 1) hx hb dX4_leavesIn_16 (by decide) ?_
      refine lv_goto (tgt := 21) hx hb dX4_leavesIn_17 (by decide) ?_
      have eR : (1 : Int32) = cLvn u l0 now := by simp [cLvn, bi, eq_false c4_1, eq_true c13_3]
      exact e_Z C0 hr (by decide) hH ⟨eR, rfl⟩ (Nat.le_of_ble_eq_true rfl) (Nat.le_of_ble_eq_true rfl) dX4_leavesIn_21
set_option maxHeartbeats 800000 in
set_option maxRecDepth 100000 in
theorem cC_X5_waitsFor (l : Launch) (G : GT) (A : Nat → Prop) (h : AH) (b : BA) (u : MM) (hR : RC G.2.2.1 h b u) (hw : WFc u) (p l0 : Nat) (hp0 : p < npN u) (hl0 : l0 < nlN u) : cmI l G A yX5_waitsFor cX5_waitsFor 2 (Option.some FieldType.boolean) 0 0 0 0 [.ref (b 9 p), .ref (b 8 l0)] h (fun r h' => r = cWf u p (nI l0) ∧ h' = h) := by
  refine cm_of "Routepost$Parcel" rfl (by decide) (Nat.le_of_ble_eq_true rfl) ?_
  intro pr e s m9 below meth c C0 hr hname hH ls hl
  obtain ⟨hx, hb, hml, hown, hts, hK, hA, -⟩ := id C0
  have hl : lv_has ls 2 [(0, .ref (b 9 p)), (1, .ref (b 8 l0))] := hl
  have hc7 := hw.cnt6 7
  have hc8 := hw.cnt6 8
  have hc9 := hw.cnt6 9
  refine lv_aload_n hx hb dX5_waitsFor_0 rfl (lv_at hl 0 rfl) ?_
  refine c_getI C0 hH hR ci_9 (i := p) (j := 8) hp0 rfl (by decide) rfl fl_X5_48 (v := u 28 p) rfl dX5_waitsFor_1 ?_
  refine lv_bipush (v := 115) hx hb dX5_waitsFor_4 (by decide) ?_
  refine lv_icmp_ne (tgt := 21) hx hb dX5_waitsFor_6 (by decide) (fun c6_1 => ?_) (fun c6_1 => ?_)
  · refine lv_iconst (v := 0) hx hb dX5_waitsFor_21 (by decide) ?_
    have eR : (0 : Int32) = cWf u p (nI l0) := by simp [cWf, bi, eq_false c6_1]
    exact e_Z C0 hr (by decide) hH ⟨eR, rfl⟩ (Nat.le_of_ble_eq_true rfl) (Nat.le_of_ble_eq_true rfl) dX5_waitsFor_22
  · refine lv_aload_n hx hb dX5_waitsFor_9 rfl (lv_at hl 0 rfl) ?_
    refine c_getR C0 hH hR ci_9 (i := p) (j := 10) hp0 rfl (by decide) rfl fl_X5_55 (v := dec b 8 (u 19 p)) (show dec b 8 (u 19 p) = dec b 8 (u 19 p) from congrArg _ rfl) dX5_waitsFor_10 ?_
    refine lv_aload_n hx hb dX5_waitsFor_13 rfl (lv_at hl 1 rfl) ?_
    refine lv_acmp_ne (rx := dec b 8 (u 19 p)) (ry := some (b 8 l0)) (tgt := 21) hx hb dX5_waitsFor_14 (by decide) (fun c14_2 => ?_) (fun c14_2 => ?_)
    · rw [hR.acQ hw (T := 8) (by omega) (hw.rg (k := 19) (by decide) p) hl0] at c14_2
      refine lv_iconst (v := 0) hx hb dX5_waitsFor_21 (by decide) ?_
      have eR : (0 : Int32) = cWf u p (nI l0) := by simp [cWf, bi, eq_true c6_1, eq_false c14_2]
      exact e_Z C0 hr (by decide) hH ⟨eR, rfl⟩ (Nat.le_of_ble_eq_true rfl) (Nat.le_of_ble_eq_true rfl) dX5_waitsFor_22
    · rw [hR.acQ hw (T := 8) (by omega) (hw.rg (k := 19) (by decide) p) hl0] at c14_2
      refine lv_iconst (v := 1) hx hb dX5_waitsFor_17 (by decide) ?_
      refine lv_goto (tgt := 22) hx hb dX5_waitsFor_18 (by decide) ?_
      have eR : (1 : Int32) = cWf u p (nI l0) := by simp [cWf, bi, eq_true c6_1, eq_true c14_2]
      exact e_Z C0 hr (by decide) hH ⟨eR, rfl⟩ (Nat.le_of_ble_eq_true rfl) (Nat.le_of_ble_eq_true rfl) dX5_waitsFor_22
set_option maxHeartbeats 800000 in
set_option maxRecDepth 100000 in
theorem cC_X5_missesPromise (l : Launch) (G : GT) (A : Nat → Prop) (h : AH) (b : BA) (u : MM) (hR : RC G.2.2.1 h b u) (hw : WFc u) (p : Nat) (now : Int32) (hp0 : p < npN u) : cmI l G A yX5_missesPromise cX5_missesPromise 2 (Option.some FieldType.boolean) 0 0 0 0 [.ref (b 9 p), .int (now)] h (fun r h' => r = cMiss u p now ∧ h' = h) := by
  refine cm_of "Routepost$Parcel" rfl (by decide) (Nat.le_of_ble_eq_true rfl) ?_
  intro pr e s m9 below meth c C0 hr hname hH ls hl
  obtain ⟨hx, hb, hml, hown, hts, hK, hA, -⟩ := id C0
  have hl : lv_has ls 2 [(0, .ref (b 9 p)), (1, .int (now))] := hl
  have hc7 := hw.cnt6 7
  have hc8 := hw.cnt6 8
  have hc9 := hw.cnt6 9
  refine lv_aload_n hx hb dX5_missesPromise_0 rfl (lv_at hl 0 rfl) ?_
  refine c_getI C0 hH hR ci_9 (i := p) (j := 15) hp0 rfl (by decide) rfl fl_X5_58 (v := u 20 p) rfl dX5_missesPromise_1 ?_
  refine lv_iconst (v := (-1)) hx hb dX5_missesPromise_4 (by decide) ?_
  refine lv_icmp_ne (tgt := 10) hx hb dX5_missesPromise_5 (by decide) (fun c5_1 => ?_) (fun c5_1 => ?_)
  · refine lv_aload_n hx hb dX5_missesPromise_10 rfl (lv_at hl 0 rfl) ?_
    refine c_getI C0 hH hR ci_9 (i := p) (j := 15) hp0 rfl (by decide) rfl fl_X5_58 (v := u 20 p) rfl dX5_missesPromise_11 ?_
    refine lv_aload_n hx hb dX5_missesPromise_14 rfl (lv_at hl 0 rfl) ?_
    refine c_getI C0 hH hR ci_9 (i := p) (j := 13) hp0 rfl (by decide) rfl fl_X5_41 (v := u 21 p) rfl dX5_missesPromise_15 ?_
    refine lv_iconst (v := (-1)) hx hb dX5_missesPromise_18 (by decide) ?_
    refine lv_icmp_ne (tgt := 26) hx hb dX5_missesPromise_19 (by decide) (fun c19_2 => ?_) (fun c19_2 => ?_)
    · refine lv_aload_n hx hb dX5_missesPromise_26 rfl (lv_at hl 0 rfl) ?_
      refine c_getI C0 hH hR ci_9 (i := p) (j := 13) hp0 rfl (by decide) rfl fl_X5_41 (v := u 21 p) rfl dX5_missesPromise_27 ?_
      refine lv_icmp_ge (tgt := 37) hx hb dX5_missesPromise_30 (by decide) (fun c30_3 => ?_) (fun c30_3 => ?_)
      · refine lv_iconst (v := 0) hx hb dX5_missesPromise_37 (by decide) ?_
        have eR : (0 : Int32) = cMiss u p now := by simp [cMiss, bi, eq_false c5_1, eq_false c19_2, c30_3, Int32.not_lt.mpr c30_3]
        exact e_Z C0 hr (by decide) hH ⟨eR, rfl⟩ (Nat.le_of_ble_eq_true rfl) (Nat.le_of_ble_eq_true rfl) dX5_missesPromise_38
      · refine lv_iconst (v := 1) hx hb dX5_missesPromise_33 (by decide) ?_
        refine lv_goto (tgt := 38) hx hb dX5_missesPromise_34 (by decide) ?_
        have eR : (1 : Int32) = cMiss u p now := by simp [cMiss, bi, eq_false c5_1, eq_false c19_2, c30_3, Int32.not_le.mp c30_3]
        exact e_Z C0 hr (by decide) hH ⟨eR, rfl⟩ (Nat.le_of_ble_eq_true rfl) (Nat.le_of_ble_eq_true rfl) dX5_missesPromise_38
    · refine lv_iload_n hx hb dX5_missesPromise_22 rfl (lv_at hl 1 rfl) ?_
      refine lv_goto (tgt := 30) hx hb dX5_missesPromise_23 (by decide) ?_
      refine lv_icmp_ge (tgt := 37) hx hb dX5_missesPromise_30 (by decide) (fun c30_4 => ?_) (fun c30_4 => ?_)
      · refine lv_iconst (v := 0) hx hb dX5_missesPromise_37 (by decide) ?_
        have eR : (0 : Int32) = cMiss u p now := by simp [cMiss, bi, eq_false c5_1, eq_true c19_2, c30_4, Int32.not_lt.mpr c30_4]
        exact e_Z C0 hr (by decide) hH ⟨eR, rfl⟩ (Nat.le_of_ble_eq_true rfl) (Nat.le_of_ble_eq_true rfl) dX5_missesPromise_38
      · refine lv_iconst (v := 1) hx hb dX5_missesPromise_33 (by decide) ?_
        refine lv_goto (tgt := 38) hx hb dX5_missesPromise_34 (by decide) ?_
        have eR : (1 : Int32) = cMiss u p now := by simp [cMiss, bi, eq_false c5_1, eq_true c19_2, c30_4, Int32.not_le.mp c30_4]
        exact e_Z C0 hr (by decide) hH ⟨eR, rfl⟩ (Nat.le_of_ble_eq_true rfl) (Nat.le_of_ble_eq_true rfl) dX5_missesPromise_38
  · refine lv_iconst (v := 0) hx hb dX5_missesPromise_8 (by decide) ?_
    have eR : (0 : Int32) = cMiss u p now := by simp [cMiss, bi, eq_true c5_1]
    exact e_Z C0 hr (by decide) hH ⟨eR, rfl⟩ (Nat.le_of_ble_eq_true rfl) (Nat.le_of_ble_eq_true rfl) dX5_missesPromise_9
set_option maxHeartbeats 800000 in
set_option maxRecDepth 100000 in
theorem cC_X5_attemptsAllowed (l : Launch) (G : GT) (A : Nat → Prop) (h : AH) (b : BA) (u : MM) (hR : RC G.2.2.1 h b u) (hw : WFc u) (p : Nat) (hp0 : p < npN u) : cmI l G A yX5_attemptsAllowed cX5_attemptsAllowed 1 (Option.some FieldType.int) 0 0 0 0 [.ref (b 9 p)] h (fun r h' => r = 3 - u 12 p ∧ h' = h) := by
  refine cm_of "Routepost$Parcel" rfl (by decide) (Nat.le_of_ble_eq_true rfl) ?_
  intro pr e s m9 below meth c C0 hr hname hH ls hl
  obtain ⟨hx, hb, hml, hown, hts, hK, hA, -⟩ := id C0
  have hl : lv_has ls 1 [(0, .ref (b 9 p))] := hl
  have hc7 := hw.cnt6 7
  have hc8 := hw.cnt6 8
  have hc9 := hw.cnt6 9
  refine lv_iconst (v := 3) hx hb dX5_attemptsAllowed_0 (by decide) ?_
  refine lv_aload_n hx hb dX5_attemptsAllowed_1 rfl (lv_at hl 0 rfl) ?_
  refine c_getI C0 hH hR ci_9 (i := p) (j := 2) hp0 rfl (by decide) rfl fl_X5_18 (v := u 12 p) rfl dX5_attemptsAllowed_2 ?_
  refine lv_isub hx hb dX5_attemptsAllowed_5 ?_
  have eR : (3 - (u 12 p) : Int32) = 3 - u 12 p := rfl
  exact e_I C0 hr hH ⟨eR, rfl⟩ (Nat.le_of_ble_eq_true rfl) (Nat.le_of_ble_eq_true rfl) dX5_attemptsAllowed_6
set_option maxHeartbeats 800000 in
set_option maxRecDepth 100000 in
theorem cC_X5_loadsBefore (l : Launch) (G : GT) (A : Nat → Prop) (h : AH) (b : BA) (u : MM) (hR : RC G.2.2.1 h b u) (hw : WFc u) (p q : Nat) (hp0 : p < npN u) (hq0 : q < npN u) : cmI l G A yX5_loadsBefore cX5_loadsBefore 2 (Option.some FieldType.boolean) 0 0 0 0 [.ref (b 9 p), .ref (b 9 q)] h (fun r h' => r = cLb u p q ∧ h' = h) := by
  refine cm_of "Routepost$Parcel" rfl (by decide) (Nat.le_of_ble_eq_true rfl) ?_
  intro pr e s m9 below meth c C0 hr hname hH ls hl
  obtain ⟨hx, hb, hml, hown, hts, hK, hA, -⟩ := id C0
  have hl : lv_has ls 2 [(0, .ref (b 9 p)), (1, .ref (b 9 q))] := hl
  have hc7 := hw.cnt6 7
  have hc8 := hw.cnt6 8
  have hc9 := hw.cnt6 9
  refine lv_aload_n hx hb dX5_loadsBefore_0 rfl (lv_at hl 0 rfl) ?_
  refine c_getI C0 hH hR ci_9 (i := p) (j := 2) hp0 rfl (by decide) rfl fl_X5_18 (v := u 12 p) rfl dX5_loadsBefore_1 ?_
  refine lv_aload_n hx hb dX5_loadsBefore_4 rfl (lv_at hl 1 rfl) ?_
  refine c_getI C0 hH hR ci_9 (i := q) (j := 2) hq0 rfl (by decide) rfl fl_X5_18 (v := u 12 q) rfl dX5_loadsBefore_5 ?_
  refine lv_icmp_eq (tgt := 28) hx hb dX5_loadsBefore_8 (by decide) (fun c8_1 => ?_) (fun c8_1 => ?_)
  · refine lv_aload_n hx hb dX5_loadsBefore_28 rfl (lv_at hl 0 rfl) ?_
    refine c_getI C0 hH hR ci_9 (i := p) (j := 15) hp0 rfl (by decide) rfl fl_X5_58 (v := u 20 p) rfl dX5_loadsBefore_29 ?_
    refine lv_aload_n hx hb dX5_loadsBefore_32 rfl (lv_at hl 1 rfl) ?_
    refine c_getI C0 hH hR ci_9 (i := q) (j := 15) hq0 rfl (by decide) rfl fl_X5_58 (v := u 20 q) rfl dX5_loadsBefore_33 ?_
    refine lv_icmp_eq (tgt := 72) hx hb dX5_loadsBefore_36 (by decide) (fun c36_2 => ?_) (fun c36_2 => ?_)
    · refine lv_aload_n hx hb dX5_loadsBefore_72 rfl (lv_at hl 0 rfl) ?_
      refine c_getI C0 hH hR ci_9 (i := p) (j := 0) hp0 rfl (by decide) rfl fl_X5_9 (v := nI p) rfl dX5_loadsBefore_73 ?_
      refine lv_aload_n hx hb dX5_loadsBefore_76 rfl (lv_at hl 1 rfl) ?_
      refine c_getI C0 hH hR ci_9 (i := q) (j := 0) hq0 rfl (by decide) rfl fl_X5_9 (v := nI q) rfl dX5_loadsBefore_77 ?_
      refine lv_icmp_ge (tgt := 87) hx hb dX5_loadsBefore_80 (by decide) (fun c80_3 => ?_) (fun c80_3 => ?_)
      · refine lv_iconst (v := 0) hx hb dX5_loadsBefore_87 (by decide) ?_
        have eR : (0 : Int32) = cLb u p q := by simp [cLb, bi, eq_true c8_1, eq_true c36_2, c80_3, Int32.not_lt.mpr c80_3]
        exact e_Z C0 hr (by decide) hH ⟨eR, rfl⟩ (Nat.le_of_ble_eq_true rfl) (Nat.le_of_ble_eq_true rfl) dX5_loadsBefore_88
      · refine lv_iconst (v := 1) hx hb dX5_loadsBefore_83 (by decide) ?_
        refine lv_goto (tgt := 88) hx hb dX5_loadsBefore_84 (by decide) ?_
        have eR : (1 : Int32) = cLb u p q := by simp [cLb, bi, eq_true c8_1, eq_true c36_2, c80_3, Int32.not_le.mp c80_3]
        exact e_Z C0 hr (by decide) hH ⟨eR, rfl⟩ (Nat.le_of_ble_eq_true rfl) (Nat.le_of_ble_eq_true rfl) dX5_loadsBefore_88
    · refine lv_aload_n hx hb dX5_loadsBefore_39 rfl (lv_at hl 1 rfl) ?_
      refine c_getI C0 hH hR ci_9 (i := q) (j := 15) hq0 rfl (by decide) rfl fl_X5_58 (v := u 20 q) rfl dX5_loadsBefore_40 ?_
      refine lv_iconst (v := (-1)) hx hb dX5_loadsBefore_43 (by decide) ?_
      refine lv_icmp_eq (tgt := 66) hx hb dX5_loadsBefore_44 (by decide) (fun c44_4 => ?_) (fun c44_4 => ?_)
      · refine lv_iconst (v := 1) hx hb dX5_loadsBefore_66 (by decide) ?_
        refine lv_goto (tgt := 71) hx hb dX5_loadsBefore_67 (by decide) ?_
        have eR : (1 : Int32) = cLb u p q := by simp [cLb, bi, eq_true c8_1, eq_false c36_2, eq_true c44_4]
        exact e_Z C0 hr (by decide) hH ⟨eR, rfl⟩ (Nat.le_of_ble_eq_true rfl) (Nat.le_of_ble_eq_true rfl) dX5_loadsBefore_71
      · refine lv_aload_n hx hb dX5_loadsBefore_47 rfl (lv_at hl 0 rfl) ?_
        refine c_getI C0 hH hR ci_9 (i := p) (j := 15) hp0 rfl (by decide) rfl fl_X5_58 (v := u 20 p) rfl dX5_loadsBefore_48 ?_
        refine lv_iconst (v := (-1)) hx hb dX5_loadsBefore_51 (by decide) ?_
        refine lv_icmp_eq (tgt := 70) hx hb dX5_loadsBefore_52 (by decide) (fun c52_5 => ?_) (fun c52_5 => ?_)
        · refine lv_iconst (v := 0) hx hb dX5_loadsBefore_70 (by decide) ?_
          have eR : (0 : Int32) = cLb u p q := by simp [cLb, bi, eq_true c8_1, eq_false c36_2, eq_false c44_4, eq_true c52_5]
          exact e_Z C0 hr (by decide) hH ⟨eR, rfl⟩ (Nat.le_of_ble_eq_true rfl) (Nat.le_of_ble_eq_true rfl) dX5_loadsBefore_71
        · refine lv_aload_n hx hb dX5_loadsBefore_55 rfl (lv_at hl 0 rfl) ?_
          refine c_getI C0 hH hR ci_9 (i := p) (j := 15) hp0 rfl (by decide) rfl fl_X5_58 (v := u 20 p) rfl dX5_loadsBefore_56 ?_
          refine lv_aload_n hx hb dX5_loadsBefore_59 rfl (lv_at hl 1 rfl) ?_
          refine c_getI C0 hH hR ci_9 (i := q) (j := 15) hq0 rfl (by decide) rfl fl_X5_58 (v := u 20 q) rfl dX5_loadsBefore_60 ?_
          refine lv_icmp_ge (tgt := 70) hx hb dX5_loadsBefore_63 (by decide) (fun c63_6 => ?_) (fun c63_6 => ?_)
          · refine lv_iconst (v := 0) hx hb dX5_loadsBefore_70 (by decide) ?_
            have eR : (0 : Int32) = cLb u p q := by simp [cLb, bi, eq_true c8_1, eq_false c36_2, eq_false c44_4, eq_false c52_5, c63_6, Int32.not_lt.mpr c63_6]
            exact e_Z C0 hr (by decide) hH ⟨eR, rfl⟩ (Nat.le_of_ble_eq_true rfl) (Nat.le_of_ble_eq_true rfl) dX5_loadsBefore_71
          · refine lv_iconst (v := 1) hx hb dX5_loadsBefore_66 (by decide) ?_
            refine lv_goto (tgt := 71) hx hb dX5_loadsBefore_67 (by decide) ?_
            have eR : (1 : Int32) = cLb u p q := by simp [cLb, bi, eq_true c8_1, eq_false c36_2, eq_false c44_4, eq_false c52_5, c63_6, Int32.not_le.mp c63_6]
            exact e_Z C0 hr (by decide) hH ⟨eR, rfl⟩ (Nat.le_of_ble_eq_true rfl) (Nat.le_of_ble_eq_true rfl) dX5_loadsBefore_71
  · refine lv_aload_n hx hb dX5_loadsBefore_11 rfl (lv_at hl 0 rfl) ?_
    refine c_getI C0 hH hR ci_9 (i := p) (j := 2) hp0 rfl (by decide) rfl fl_X5_18 (v := u 12 p) rfl dX5_loadsBefore_12 ?_
    refine lv_aload_n hx hb dX5_loadsBefore_15 rfl (lv_at hl 1 rfl) ?_
    refine c_getI C0 hH hR ci_9 (i := q) (j := 2) hq0 rfl (by decide) rfl fl_X5_18 (v := u 12 q) rfl dX5_loadsBefore_16 ?_
    refine lv_icmp_ge (tgt := 26) hx hb dX5_loadsBefore_19 (by decide) (fun c19_7 => ?_) (fun c19_7 => ?_)
    · refine lv_iconst (v := 0) hx hb dX5_loadsBefore_26 (by decide) ?_
      have eR : (0 : Int32) = cLb u p q := by simp [cLb, bi, eq_false c8_1, c19_7, Int32.not_lt.mpr c19_7]
      exact e_Z C0 hr (by decide) hH ⟨eR, rfl⟩ (Nat.le_of_ble_eq_true rfl) (Nat.le_of_ble_eq_true rfl) dX5_loadsBefore_27
    · refine lv_iconst (v := 1) hx hb dX5_loadsBefore_22 (by decide) ?_
      refine lv_goto (tgt := 27) hx hb dX5_loadsBefore_23 (by decide) ?_
      have eR : (1 : Int32) = cLb u p q := by simp [cLb, bi, eq_false c8_1, c19_7, Int32.not_le.mp c19_7]
      exact e_Z C0 hr (by decide) hH ⟨eR, rfl⟩ (Nat.le_of_ble_eq_true rfl) (Nat.le_of_ble_eq_true rfl) dX5_loadsBefore_27
set_option maxHeartbeats 800000 in
set_option maxRecDepth 100000 in
theorem cC_X5_settle (l : Launch) (G : GT) (A : Nat → Prop) (h : AH) (b : BA) (u : MM) (hR : RC G.2.2.1 h b u) (hw : WFc u) (p x : Nat) (now : Int32) (hp0 : p < npN u) (hx0 : x < nhN u) : cmV l G A yX5_settle cX5_settle 3 0 0 0 0 [.ref (b 9 p), .ref (b 7 x), .int (now)] h (fun h' => RC G.2.2.1 h' b (cSettle u p (nI x) now) ∧ WFc (cSettle u p (nI x) now)) := by
  refine cm_of "Routepost$Parcel" rfl (by decide) (Nat.le_of_ble_eq_true rfl) ?_
  intro pr e s m9 below meth c C0 hr hname hH ls hl
  obtain ⟨hx, hb, hml, hown, hts, hK, hA, -⟩ := id C0
  have hl : lv_has ls 3 [(0, .ref (b 9 p)), (1, .ref (b 7 x)), (2, .int (now))] := hl
  have hc7 := hw.cnt6 7
  have hc8 := hw.cnt6 8
  have hc9 := hw.cnt6 9
  refine lv_aload_n hx hb dX5_settle_0 rfl (lv_at hl 0 rfl) ?_
  refine lv_null hx hb dX5_settle_1 ?_
  refine c_putR C0 hH hR ci_9 (i := p) (j := 9) hp0 rfl (k := 116) rfl (by decide) rfl fl_X5_44 rfl ⟨_, rfl⟩ (-1) (v := none) dec_m1.symm dX5_settle_2 (fun h H locs hH hR => ?_)
  replace hw := hw.upr (k := 116) (i := p) (x := -1) (by decide) (Or.inl rfl) (fun z => absurd z (by omega)) (fun z => absurd z (by omega)) (fun z => absurd z (by omega))
  refine lv_aload_n hx hb dX5_settle_5 rfl (lv_at hl 0 rfl) ?_
  refine lv_aload_n hx hb dX5_settle_6 rfl (lv_at hl 1 rfl) ?_
  refine c_putR C0 hH hR ci_9 (i := p) (j := 7) hp0 rfl (k := 15) rfl (by decide) rfl fl_X5_31 rfl ⟨_, rfl⟩ (nI x) (v := some (b 7 x)) (dec_nI (by have h9 : x < cnt u 7 := hx0; have := hc7; omega)).symm dX5_settle_7 (fun h H locs hH hR => ?_)
  replace hw := hw.upr (k := 15) (i := p) (x := nI x) (by decide) (RG_v hx0 (hw.cnt6 7)) (fun z => absurd z (by omega)) (fun _ _ => (vp_in_nI (hx0) (by have := hw.nh; omega))) (fun z => absurd z (by omega))
  refine lv_aload_n hx hb dX5_settle_10 rfl (lv_at hl 0 rfl) ?_
  refine lv_bipush (v := 115) hx hb dX5_settle_11 (by decide) ?_
  refine c_putI C0 hH hR ci_9 (i := p) (j := 8) hp0 rfl (k := 28) rfl (by decide) (by decide) rfl fl_X5_48 rfl (x := 115) (by decide) (by decide) dX5_settle_13 (fun h H locs hH hR => ?_)
  replace hw := hw.upx (k := 28) (i := p) (x := 115) (by unfold kWc kSz; decide)
  refine lv_aload_n hx hb dX5_settle_16 rfl (lv_at hl 0 rfl) ?_
  refine lv_iload_n hx hb dX5_settle_17 rfl (lv_at hl 2 rfl) ?_
  refine c_putI C0 hH hR ci_9 (i := p) (j := 12) hp0 rfl (k := 18) rfl (by decide) (by decide) rfl fl_X5_52 rfl (x := now) rfl rfl dX5_settle_18 (fun h H locs hH hR => ?_)
  replace hw := hw.upx (k := 18) (i := p) (x := now) (by unfold kWc kSz; decide)
  refine lv_aload_n hx hb dX5_settle_21 rfl (lv_at hl 1 rfl) ?_
  refine lv_aload_n hx hb dX5_settle_22 rfl (lv_at hl 0 rfl) ?_
  obtain ⟨v_1, hv_1, ev_1⟩ := hw.exH (show vp_in (u 14 p) _ from (hw.pa hp0).2.1)
  have kv_1 : (u 14 p).toNatClampNeg = v_1 := by rw [ev_1]; exact nI_clamp (by have := hw.nh; have := hw.np; omega)
  refine c_getR C0 hH hR ci_9 (i := p) (j := 6) hp0 rfl (by decide) rfl fl_X5_25 (v := some (b 7 v_1)) (show dec b 7 ((up (up (up (up u 116 p (-1)) 15 p (nI x)) 28 p 115) 18 p now) 14 p) = some (b 7 v_1) from by rw [show (up (up (up (up u 116 p (-1)) 15 p (nI x)) 28 p 115) 18 p now) 14 p = nI v_1 from Eq.trans rfl ev_1]; exact dec_nI (by have := hc7; have := (show v_1 < cnt u 7 from hv_1); omega)) dX5_settle_23 ?_
  refine lv_acmp_ne (rx := some (b 7 x)) (ry := some (b 7 v_1)) (tgt := 42) hx hb dX5_settle_26 (by decide) (fun c26_2 => ?_) (fun c26_2 => ?_)
  · rw [hR.acR hw (T := 7) (by omega) hx0 hv_1] at c26_2
    rw [← ev_1] at c26_2
    have eM : (cSettle u p (nI x) now) = (up (up (up (up u 116 p (-1)) 15 p (nI x)) 28 p 115) 18 p now) := by simp [cSettle, kv_1, eq_false c26_2]
    exact e_V C0 hr hH (by rw [eM]; exact ⟨hR, hw⟩) (Nat.le_of_ble_eq_true rfl) (Nat.le_of_ble_eq_true rfl) dX5_settle_42
  · rw [hR.acR hw (T := 7) (by omega) hx0 hv_1] at c26_2
    rw [← ev_1] at c26_2
    refine lv_aload_n hx hb dX5_settle_29 rfl (lv_at hl 0 rfl) ?_
    refine c_getI C0 hH hR ci_9 (i := p) (j := 13) hp0 rfl (by decide) rfl fl_X5_41 (v := u 21 p) rfl dX5_settle_30 ?_
    refine lv_iconst (v := (-1)) hx hb dX5_settle_33 (by decide) ?_
    refine lv_icmp_ne (tgt := 42) hx hb dX5_settle_34 (by decide) (fun c34_3 => ?_) (fun c34_3 => ?_)
    · have eM : (cSettle u p (nI x) now) = (up (up (up (up u 116 p (-1)) 15 p (nI x)) 28 p 115) 18 p now) := by simp [cSettle, kv_1, eq_true c26_2, eq_false c34_3]
      exact e_V C0 hr hH (by rw [eM]; exact ⟨hR, hw⟩) (Nat.le_of_ble_eq_true rfl) (Nat.le_of_ble_eq_true rfl) dX5_settle_42
    · refine lv_aload_n hx hb dX5_settle_37 rfl (lv_at hl 0 rfl) ?_
      refine lv_iload_n hx hb dX5_settle_38 rfl (lv_at hl 2 rfl) ?_
      refine c_putI C0 hH hR ci_9 (i := p) (j := 13) hp0 rfl (k := 21) rfl (by decide) (by decide) rfl fl_X5_41 rfl (x := now) rfl rfl dX5_settle_39 (fun h H locs hH hR => ?_)
      replace hw := hw.upx (k := 21) (i := p) (x := now) (by unfold kWc kSz; decide)
      have eM : (cSettle u p (nI x) now) = (up (up (up (up (up u 116 p (-1)) 15 p (nI x)) 28 p 115) 18 p now) 21 p now) := by simp [cSettle, kv_1, eq_true c26_2, eq_true c34_3]
      exact e_V C0 hr hH (by rw [eM]; exact ⟨hR, hw⟩) (Nat.le_of_ble_eq_true rfl) (Nat.le_of_ble_eq_true rfl) dX5_settle_42
set_option maxHeartbeats 800000 in
set_option maxRecDepth 100000 in
theorem cC_X6_hasVisited (l : Launch) (G : GT) (A : Nat → Prop) (h : AH) (b : BA) (u : MM) (hR : RC G.2.2.1 h b u) (hw : WFc u) (i x : Nat) (hi0 : i < 266) (hx0 : x < nhN u) : cmI l G A yX6_hasVisited cX6_hasVisited 2 (Option.some FieldType.boolean) 0 0 0 0 [.ref (b 10 i), .ref (b 7 x)] h (fun r h' => r = cVis u i (nI x) ∧ h' = h) := by
  refine cm_of "Routepost$Path" rfl (by decide) (Nat.le_of_ble_eq_true rfl) ?_
  intro pr e s m9 below meth c C0 hr hname hH ls hl
  obtain ⟨hx, hb, hml, hown, hts, hK, hA, -⟩ := id C0
  have hl : lv_has ls 2 [(0, .ref (b 10 i)), (1, .ref (b 7 x))] := hl
  have hc7 := hw.cnt6 7
  have hc8 := hw.cnt6 8
  have hc9 := hw.cnt6 9
  refine lv_aload_n hx hb dX6_hasVisited_0 rfl (lv_at hl 0 rfl) ?_
  refine c_getI C0 hH hR ci_10 (i := i) (j := 5) hi0 rfl (by decide) rfl fl_X6_32 (v := u 135 i) rfl dX6_hasVisited_1 ?_
  refine lv_iconst (v := 1) hx hb dX6_hasVisited_4 (by decide) ?_
  refine lv_aload_n hx hb dX6_hasVisited_5 rfl (lv_at hl 1 rfl) ?_
  refine c_getI C0 hH hR ci_7 (i := x) (j := 0) hx0 rfl (by decide) rfl fl_X6_27 (v := nI x) rfl dX6_hasVisited_6 ?_
  refine lv_ishl hx hb dX6_hasVisited_9 ?_
  refine lv_iand hx hb dX6_hasVisited_10 ?_
  refine lv_if_eq (tgt := 18) hx hb dX6_hasVisited_11 (by decide) (fun c11_1 => ?_) (fun c11_1 => ?_)
  · refine lv_iconst (v := 0) hx hb dX6_hasVisited_18 (by decide) ?_
    have eR : (0 : Int32) = cVis u i (nI x) := by simp [cVis, bi, eq_true c11_1]
    exact e_Z C0 hr (by decide) hH ⟨eR, rfl⟩ (Nat.le_of_ble_eq_true rfl) (Nat.le_of_ble_eq_true rfl) dX6_hasVisited_19
  · refine lv_iconst (v := 1) hx hb dX6_hasVisited_14 (by decide) ?_
    refine lv_goto (tgt := 19) hx hb dX6_hasVisited_15 (by decide) ?_
    have eR : (1 : Int32) = cVis u i (nI x) := by simp [cVis, bi, eq_false c11_1]
    exact e_Z C0 hr (by decide) hH ⟨eR, rfl⟩ (Nat.le_of_ble_eq_true rfl) (Nat.le_of_ble_eq_true rfl) dX6_hasVisited_19
set_option maxHeartbeats 800000 in
set_option maxRecDepth 100000 in
theorem cC_X6_isBetterThan (l : Launch) (G : GT) (A : Nat → Prop) (h : AH) (b : BA) (u : MM) (hR : RC G.2.2.1 h b u) (hw : WFc u) (i j : Nat) (hi0 : i < 266) (hj0 : j < 266) : cmI l G A yX6_isBetterThan cX6_isBetterThan 2 (Option.some FieldType.boolean) 0 0 0 0 [.ref (b 10 i), .ref (b 10 j)] h (fun r h' => r = cBet u i j ∧ h' = h) := by
  refine cm_of "Routepost$Path" rfl (by decide) (Nat.le_of_ble_eq_true rfl) ?_
  intro pr e s m9 below meth c C0 hr hname hH ls hl
  obtain ⟨hx, hb, hml, hown, hts, hK, hA, -⟩ := id C0
  have hl : lv_has ls 2 [(0, .ref (b 10 i)), (1, .ref (b 10 j))] := hl
  have hc7 := hw.cnt6 7
  have hc8 := hw.cnt6 8
  have hc9 := hw.cnt6 9
  refine lv_aload_n hx hb dX6_isBetterThan_0 rfl (lv_at hl 0 rfl) ?_
  refine c_getI C0 hH hR ci_10 (i := i) (j := 2) hi0 rfl (by decide) rfl fl_X6_17 (v := u 132 i) rfl dX6_isBetterThan_1 ?_
  refine lv_aload_n hx hb dX6_isBetterThan_4 rfl (lv_at hl 1 rfl) ?_
  refine c_getI C0 hH hR ci_10 (i := j) (j := 2) hj0 rfl (by decide) rfl fl_X6_17 (v := u 132 j) rfl dX6_isBetterThan_5 ?_
  refine lv_icmp_eq (tgt := 28) hx hb dX6_isBetterThan_8 (by decide) (fun c8_1 => ?_) (fun c8_1 => ?_)
  · refine lv_aload_n hx hb dX6_isBetterThan_28 rfl (lv_at hl 0 rfl) ?_
    refine c_getI C0 hH hR ci_10 (i := i) (j := 3) hi0 rfl (by decide) rfl fl_X6_21 (v := u 133 i) rfl dX6_isBetterThan_29 ?_
    refine lv_aload_n hx hb dX6_isBetterThan_32 rfl (lv_at hl 1 rfl) ?_
    refine c_getI C0 hH hR ci_10 (i := j) (j := 3) hj0 rfl (by decide) rfl fl_X6_21 (v := u 133 j) rfl dX6_isBetterThan_33 ?_
    refine lv_icmp_eq (tgt := 56) hx hb dX6_isBetterThan_36 (by decide) (fun c36_2 => ?_) (fun c36_2 => ?_)
    · refine lv_aload_n hx hb dX6_isBetterThan_56 rfl (lv_at hl 0 rfl) ?_
      refine c_getI C0 hH hR ci_10 (i := i) (j := 4) hi0 rfl (by decide) rfl fl_X6_24 (v := u 134 i) rfl dX6_isBetterThan_57 ?_
      refine lv_aload_n hx hb dX6_isBetterThan_60 rfl (lv_at hl 1 rfl) ?_
      refine c_getI C0 hH hR ci_10 (i := j) (j := 4) hj0 rfl (by decide) rfl fl_X6_24 (v := u 134 j) rfl dX6_isBetterThan_61 ?_
      refine lv_icmp_ge (tgt := 71) hx hb dX6_isBetterThan_64 (by decide) (fun c64_3 => ?_) (fun c64_3 => ?_)
      · refine lv_iconst (v := 0) hx hb dX6_isBetterThan_71 (by decide) ?_
        have eR : (0 : Int32) = cBet u i j := by simp [cBet, bi, eq_true c8_1, eq_true c36_2, c64_3, Int32.not_lt.mpr c64_3]
        exact e_Z C0 hr (by decide) hH ⟨eR, rfl⟩ (Nat.le_of_ble_eq_true rfl) (Nat.le_of_ble_eq_true rfl) dX6_isBetterThan_72
      · refine lv_iconst (v := 1) hx hb dX6_isBetterThan_67 (by decide) ?_
        refine lv_goto (tgt := 72) hx hb dX6_isBetterThan_68 (by decide) ?_
        have eR : (1 : Int32) = cBet u i j := by simp [cBet, bi, eq_true c8_1, eq_true c36_2, c64_3, Int32.not_le.mp c64_3]
        exact e_Z C0 hr (by decide) hH ⟨eR, rfl⟩ (Nat.le_of_ble_eq_true rfl) (Nat.le_of_ble_eq_true rfl) dX6_isBetterThan_72
    · refine lv_aload_n hx hb dX6_isBetterThan_39 rfl (lv_at hl 0 rfl) ?_
      refine c_getI C0 hH hR ci_10 (i := i) (j := 3) hi0 rfl (by decide) rfl fl_X6_21 (v := u 133 i) rfl dX6_isBetterThan_40 ?_
      refine lv_aload_n hx hb dX6_isBetterThan_43 rfl (lv_at hl 1 rfl) ?_
      refine c_getI C0 hH hR ci_10 (i := j) (j := 3) hj0 rfl (by decide) rfl fl_X6_21 (v := u 133 j) rfl dX6_isBetterThan_44 ?_
      refine lv_icmp_ge (tgt := 54) hx hb dX6_isBetterThan_47 (by decide) (fun c47_4 => ?_) (fun c47_4 => ?_)
      · refine lv_iconst (v := 0) hx hb dX6_isBetterThan_54 (by decide) ?_
        have eR : (0 : Int32) = cBet u i j := by simp [cBet, bi, eq_true c8_1, eq_false c36_2, c47_4, Int32.not_lt.mpr c47_4]
        exact e_Z C0 hr (by decide) hH ⟨eR, rfl⟩ (Nat.le_of_ble_eq_true rfl) (Nat.le_of_ble_eq_true rfl) dX6_isBetterThan_55
      · refine lv_iconst (v := 1) hx hb dX6_isBetterThan_50 (by decide) ?_
        refine lv_goto (tgt := 55) hx hb dX6_isBetterThan_51 (by decide) ?_
        have eR : (1 : Int32) = cBet u i j := by simp [cBet, bi, eq_true c8_1, eq_false c36_2, c47_4, Int32.not_le.mp c47_4]
        exact e_Z C0 hr (by decide) hH ⟨eR, rfl⟩ (Nat.le_of_ble_eq_true rfl) (Nat.le_of_ble_eq_true rfl) dX6_isBetterThan_55
  · refine lv_aload_n hx hb dX6_isBetterThan_11 rfl (lv_at hl 0 rfl) ?_
    refine c_getI C0 hH hR ci_10 (i := i) (j := 2) hi0 rfl (by decide) rfl fl_X6_17 (v := u 132 i) rfl dX6_isBetterThan_12 ?_
    refine lv_aload_n hx hb dX6_isBetterThan_15 rfl (lv_at hl 1 rfl) ?_
    refine c_getI C0 hH hR ci_10 (i := j) (j := 2) hj0 rfl (by decide) rfl fl_X6_17 (v := u 132 j) rfl dX6_isBetterThan_16 ?_
    refine lv_icmp_ge (tgt := 26) hx hb dX6_isBetterThan_19 (by decide) (fun c19_5 => ?_) (fun c19_5 => ?_)
    · refine lv_iconst (v := 0) hx hb dX6_isBetterThan_26 (by decide) ?_
      have eR : (0 : Int32) = cBet u i j := by simp [cBet, bi, eq_false c8_1, c19_5, Int32.not_lt.mpr c19_5]
      exact e_Z C0 hr (by decide) hH ⟨eR, rfl⟩ (Nat.le_of_ble_eq_true rfl) (Nat.le_of_ble_eq_true rfl) dX6_isBetterThan_27
    · refine lv_iconst (v := 1) hx hb dX6_isBetterThan_22 (by decide) ?_
      refine lv_goto (tgt := 27) hx hb dX6_isBetterThan_23 (by decide) ?_
      have eR : (1 : Int32) = cBet u i j := by simp [cBet, bi, eq_false c8_1, c19_5, Int32.not_le.mp c19_5]
      exact e_Z C0 hr (by decide) hH ⟨eR, rfl⟩ (Nat.le_of_ble_eq_true rfl) (Nat.le_of_ble_eq_true rfl) dX6_isBetterThan_27
set_option maxHeartbeats 800000 in
set_option maxRecDepth 100000 in
theorem cC_X6_begin (l : Launch) (G : GT) (A : Nat → Prop) (h : AH) (b : BA) (u : MM) (hR : RC G.2.2.1 h b u) (hw : WFc u) (i x : Nat) (now : Int32) (hi0 : i < 266) (hx0 : x < nhN u) : cmV l G A yX6_begin cX6_begin 3 0 0 0 0 [.ref (b 10 i), .ref (b 7 x), .int (now)] h (fun h' => RC G.2.2.1 h' b (cBegin u i (nI x) now) ∧ WFc (cBegin u i (nI x) now)) := by
  refine cm_of "Routepost$Path" rfl (by decide) (Nat.le_of_ble_eq_true rfl) ?_
  intro pr e s m9 below meth c C0 hr hname hH ls hl
  obtain ⟨hx, hb, hml, hown, hts, hK, hA, -⟩ := id C0
  have hl : lv_has ls 3 [(0, .ref (b 10 i)), (1, .ref (b 7 x)), (2, .int (now))] := hl
  have hc7 := hw.cnt6 7
  have hc8 := hw.cnt6 8
  have hc9 := hw.cnt6 9
  refine lv_aload_n hx hb dX6_begin_0 rfl (lv_at hl 0 rfl) ?_
  refine lv_aload_n hx hb dX6_begin_1 rfl (lv_at hl 1 rfl) ?_
  refine c_putR C0 hH hR ci_10 (i := i) (j := 0) hi0 rfl (k := 130) rfl (by decide) rfl fl_X6_7 rfl ⟨_, rfl⟩ (nI x) (v := some (b 7 x)) (dec_nI (by have h9 : x < cnt u 7 := hx0; have := hc7; omega)).symm dX6_begin_2 (fun h H locs hH hR => ?_)
  replace hw := hw.upr (k := 130) (i := i) (x := nI x) (by decide) (RG_v hx0 (hw.cnt6 7)) (fun z => absurd z (by omega)) (fun z => absurd z (by omega)) (fun z => absurd z (by omega))
  refine lv_aload_n hx hb dX6_begin_5 rfl (lv_at hl 0 rfl) ?_
  refine lv_null hx hb dX6_begin_6 ?_
  refine c_putR C0 hH hR ci_10 (i := i) (j := 1) hi0 rfl (k := 131) rfl (by decide) rfl fl_X6_13 rfl ⟨_, rfl⟩ (-1) (v := none) dec_m1.symm dX6_begin_7 (fun h H locs hH hR => ?_)
  replace hw := hw.upr (k := 131) (i := i) (x := -1) (by decide) (Or.inl rfl) (fun z => absurd z (by omega)) (fun z => absurd z (by omega)) (fun z => absurd z (by omega))
  refine lv_aload_n hx hb dX6_begin_10 rfl (lv_at hl 0 rfl) ?_
  refine lv_iload_n hx hb dX6_begin_11 rfl (lv_at hl 2 rfl) ?_
  refine c_putI C0 hH hR ci_10 (i := i) (j := 2) hi0 rfl (k := 132) rfl (by decide) (by decide) rfl fl_X6_17 rfl (x := now) rfl rfl dX6_begin_12 (fun h H locs hH hR => ?_)
  replace hw := hw.upx (k := 132) (i := i) (x := now) (by unfold kWc kSz; decide)
  refine lv_aload_n hx hb dX6_begin_15 rfl (lv_at hl 0 rfl) ?_
  refine lv_iconst (v := 0) hx hb dX6_begin_16 (by decide) ?_
  refine c_putI C0 hH hR ci_10 (i := i) (j := 3) hi0 rfl (k := 133) rfl (by decide) (by decide) rfl fl_X6_21 rfl (x := 0) rfl rfl dX6_begin_17 (fun h H locs hH hR => ?_)
  replace hw := hw.upx (k := 133) (i := i) (x := 0) (by unfold kWc kSz; decide)
  refine lv_aload_n hx hb dX6_begin_20 rfl (lv_at hl 0 rfl) ?_
  refine lv_iconst (v := 0) hx hb dX6_begin_21 (by decide) ?_
  refine c_putI C0 hH hR ci_10 (i := i) (j := 4) hi0 rfl (k := 134) rfl (by decide) (by decide) rfl fl_X6_24 rfl (x := 0) rfl rfl dX6_begin_22 (fun h H locs hH hR => ?_)
  replace hw := hw.upx (k := 134) (i := i) (x := 0) (by unfold kWc kSz; decide)
  refine lv_aload_n hx hb dX6_begin_25 rfl (lv_at hl 0 rfl) ?_
  refine lv_iconst (v := 1) hx hb dX6_begin_26 (by decide) ?_
  refine lv_aload_n hx hb dX6_begin_27 rfl (lv_at hl 1 rfl) ?_
  refine c_getI C0 hH hR ci_7 (i := x) (j := 0) hx0 rfl (by decide) rfl fl_X6_27 (v := nI x) rfl dX6_begin_28 ?_
  refine lv_ishl hx hb dX6_begin_31 ?_
  refine c_putI C0 hH hR ci_10 (i := i) (j := 5) hi0 rfl (k := 135) rfl (by decide) (by decide) rfl fl_X6_32 rfl (x := 1 <<< ((nI x) &&& 31)) rfl rfl dX6_begin_32 (fun h H locs hH hR => ?_)
  replace hw := hw.upx (k := 135) (i := i) (x := 1 <<< ((nI x) &&& 31)) (by unfold kWc kSz; decide)
  refine lv_aload_n hx hb dX6_begin_35 rfl (lv_at hl 0 rfl) ?_
  refine lv_iconst (v := 0) hx hb dX6_begin_36 (by decide) ?_
  refine c_putI C0 hH hR ci_10 (i := i) (j := 6) hi0 rfl (k := 136) rfl (by decide) (by decide) rfl fl_X6_35 rfl (x := 0) (by decide) (by decide) dX6_begin_37 (fun h H locs hH hR => ?_)
  replace hw := hw.upx (k := 136) (i := i) (x := 0) (by unfold kWc kSz; decide)
  have eM : (cBegin u i (nI x) now) = (up (up (up (up (up (up (up u 130 i (nI x)) 131 i (-1)) 132 i now) 133 i 0) 134 i 0) 135 i (1 <<< ((nI x) &&& 31))) 136 i 0) := rfl
  exact e_V C0 hr hH (by rw [eM]; exact ⟨hR, hw⟩) (Nat.le_of_ble_eq_true rfl) (Nat.le_of_ble_eq_true rfl) dX6_begin_40
set_option maxHeartbeats 800000 in
set_option maxRecDepth 100000 in
theorem cC_X6_follow (l : Launch) (G : GT) (A : Nat → Prop) (h : AH) (b : BA) (u : MM) (hR : RC G.2.2.1 h b u) (hw : WFc u) (i j l0 : Nat) (ar : Int32) (hi0 : i < 266) (hj0 : j < 266) (hij : i ≠ j) (hl0 : l0 < nlN u) : cmV l G A yX6_follow cX6_follow 4 0 0 0 0 [.ref (b 10 i), .ref (b 10 j), .ref (b 8 l0), .int (ar)] h (fun h' => RC G.2.2.1 h' b (cFollow u i j l0 ar) ∧ WFc (cFollow u i j l0 ar)) := by
  refine cm_of "Routepost$Path" rfl (by decide) (Nat.le_of_ble_eq_true rfl) ?_
  intro pr e s m9 below meth c C0 hr hname hH ls hl
  obtain ⟨hx, hb, hml, hown, hts, hK, hA, -⟩ := id C0
  have hl : lv_has ls 4 [(0, .ref (b 10 i)), (1, .ref (b 10 j)), (2, .ref (b 8 l0)), (3, .int (ar))] := hl
  have hc7 := hw.cnt6 7
  have hc8 := hw.cnt6 8
  have hc9 := hw.cnt6 9
  refine lv_aload_n hx hb dX6_follow_0 rfl (lv_at hl 0 rfl) ?_
  refine lv_aload_n hx hb dX6_follow_1 rfl (lv_at hl 2 rfl) ?_
  obtain ⟨v_1, hv_1, ev_1⟩ := hw.exH (show vp_in (u 3 l0) _ from (hw.ln hl0).2)
  have kv_1 : (u 3 l0).toNatClampNeg = v_1 := by rw [ev_1]; exact nI_clamp (by have := hw.nh; have := hw.np; omega)
  refine c_getR C0 hH hR ci_8 (i := l0) (j := 2) hl0 rfl (by decide) rfl fl_X6_39 (v := some (b 7 v_1)) (show dec b 7 (u 3 l0) = some (b 7 v_1) from by rw [show u 3 l0 = nI v_1 from Eq.trans rfl ev_1]; exact dec_nI (by have := hc7; have := (show v_1 < cnt u 7 from hv_1); omega)) dX6_follow_2 ?_
  refine c_putR C0 hH hR ci_10 (i := i) (j := 0) hi0 rfl (k := 130) rfl (by decide) rfl fl_X6_7 rfl ⟨_, rfl⟩ (nI v_1) (v := some (b 7 v_1)) (dec_nI (by have h9 : v_1 < cnt u 7 := hv_1; have := hc7; omega)).symm dX6_follow_5 (fun h H locs hH hR => ?_)
  replace hw := hw.upr (k := 130) (i := i) (x := nI v_1) (by decide) (RG_v hv_1 (hw.cnt6 7)) (fun z => absurd z (by omega)) (fun z => absurd z (by omega)) (fun z => absurd z (by omega))
  rw [← ev_1] at hR hw
  refine lv_aload_n hx hb dX6_follow_8 rfl (lv_at hl 0 rfl) ?_
  refine lv_aload_n hx hb dX6_follow_9 rfl (lv_at hl 1 rfl) ?_
  refine c_getR C0 hH hR ci_10 (i := j) (j := 1) hj0 rfl (by decide) rfl fl_X6_13 (v := dec b 8 (u 131 j)) (show dec b 8 ((up u 130 i (u 3 l0)) 131 j) = dec b 8 (u 131 j) from congrArg _ rfl) dX6_follow_10 ?_
  rcases (show u 131 j = -1 ∨ ∃ v, v < nlN u ∧ u 131 j = nI v from hw.exL (hw.rg (k := 131) (by decide) j)) with es_2 | ⟨s_2, hs_2, es_2⟩
  · have eds_2 : dec b 8 (u 131 j) = none := by rw [es_2]; exact dec_m1
    rw [eds_2]
    refine lv_ifnonnullN hx hb dX6_follow_13 ?_
    refine lv_aload_n hx hb dX6_follow_16 rfl (lv_at hl 2 rfl) ?_
    refine lv_goto (tgt := 24) hx hb dX6_follow_17 (by decide) ?_
    refine c_putR C0 hH hR ci_10 (i := i) (j := 1) hi0 rfl (k := 131) rfl (by decide) rfl fl_X6_13 rfl ⟨_, rfl⟩ (nI l0) (v := some (b 8 l0)) (dec_nI (by have h9 : l0 < cnt u 8 := hl0; have := hc8; omega)).symm dX6_follow_24 (fun h H locs hH hR => ?_)
    replace hw := hw.upr (k := 131) (i := i) (x := nI l0) (by decide) (RG_v hl0 (hw.cnt6 8)) (fun z => absurd z (by omega)) (fun z => absurd z (by omega)) (fun z => absurd z (by omega))
    refine lv_aload_n hx hb dX6_follow_27 rfl (lv_at hl 0 rfl) ?_
    refine lv_iload_n hx hb dX6_follow_28 rfl (lv_at hl 3 rfl) ?_
    refine c_putI C0 hH hR ci_10 (i := i) (j := 2) hi0 rfl (k := 132) rfl (by decide) (by decide) rfl fl_X6_17 rfl (x := ar) rfl rfl dX6_follow_29 (fun h H locs hH hR => ?_)
    replace hw := hw.upx (k := 132) (i := i) (x := ar) (by unfold kWc kSz; decide)
    refine lv_aload_n hx hb dX6_follow_32 rfl (lv_at hl 0 rfl) ?_
    refine lv_aload_n hx hb dX6_follow_33 rfl (lv_at hl 1 rfl) ?_
    refine c_getI C0 hH hR ci_10 (i := j) (j := 3) hj0 rfl (by decide) rfl fl_X6_21 (v := u 133 j) rfl dX6_follow_34 ?_
    refine lv_iconst (v := 1) hx hb dX6_follow_37 (by decide) ?_
    refine lv_iadd hx hb dX6_follow_38 ?_
    refine c_putI C0 hH hR ci_10 (i := i) (j := 3) hi0 rfl (k := 133) rfl (by decide) (by decide) rfl fl_X6_21 rfl (x := (u 133 j) + 1) rfl rfl dX6_follow_39 (fun h H locs hH hR => ?_)
    replace hw := hw.upx (k := 133) (i := i) (x := (u 133 j) + 1) (by unfold kWc kSz; decide)
    refine lv_aload_n hx hb dX6_follow_42 rfl (lv_at hl 0 rfl) ?_
    refine lv_aload_n hx hb dX6_follow_43 rfl (lv_at hl 1 rfl) ?_
    refine c_getI C0 hH hR ci_10 (i := j) (j := 4) hj0 rfl (by decide) rfl fl_X6_24 (v := u 134 j) rfl dX6_follow_44 ?_
    refine lv_iconst (v := 4) hx hb dX6_follow_47 (by decide) ?_
    refine lv_ishl hx hb dX6_follow_48 ?_
    refine lv_aload_n hx hb dX6_follow_49 rfl (lv_at hl 2 rfl) ?_
    refine c_getI C0 hH hR ci_8 (i := l0) (j := 0) hl0 rfl (by decide) rfl fl_X6_44 (v := nI l0) rfl dX6_follow_50 ?_
    refine lv_iadd hx hb dX6_follow_53 ?_
    refine c_putI C0 hH hR ci_10 (i := i) (j := 4) hi0 rfl (k := 134) rfl (by decide) (by decide) rfl fl_X6_24 rfl (x := ((u 134 j) <<< (4 &&& 31)) + (nI l0)) rfl rfl dX6_follow_54 (fun h H locs hH hR => ?_)
    replace hw := hw.upx (k := 134) (i := i) (x := ((u 134 j) <<< (4 &&& 31)) + (nI l0)) (by unfold kWc kSz; decide)
    refine lv_aload_n hx hb dX6_follow_57 rfl (lv_at hl 0 rfl) ?_
    refine lv_aload_n hx hb dX6_follow_58 rfl (lv_at hl 1 rfl) ?_
    refine c_getI C0 hH hR ci_10 (i := j) (j := 5) hj0 rfl (by decide) rfl fl_X6_32 (v := u 135 j) rfl dX6_follow_59 ?_
    refine lv_iconst (v := 1) hx hb dX6_follow_62 (by decide) ?_
    refine lv_aload_n hx hb dX6_follow_63 rfl (lv_at hl 2 rfl) ?_
    refine c_getR C0 hH hR ci_8 (i := l0) (j := 2) hl0 rfl (by decide) rfl fl_X6_39 (v := some (b 7 v_1)) (show dec b 7 ((up (up (up (up (up u 130 i (u 3 l0)) 131 i (nI l0)) 132 i ar) 133 i ((u 133 j) + 1)) 134 i (((u 134 j) <<< (4 &&& 31)) + (nI l0))) 3 l0) = some (b 7 v_1) from by rw [show (up (up (up (up (up u 130 i (u 3 l0)) 131 i (nI l0)) 132 i ar) 133 i ((u 133 j) + 1)) 134 i (((u 134 j) <<< (4 &&& 31)) + (nI l0))) 3 l0 = nI v_1 from Eq.trans rfl ev_1]; exact dec_nI (by have := hc7; have := (show v_1 < cnt u 7 from hv_1); omega)) dX6_follow_64 ?_
    refine c_getI C0 hH hR ci_7 (i := v_1) (j := 0) hv_1 rfl (by decide) rfl fl_X6_27 (v := u 3 l0) ev_1.symm dX6_follow_67 ?_
    refine lv_ishl hx hb dX6_follow_70 ?_
    refine lv_ior hx hb dX6_follow_71 ?_
    refine c_putI C0 hH hR ci_10 (i := i) (j := 5) hi0 rfl (k := 135) rfl (by decide) (by decide) rfl fl_X6_32 rfl (x := (u 135 j) ||| (1 <<< ((u 3 l0) &&& 31))) rfl rfl dX6_follow_72 (fun h H locs hH hR => ?_)
    replace hw := hw.upx (k := 135) (i := i) (x := (u 135 j) ||| (1 <<< ((u 3 l0) &&& 31))) (by unfold kWc kSz; decide)
    refine lv_aload_n hx hb dX6_follow_75 rfl (lv_at hl 0 rfl) ?_
    refine lv_iconst (v := 0) hx hb dX6_follow_76 (by decide) ?_
    refine c_putI C0 hH hR ci_10 (i := i) (j := 6) hi0 rfl (k := 136) rfl (by decide) (by decide) rfl fl_X6_35 rfl (x := 0) (by decide) (by decide) dX6_follow_77 (fun h H locs hH hR => ?_)
    replace hw := hw.upx (k := 136) (i := i) (x := 0) (by unfold kWc kSz; decide)
    have eM : (cFollow u i j l0 ar) = (up (up (up (up (up (up (up u 130 i (u 3 l0)) 131 i (nI l0)) 132 i ar) 133 i ((u 133 j) + 1)) 134 i (((u 134 j) <<< (4 &&& 31)) + (nI l0))) 135 i ((u 135 j) ||| (1 <<< ((u 3 l0) &&& 31)))) 136 i 0) := by simp [cFollow, kv_1, eq_true es_2]
    exact e_V C0 hr hH (by rw [eM]; exact ⟨hR, hw⟩) (Nat.le_of_ble_eq_true rfl) (Nat.le_of_ble_eq_true rfl) dX6_follow_80
  · have eds_2 : dec b 8 (u 131 j) = some (b 8 s_2) := by rw [es_2]; exact dec_nI (by have := hc8; have h9 : s_2 < cnt u 8 := hs_2; omega)
    have ks_2 : (u 131 j).toNatClampNeg = s_2 := by rw [es_2]; exact nI_clamp (by have := hc8; have h9 : s_2 < cnt u 8 := hs_2; omega)
    have ns_2 : ¬ (u 131 j) = -1 := by rw [es_2]; exact nI_nm (by have := hc8; have h9 : s_2 < cnt u 8 := hs_2; omega)
    rw [eds_2]
    refine lv_ifnonnull (tgt := 20) hx hb dX6_follow_13 (by decide) ?_
    refine lv_aload_n hx hb dX6_follow_20 rfl (lv_at hl 1 rfl) ?_
    refine c_getR C0 hH hR ci_10 (i := j) (j := 1) hj0 rfl (by decide) rfl fl_X6_13 (v := some (b 8 s_2)) (show dec b 8 ((up u 130 i (u 3 l0)) 131 j) = some (b 8 s_2) from by rw [show (up u 130 i (u 3 l0)) 131 j = nI s_2 from Eq.trans rfl es_2]; exact dec_nI (by have := hc8; have := (show s_2 < cnt u 8 from hs_2); omega)) dX6_follow_21 ?_
    refine c_putR C0 hH hR ci_10 (i := i) (j := 1) hi0 rfl (k := 131) rfl (by decide) rfl fl_X6_13 rfl ⟨_, rfl⟩ (nI s_2) (v := some (b 8 s_2)) (dec_nI (by have h9 : s_2 < cnt u 8 := hs_2; have := hc8; omega)).symm dX6_follow_24 (fun h H locs hH hR => ?_)
    replace hw := hw.upr (k := 131) (i := i) (x := nI s_2) (by decide) (RG_v hs_2 (hw.cnt6 8)) (fun z => absurd z (by omega)) (fun z => absurd z (by omega)) (fun z => absurd z (by omega))
    rw [← es_2] at hR hw
    refine lv_aload_n hx hb dX6_follow_27 rfl (lv_at hl 0 rfl) ?_
    refine lv_iload_n hx hb dX6_follow_28 rfl (lv_at hl 3 rfl) ?_
    refine c_putI C0 hH hR ci_10 (i := i) (j := 2) hi0 rfl (k := 132) rfl (by decide) (by decide) rfl fl_X6_17 rfl (x := ar) rfl rfl dX6_follow_29 (fun h H locs hH hR => ?_)
    replace hw := hw.upx (k := 132) (i := i) (x := ar) (by unfold kWc kSz; decide)
    refine lv_aload_n hx hb dX6_follow_32 rfl (lv_at hl 0 rfl) ?_
    refine lv_aload_n hx hb dX6_follow_33 rfl (lv_at hl 1 rfl) ?_
    refine c_getI C0 hH hR ci_10 (i := j) (j := 3) hj0 rfl (by decide) rfl fl_X6_21 (v := u 133 j) rfl dX6_follow_34 ?_
    refine lv_iconst (v := 1) hx hb dX6_follow_37 (by decide) ?_
    refine lv_iadd hx hb dX6_follow_38 ?_
    refine c_putI C0 hH hR ci_10 (i := i) (j := 3) hi0 rfl (k := 133) rfl (by decide) (by decide) rfl fl_X6_21 rfl (x := (u 133 j) + 1) rfl rfl dX6_follow_39 (fun h H locs hH hR => ?_)
    replace hw := hw.upx (k := 133) (i := i) (x := (u 133 j) + 1) (by unfold kWc kSz; decide)
    refine lv_aload_n hx hb dX6_follow_42 rfl (lv_at hl 0 rfl) ?_
    refine lv_aload_n hx hb dX6_follow_43 rfl (lv_at hl 1 rfl) ?_
    refine c_getI C0 hH hR ci_10 (i := j) (j := 4) hj0 rfl (by decide) rfl fl_X6_24 (v := u 134 j) rfl dX6_follow_44 ?_
    refine lv_iconst (v := 4) hx hb dX6_follow_47 (by decide) ?_
    refine lv_ishl hx hb dX6_follow_48 ?_
    refine lv_aload_n hx hb dX6_follow_49 rfl (lv_at hl 2 rfl) ?_
    refine c_getI C0 hH hR ci_8 (i := l0) (j := 0) hl0 rfl (by decide) rfl fl_X6_44 (v := nI l0) rfl dX6_follow_50 ?_
    refine lv_iadd hx hb dX6_follow_53 ?_
    refine c_putI C0 hH hR ci_10 (i := i) (j := 4) hi0 rfl (k := 134) rfl (by decide) (by decide) rfl fl_X6_24 rfl (x := ((u 134 j) <<< (4 &&& 31)) + (nI l0)) rfl rfl dX6_follow_54 (fun h H locs hH hR => ?_)
    replace hw := hw.upx (k := 134) (i := i) (x := ((u 134 j) <<< (4 &&& 31)) + (nI l0)) (by unfold kWc kSz; decide)
    refine lv_aload_n hx hb dX6_follow_57 rfl (lv_at hl 0 rfl) ?_
    refine lv_aload_n hx hb dX6_follow_58 rfl (lv_at hl 1 rfl) ?_
    refine c_getI C0 hH hR ci_10 (i := j) (j := 5) hj0 rfl (by decide) rfl fl_X6_32 (v := u 135 j) rfl dX6_follow_59 ?_
    refine lv_iconst (v := 1) hx hb dX6_follow_62 (by decide) ?_
    refine lv_aload_n hx hb dX6_follow_63 rfl (lv_at hl 2 rfl) ?_
    refine c_getR C0 hH hR ci_8 (i := l0) (j := 2) hl0 rfl (by decide) rfl fl_X6_39 (v := some (b 7 v_1)) (show dec b 7 ((up (up (up (up (up u 130 i (u 3 l0)) 131 i (u 131 j)) 132 i ar) 133 i ((u 133 j) + 1)) 134 i (((u 134 j) <<< (4 &&& 31)) + (nI l0))) 3 l0) = some (b 7 v_1) from by rw [show (up (up (up (up (up u 130 i (u 3 l0)) 131 i (u 131 j)) 132 i ar) 133 i ((u 133 j) + 1)) 134 i (((u 134 j) <<< (4 &&& 31)) + (nI l0))) 3 l0 = nI v_1 from Eq.trans rfl ev_1]; exact dec_nI (by have := hc7; have := (show v_1 < cnt u 7 from hv_1); omega)) dX6_follow_64 ?_
    refine c_getI C0 hH hR ci_7 (i := v_1) (j := 0) hv_1 rfl (by decide) rfl fl_X6_27 (v := u 3 l0) ev_1.symm dX6_follow_67 ?_
    refine lv_ishl hx hb dX6_follow_70 ?_
    refine lv_ior hx hb dX6_follow_71 ?_
    refine c_putI C0 hH hR ci_10 (i := i) (j := 5) hi0 rfl (k := 135) rfl (by decide) (by decide) rfl fl_X6_32 rfl (x := (u 135 j) ||| (1 <<< ((u 3 l0) &&& 31))) rfl rfl dX6_follow_72 (fun h H locs hH hR => ?_)
    replace hw := hw.upx (k := 135) (i := i) (x := (u 135 j) ||| (1 <<< ((u 3 l0) &&& 31))) (by unfold kWc kSz; decide)
    refine lv_aload_n hx hb dX6_follow_75 rfl (lv_at hl 0 rfl) ?_
    refine lv_iconst (v := 0) hx hb dX6_follow_76 (by decide) ?_
    refine c_putI C0 hH hR ci_10 (i := i) (j := 6) hi0 rfl (k := 136) rfl (by decide) (by decide) rfl fl_X6_35 rfl (x := 0) (by decide) (by decide) dX6_follow_77 (fun h H locs hH hR => ?_)
    replace hw := hw.upx (k := 136) (i := i) (x := 0) (by unfold kWc kSz; decide)
    have eM : (cFollow u i j l0 ar) = (up (up (up (up (up (up (up u 130 i (u 3 l0)) 131 i (u 131 j)) 132 i ar) 133 i ((u 133 j) + 1)) 134 i (((u 134 j) <<< (4 &&& 31)) + (nI l0))) 135 i ((u 135 j) ||| (1 <<< ((u 3 l0) &&& 31)))) 136 i 0) := by simp [cFollow, kv_1, ks_2, eq_false ns_2]
    exact e_V C0 hr hH (by rw [eM]; exact ⟨hR, hw⟩) (Nat.le_of_ble_eq_true rfl) (Nat.le_of_ble_eq_true rfl) dX6_follow_80

