set_option maxHeartbeats 800000 in
set_option maxRecDepth 100000 in
theorem cC_X10_waitingAt (l : Launch) (hlt : l.stackTraces = false) (G : GT) (A : Nat → Prop) (h : AH) (b0 : BA) (u : MM) (hR : RC G.2.2.1 h b0 u) (hw : WFc u) (x i0 : Int32) : cxI l G A yX10_waitingAt cX10_waitingAt 3 (Option.some FieldType.int) 7 195 (4 + (UC (cWt u x) - UC u)) (24 + (US (cWt u x) - US u)) [.ref (b0 14 0), .int (x), .int (i0)] h (fun r h' => xWat u x i0 = none ∧ r = cQu u x 36 i0.toNatClampNeg ∧ ∃ b', BE u b0 b' ∧ RC G.2.2.1 h' b' (cWt u x) ∧ WFc (cWt u x)) (fun E h' => xWat u x i0 = some E ∧ ∃ b', BE u b0 b' ∧ RC G.2.2.1 h' b' (cWt u x) ∧ WFc (cWt u x)) := by
  refine cx_of "Routepost" rfl (by decide) (Nat.le_of_ble_eq_true rfl) ?_
  intro pr e s m9 below meth c C0 hxt hr hH ls hl
  obtain ⟨hx, hb, hml, hown, hts, hK, hA, -⟩ := id C0
  have hl : lv_has ls 3 [(0, .ref (b0 14 0)), (1, .int (x)), (2, .int (i0))] := hl
  obtain ⟨b, hb0⟩ : ∃ z, z = b0 := ⟨_, rfl⟩
  rw [← hb0] at hR hl
  have hbe : BE u b0 b := by rw [hb0]; exact BE.refl u b0
  have hc7 := hw.cnt6 7
  have hc8 := hw.cnt6 8
  have hc9 := hw.cnt6 9
  have hw00 := hw
  have hRc9 : ∀ c, c ≤ 4 → c ≤ 4 + (UC (cWt u x) - UC u) := fun c h9 => by omega
  have hRs9 : ∀ c, c ≤ 24 → c ≤ 24 + (US (cWt u x) - US u) := fun c h9 => by omega
  refine lv_aload_n hx hb dX10_waitingAt_0 rfl (lv_at hl 0 rfl) ?_
  refine lv_aload_n hx hb dX10_waitingAt_1 rfl (lv_at hl 0 rfl) ?_
  refine lv_iload_n hx hb dX10_waitingAt_2 rfl (lv_at hl 1 rfl) ?_
  refine k_xq C0 hxt hH (k_xrunV (rest := [.ref (b 14 0)]) C0 hH (cC_X10_lineNumbered l hlt G A _ b _ hR hw x ) mv_X10_lineNumbered ml_X10_299 ci_14 (hR.kind (K := 14) (i := 0) rfl) rfl ⟨Nat.le_of_ble_eq_true rfl, Nat.le_of_ble_eq_true rfl⟩ hl.1 rfl (Nat.le_of_ble_eq_true rfl) dX10_waitingAt_3 ⟨by show _ ≤ 4 + (UC (cWt u x) - UC u); omega, by show _ ≤ 24 + (US (cWt u x) - US u); omega⟩) (fun E h9 z => ⟨by unfold xWat; exact xo_s z.1, b, hbe, by rw [z.2, show cWt u x = u from if_neg (fun y9 => by rw [y9] at z; exact nomatch z.1)]; exact ⟨hR, hw⟩⟩) (by omega) (by omega) (fun r_1 h1 H locs hp hH => ?_)
  obtain ⟨exr_1, er_1, eh⟩ := hp
  rw [eh] at hH
  clear eh
  have vpv_2 : vp_in (x) (nlN u) := (xLn_n hw).mp exr_1
  obtain ⟨v_2, hv_2, ev_2⟩ := vp_ex vpv_2 (by have := hw.nh; have := hw.nl; have := hw.np; omega)
  have kv_2 : (x).toNatClampNeg = v_2 := by rw [ev_2]; exact nI_clamp (by have := hw.nh; have := hw.nl; have := hw.np; omega)
  rw [show dec b 8 (x) = some (b 8 v_2) from by rw [ev_2]; exact dec_nI (by have := hw.nh; have := hw.nl; have := hw.np; omega)] at er_1
  subst er_1
  have hA0_n_3 : LG u u := (LG.refl u)
  have hA_n_3 := hA0_n_3 hw00.lw
  have h1_n_3 := hA_n_3.2.1.le
  have hB0_n_3 : LG u (cQu u (nI v_2)) := LG.qu
  have hB_n_3 := hB0_n_3 hA_n_3.1
  have hC0_n_3 : LG (cQu u (nI v_2)) (cWt u x) := (by rw [show (cWt u x) = (cQu u (nI v_2)) from by unfold cWt; rw [if_pos exr_1, ev_2]]; exact LG.refl _)
  have hC_n_3 := hC0_n_3 hB_n_3.1
  have h2_n_3 := hB_n_3.2.1.le
  have h3_n_3 := hC_n_3.2.1.le
  refine k_v hH (k_runV (rest := []) C0 hH (cC_X10_queueUp l G A _ b _ hR hw v_2 hv_2) mv_X10_queueUp ml_X10_302 ci_14 (hR.kind (K := 14) (i := 0) rfl) rfl ⟨Nat.le_of_ble_eq_true rfl, Nat.le_of_ble_eq_true rfl⟩ hl.1 rfl (Nat.le_of_ble_eq_true rfl) dX10_waitingAt_6 ⟨by show _ ≤ 4 + (UC (cWt u x) - UC u); omega, by show _ ≤ 24 + (US (cWt u x) - US u); omega⟩) (fun h H locs hp hH => ?_)
  obtain ⟨b, hbx, hR, hw⟩ := hp
  rw [← hbx 14 0 (by decide) rfl] at hl
  replace hbe := hbe.trans ((Gw.refl u).trans hA_n_3.2.1) hbx
  have hgu_n_3 := ((Gw.refl u).trans hA_n_3.2.1).trans hB_n_3.2.1
  have hlw_n_3 := hB_n_3.1
  obtain ⟨U_n_3, hU_n_3⟩ : ∃ z, z = (cQu u (nI v_2)) := ⟨_, rfl⟩
  rw [← hU_n_3] at hR hw hgu_n_3 hlw_n_3
  have hE_n_3 : UC U_n_3 = UC (cQu u (nI v_2)) ∧ US U_n_3 = US (cQu u (nI v_2)) := by rw [hU_n_3]; exact ⟨rfl, rfl⟩
  have hn_n_3 : nhN U_n_3 = nhN u ∧ nlN U_n_3 = nlN u ∧ npN U_n_3 = npN u := by rw [hU_n_3]; exact ⟨hB_n_3.2.2.1.trans hA_n_3.2.2.1, hB_n_3.2.2.2.1.trans hA_n_3.2.2.2.1, hB_n_3.2.2.2.2.trans hA_n_3.2.2.2.2⟩
  have hc7 := hw.cnt6 7
  have hc8 := hw.cnt6 8
  have hc9 := hw.cnt6 9
  replace hv_2 : v_2 < nlN U_n_3 := by rw [hn_n_3.2.1]; exact hv_2
  have hk_n_3 : ∀ k, qk k = true → U_n_3 k = u k := fun k e9 => by rw [hU_n_3]; exact cQu_k e9
  have hQ : cQu u x = U_n_3 := by rw [ev_2, hU_n_3]
  have hqs : szN U_n_3 3 ≤ 40 := by have h9 := (cQu_s (u := u) x hw00.np).2.1; rw [hQ] at h9; have := hw00.np; omega
  refine lv_iload_n hx hb dX10_waitingAt_9 rfl (lv_at hl 2 rfl) ?_
  refine lv_if_lt (tgt := 24) hx hb dX10_waitingAt_10 (by decide) (fun c10_4 => ?_) (fun c10_4 => ?_)
  · exact k_throwSW C0 hxt hlt hH thr_IOB (is := 306) (text := "no such rank") (by decide) hl.1 dX10_waitingAt_24 dX10_waitingAt_27 dX10_waitingAt_28 dX10_waitingAt_31 dX10_waitingAt_34 (Nat.le_of_ble_eq_true rfl) (Nat.le_of_ble_eq_true rfl) (by show _ ≤ 4 + (UC (cWt u x) - UC u); omega) (by show _ ≤ 24 + (US (cWt u x) - US u); omega) ⟨by unfold xWat; rw [xo_n exr_1, hQ, if_pos (Or.inl c10_4)]; rfl, b, hbe, by rw [show cWt u x = U_n_3 from by unfold cWt; rw [if_pos exr_1, ev_2, hU_n_3]]; exact ⟨hR, hw⟩⟩ (by omega) (by omega)
  · refine lv_iload_n hx hb dX10_waitingAt_13 rfl (lv_at hl 2 rfl) ?_
    refine lv_aload_n hx hb dX10_waitingAt_14 rfl (lv_at hl 0 rfl) ?_
    refine c_getR C0 hH hR ci_14 (i := 0) (j := 3) rfl rfl (by decide) rfl fl_X10_22 (v := some (b 3 3)) rfl dX10_waitingAt_15 ?_
    refine k_i hH (k_runV (rest := [.int (i0)]) C0 hH (cL_size l G A _ b _ hR hw 3 (show 3 < 6 + npN _ by omega)) mv_Jx4a65c_size_8abf5 ml_X10_79 ci_3 (hR.kind (K := 3) (i := 3) (show 3 < 6 + npN _ by omega)) rfl ⟨Nat.le_of_ble_eq_true rfl, Nat.le_of_ble_eq_true rfl⟩ hl.1 rfl (Nat.le_of_ble_eq_true rfl) dX10_waitingAt_18 ⟨by show _ ≤ 4 + (UC (cWt u x) - UC u); omega, by show _ ≤ 24 + (US (cWt u x) - US u); omega⟩) (fun r9 h1 H locs hp hH => ?_)
    obtain ⟨er9, eh⟩ := hp
    rw [eh] at hH
    clear eh
    subst er9
    refine lv_icmp_lt (tgt := 35) hx hb dX10_waitingAt_21 (by decide) (fun c21_5 => ?_) (fun c21_5 => ?_)
    · obtain ⟨j5, hj5, ej5⟩ := vp_ex (vp_of (n := szN U_n_3 3) (by omega) c10_4 c21_5) (by omega)
      have kj5 : i0.toNatClampNeg = j5 := by rw [ej5]; exact nI_clamp (by omega)
      rw [ej5] at hl
      refine lv_aload_n hx hb dX10_waitingAt_35 rfl (lv_at hl 0 rfl) ?_
      refine c_getR C0 hH hR ci_14 (i := 0) (j := 3) rfl rfl (by decide) rfl fl_X10_22 (v := some (b 3 3)) rfl dX10_waitingAt_36 ?_
      refine lv_iload_n hx hb dX10_waitingAt_39 rfl (lv_at hl 2 rfl) ?_
      obtain ⟨v_6, hv_6, ev_6⟩ := hw.exP (show vp_in (U_n_3 36 j5) _ from hw.qu hj5)
      have kv_6 : (U_n_3 36 j5).toNatClampNeg = v_6 := by rw [ev_6]; exact nI_clamp (by have := hw.nh; have := hw.np; omega)
      refine k_q hH (k_runV (rest := []) C0 hH (cL_get l G A _ b _ hR hw 3 j5 (show 3 < 6 + npN _ by omega) hj5 (a := b 9 v_6) (show b 9 (U_n_3 36 j5).toNatClampNeg = b 9 v_6 from by rw [ev_6, nI_clamp (by have := hw.np; omega)])) mv_Jx4a65c_get_915e3 ml_X10_143 ci_3 (hR.kind (K := 3) (i := 3) (show 3 < 6 + npN _ by omega)) rfl ⟨Nat.le_of_ble_eq_true rfl, Nat.le_of_ble_eq_true rfl⟩ hl.1 rfl (Nat.le_of_ble_eq_true rfl) dX10_waitingAt_40 ⟨by show _ ≤ 4 + (UC (cWt u x) - UC u); omega, by show _ ≤ 24 + (US (cWt u x) - US u); omega⟩) (fun r9 h1 H locs hp hH => ?_)
      obtain ⟨er9, eh⟩ := hp
      rw [eh] at hH
      clear eh
      subst er9
      refine k_chk C0 hH ci_9 (hR.kind (K := 9) (i := v_6) hv_6) cl_X10_162 dX10_waitingAt_43 ?_
      refine c_getI C0 hH hR ci_9 (i := v_6) (j := 0) hv_6 rfl (by decide) rfl fl_X10_185 (v := U_n_3 36 j5) ev_6.symm dX10_waitingAt_46 ?_
      have hA0_z : LG U_n_3 U_n_3 := (LG.refl U_n_3)
      have hA_z := hA0_z hlw_n_3
      have h1_z := hA_z.2.1.le
      have eM : (cWt u x) = U_n_3 := by unfold cWt; rw [if_pos exr_1, ev_2, hU_n_3]
      refine vx_ret ?_
      have eR : (U_n_3 36 j5 : Int32) = cQu u x 36 i0.toNatClampNeg := by rw [hQ, kj5]
      exact e_I C0 hr hH ⟨(by unfold xWat; rw [xo_n exr_1, hQ, if_neg (fun z => z.elim c10_4 (fun y => y c21_5))]), eR, b, hbe, by rw [eM]; exact ⟨hR, hw⟩⟩ (by rw [eM]; omega) (by rw [eM]; omega) dX10_waitingAt_49
    · exact k_throwSW C0 hxt hlt hH thr_IOB (is := 306) (text := "no such rank") (by decide) hl.1 dX10_waitingAt_24 dX10_waitingAt_27 dX10_waitingAt_28 dX10_waitingAt_31 dX10_waitingAt_34 (Nat.le_of_ble_eq_true rfl) (Nat.le_of_ble_eq_true rfl) (by show _ ≤ 4 + (UC (cWt u x) - UC u); omega) (by show _ ≤ 24 + (US (cWt u x) - US u); omega) ⟨by unfold xWat; rw [xo_n exr_1, hQ, if_pos (Or.inr c21_5)]; rfl, b, hbe, by rw [show cWt u x = U_n_3 from by unfold cWt; rw [if_pos exr_1, ev_2, hU_n_3]]; exact ⟨hR, hw⟩⟩ (by omega) (by omega)
set_option maxHeartbeats 800000 in
set_option maxRecDepth 100000 in
theorem cC_X10_bagsNeeded (l : Launch) (hlt : l.stackTraces = false) (G : GT) (A : Nat → Prop) (h : AH) (b0 : BA) (u : MM) (hR : RC G.2.2.1 h b0 u) (hw : WFc u) (x : Int32) : cxI l G A yX10_bagsNeeded cX10_bagsNeeded 3 (Option.some FieldType.int) 7 195 (4 + (UC (cBn u x) - UC u)) (24 + (US (cBn u x) - US u)) [.ref (b0 14 0), .int (x)] h (fun r h' => xLn u x = none ∧ r = cBn u x 8 12 ∧ ∃ b', BE u b0 b' ∧ RC G.2.2.1 h' b' (cBn u x) ∧ WFc (cBn u x)) (fun E h' => xLn u x = some E ∧ ∃ b', BE u b0 b' ∧ RC G.2.2.1 h' b' (cBn u x) ∧ WFc (cBn u x)) := by
  refine cx_of "Routepost" rfl (by decide) (Nat.le_of_ble_eq_true rfl) ?_
  intro pr e s m9 below meth c C0 hxt hr hH ls hl
  obtain ⟨hx, hb, hml, hown, hts, hK, hA, -⟩ := id C0
  have hl : lv_has ls 3 [(0, .ref (b0 14 0)), (1, .int (x))] := hl
  obtain ⟨b, hb0⟩ : ∃ z, z = b0 := ⟨_, rfl⟩
  rw [← hb0] at hR hl
  have hbe : BE u b0 b := by rw [hb0]; exact BE.refl u b0
  have hc7 := hw.cnt6 7
  have hc8 := hw.cnt6 8
  have hc9 := hw.cnt6 9
  have hw00 := hw
  have hRc9 : ∀ c, c ≤ 4 → c ≤ 4 + (UC (cBn u x) - UC u) := fun c h9 => by omega
  have hRs9 : ∀ c, c ≤ 24 → c ≤ 24 + (US (cBn u x) - US u) := fun c h9 => by omega
  refine lv_aload_n hx hb dX10_bagsNeeded_0 rfl (lv_at hl 0 rfl) ?_
  refine lv_aload_n hx hb dX10_bagsNeeded_1 rfl (lv_at hl 0 rfl) ?_
  refine lv_iload_n hx hb dX10_bagsNeeded_2 rfl (lv_at hl 1 rfl) ?_
  refine k_xq C0 hxt hH (k_xrunV (rest := [.ref (b 14 0)]) C0 hH (cC_X10_lineNumbered l hlt G A _ b _ hR hw x ) mv_X10_lineNumbered ml_X10_299 ci_14 (hR.kind (K := 14) (i := 0) rfl) rfl ⟨Nat.le_of_ble_eq_true rfl, Nat.le_of_ble_eq_true rfl⟩ hl.1 rfl (Nat.le_of_ble_eq_true rfl) dX10_bagsNeeded_3 ⟨by show _ ≤ 4 + (UC (cBn u x) - UC u); omega, by show _ ≤ 24 + (US (cBn u x) - US u); omega⟩) (fun E h9 z => ⟨z.1, b, hbe, by rw [z.2, show cBn u x = u from if_neg (fun y9 => by rw [y9] at z; exact nomatch z.1)]; exact ⟨hR, hw⟩⟩) (by omega) (by omega) (fun r_1 h1 H locs hp hH => ?_)
  obtain ⟨exr_1, er_1, eh⟩ := hp
  rw [eh] at hH
  clear eh
  have vpv_2 : vp_in (x) (nlN u) := (xLn_n hw).mp exr_1
  obtain ⟨v_2, hv_2, ev_2⟩ := vp_ex vpv_2 (by have := hw.nh; have := hw.nl; have := hw.np; omega)
  have kv_2 : (x).toNatClampNeg = v_2 := by rw [ev_2]; exact nI_clamp (by have := hw.nh; have := hw.nl; have := hw.np; omega)
  rw [show dec b 8 (x) = some (b 8 v_2) from by rw [ev_2]; exact dec_nI (by have := hw.nh; have := hw.nl; have := hw.np; omega)] at er_1
  subst er_1
  have hA0_n_3 : LG u u := (LG.refl u)
  have hA_n_3 := hA0_n_3 hw00.lw
  have h1_n_3 := hA_n_3.2.1.le
  have hB0_n_3 : LG u (cQu u (nI v_2)) := LG.qu
  have hB_n_3 := hB0_n_3 hA_n_3.1
  have hC0_n_3 : LG (cQu u (nI v_2)) (cBn u x) := (by rw [show cBn u x = cBnL (szN (cQu u (nI v_2)) 3) 0 (up (cQu u (nI v_2)) 8 12 0) from by unfold cBn; rw [if_pos exr_1, ev_2]]; exact (LG.upk (by unfold kSz; decide)).trans (LG.bnL _ _))
  have hC_n_3 := hC0_n_3 hB_n_3.1
  have h2_n_3 := hB_n_3.2.1.le
  have h3_n_3 := hC_n_3.2.1.le
  refine k_v hH (k_runV (rest := []) C0 hH (cC_X10_queueUp l G A _ b _ hR hw v_2 hv_2) mv_X10_queueUp ml_X10_302 ci_14 (hR.kind (K := 14) (i := 0) rfl) rfl ⟨Nat.le_of_ble_eq_true rfl, Nat.le_of_ble_eq_true rfl⟩ hl.1 rfl (Nat.le_of_ble_eq_true rfl) dX10_bagsNeeded_6 ⟨by show _ ≤ 4 + (UC (cBn u x) - UC u); omega, by show _ ≤ 24 + (US (cBn u x) - US u); omega⟩) (fun h H locs hp hH => ?_)
  obtain ⟨b, hbx, hR, hw⟩ := hp
  rw [← hbx 14 0 (by decide) rfl] at hl
  replace hbe := hbe.trans ((Gw.refl u).trans hA_n_3.2.1) hbx
  have hgu_n_3 := ((Gw.refl u).trans hA_n_3.2.1).trans hB_n_3.2.1
  have hlw_n_3 := hB_n_3.1
  obtain ⟨U_n_3, hU_n_3⟩ : ∃ z, z = (cQu u (nI v_2)) := ⟨_, rfl⟩
  rw [← hU_n_3] at hR hw hgu_n_3 hlw_n_3
  have hE_n_3 : UC U_n_3 = UC (cQu u (nI v_2)) ∧ US U_n_3 = US (cQu u (nI v_2)) := by rw [hU_n_3]; exact ⟨rfl, rfl⟩
  have hn_n_3 : nhN U_n_3 = nhN u ∧ nlN U_n_3 = nlN u ∧ npN U_n_3 = npN u := by rw [hU_n_3]; exact ⟨hB_n_3.2.2.1.trans hA_n_3.2.2.1, hB_n_3.2.2.2.1.trans hA_n_3.2.2.2.1, hB_n_3.2.2.2.2.trans hA_n_3.2.2.2.2⟩
  have hc7 := hw.cnt6 7
  have hc8 := hw.cnt6 8
  have hc9 := hw.cnt6 9
  replace hv_2 : v_2 < nlN U_n_3 := by rw [hn_n_3.2.1]; exact hv_2
  have hk_n_3 : ∀ k, qk k = true → U_n_3 k = u k := fun k e9 => by rw [hU_n_3]; exact cQu_k e9
  have hQ : cQu u x = U_n_3 := by rw [ev_2, hU_n_3]
  have hqs : szN U_n_3 3 ≤ 40 := by have h9 := (cQu_s (u := u) x hw00.np).2.1; rw [hQ] at h9; have := hw00.np; omega
  refine lv_aload_n hx hb dX10_bagsNeeded_9 rfl (lv_at hl 0 rfl) ?_
  refine c_getR C0 hH hR ci_14 (i := 0) (j := 5) rfl rfl (by decide) rfl fl_X10_31 (v := some (b 4 12)) rfl dX10_bagsNeeded_10 ?_
  refine k_v hH (k_runV (rest := []) C0 hH (cC_X0_clear l G A _ b _ hR hw 12 (Or.inr rfl)) mv_X0_clear ml_X10_308 ci_4 (hR.kind (K := 4) (i := 12) (Or.inr rfl)) rfl ⟨Nat.le_of_ble_eq_true rfl, Nat.le_of_ble_eq_true rfl⟩ hl.1 rfl (Nat.le_of_ble_eq_true rfl) dX10_bagsNeeded_13 ⟨by show _ ≤ 4 + (UC (cBn u x) - UC u); omega, by show _ ≤ 24 + (US (cBn u x) - US u); omega⟩) (fun h H locs hp hH => ?_)
  obtain ⟨hR, hw⟩ := hp
  refine lv_iconst (v := 0) hx hb dX10_bagsNeeded_16 (by decide) ?_
  refine lv_istore_n (lv' := [(2, .int (0)), (0, .ref (b 14 0)), (1, .int (x))]) hx hb dX10_bagsNeeded_17 rfl hl (by decide) rfl (fun ls hl => ?_)
  have K : ∀ (k : Nat) (j : Nat) (U : MM) (cc : Nat) (ss : Nat) (b : BA), j + k = szN U 3 → cBnL k j U = cBn u x → npN U = npN u ∧ nlN U = nlN u → szN U 3 ≤ 40 → Gw u U → cc ≤ 1 + (UC U - UC u) → ss ≤ 6 + (US U - US u) → BE u b0 b → ∀ (h : AH) (H : Heap) (locs : List Loc) (hH : HS G.1 G.2.1 A s.heap h H locs) (hR : RC G.2.2.1 h b U) (hw : WFc U) (ls : Array Slot), lv_has ls 3 [(2, .int (nI j)), (0, .ref (b 14 0)), (1, .int (x))] → W pr l e (rmm 7 195 (4 + (UC (cBn u x) - UC u)) (24 + (US (cBn u x) - US u))) s m9 ([.ref (b0 14 0), .int (x)] : List Value).toArray below meth c H locs cc ss (vx_MQ below (va_Qi (fun r h' => xLn u x = none ∧ r = cBn u x 8 12 ∧ ∃ b', BE u b0 b' ∧ RC G.2.2.1 h' b' (cBn u x) ∧ WFc (cBn u x)) (fun h' t => HW G.1 G.2.1 A h' t.heap) A) (xcP G A (fun E h' => xLn u x = some E ∧ ∃ b', BE u b0 b' ∧ RC G.2.2.1 h' b' (cBn u x) ∧ WFc (cBn u x))) ([.ref (b0 14 0), .int (x)] : List Value).toArray s (4 + (UC (cBn u x) - UC u)) (24 + (US (cBn u x) - US u)) A) (F0 m9 18 ls []) := by
    intro k
    induction k with
    | zero =>
      intro j U cc ss b hik hT hnU hs3 hgU hcc hss hbe h H locs hH hR hw ls hl
      have hwU := hw
      have hlU := hw.lw
      have hle0 := hgU.le
      have hc7 := hw.cnt6 7
      have hc8 := hw.cnt6 8
      have hc9 := hw.cnt6 9
      have hTg := (LG.bnL 0 j : LG U (cBnL 0 j U)) hlU
      rw [hT] at hTg
      have hTl := hTg.2.1.le
      refine lv_iload_n hx hb dX10_bagsNeeded_18 rfl (lv_at hl 0 rfl) ?_
      refine lv_aload_n hx hb dX10_bagsNeeded_19 rfl (lv_at hl 1 rfl) ?_
      refine c_getR C0 hH hR ci_14 (i := 0) (j := 3) rfl rfl (by decide) rfl fl_X10_22 (v := some (b 3 3)) rfl dX10_bagsNeeded_20 ?_
      refine k_i hH (k_runV (rest := [.int (nI j)]) C0 hH (cL_size l G A _ b _ hR hw 3 (show 3 < 6 + npN _ by omega)) mv_Jx4a65c_size_8abf5 ml_X10_79 ci_3 (hR.kind (K := 3) (i := 3) (show 3 < 6 + npN _ by omega)) rfl ⟨Nat.le_of_ble_eq_true rfl, Nat.le_of_ble_eq_true rfl⟩ hl.1 rfl (Nat.le_of_ble_eq_true rfl) dX10_bagsNeeded_23 ⟨by show _ ≤ 4 + (UC (cBn u x) - UC u); omega, by show _ ≤ 24 + (US (cBn u x) - US u); omega⟩) (fun r9 h1 H locs hp hH => ?_)
      obtain ⟨er9, eh⟩ := hp
      rw [eh] at hH
      clear eh
      subst er9
      refine lv_icmp_ge (tgt := 56) hx hb dX10_bagsNeeded_26 (by decide) (fun c26_5 => ?_) (fun c26_5 => ?_)
      · refine lv_aload_n hx hb dX10_bagsNeeded_56 rfl (lv_at hl 1 rfl) ?_
        refine c_getR C0 hH hR ci_14 (i := 0) (j := 5) rfl rfl (by decide) rfl fl_X10_31 (v := some (b 4 12)) rfl dX10_bagsNeeded_57 ?_
        refine c_getI C0 hH hR ci_4 (i := 12) (j := 2) (Or.inr rfl) rfl (by decide) rfl fl_X10_315 (v := U 8 12) rfl dX10_bagsNeeded_60 ?_
        have hA0_z : LG U U := (LG.refl U)
        have hA_z := hA0_z hlU
        have h1_z := hA_z.2.1.le
        have eM : (cBn u x) = U := by rw [← hT]; rfl
        refine vx_ret ?_
        have eR : (U 8 12 : Int32) = cBn u x 8 12 := by rw [← hT]; rfl
        exact e_I C0 hr hH ⟨exr_1, eR, b, hbe, by rw [eM]; exact ⟨hR, hw⟩⟩ (by rw [eM]; omega) (by rw [eM]; omega) dX10_bagsNeeded_63
      · exact absurd (by rw [show j = szN U 3 by omega]; exact Int32.le_refl _) c26_5
    | succ k ih =>
      intro j U cc ss b hik hT hnU hs3 hgU hcc hss hbe h H locs hH hR hw ls hl
      have hwU := hw
      have hlU := hw.lw
      have hle0 := hgU.le
      have hc7 := hw.cnt6 7
      have hc8 := hw.cnt6 8
      have hc9 := hw.cnt6 9
      have hTg := (LG.bnL (k + 1) j : LG U (cBnL (k + 1) j U)) hlU
      rw [hT] at hTg
      have hTl := hTg.2.1.le
      refine lv_iload_n hx hb dX10_bagsNeeded_18 rfl (lv_at hl 0 rfl) ?_
      refine lv_aload_n hx hb dX10_bagsNeeded_19 rfl (lv_at hl 1 rfl) ?_
      refine c_getR C0 hH hR ci_14 (i := 0) (j := 3) rfl rfl (by decide) rfl fl_X10_22 (v := some (b 3 3)) rfl dX10_bagsNeeded_20 ?_
      refine k_i hH (k_runV (rest := [.int (nI j)]) C0 hH (cL_size l G A _ b _ hR hw 3 (show 3 < 6 + npN _ by omega)) mv_Jx4a65c_size_8abf5 ml_X10_79 ci_3 (hR.kind (K := 3) (i := 3) (show 3 < 6 + npN _ by omega)) rfl ⟨Nat.le_of_ble_eq_true rfl, Nat.le_of_ble_eq_true rfl⟩ hl.1 rfl (Nat.le_of_ble_eq_true rfl) dX10_bagsNeeded_23 ⟨by show _ ≤ 4 + (UC (cBn u x) - UC u); omega, by show _ ≤ 24 + (US (cBn u x) - US u); omega⟩) (fun r9 h1 H locs hp hH => ?_)
      obtain ⟨er9, eh⟩ := hp
      rw [eh] at hH
      clear eh
      subst er9
      refine lv_icmp_ge (tgt := 56) hx hb dX10_bagsNeeded_26 (by decide) (fun c26_6 => ?_) (fun c26_6 => ?_)
      · exact absurd c26_6 (nI_ge (show j < szN U 3 by omega) (by omega))
      · have hjU : j < szN U 3 := by omega
        refine lv_aload_n hx hb dX10_bagsNeeded_29 rfl (lv_at hl 1 rfl) ?_
        refine c_getR C0 hH hR ci_14 (i := 0) (j := 5) rfl rfl (by decide) rfl fl_X10_31 (v := some (b 4 12)) rfl dX10_bagsNeeded_30 ?_
        refine lv_aload_n hx hb dX10_bagsNeeded_33 rfl (lv_at hl 1 rfl) ?_
        refine c_getR C0 hH hR ci_14 (i := 0) (j := 3) rfl rfl (by decide) rfl fl_X10_22 (v := some (b 3 3)) rfl dX10_bagsNeeded_34 ?_
        refine lv_iload_n hx hb dX10_bagsNeeded_37 rfl (lv_at hl 0 rfl) ?_
        obtain ⟨v_7, hv_7, ev_7⟩ := hw.exP (show vp_in (U 36 j) _ from hw.qu hjU)
        have kv_7 : (U 36 j).toNatClampNeg = v_7 := by rw [ev_7]; exact nI_clamp (by have := hw.nh; have := hw.np; omega)
        refine k_q hH (k_runV (rest := [.ref (b 4 12)]) C0 hH (cL_get l G A _ b _ hR hw 3 j (show 3 < 6 + npN _ by omega) hjU (a := b 9 v_7) (show b 9 (U 36 j).toNatClampNeg = b 9 v_7 from by rw [ev_7, nI_clamp (by have := hw.np; omega)])) mv_Jx4a65c_get_915e3 ml_X10_143 ci_3 (hR.kind (K := 3) (i := 3) (show 3 < 6 + npN _ by omega)) rfl ⟨Nat.le_of_ble_eq_true rfl, Nat.le_of_ble_eq_true rfl⟩ hl.1 rfl (Nat.le_of_ble_eq_true rfl) dX10_bagsNeeded_38 ⟨by show _ ≤ 4 + (UC (cBn u x) - UC u); omega, by show _ ≤ 24 + (US (cBn u x) - US u); omega⟩) (fun r9 h1 H locs hp hH => ?_)
        obtain ⟨er9, eh⟩ := hp
        rw [eh] at hH
        clear eh
        subst er9
        refine k_chk C0 hH ci_9 (hR.kind (K := 9) (i := v_7) hv_7) cl_X10_162 dX10_bagsNeeded_41 ?_
        refine lv_bipush (v := 40) hx hb dX10_bagsNeeded_44 (by decide) ?_
        have hA0_n_8 : LG U U := (LG.refl U)
        have hA_n_8 := hA0_n_8 hlU
        have h1_n_8 := hA_n_8.2.1.le
        refine k_i hH (k_runV (rest := []) C0 hH (cC_X0_put l G A _ b _ hR hw 12 40 v_7 40 (Or.inr rfl) rfl hv_7) mv_X0_put ml_X10_311 ci_4 (hR.kind (K := 4) (i := 12) (Or.inr rfl)) rfl ⟨Nat.le_of_ble_eq_true rfl, Nat.le_of_ble_eq_true rfl⟩ hl.1 rfl (Nat.le_of_ble_eq_true rfl) dX10_bagsNeeded_46 ⟨by show _ ≤ 4 + (UC (cBn u x) - UC u); omega, by show _ ≤ 24 + (US (cBn u x) - US u); omega⟩) (fun r_9 h H locs hp hH => ?_)
        obtain ⟨er_9, hR, hw⟩ := hp
        subst er_9
        have hB0_n_8 : LG U ((cPut U 12 40 v_7 40).2) := LG.put
        have hB_n_8 := hB0_n_8 hA_n_8.1
        have h2_n_8 := hB_n_8.2.1.le
        have hgu_n_8 := (hgU.trans hA_n_8.2.1).trans hB_n_8.2.1
        have hlw_n_8 := hB_n_8.1
        obtain ⟨U_n_8, hU_n_8⟩ : ∃ z, z = ((cPut U 12 40 v_7 40).2) := ⟨_, rfl⟩
        rw [← hU_n_8] at hR hw hgu_n_8 hlw_n_8
        have hE_n_8 : UC U_n_8 = UC ((cPut U 12 40 v_7 40).2) ∧ US U_n_8 = US ((cPut U 12 40 v_7 40).2) := by rw [hU_n_8]; exact ⟨rfl, rfl⟩
        have hn_n_8 : nhN U_n_8 = nhN U ∧ nlN U_n_8 = nlN U ∧ npN U_n_8 = npN U := by rw [hU_n_8]; exact ⟨hB_n_8.2.2.1.trans hA_n_8.2.2.1, hB_n_8.2.2.2.1.trans hA_n_8.2.2.2.1, hB_n_8.2.2.2.2.trans hA_n_8.2.2.2.2⟩
        have hc7 := hw.cnt6 7
        have hc8 := hw.cnt6 8
        have hc9 := hw.cnt6 9
        replace hv_7 : v_7 < npN U_n_8 := by rw [hn_n_8.2.2]; exact hv_7
        refine lv_pop hx hb dX10_bagsNeeded_49 rfl ?_
        refine lv_iinc (v := nI (j + 1)) (lv' := [(2, .int (nI (j + 1))), (0, .ref (b 14 0)), (1, .int (x))]) hx hb dX10_bagsNeeded_50 hl (k := 0) rfl (by rw [← nI_1]; rfl) (by decide) rfl (fun ls hl => ?_)
        refine lv_goto (tgt := 18) hx hb dX10_bagsNeeded_53 (by decide) ?_
        exact ih (j + 1) U_n_8 cc ss b (by rw [show szN U_n_8 3 = szN U 3 by unfold szN; rw [hU_n_8, cPut_k rfl]]; omega) (by rw [← hT]; simp only [cBnL]; rw [kv_7, hU_n_8]) ⟨hn_n_8.2.2.trans hnU.1, hn_n_8.2.1.trans hnU.2⟩ (by rw [show szN U_n_8 3 = szN U 3 by unfold szN; rw [hU_n_8, cPut_k rfl]]; exact hs3) hgu_n_8 (by omega) (by omega) hbe _ _ _ hH hR hw ls (lv_sub hl [0, 1, 2] rfl)
  have hA0_y : LG U_n_3 (up U_n_3 8 12 0) := (LG.trans (LG.refl U_n_3) (LG.upk (k := 8) (by unfold kSz; decide)))
  have hA_y := hA0_y hlw_n_3
  have h1_y := hA_y.2.1.le
  exact K (szN U_n_3 3) 0 (up U_n_3 8 12 0) _ _ b (by show 0 + _ = szN U_n_3 3; omega) (by unfold cBn; rw [if_pos exr_1, hQ]) ⟨hA_y.2.2.2.2.trans hn_n_3.2.2, hA_y.2.2.2.1.trans hn_n_3.2.1⟩ hqs (hgu_n_3.trans hA_y.2.1) (by omega) (by omega) hbe _ _ _ hH hR hw ls (lv_sub hl [0, 1, 2] rfl)

