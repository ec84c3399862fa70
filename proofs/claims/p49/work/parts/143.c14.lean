set_option maxHeartbeats 800000 in
set_option maxRecDepth 100000 in
theorem cC_X10_hold (l : Launch) (G : GT) (A : Nat → Prop) (h : AH) (b0 : BA) (u : MM) (hR : RC G.2.2.1 h b0 u) (hw : WFc u) (p : Nat) (hp0 : p < npN u) : cmV l G A yX10_hold cX10_hold 2 9 355 (UC (cHold u p) - UC u) (US (cHold u p) - US u) [.ref (b0 14 0), .ref (b0 9 p)] h (fun h' => ∃ b', BE u b0 b' ∧ RC G.2.2.1 h' b' (cHold u p) ∧ WFc (cHold u p)) := by
  refine cm_of "Routepost" rfl (by decide) (Nat.le_of_ble_eq_true rfl) ?_
  intro pr e s m9 below meth c C0 hr hname hH ls hl
  obtain ⟨hx, hb, hml, hown, hts, hK, hA, -⟩ := id C0
  have hl : lv_has ls 2 [(0, .ref (b0 14 0)), (1, .ref (b0 9 p))] := hl
  obtain ⟨b, hb0⟩ : ∃ z, z = b0 := ⟨_, rfl⟩
  rw [← hb0] at hR hl
  have hbe : BE u b0 b := by rw [hb0]; exact BE.refl u b0
  have hc7 := hw.cnt6 7
  have hc8 := hw.cnt6 8
  have hc9 := hw.cnt6 9
  have hw00 := hw
  have hp00 := hp0
  refine lv_aload_n hx hb dX10_hold_0 rfl (lv_at hl 1 rfl) ?_
  refine lv_bipush (v := 104) hx hb dX10_hold_1 (by decide) ?_
  refine c_putI C0 hH hR ci_9 (i := p) (j := 8) hp0 rfl (k := 28) rfl (by decide) (by decide) rfl fl_X10_190 rfl (x := 104) (by decide) (by decide) dX10_hold_3 (fun h H locs hH hR => ?_)
  replace hw := hw.upx (k := 28) (i := p) (x := 104) (by unfold kWc kSz; decide)
  refine lv_aload_n hx hb dX10_hold_6 rfl (lv_at hl 1 rfl) ?_
  refine c_getR C0 hH hR ci_9 (i := p) (j := 5) hp0 rfl (by decide) rfl fl_X10_171 (v := some (b 6 p)) rfl dX10_hold_7 ?_
  refine lv_bipush (v := 104) hx hb dX10_hold_10 (by decide) ?_
  refine lv_aload_n hx hb dX10_hold_12 rfl (lv_at hl 0 rfl) ?_
  refine c_getI C0 hH hR ci_14 (i := 0) (j := 9) rfl rfl (by decide) rfl fl_X10_56 (v := u 41 0) rfl dX10_hold_13 ?_
  refine lv_aload_n hx hb dX10_hold_16 rfl (lv_at hl 1 rfl) ?_
  obtain ⟨v_1, hv_1, ev_1⟩ := hw.exH (show vp_in (u 15 p) _ from (hw.pa hp0).2.2)
  have kv_1 : (u 15 p).toNatClampNeg = v_1 := by rw [ev_1]; exact nI_clamp (by have := hw.nh; have := hw.np; omega)
  refine c_getR C0 hH hR ci_9 (i := p) (j := 7) hp0 rfl (by decide) rfl fl_X10_196 (v := some (b 7 v_1)) (show dec b 7 ((up u 28 p 104) 15 p) = some (b 7 v_1) from by rw [show (up u 28 p 104) 15 p = nI v_1 from Eq.trans rfl ev_1]; exact dec_nI (by have := hc7; have := (show v_1 < cnt u 7 from hv_1); omega)) dX10_hold_17 ?_
  refine lv_null hx hb dX10_hold_20 ?_
  have hA0_n_2 : LG u (up u 28 p 104) := (LG.trans (LG.refl u) (LG.upk (k := 28) (by unfold kSz; decide)))
  have hA_n_2 := hA0_n_2 hw00.lw
  have h1_n_2 := hA_n_2.2.1.le
  have hB0_n_2 : LG (up u 28 p 104) (cNote (up u 28 p 104) p 8 (u 41 0) v_1 (-1)) := (LG.note hp0)
  have hB_n_2 := hB0_n_2 hA_n_2.1
  have hC0_n_2 : LG (cNote (up u 28 p 104) p 8 (u 41 0) v_1 (-1)) (cHold u p) := (by rw [show (cHold u p) = (cNote (up u 28 p 104) p 8 (u 41 0) v_1 (-1)) from by unfold cHold; rw [kv_1]]; exact LG.refl _)
  have hC_n_2 := hC0_n_2 hB_n_2.1
  have h2_n_2 := hB_n_2.2.1.le
  have h3_n_2 := hC_n_2.2.1.le
  refine k_v hH (k_runV (rest := []) C0 hH (cC_X2_note_n l G A _ b _ hR hw p 8 (u 41 0) v_1 hp0 (by decide) hv_1) mv_X2_note ml_X10_175 ci_6 (hR.kind (K := 6) (i := p) hp0) rfl ⟨Nat.le_of_ble_eq_true rfl, Nat.le_of_ble_eq_true rfl⟩ hl.1 rfl (Nat.le_of_ble_eq_true rfl) dX10_hold_21 ⟨by show _ ≤ UC (cHold u p) - UC u; omega, by show _ ≤ US (cHold u p) - US u; omega⟩) (fun h H locs hp hH => ?_)
  obtain ⟨b, hbx, hR, hw⟩ := hp
  rw [← hbx 14 0 (by decide) rfl, ← hbx 9 p (by decide) hp0] at hl
  replace hbe := hbe.trans ((Gw.refl u).trans hA_n_2.2.1) hbx
  have hgu_n_2 := ((Gw.refl u).trans hA_n_2.2.1).trans hB_n_2.2.1
  have hlw_n_2 := hB_n_2.1
  obtain ⟨U_n_2, hU_n_2⟩ : ∃ z, z = (cNote (up u 28 p 104) p 8 (u 41 0) v_1 (-1)) := ⟨_, rfl⟩
  rw [← hU_n_2] at hR hw hgu_n_2 hlw_n_2
  have hE_n_2 : UC U_n_2 = UC (cNote (up u 28 p 104) p 8 (u 41 0) v_1 (-1)) ∧ US U_n_2 = US (cNote (up u 28 p 104) p 8 (u 41 0) v_1 (-1)) := by rw [hU_n_2]; exact ⟨rfl, rfl⟩
  have hn_n_2 : nhN U_n_2 = nhN u ∧ nlN U_n_2 = nlN u ∧ npN U_n_2 = npN u := by rw [hU_n_2]; exact ⟨hB_n_2.2.2.1.trans hA_n_2.2.2.1, hB_n_2.2.2.2.1.trans hA_n_2.2.2.2.1, hB_n_2.2.2.2.2.trans hA_n_2.2.2.2.2⟩
  have hc7 := hw.cnt6 7
  have hc8 := hw.cnt6 8
  have hc9 := hw.cnt6 9
  replace hp0 : p < npN U_n_2 := by rw [hn_n_2.2.2]; exact hp0
  replace hv_1 : v_1 < nhN U_n_2 := by rw [hn_n_2.1]; exact hv_1
  have hk_n_2 : ∀ k, nk k = true → U_n_2 k = (up u 28 p 104) k := fun k e9 => by rw [hU_n_2]; exact cNote_k e9
  have hA0_z : LG U_n_2 U_n_2 := (LG.refl U_n_2)
  have hA_z := hA0_z hlw_n_2
  have h1_z := hA_z.2.1.le
  have eM : (cHold u p) = U_n_2 := by unfold cHold; rw [kv_1, hU_n_2]
  exact e_V C0 hr hH ⟨b, hbe, by rw [eM]; exact ⟨hR, hw⟩⟩ (by rw [eM]; omega) (by rw [eM]; omega) dX10_hold_24
set_option maxHeartbeats 800000 in
set_option maxRecDepth 100000 in
theorem cC_X10_turnBack (l : Launch) (G : GT) (A : Nat → Prop) (h : AH) (b0 : BA) (u : MM) (hR : RC G.2.2.1 h b0 u) (hw : WFc u) (p : Nat) (hp0 : p < npN u) : cmV l G A yX10_turnBack cX10_turnBack 2 9 355 (UC (cTurn u p) - UC u) (US (cTurn u p) - US u) [.ref (b0 14 0), .ref (b0 9 p)] h (fun h' => ∃ b', BE u b0 b' ∧ RC G.2.2.1 h' b' (cTurn u p) ∧ WFc (cTurn u p)) := by
  refine cm_of "Routepost" rfl (by decide) (Nat.le_of_ble_eq_true rfl) ?_
  intro pr e s m9 below meth c C0 hr hname hH ls hl
  obtain ⟨hx, hb, hml, hown, hts, hK, hA, -⟩ := id C0
  have hl : lv_has ls 2 [(0, .ref (b0 14 0)), (1, .ref (b0 9 p))] := hl
  obtain ⟨b, hb0⟩ : ∃ z, z = b0 := ⟨_, rfl⟩
  rw [← hb0] at hR hl
  have hbe : BE u b0 b := by rw [hb0]; exact BE.refl u b0
  have hc7 := hw.cnt6 7
  have hc8 := hw.cnt6 8
  have hc9 := hw.cnt6 9
  have hw00 := hw
  have hp00 := hp0
  refine lv_aload_n hx hb dX10_turnBack_0 rfl (lv_at hl 1 rfl) ?_
  refine lv_iconst (v := 1) hx hb dX10_turnBack_1 (by decide) ?_
  refine c_putI C0 hH hR ci_9 (i := p) (j := 19) hp0 rfl (k := 29) rfl (by decide) (by decide) rfl fl_X10_222 rfl (x := 1) (by decide) (by decide) dX10_turnBack_2 (fun h H locs hH hR => ?_)
  replace hw := hw.upx (k := 29) (i := p) (x := 1) (by unfold kWc kSz; decide)
  refine lv_aload_n hx hb dX10_turnBack_5 rfl (lv_at hl 1 rfl) ?_
  refine lv_aload_n hx hb dX10_turnBack_6 rfl (lv_at hl 1 rfl) ?_
  obtain ⟨v_1, hv_1, ev_1⟩ := hw.exH (show vp_in (u 13 p) _ from (hw.pa hp0).1)
  have kv_1 : (u 13 p).toNatClampNeg = v_1 := by rw [ev_1]; exact nI_clamp (by have := hw.nh; have := hw.np; omega)
  refine c_getR C0 hH hR ci_9 (i := p) (j := 4) hp0 rfl (by decide) rfl fl_X10_389 (v := some (b 7 v_1)) (show dec b 7 ((up u 29 p 1) 13 p) = some (b 7 v_1) from by rw [show (up u 29 p 1) 13 p = nI v_1 from Eq.trans rfl ev_1]; exact dec_nI (by have := hc7; have := (show v_1 < cnt u 7 from hv_1); omega)) dX10_turnBack_7 ?_
  refine c_putR C0 hH hR ci_9 (i := p) (j := 6) hp0 rfl (k := 14) rfl (by decide) rfl fl_X10_207 rfl ⟨_, rfl⟩ (nI v_1) (v := some (b 7 v_1)) (dec_nI (by have h9 : v_1 < cnt u 7 := hv_1; have := hc7; omega)).symm dX10_turnBack_10 (fun h H locs hH hR => ?_)
  replace hw := hw.upr (k := 14) (i := p) (x := nI v_1) (by decide) (RG_v hv_1 (hw.cnt6 7)) (fun z => absurd z (by omega)) (fun _ _ => (vp_in_nI (hv_1) (by have := hw.nh; omega))) (fun z => absurd z (by omega))
  rw [← ev_1] at hR hw
  refine lv_aload_n hx hb dX10_turnBack_13 rfl (lv_at hl 1 rfl) ?_
  refine lv_iconst (v := 0) hx hb dX10_turnBack_14 (by decide) ?_
  refine c_putI C0 hH hR ci_9 (i := p) (j := 17) hp0 rfl (k := 23) rfl (by decide) (by decide) rfl fl_X10_255 rfl (x := 0) rfl rfl dX10_turnBack_15 (fun h H locs hH hR => ?_)
  replace hw := hw.upx (k := 23) (i := p) (x := 0) (by unfold kWc kSz; decide)
  refine lv_aload_n hx hb dX10_turnBack_18 rfl (lv_at hl 1 rfl) ?_
  refine lv_iconst (v := (-1)) hx hb dX10_turnBack_19 (by decide) ?_
  refine c_putI C0 hH hR ci_9 (i := p) (j := 13) hp0 rfl (k := 21) rfl (by decide) (by decide) rfl fl_X10_392 rfl (x := (-1)) rfl rfl dX10_turnBack_20 (fun h H locs hH hR => ?_)
  replace hw := hw.upx (k := 21) (i := p) (x := (-1)) (by unfold kWc kSz; decide)
  refine lv_aload_n hx hb dX10_turnBack_23 rfl (lv_at hl 1 rfl) ?_
  refine lv_aload_n hx hb dX10_turnBack_24 rfl (lv_at hl 1 rfl) ?_
  obtain ⟨v_2, hv_2, ev_2⟩ := hw.exH (show vp_in (u 15 p) _ from (hw.pa hp0).2.2)
  have kv_2 : (u 15 p).toNatClampNeg = v_2 := by rw [ev_2]; exact nI_clamp (by have := hw.nh; have := hw.np; omega)
  refine c_getR C0 hH hR ci_9 (i := p) (j := 7) hp0 rfl (by decide) rfl fl_X10_196 (v := some (b 7 v_2)) (show dec b 7 ((up (up (up (up u 29 p 1) 14 p (u 13 p)) 23 p 0) 21 p (-1)) 15 p) = some (b 7 v_2) from by rw [show (up (up (up (up u 29 p 1) 14 p (u 13 p)) 23 p 0) 21 p (-1)) 15 p = nI v_2 from Eq.trans rfl ev_2]; exact dec_nI (by have := hc7; have := (show v_2 < cnt u 7 from hv_2); omega)) dX10_turnBack_25 ?_
  refine lv_aload_n hx hb dX10_turnBack_28 rfl (lv_at hl 0 rfl) ?_
  refine c_getI C0 hH hR ci_14 (i := 0) (j := 9) rfl rfl (by decide) rfl fl_X10_56 (v := u 41 0) rfl dX10_turnBack_29 ?_
  have hA0_n_3 : LG u (up (up (up (up u 29 p 1) 14 p (u 13 p)) 23 p 0) 21 p (-1)) := (LG.trans (LG.trans (LG.trans (LG.trans (LG.refl u) (LG.upk (k := 29) (by unfold kSz; decide))) (LG.upk (k := 14) (by unfold kSz; decide))) (LG.upk (k := 23) (by unfold kSz; decide))) (LG.upk (k := 21) (by unfold kSz; decide)))
  have hA_n_3 := hA0_n_3 hw00.lw
  have h1_n_3 := hA_n_3.2.1.le
  refine k_v hH (k_runV (rest := []) C0 hH (cC_X5_settle l G A _ b _ hR hw p v_2 (u 41 0) hp0 hv_2) mv_X5_settle ml_X10_167 ci_9 (hR.kind (K := 9) (i := p) hp0) rfl ⟨Nat.le_of_ble_eq_true rfl, Nat.le_of_ble_eq_true rfl⟩ hl.1 rfl (Nat.le_of_ble_eq_true rfl) dX10_turnBack_32 ⟨by show _ ≤ UC (cTurn u p) - UC u; omega, by show _ ≤ US (cTurn u p) - US u; omega⟩) (fun h H locs hp hH => ?_)
  obtain ⟨hR, hw⟩ := hp
  rw [← ev_2] at hR hw
  have hB0_n_3 : LG (up (up (up (up u 29 p 1) 14 p (u 13 p)) 23 p 0) 21 p (-1)) (cSettle (up (up (up (up u 29 p 1) 14 p (u 13 p)) 23 p 0) 21 p (-1)) p (u 15 p) (u 41 0)) := LG.settle
  have hB_n_3 := hB0_n_3 hA_n_3.1
  have h2_n_3 := hB_n_3.2.1.le
  have hgu_n_3 := ((Gw.refl u).trans hA_n_3.2.1).trans hB_n_3.2.1
  have hlw_n_3 := hB_n_3.1
  obtain ⟨U_n_3, hU_n_3⟩ : ∃ z, z = (cSettle (up (up (up (up u 29 p 1) 14 p (u 13 p)) 23 p 0) 21 p (-1)) p (u 15 p) (u 41 0)) := ⟨_, rfl⟩
  rw [← hU_n_3] at hR hw hgu_n_3 hlw_n_3
  have hE_n_3 : UC U_n_3 = UC (cSettle (up (up (up (up u 29 p 1) 14 p (u 13 p)) 23 p 0) 21 p (-1)) p (u 15 p) (u 41 0)) ∧ US U_n_3 = US (cSettle (up (up (up (up u 29 p 1) 14 p (u 13 p)) 23 p 0) 21 p (-1)) p (u 15 p) (u 41 0)) := by rw [hU_n_3]; exact ⟨rfl, rfl⟩
  have hn_n_3 : nhN U_n_3 = nhN u ∧ nlN U_n_3 = nlN u ∧ npN U_n_3 = npN u := by rw [hU_n_3]; exact ⟨hB_n_3.2.2.1.trans hA_n_3.2.2.1, hB_n_3.2.2.2.1.trans hA_n_3.2.2.2.1, hB_n_3.2.2.2.2.trans hA_n_3.2.2.2.2⟩
  have hc7 := hw.cnt6 7
  have hc8 := hw.cnt6 8
  have hc9 := hw.cnt6 9
  replace hp0 : p < npN U_n_3 := by rw [hn_n_3.2.2]; exact hp0
  replace hv_1 : v_1 < nhN U_n_3 := by rw [hn_n_3.1]; exact hv_1
  replace hv_2 : v_2 < nhN U_n_3 := by rw [hn_n_3.1]; exact hv_2
  have hk_n_3 : ∀ k, stk k = true → U_n_3 k = (up (up (up (up u 29 p 1) 14 p (u 13 p)) 23 p 0) 21 p (-1)) k := fun k e9 => by rw [hU_n_3]; exact cSettle_k e9
  have hs15_n_3 : U_n_3 15 p = u 15 p := by rw [hU_n_3]; unfold cSettle; split <;> simp [up]
  have hs28_n_3 : U_n_3 28 p = 115 := by rw [hU_n_3]; unfold cSettle; split <;> simp [up]
  refine lv_aload_n hx hb dX10_turnBack_35 rfl (lv_at hl 1 rfl) ?_
  refine c_getR C0 hH hR ci_9 (i := p) (j := 5) hp0 rfl (by decide) rfl fl_X10_171 (v := some (b 6 p)) rfl dX10_turnBack_36 ?_
  refine lv_bipush (v := 114) hx hb dX10_turnBack_39 (by decide) ?_
  refine lv_aload_n hx hb dX10_turnBack_41 rfl (lv_at hl 0 rfl) ?_
  refine c_getI C0 hH hR ci_14 (i := 0) (j := 9) rfl rfl (by decide) rfl fl_X10_56 (v := u 41 0) (by show U_n_3 41 0 = _; simp [up, hk_n_3 41 rfl]) dX10_turnBack_42 ?_
  refine lv_aload_n hx hb dX10_turnBack_45 rfl (lv_at hl 1 rfl) ?_
  refine c_getR C0 hH hR ci_9 (i := p) (j := 7) hp0 rfl (by decide) rfl fl_X10_196 (v := some (b 7 v_2)) (show dec b 7 (U_n_3 15 p) = some (b 7 v_2) from by rw [show U_n_3 15 p = nI v_2 from Eq.trans (by show U_n_3 15 p = _; simp [up, hs15_n_3]) ev_2]; exact dec_nI (by have := hc7; have := (show v_2 < cnt U_n_3 7 from hv_2); omega)) dX10_turnBack_46 ?_
  refine lv_null hx hb dX10_turnBack_49 ?_
  have hA0_n_5 : LG U_n_3 U_n_3 := (LG.refl U_n_3)
  have hA_n_5 := hA0_n_5 hlw_n_3
  have h1_n_5 := hA_n_5.2.1.le
  have hB0_n_5 : LG U_n_3 (cNote U_n_3 p 7 (u 41 0) v_2 (-1)) := (LG.note hp0)
  have hB_n_5 := hB0_n_5 hA_n_5.1
  have hC0_n_5 : LG (cNote U_n_3 p 7 (u 41 0) v_2 (-1)) (cTurn u p) := (by rw [show cTurn u p = cPlanP (cNote U_n_3 p 7 (u 41 0) v_2 (-1)) p from by unfold cTurn; rw [hU_n_3, kv_2]; rfl]; exact LG.planP)
  have hC_n_5 := hC0_n_5 hB_n_5.1
  have h2_n_5 := hB_n_5.2.1.le
  have h3_n_5 := hC_n_5.2.1.le
  refine k_v hH (k_runV (rest := []) C0 hH (cC_X2_note_n l G A _ b _ hR hw p 7 (u 41 0) v_2 hp0 (by decide) hv_2) mv_X2_note ml_X10_175 ci_6 (hR.kind (K := 6) (i := p) hp0) rfl ⟨Nat.le_of_ble_eq_true rfl, Nat.le_of_ble_eq_true rfl⟩ hl.1 rfl (Nat.le_of_ble_eq_true rfl) dX10_turnBack_50 ⟨by show _ ≤ UC (cTurn u p) - UC u; omega, by show _ ≤ US (cTurn u p) - US u; omega⟩) (fun h H locs hp hH => ?_)
  obtain ⟨b, hbx, hR, hw⟩ := hp
  rw [← hbx 14 0 (by decide) rfl, ← hbx 9 p (by decide) hp0] at hl
  replace hbe := hbe.trans (hgu_n_3.trans hA_n_5.2.1) hbx
  have hgu_n_5 := (hgu_n_3.trans hA_n_5.2.1).trans hB_n_5.2.1
  have hlw_n_5 := hB_n_5.1
  obtain ⟨U_n_5, hU_n_5⟩ : ∃ z, z = (cNote U_n_3 p 7 (u 41 0) v_2 (-1)) := ⟨_, rfl⟩
  rw [← hU_n_5] at hR hw hgu_n_5 hlw_n_5
  have hE_n_5 : UC U_n_5 = UC (cNote U_n_3 p 7 (u 41 0) v_2 (-1)) ∧ US U_n_5 = US (cNote U_n_3 p 7 (u 41 0) v_2 (-1)) := by rw [hU_n_5]; exact ⟨rfl, rfl⟩
  have hn_n_5 : nhN U_n_5 = nhN U_n_3 ∧ nlN U_n_5 = nlN U_n_3 ∧ npN U_n_5 = npN U_n_3 := by rw [hU_n_5]; exact ⟨hB_n_5.2.2.1.trans hA_n_5.2.2.1, hB_n_5.2.2.2.1.trans hA_n_5.2.2.2.1, hB_n_5.2.2.2.2.trans hA_n_5.2.2.2.2⟩
  have hc7 := hw.cnt6 7
  have hc8 := hw.cnt6 8
  have hc9 := hw.cnt6 9
  replace hp0 : p < npN U_n_5 := by rw [hn_n_5.2.2]; exact hp0
  replace hv_1 : v_1 < nhN U_n_5 := by rw [hn_n_5.1]; exact hv_1
  replace hv_2 : v_2 < nhN U_n_5 := by rw [hn_n_5.1]; exact hv_2
  have hk_n_5 : ∀ k, nk k = true → U_n_5 k = U_n_3 k := fun k e9 => by rw [hU_n_5]; exact cNote_k e9
  refine lv_aload_n hx hb dX10_turnBack_53 rfl (lv_at hl 0 rfl) ?_
  refine lv_aload_n hx hb dX10_turnBack_54 rfl (lv_at hl 1 rfl) ?_
  have hA0_n_6 : LG U_n_5 U_n_5 := (LG.refl U_n_5)
  have hA_n_6 := hA0_n_6 hlw_n_5
  have h1_n_6 := hA_n_6.2.1.le
  refine k_v hH (k_runV (rest := []) C0 hH (cC_X10_planWithPromise l G A _ b _ hR hw p hp0) mv_X10_planWithPromise ml_X10_181 ci_14 (hR.kind (K := 14) (i := 0) rfl) rfl ⟨Nat.le_of_ble_eq_true rfl, Nat.le_of_ble_eq_true rfl⟩ hl.1 rfl (Nat.le_of_ble_eq_true rfl) dX10_turnBack_55 ⟨by show _ ≤ UC (cTurn u p) - UC u; omega, by show _ ≤ US (cTurn u p) - US u; omega⟩) (fun h H locs hp hH => ?_)
  obtain ⟨hR, hw⟩ := hp
  have hB0_n_6 : LG U_n_5 (cPlanP U_n_5 p) := LG.planP
  have hB_n_6 := hB0_n_6 hA_n_6.1
  have h2_n_6 := hB_n_6.2.1.le
  have hgu_n_6 := (hgu_n_5.trans hA_n_6.2.1).trans hB_n_6.2.1
  have hlw_n_6 := hB_n_6.1
  obtain ⟨U_n_6, hU_n_6⟩ : ∃ z, z = (cPlanP U_n_5 p) := ⟨_, rfl⟩
  rw [← hU_n_6] at hR hw hgu_n_6 hlw_n_6
  have hE_n_6 : UC U_n_6 = UC (cPlanP U_n_5 p) ∧ US U_n_6 = US (cPlanP U_n_5 p) := by rw [hU_n_6]; exact ⟨rfl, rfl⟩
  have hn_n_6 : nhN U_n_6 = nhN U_n_5 ∧ nlN U_n_6 = nlN U_n_5 ∧ npN U_n_6 = npN U_n_5 := by rw [hU_n_6]; exact ⟨hB_n_6.2.2.1.trans hA_n_6.2.2.1, hB_n_6.2.2.2.1.trans hA_n_6.2.2.2.1, hB_n_6.2.2.2.2.trans hA_n_6.2.2.2.2⟩
  have hc7 := hw.cnt6 7
  have hc8 := hw.cnt6 8
  have hc9 := hw.cnt6 9
  replace hp0 : p < npN U_n_6 := by rw [hn_n_6.2.2]; exact hp0
  replace hv_1 : v_1 < nhN U_n_6 := by rw [hn_n_6.1]; exact hv_1
  replace hv_2 : v_2 < nhN U_n_6 := by rw [hn_n_6.1]; exact hv_2
  have hA0_z : LG U_n_6 U_n_6 := (LG.refl U_n_6)
  have hA_z := hA0_z hlw_n_6
  have h1_z := hA_z.2.1.le
  have eM : (cTurn u p) = U_n_6 := by unfold cTurn; rw [hU_n_6, hU_n_5, hU_n_3, kv_2]; rfl
  exact e_V C0 hr hH ⟨b, hbe, by rw [eM]; exact ⟨hR, hw⟩⟩ (by rw [eM]; omega) (by rw [eM]; omega) dX10_turnBack_58
set_option maxHeartbeats 800000 in
set_option maxRecDepth 100000 in
theorem cC_X10_failAttempt (l : Launch) (G : GT) (A : Nat → Prop) (h : AH) (b0 : BA) (u : MM) (hR : RC G.2.2.1 h b0 u) (hw : WFc u) (p : Nat) (hp0 : p < npN u) : cmI l G A yX10_failAttempt cX10_failAttempt 2 (Option.some FieldType.char) 10 376 (UC (cFail u p) - UC u) (US (cFail u p) - US u) [.ref (b0 14 0), .ref (b0 9 p)] h (fun r h' => r = cFailR u p ∧ ∃ b', BE u b0 b' ∧ RC G.2.2.1 h' b' (cFail u p) ∧ WFc (cFail u p)) := by
  refine cm_of "Routepost" rfl (by decide) (Nat.le_of_ble_eq_true rfl) ?_
  intro pr e s m9 below meth c C0 hr hname hH ls hl
  obtain ⟨hx, hb, hml, hown, hts, hK, hA, -⟩ := id C0
  have hl : lv_has ls 2 [(0, .ref (b0 14 0)), (1, .ref (b0 9 p))] := hl
  obtain ⟨b, hb0⟩ : ∃ z, z = b0 := ⟨_, rfl⟩
  rw [← hb0] at hR hl
  have hbe : BE u b0 b := by rw [hb0]; exact BE.refl u b0
  have hc7 := hw.cnt6 7
  have hc8 := hw.cnt6 8
  have hc9 := hw.cnt6 9
  have hw00 := hw
  have hp00 := hp0
  refine lv_aload_n hx hb dX10_failAttempt_0 rfl (lv_at hl 1 rfl) ?_
  refine lv_dup hx hb dX10_failAttempt_1 rfl ?_
  refine c_getI C0 hH hR ci_9 (i := p) (j := 17) hp0 rfl (by decide) rfl fl_X10_255 (v := u 23 p) rfl dX10_failAttempt_2 ?_
  refine lv_iconst (v := 1) hx hb dX10_failAttempt_5 (by decide) ?_
  refine lv_iadd hx hb dX10_failAttempt_6 ?_
  refine c_putI C0 hH hR ci_9 (i := p) (j := 17) hp0 rfl (k := 23) rfl (by decide) (by decide) rfl fl_X10_255 rfl (x := (u 23 p) + 1) rfl rfl dX10_failAttempt_7 (fun h H locs hH hR => ?_)
  replace hw := hw.upx (k := 23) (i := p) (x := (u 23 p) + 1) (by unfold kWc kSz; decide)
  refine lv_aload_n hx hb dX10_failAttempt_10 rfl (lv_at hl 1 rfl) ?_
  refine c_getR C0 hH hR ci_9 (i := p) (j := 5) hp0 rfl (by decide) rfl fl_X10_171 (v := some (b 6 p)) rfl dX10_failAttempt_11 ?_
  refine lv_bipush (v := 102) hx hb dX10_failAttempt_14 (by decide) ?_
  refine lv_aload_n hx hb dX10_failAttempt_16 rfl (lv_at hl 0 rfl) ?_
  refine c_getI C0 hH hR ci_14 (i := 0) (j := 9) rfl rfl (by decide) rfl fl_X10_56 (v := u 41 0) rfl dX10_failAttempt_17 ?_
  refine lv_aload_n hx hb dX10_failAttempt_20 rfl (lv_at hl 1 rfl) ?_
  obtain ⟨v_1, hv_1, ev_1⟩ := hw.exH (show vp_in (u 15 p) _ from (hw.pa hp0).2.2)
  have kv_1 : (u 15 p).toNatClampNeg = v_1 := by rw [ev_1]; exact nI_clamp (by have := hw.nh; have := hw.np; omega)
  refine c_getR C0 hH hR ci_9 (i := p) (j := 7) hp0 rfl (by decide) rfl fl_X10_196 (v := some (b 7 v_1)) (show dec b 7 ((up u 23 p ((u 23 p) + 1)) 15 p) = some (b 7 v_1) from by rw [show (up u 23 p ((u 23 p) + 1)) 15 p = nI v_1 from Eq.trans rfl ev_1]; exact dec_nI (by have := hc7; have := (show v_1 < cnt u 7 from hv_1); omega)) dX10_failAttempt_21 ?_
  refine lv_null hx hb dX10_failAttempt_24 ?_
  have hA0_n_2 : LG u (up u 23 p ((u 23 p) + 1)) := (LG.trans (LG.refl u) (LG.upk (k := 23) (by unfold kSz; decide)))
  have hA_n_2 := hA0_n_2 hw00.lw
  have h1_n_2 := hA_n_2.2.1.le
  have hB0_n_2 : LG (up u 23 p ((u 23 p) + 1)) (cNote (up u 23 p ((u 23 p) + 1)) p 6 (u 41 0) v_1 (-1)) := (LG.note hp0)
  have hB_n_2 := hB0_n_2 hA_n_2.1
  have hC0_n_2 : LG (cNote (up u 23 p ((u 23 p) + 1)) p 6 (u 41 0) v_1 (-1)) (cFail u p) := (by rw [show (cNote (up u 23 p ((u 23 p) + 1)) p 6 (u 41 0) v_1 (-1)) = cFail0 u p from by unfold cFail0; rw [kv_1]]; exact LG.fail1 hp00)
  have hC_n_2 := hC0_n_2 hB_n_2.1
  have h2_n_2 := hB_n_2.2.1.le
  have h3_n_2 := hC_n_2.2.1.le
  refine k_v hH (k_runV (rest := []) C0 hH (cC_X2_note_n l G A _ b _ hR hw p 6 (u 41 0) v_1 hp0 (by decide) hv_1) mv_X2_note ml_X10_175 ci_6 (hR.kind (K := 6) (i := p) hp0) rfl ⟨Nat.le_of_ble_eq_true rfl, Nat.le_of_ble_eq_true rfl⟩ hl.1 rfl (Nat.le_of_ble_eq_true rfl) dX10_failAttempt_25 ⟨by show _ ≤ UC (cFail u p) - UC u; omega, by show _ ≤ US (cFail u p) - US u; omega⟩) (fun h H locs hp hH => ?_)
  obtain ⟨b, hbx, hR, hw⟩ := hp
  rw [← hbx 14 0 (by decide) rfl, ← hbx 9 p (by decide) hp0] at hl
  replace hbe := hbe.trans ((Gw.refl u).trans hA_n_2.2.1) hbx
  have hgu_n_2 := ((Gw.refl u).trans hA_n_2.2.1).trans hB_n_2.2.1
  have hlw_n_2 := hB_n_2.1
  obtain ⟨U_n_2, hU_n_2⟩ : ∃ z, z = (cNote (up u 23 p ((u 23 p) + 1)) p 6 (u 41 0) v_1 (-1)) := ⟨_, rfl⟩
  rw [← hU_n_2] at hR hw hgu_n_2 hlw_n_2
  have hE_n_2 : UC U_n_2 = UC (cNote (up u 23 p ((u 23 p) + 1)) p 6 (u 41 0) v_1 (-1)) ∧ US U_n_2 = US (cNote (up u 23 p ((u 23 p) + 1)) p 6 (u 41 0) v_1 (-1)) := by rw [hU_n_2]; exact ⟨rfl, rfl⟩
  have hn_n_2 : nhN U_n_2 = nhN u ∧ nlN U_n_2 = nlN u ∧ npN U_n_2 = npN u := by rw [hU_n_2]; exact ⟨hB_n_2.2.2.1.trans hA_n_2.2.2.1, hB_n_2.2.2.2.1.trans hA_n_2.2.2.2.1, hB_n_2.2.2.2.2.trans hA_n_2.2.2.2.2⟩
  have hc7 := hw.cnt6 7
  have hc8 := hw.cnt6 8
  have hc9 := hw.cnt6 9
  replace hp0 : p < npN U_n_2 := by rw [hn_n_2.2.2]; exact hp0
  replace hv_1 : v_1 < nhN U_n_2 := by rw [hn_n_2.1]; exact hv_1
  have hk_n_2 : ∀ k, nk k = true → U_n_2 k = (up u 23 p ((u 23 p) + 1)) k := fun k e9 => by rw [hU_n_2]; exact cNote_k e9
  have hF0 : cFail0 u p = U_n_2 := by unfold cFail0; rw [hU_n_2, kv_1]
  have h12 : U_n_2 12 p = u 12 p := by rw [hk_n_2 12 rfl]; simp [up]
  refine lv_aload_n hx hb dX10_failAttempt_28 rfl (lv_at hl 1 rfl) ?_
  refine c_getI C0 hH hR ci_9 (i := p) (j := 17) hp0 rfl (by decide) rfl fl_X10_255 (v := (u 23 p) + 1) (by show U_n_2 23 p = _; simp [up, hk_n_2 23 rfl]) dX10_failAttempt_29 ?_
  refine lv_aload_n hx hb dX10_failAttempt_32 rfl (lv_at hl 1 rfl) ?_
  refine k_i hH (k_runV (rest := [.int ((u 23 p) + 1)]) C0 hH (cC_X5_attemptsAllowed l G A _ b _ hR hw p hp0) mv_X5_attemptsAllowed ml_X10_386 ci_9 (hR.kind (K := 9) (i := p) hp0) rfl ⟨Nat.le_of_ble_eq_true rfl, Nat.le_of_ble_eq_true rfl⟩ hl.1 rfl (Nat.le_of_ble_eq_true rfl) dX10_failAttempt_33 ⟨by show _ ≤ UC (cFail u p) - UC u; omega, by show _ ≤ US (cFail u p) - US u; omega⟩) (fun r_3 h1 H locs hp hH => ?_)
  obtain ⟨er_3, eh⟩ := hp
  rw [eh] at hH
  clear eh
  subst er_3
  refine lv_icmp_ge (tgt := 42) hx hb dX10_failAttempt_36 (by decide) (fun c36_4 => ?_) (fun c36_4 => ?_)
  · refine lv_aload_n hx hb dX10_failAttempt_42 rfl (lv_at hl 1 rfl) ?_
    refine c_getI C0 hH hR ci_9 (i := p) (j := 19) hp0 rfl (by decide) rfl fl_X10_222 (v := u 29 p) (by show U_n_2 29 p = _; simp [up, hk_n_2 29 rfl]) dX10_failAttempt_43 ?_
    refine lv_if_eq (tgt := 57) hx hb dX10_failAttempt_46 (by decide) (fun c46_5 => ?_) (fun c46_5 => ?_)
    · refine lv_aload_n hx hb dX10_failAttempt_57 rfl (lv_at hl 0 rfl) ?_
      refine lv_aload_n hx hb dX10_failAttempt_58 rfl (lv_at hl 1 rfl) ?_
      have hA0_n_6 : LG U_n_2 U_n_2 := (LG.refl U_n_2)
      have hA_n_6 := hA0_n_6 hlw_n_2
      have h1_n_6 := hA_n_6.2.1.le
      have hB0_n_6 : LG U_n_2 (cTurn U_n_2 p) := (LG.turn hp0)
      have hB_n_6 := hB0_n_6 hA_n_6.1
      have hC0_n_6 : LG (cTurn U_n_2 p) (cFail u p) := (by rw [show (cFail u p) = (cTurn U_n_2 p) from by unfold cFail; rw [if_neg (by have h9 := c36_4; rw [h12] at h9; exact Int32.not_lt.mpr h9), if_neg (fun z => z c46_5), hF0]]; exact LG.refl _)
      have hC_n_6 := hC0_n_6 hB_n_6.1
      have h2_n_6 := hB_n_6.2.1.le
      have h3_n_6 := hC_n_6.2.1.le
      refine k_v hH (k_runV (rest := []) C0 hH (cC_X10_turnBack l G A _ b _ hR hw p hp0) mv_X10_turnBack ml_X10_227 ci_14 (hR.kind (K := 14) (i := 0) rfl) rfl ⟨Nat.le_of_ble_eq_true rfl, Nat.le_of_ble_eq_true rfl⟩ hl.1 rfl (Nat.le_of_ble_eq_true rfl) dX10_failAttempt_59 ⟨by show _ ≤ UC (cFail u p) - UC u; omega, by show _ ≤ US (cFail u p) - US u; omega⟩) (fun h H locs hp hH => ?_)
      obtain ⟨b, hbx, hR, hw⟩ := hp
      rw [← hbx 14 0 (by decide) rfl, ← hbx 9 p (by decide) hp0] at hl
      replace hbe := hbe.trans (hgu_n_2.trans hA_n_6.2.1) hbx
      have hgu_n_6 := (hgu_n_2.trans hA_n_6.2.1).trans hB_n_6.2.1
      have hlw_n_6 := hB_n_6.1
      obtain ⟨U_n_6, hU_n_6⟩ : ∃ z, z = (cTurn U_n_2 p) := ⟨_, rfl⟩
      rw [← hU_n_6] at hR hw hgu_n_6 hlw_n_6
      have hE_n_6 : UC U_n_6 = UC (cTurn U_n_2 p) ∧ US U_n_6 = US (cTurn U_n_2 p) := by rw [hU_n_6]; exact ⟨rfl, rfl⟩
      have hn_n_6 : nhN U_n_6 = nhN U_n_2 ∧ nlN U_n_6 = nlN U_n_2 ∧ npN U_n_6 = npN U_n_2 := by rw [hU_n_6]; exact ⟨hB_n_6.2.2.1.trans hA_n_6.2.2.1, hB_n_6.2.2.2.1.trans hA_n_6.2.2.2.1, hB_n_6.2.2.2.2.trans hA_n_6.2.2.2.2⟩
      have hc7 := hw.cnt6 7
      have hc8 := hw.cnt6 8
      have hc9 := hw.cnt6 9
      replace hp0 : p < npN U_n_6 := by rw [hn_n_6.2.2]; exact hp0
      replace hv_1 : v_1 < nhN U_n_6 := by rw [hn_n_6.1]; exact hv_1
      refine lv_bipush (v := 114) hx hb dX10_failAttempt_62 (by decide) ?_
      have hA0_z : LG U_n_6 U_n_6 := (LG.refl U_n_6)
      have hA_z := hA0_z hlw_n_6
      have h1_z := hA_z.2.1.le
      have eM : (cFail u p) = U_n_6 := by unfold cFail; rw [if_neg (by have h9 := c36_4; rw [h12] at h9; exact Int32.not_lt.mpr h9), if_neg (fun z => z c46_5), hF0, hU_n_6]
      have eR : (114 : Int32) = cFailR u p := by unfold cFailR; rw [if_neg (by have h9 := c36_4; rw [h12] at h9; exact Int32.not_lt.mpr h9), if_neg (fun z => z c46_5)]
      exact e_Z C0 hr (by decide) hH ⟨eR, b, hbe, by rw [eM]; exact ⟨hR, hw⟩⟩ (by rw [eM]; omega) (by rw [eM]; omega) dX10_failAttempt_64
    · refine lv_aload_n hx hb dX10_failAttempt_49 rfl (lv_at hl 0 rfl) ?_
      refine lv_aload_n hx hb dX10_failAttempt_50 rfl (lv_at hl 1 rfl) ?_
      have hA0_n_7 : LG U_n_2 U_n_2 := (LG.refl U_n_2)
      have hA_n_7 := hA0_n_7 hlw_n_2
      have h1_n_7 := hA_n_7.2.1.le
      have hB0_n_7 : LG U_n_2 (cHold U_n_2 p) := (LG.hold hp0)
      have hB_n_7 := hB0_n_7 hA_n_7.1
      have hC0_n_7 : LG (cHold U_n_2 p) (cFail u p) := (by rw [show (cFail u p) = (cHold U_n_2 p) from by unfold cFail; rw [if_neg (by have h9 := c36_4; rw [h12] at h9; exact Int32.not_lt.mpr h9), if_pos c46_5, hF0]]; exact LG.refl _)
      have hC_n_7 := hC0_n_7 hB_n_7.1
      have h2_n_7 := hB_n_7.2.1.le
      have h3_n_7 := hC_n_7.2.1.le
      refine k_v hH (k_runV (rest := []) C0 hH (cC_X10_hold l G A _ b _ hR hw p hp0) mv_X10_hold ml_X10_383 ci_14 (hR.kind (K := 14) (i := 0) rfl) rfl ⟨Nat.le_of_ble_eq_true rfl, Nat.le_of_ble_eq_true rfl⟩ hl.1 rfl (Nat.le_of_ble_eq_true rfl) dX10_failAttempt_51 ⟨by show _ ≤ UC (cFail u p) - UC u; omega, by show _ ≤ US (cFail u p) - US u; omega⟩) (fun h H locs hp hH => ?_)
      obtain ⟨b, hbx, hR, hw⟩ := hp
      rw [← hbx 14 0 (by decide) rfl, ← hbx 9 p (by decide) hp0] at hl
      replace hbe := hbe.trans (hgu_n_2.trans hA_n_7.2.1) hbx
      have hgu_n_7 := (hgu_n_2.trans hA_n_7.2.1).trans hB_n_7.2.1
      have hlw_n_7 := hB_n_7.1
      obtain ⟨U_n_7, hU_n_7⟩ : ∃ z, z = (cHold U_n_2 p) := ⟨_, rfl⟩
      rw [← hU_n_7] at hR hw hgu_n_7 hlw_n_7
      have hE_n_7 : UC U_n_7 = UC (cHold U_n_2 p) ∧ US U_n_7 = US (cHold U_n_2 p) := by rw [hU_n_7]; exact ⟨rfl, rfl⟩
      have hn_n_7 : nhN U_n_7 = nhN U_n_2 ∧ nlN U_n_7 = nlN U_n_2 ∧ npN U_n_7 = npN U_n_2 := by rw [hU_n_7]; exact ⟨hB_n_7.2.2.1.trans hA_n_7.2.2.1, hB_n_7.2.2.2.1.trans hA_n_7.2.2.2.1, hB_n_7.2.2.2.2.trans hA_n_7.2.2.2.2⟩
      have hc7 := hw.cnt6 7
      have hc8 := hw.cnt6 8
      have hc9 := hw.cnt6 9
      replace hp0 : p < npN U_n_7 := by rw [hn_n_7.2.2]; exact hp0
      replace hv_1 : v_1 < nhN U_n_7 := by rw [hn_n_7.1]; exact hv_1
      refine lv_bipush (v := 104) hx hb dX10_failAttempt_54 (by decide) ?_
      have hA0_z : LG U_n_7 U_n_7 := (LG.refl U_n_7)
      have hA_z := hA0_z hlw_n_7
      have h1_z := hA_z.2.1.le
      have eM : (cFail u p) = U_n_7 := by unfold cFail; rw [if_neg (by have h9 := c36_4; rw [h12] at h9; exact Int32.not_lt.mpr h9), if_pos c46_5, hF0, hU_n_7]
      have eR : (104 : Int32) = cFailR u p := by unfold cFailR; rw [if_neg (by have h9 := c36_4; rw [h12] at h9; exact Int32.not_lt.mpr h9), if_pos c46_5]
      exact e_Z C0 hr (by decide) hH ⟨eR, b, hbe, by rw [eM]; exact ⟨hR, hw⟩⟩ (by rw [eM]; omega) (by rw [eM]; omega) dX10_failAttempt_56
  · refine lv_bipush (v := 119) hx hb dX10_failAttempt_39 (by decide) ?_
    have hA0_z : LG U_n_2 U_n_2 := (LG.refl U_n_2)
    have hA_z := hA0_z hlw_n_2
    have h1_z := hA_z.2.1.le
    have eM : (cFail u p) = U_n_2 := by unfold cFail; rw [if_pos (by have h9 := c36_4; rw [h12] at h9; exact Int32.not_le.mp h9), hF0]
    have eR : (119 : Int32) = cFailR u p := by unfold cFailR; rw [if_pos (by have h9 := c36_4; rw [h12] at h9; exact Int32.not_le.mp h9)]
    exact e_Z C0 hr (by decide) hH ⟨eR, b, hbe, by rw [eM]; exact ⟨hR, hw⟩⟩ (by rw [eM]; omega) (by rw [eM]; omega) dX10_failAttempt_41
set_option maxHeartbeats 800000 in
set_option maxRecDepth 100000 in
theorem cC_X10_noticeMisroute (l : Launch) (G : GT) (A : Nat → Prop) (h : AH) (b0 : BA) (u : MM) (hR : RC G.2.2.1 h b0 u) (hw : WFc u) (p x : Nat) (hp0 : p < npN u) (hx0 : x < nhN u) : cmI l G A yX10_noticeMisroute cX10_noticeMisroute 3 (Option.some FieldType.char) 10 376 (UC (cMis u p x) - UC u) (US (cMis u p x) - US u) [.ref (b0 14 0), .ref (b0 9 p), .ref (b0 7 x)] h (fun r h' => r = cMisR u p ∧ ∃ b', BE u b0 b' ∧ RC G.2.2.1 h' b' (cMis u p x) ∧ WFc (cMis u p x)) := by
  refine cm_of "Routepost" rfl (by decide) (Nat.le_of_ble_eq_true rfl) ?_
  intro pr e s m9 below meth c C0 hr hname hH ls hl
  obtain ⟨hx, hb, hml, hown, hts, hK, hA, -⟩ := id C0
  have hl : lv_has ls 3 [(0, .ref (b0 14 0)), (1, .ref (b0 9 p)), (2, .ref (b0 7 x))] := hl
  obtain ⟨b, hb0⟩ : ∃ z, z = b0 := ⟨_, rfl⟩
  rw [← hb0] at hR hl
  have hbe : BE u b0 b := by rw [hb0]; exact BE.refl u b0
  have hc7 := hw.cnt6 7
  have hc8 := hw.cnt6 8
  have hc9 := hw.cnt6 9
  have hw00 := hw
  have hp00 := hp0
  refine lv_aload_n hx hb dX10_noticeMisroute_0 rfl (lv_at hl 1 rfl) ?_
  refine lv_dup hx hb dX10_noticeMisroute_1 rfl ?_
  refine c_getI C0 hH hR ci_9 (i := p) (j := 16) hp0 rfl (by decide) rfl fl_X10_252 (v := u 22 p) rfl dX10_noticeMisroute_2 ?_
  refine lv_iconst (v := 1) hx hb dX10_noticeMisroute_5 (by decide) ?_
  refine lv_iadd hx hb dX10_noticeMisroute_6 ?_
  refine c_putI C0 hH hR ci_9 (i := p) (j := 16) hp0 rfl (k := 22) rfl (by decide) (by decide) rfl fl_X10_252 rfl (x := (u 22 p) + 1) rfl rfl dX10_noticeMisroute_7 (fun h H locs hH hR => ?_)
  replace hw := hw.upx (k := 22) (i := p) (x := (u 22 p) + 1) (by unfold kWc kSz; decide)
  refine lv_aload_n hx hb dX10_noticeMisroute_10 rfl (lv_at hl 1 rfl) ?_
  refine c_getR C0 hH hR ci_9 (i := p) (j := 5) hp0 rfl (by decide) rfl fl_X10_171 (v := some (b 6 p)) rfl dX10_noticeMisroute_11 ?_
  refine lv_bipush (v := 109) hx hb dX10_noticeMisroute_14 (by decide) ?_
  refine lv_aload_n hx hb dX10_noticeMisroute_16 rfl (lv_at hl 0 rfl) ?_
  refine c_getI C0 hH hR ci_14 (i := 0) (j := 9) rfl rfl (by decide) rfl fl_X10_56 (v := u 41 0) rfl dX10_noticeMisroute_17 ?_
  refine lv_aload_n hx hb dX10_noticeMisroute_20 rfl (lv_at hl 2 rfl) ?_
  refine lv_null hx hb dX10_noticeMisroute_21 ?_
  have hA0_n_1 : LG u (up u 22 p ((u 22 p) + 1)) := (LG.trans (LG.refl u) (LG.upk (k := 22) (by unfold kSz; decide)))
  have hA_n_1 := hA0_n_1 hw00.lw
  have h1_n_1 := hA_n_1.2.1.le
  have hB0_n_1 : LG (up u 22 p ((u 22 p) + 1)) (cNote (up u 22 p ((u 22 p) + 1)) p 2 (u 41 0) x (-1)) := (LG.note hp0)
  have hB_n_1 := hB0_n_1 hA_n_1.1
  have hC0_n_1 : LG (cNote (up u 22 p ((u 22 p) + 1)) p 2 (u 41 0) x (-1)) (cMis u p x) := LG.mis1 hp00
  have hC_n_1 := hC0_n_1 hB_n_1.1
  have h2_n_1 := hB_n_1.2.1.le
  have h3_n_1 := hC_n_1.2.1.le
  refine k_v hH (k_runV (rest := []) C0 hH (cC_X2_note_n l G A _ b _ hR hw p 2 (u 41 0) x hp0 (by decide) hx0) mv_X2_note ml_X10_175 ci_6 (hR.kind (K := 6) (i := p) hp0) rfl ⟨Nat.le_of_ble_eq_true rfl, Nat.le_of_ble_eq_true rfl⟩ hl.1 rfl (Nat.le_of_ble_eq_true rfl) dX10_noticeMisroute_22 ⟨by show _ ≤ UC (cMis u p x) - UC u; omega, by show _ ≤ US (cMis u p x) - US u; omega⟩) (fun h H locs hp hH => ?_)
  obtain ⟨b, hbx, hR, hw⟩ := hp
  rw [← hbx 14 0 (by decide) rfl, ← hbx 9 p (by decide) hp0, ← hbx 7 x (by decide) hx0] at hl
  replace hbe := hbe.trans ((Gw.refl u).trans hA_n_1.2.1) hbx
  have hgu_n_1 := ((Gw.refl u).trans hA_n_1.2.1).trans hB_n_1.2.1
  have hlw_n_1 := hB_n_1.1
  obtain ⟨U_n_1, hU_n_1⟩ : ∃ z, z = (cNote (up u 22 p ((u 22 p) + 1)) p 2 (u 41 0) x (-1)) := ⟨_, rfl⟩
  rw [← hU_n_1] at hR hw hgu_n_1 hlw_n_1
  have hE_n_1 : UC U_n_1 = UC (cNote (up u 22 p ((u 22 p) + 1)) p 2 (u 41 0) x (-1)) ∧ US U_n_1 = US (cNote (up u 22 p ((u 22 p) + 1)) p 2 (u 41 0) x (-1)) := by rw [hU_n_1]; exact ⟨rfl, rfl⟩
  have hn_n_1 : nhN U_n_1 = nhN u ∧ nlN U_n_1 = nlN u ∧ npN U_n_1 = npN u := by rw [hU_n_1]; exact ⟨hB_n_1.2.2.1.trans hA_n_1.2.2.1, hB_n_1.2.2.2.1.trans hA_n_1.2.2.2.1, hB_n_1.2.2.2.2.trans hA_n_1.2.2.2.2⟩
  have hc7 := hw.cnt6 7
  have hc8 := hw.cnt6 8
  have hc9 := hw.cnt6 9
  replace hp0 : p < npN U_n_1 := by rw [hn_n_1.2.2]; exact hp0
  replace hx0 : x < nhN U_n_1 := by rw [hn_n_1.1]; exact hx0
  have hk_n_1 : ∀ k, nk k = true → U_n_1 k = (up u 22 p ((u 22 p) + 1)) k := fun k e9 => by rw [hU_n_1]; exact cNote_k e9
  have hF0 : cMis0 u p x = U_n_1 := hU_n_1.symm
  refine lv_aload_n hx hb dX10_noticeMisroute_25 rfl (lv_at hl 1 rfl) ?_
  refine c_getI C0 hH hR ci_9 (i := p) (j := 16) hp0 rfl (by decide) rfl fl_X10_252 (v := (u 22 p) + 1) (by show U_n_1 22 p = _; simp [up, hk_n_1 22 rfl]) dX10_noticeMisroute_26 ?_
  refine lv_iconst (v := 3) hx hb dX10_noticeMisroute_29 (by decide) ?_
  refine lv_icmp_lt (tgt := 51) hx hb dX10_noticeMisroute_30 (by decide) (fun c30_2 => ?_) (fun c30_2 => ?_)
  · refine lv_aload_n hx hb dX10_noticeMisroute_51 rfl (lv_at hl 1 rfl) ?_
    refine lv_aload_n hx hb dX10_noticeMisroute_52 rfl (lv_at hl 2 rfl) ?_
    refine lv_aload_n hx hb dX10_noticeMisroute_53 rfl (lv_at hl 0 rfl) ?_
    refine c_getI C0 hH hR ci_14 (i := 0) (j := 9) rfl rfl (by decide) rfl fl_X10_56 (v := u 41 0) (by show U_n_1 41 0 = _; simp [up, hk_n_1 41 rfl]) dX10_noticeMisroute_54 ?_
    have hA0_n_3 : LG U_n_1 U_n_1 := (LG.refl U_n_1)
    have hA_n_3 := hA0_n_3 hlw_n_1
    have h1_n_3 := hA_n_3.2.1.le
    refine k_v hH (k_runV (rest := []) C0 hH (cC_X5_settle l G A _ b _ hR hw p x (u 41 0) hp0 hx0) mv_X5_settle ml_X10_167 ci_9 (hR.kind (K := 9) (i := p) hp0) rfl ⟨Nat.le_of_ble_eq_true rfl, Nat.le_of_ble_eq_true rfl⟩ hl.1 rfl (Nat.le_of_ble_eq_true rfl) dX10_noticeMisroute_57 ⟨by show _ ≤ UC (cMis u p x) - UC u; omega, by show _ ≤ US (cMis u p x) - US u; omega⟩) (fun h H locs hp hH => ?_)
    obtain ⟨hR, hw⟩ := hp
    have hB0_n_3 : LG U_n_1 (cSettle U_n_1 p (nI x) (u 41 0)) := LG.settle
    have hB_n_3 := hB0_n_3 hA_n_3.1
    have h2_n_3 := hB_n_3.2.1.le
    have hgu_n_3 := (hgu_n_1.trans hA_n_3.2.1).trans hB_n_3.2.1
    have hlw_n_3 := hB_n_3.1
    obtain ⟨U_n_3, hU_n_3⟩ : ∃ z, z = (cSettle U_n_1 p (nI x) (u 41 0)) := ⟨_, rfl⟩
    rw [← hU_n_3] at hR hw hgu_n_3 hlw_n_3
    have hE_n_3 : UC U_n_3 = UC (cSettle U_n_1 p (nI x) (u 41 0)) ∧ US U_n_3 = US (cSettle U_n_1 p (nI x) (u 41 0)) := by rw [hU_n_3]; exact ⟨rfl, rfl⟩
    have hn_n_3 : nhN U_n_3 = nhN U_n_1 ∧ nlN U_n_3 = nlN U_n_1 ∧ npN U_n_3 = npN U_n_1 := by rw [hU_n_3]; exact ⟨hB_n_3.2.2.1.trans hA_n_3.2.2.1, hB_n_3.2.2.2.1.trans hA_n_3.2.2.2.1, hB_n_3.2.2.2.2.trans hA_n_3.2.2.2.2⟩
    have hc7 := hw.cnt6 7
    have hc8 := hw.cnt6 8
    have hc9 := hw.cnt6 9
    replace hp0 : p < npN U_n_3 := by rw [hn_n_3.2.2]; exact hp0
    replace hx0 : x < nhN U_n_3 := by rw [hn_n_3.1]; exact hx0
    have hk_n_3 : ∀ k, stk k = true → U_n_3 k = U_n_1 k := fun k e9 => by rw [hU_n_3]; exact cSettle_k e9
    have hs15_n_3 : U_n_3 15 p = nI x := by rw [hU_n_3]; unfold cSettle; split <;> simp [up]
    have hs28_n_3 : U_n_3 28 p = 115 := by rw [hU_n_3]; unfold cSettle; split <;> simp [up]
    refine lv_aload_n hx hb dX10_noticeMisroute_60 rfl (lv_at hl 0 rfl) ?_
    refine lv_aload_n hx hb dX10_noticeMisroute_61 rfl (lv_at hl 1 rfl) ?_
    have hA0_n_5 : LG U_n_3 U_n_3 := (LG.refl U_n_3)
    have hA_n_5 := hA0_n_5 hlw_n_3
    have h1_n_5 := hA_n_5.2.1.le
    refine k_v hH (k_runV (rest := []) C0 hH (cC_X10_plan l G A _ b _ hR hw p hp0) mv_X10_plan ml_X10_204 ci_14 (hR.kind (K := 14) (i := 0) rfl) rfl ⟨Nat.le_of_ble_eq_true rfl, Nat.le_of_ble_eq_true rfl⟩ hl.1 rfl (Nat.le_of_ble_eq_true rfl) dX10_noticeMisroute_62 ⟨by show _ ≤ UC (cMis u p x) - UC u; omega, by show _ ≤ US (cMis u p x) - US u; omega⟩) (fun h H locs hp hH => ?_)
    obtain ⟨hR, hw⟩ := hp
    have hB0_n_5 : LG U_n_3 (cPlan U_n_3 p) := LG.plan
    have hB_n_5 := hB0_n_5 hA_n_5.1
    have h2_n_5 := hB_n_5.2.1.le
    have hgu_n_5 := (hgu_n_3.trans hA_n_5.2.1).trans hB_n_5.2.1
    have hlw_n_5 := hB_n_5.1
    obtain ⟨U_n_5, hU_n_5⟩ : ∃ z, z = (cPlan U_n_3 p) := ⟨_, rfl⟩
    rw [← hU_n_5] at hR hw hgu_n_5 hlw_n_5
    have hE_n_5 : UC U_n_5 = UC (cPlan U_n_3 p) ∧ US U_n_5 = US (cPlan U_n_3 p) := by rw [hU_n_5]; exact ⟨rfl, rfl⟩
    have hn_n_5 : nhN U_n_5 = nhN U_n_3 ∧ nlN U_n_5 = nlN U_n_3 ∧ npN U_n_5 = npN U_n_3 := by rw [hU_n_5]; exact ⟨hB_n_5.2.2.1.trans hA_n_5.2.2.1, hB_n_5.2.2.2.1.trans hA_n_5.2.2.2.1, hB_n_5.2.2.2.2.trans hA_n_5.2.2.2.2⟩
    have hc7 := hw.cnt6 7
    have hc8 := hw.cnt6 8
    have hc9 := hw.cnt6 9
    replace hp0 : p < npN U_n_5 := by rw [hn_n_5.2.2]; exact hp0
    replace hx0 : x < nhN U_n_5 := by rw [hn_n_5.1]; exact hx0
    refine lv_bipush (v := 109) hx hb dX10_noticeMisroute_65 (by decide) ?_
    have hA0_z : LG U_n_5 U_n_5 := (LG.refl U_n_5)
    have hA_z := hA0_z hlw_n_5
    have h1_z := hA_z.2.1.le
    have eM : (cMis u p x) = U_n_5 := by unfold cMis; rw [if_pos c30_2, hF0, hU_n_5, hU_n_3]
    have eR : (109 : Int32) = cMisR u p := by unfold cMisR; rw [if_pos c30_2]
    exact e_Z C0 hr (by decide) hH ⟨eR, b, hbe, by rw [eM]; exact ⟨hR, hw⟩⟩ (by rw [eM]; omega) (by rw [eM]; omega) dX10_noticeMisroute_67
  · refine lv_aload_n hx hb dX10_noticeMisroute_33 rfl (lv_at hl 1 rfl) ?_
    refine lv_null hx hb dX10_noticeMisroute_34 ?_
    refine c_putR C0 hH hR ci_9 (i := p) (j := 9) hp0 rfl (k := 116) rfl (by decide) rfl fl_X10_243 rfl ⟨_, rfl⟩ (-1) (v := none) dec_m1.symm dX10_noticeMisroute_35 (fun h H locs hH hR => ?_)
    replace hw := hw.upr (k := 116) (i := p) (x := -1) (by decide) (Or.inl rfl) (fun z => absurd z (by omega)) (fun z => absurd z (by omega)) (fun z => absurd z (by omega))
    refine lv_aload_n hx hb dX10_noticeMisroute_38 rfl (lv_at hl 1 rfl) ?_
    refine lv_aload_n hx hb dX10_noticeMisroute_39 rfl (lv_at hl 2 rfl) ?_
    refine c_putR C0 hH hR ci_9 (i := p) (j := 7) hp0 rfl (k := 15) rfl (by decide) rfl fl_X10_196 rfl ⟨_, rfl⟩ (nI x) (v := some (b 7 x)) (dec_nI (by have h9 : x < cnt U_n_1 7 := hx0; have := hc7; omega)).symm dX10_noticeMisroute_40 (fun h H locs hH hR => ?_)
    replace hw := hw.upr (k := 15) (i := p) (x := nI x) (by decide) (RG_v hx0 (hw.cnt6 7)) (fun z => absurd z (by omega)) (fun _ _ => (vp_in_nI (hx0) (by have := hw.nh; omega))) (fun z => absurd z (by omega))
    refine lv_aload_n hx hb dX10_noticeMisroute_43 rfl (lv_at hl 0 rfl) ?_
    refine lv_aload_n hx hb dX10_noticeMisroute_44 rfl (lv_at hl 1 rfl) ?_
    have hA0_n_7 : LG U_n_1 (up (up U_n_1 116 p (-1)) 15 p (nI x)) := (LG.trans (LG.trans (LG.refl U_n_1) (LG.upk (k := 116) (by unfold kSz; decide))) (LG.upk (k := 15) (by unfold kSz; decide)))
    have hA_n_7 := hA0_n_7 hlw_n_1
    have h1_n_7 := hA_n_7.2.1.le
    have hB0_n_7 : LG (up (up U_n_1 116 p (-1)) 15 p (nI x)) (cHold (up (up U_n_1 116 p (-1)) 15 p (nI x)) p) := (LG.hold hp0)
    have hB_n_7 := hB0_n_7 hA_n_7.1
    have hC0_n_7 : LG (cHold (up (up U_n_1 116 p (-1)) 15 p (nI x)) p) (cMis u p x) := (by rw [show (cMis u p x) = (cHold (up (up U_n_1 116 p (-1)) 15 p (nI x)) p) from by unfold cMis; rw [if_neg c30_2, hF0]]; exact LG.refl _)
    have hC_n_7 := hC0_n_7 hB_n_7.1
    have h2_n_7 := hB_n_7.2.1.le
    have h3_n_7 := hC_n_7.2.1.le
    refine k_v hH (k_runV (rest := []) C0 hH (cC_X10_hold l G A _ b _ hR hw p hp0) mv_X10_hold ml_X10_383 ci_14 (hR.kind (K := 14) (i := 0) rfl) rfl ⟨Nat.le_of_ble_eq_true rfl, Nat.le_of_ble_eq_true rfl⟩ hl.1 rfl (Nat.le_of_ble_eq_true rfl) dX10_noticeMisroute_45 ⟨by show _ ≤ UC (cMis u p x) - UC u; omega, by show _ ≤ US (cMis u p x) - US u; omega⟩) (fun h H locs hp hH => ?_)
    obtain ⟨b, hbx, hR, hw⟩ := hp
    rw [← hbx 14 0 (by decide) rfl, ← hbx 9 p (by decide) hp0, ← hbx 7 x (by decide) hx0] at hl
    replace hbe := hbe.trans (hgu_n_1.trans hA_n_7.2.1) hbx
    have hgu_n_7 := (hgu_n_1.trans hA_n_7.2.1).trans hB_n_7.2.1
    have hlw_n_7 := hB_n_7.1
    obtain ⟨U_n_7, hU_n_7⟩ : ∃ z, z = (cHold (up (up U_n_1 116 p (-1)) 15 p (nI x)) p) := ⟨_, rfl⟩
    rw [← hU_n_7] at hR hw hgu_n_7 hlw_n_7
    have hE_n_7 : UC U_n_7 = UC (cHold (up (up U_n_1 116 p (-1)) 15 p (nI x)) p) ∧ US U_n_7 = US (cHold (up (up U_n_1 116 p (-1)) 15 p (nI x)) p) := by rw [hU_n_7]; exact ⟨rfl, rfl⟩
    have hn_n_7 : nhN U_n_7 = nhN U_n_1 ∧ nlN U_n_7 = nlN U_n_1 ∧ npN U_n_7 = npN U_n_1 := by rw [hU_n_7]; exact ⟨hB_n_7.2.2.1.trans hA_n_7.2.2.1, hB_n_7.2.2.2.1.trans hA_n_7.2.2.2.1, hB_n_7.2.2.2.2.trans hA_n_7.2.2.2.2⟩
    have hc7 := hw.cnt6 7
    have hc8 := hw.cnt6 8
    have hc9 := hw.cnt6 9
    replace hp0 : p < npN U_n_7 := by rw [hn_n_7.2.2]; exact hp0
    replace hx0 : x < nhN U_n_7 := by rw [hn_n_7.1]; exact hx0
    refine lv_bipush (v := 104) hx hb dX10_noticeMisroute_48 (by decide) ?_
    have hA0_z : LG U_n_7 U_n_7 := (LG.refl U_n_7)
    have hA_z := hA0_z hlw_n_7
    have h1_z := hA_z.2.1.le
    have eM : (cMis u p x) = U_n_7 := by unfold cMis; rw [if_neg c30_2, hF0, hU_n_7]
    have eR : (104 : Int32) = cMisR u p := by unfold cMisR; rw [if_neg c30_2]
    exact e_Z C0 hr (by decide) hH ⟨eR, b, hbe, by rw [eM]; exact ⟨hR, hw⟩⟩ (by rw [eM]; omega) (by rw [eM]; omega) dX10_noticeMisroute_50
set_option maxHeartbeats 800000 in
set_option maxRecDepth 100000 in
theorem cC_X10_load (l : Launch) (G : GT) (A : Nat → Prop) (h : AH) (b0 : BA) (u : MM) (hR : RC G.2.2.1 h b0 u) (hw : WFc u) (p l0 : Nat) (hp0 : p < npN u) (hl0 : l0 < nlN u) : cmV l G A yX10_load cX10_load 3 9 355 (UC (cLoad u p l0) - UC u) (US (cLoad u p l0) - US u) [.ref (b0 14 0), .ref (b0 9 p), .ref (b0 8 l0)] h (fun h' => ∃ b', BE u b0 b' ∧ RC G.2.2.1 h' b' (cLoad u p l0) ∧ WFc (cLoad u p l0)) := by
  refine cm_of "Routepost" rfl (by decide) (Nat.le_of_ble_eq_true rfl) ?_
  intro pr e s m9 below meth c C0 hr hname hH ls hl
  obtain ⟨hx, hb, hml, hown, hts, hK, hA, -⟩ := id C0
  have hl : lv_has ls 3 [(0, .ref (b0 14 0)), (1, .ref (b0 9 p)), (2, .ref (b0 8 l0))] := hl
  obtain ⟨b, hb0⟩ : ∃ z, z = b0 := ⟨_, rfl⟩
  rw [← hb0] at hR hl
  have hbe : BE u b0 b := by rw [hb0]; exact BE.refl u b0
  have hc7 := hw.cnt6 7
  have hc8 := hw.cnt6 8
  have hc9 := hw.cnt6 9
  have hw00 := hw
  have hp00 := hp0
  refine lv_aload_n hx hb dX10_load_0 rfl (lv_at hl 1 rfl) ?_
  refine lv_bipush (v := 116) hx hb dX10_load_1 (by decide) ?_
  refine c_putI C0 hH hR ci_9 (i := p) (j := 8) hp0 rfl (k := 28) rfl (by decide) (by decide) rfl fl_X10_190 rfl (x := 116) (by decide) (by decide) dX10_load_3 (fun h H locs hH hR => ?_)
  replace hw := hw.upx (k := 28) (i := p) (x := 116) (by unfold kWc kSz; decide)
  refine lv_aload_n hx hb dX10_load_6 rfl (lv_at hl 1 rfl) ?_
  refine lv_aload_n hx hb dX10_load_7 rfl (lv_at hl 2 rfl) ?_
  refine c_putR C0 hH hR ci_9 (i := p) (j := 9) hp0 rfl (k := 116) rfl (by decide) rfl fl_X10_243 rfl ⟨_, rfl⟩ (nI l0) (v := some (b 8 l0)) (dec_nI (by have h9 : l0 < cnt u 8 := hl0; have := hc8; omega)).symm dX10_load_8 (fun h H locs hH hR => ?_)
  replace hw := hw.upr (k := 116) (i := p) (x := nI l0) (by decide) (RG_v hl0 (hw.cnt6 8)) (fun z => absurd z (by omega)) (fun z => absurd z (by omega)) (fun z => absurd z (by omega))
  refine lv_aload_n hx hb dX10_load_11 rfl (lv_at hl 1 rfl) ?_
  refine lv_aload_n hx hb dX10_load_12 rfl (lv_at hl 0 rfl) ?_
  refine c_getI C0 hH hR ci_14 (i := 0) (j := 9) rfl rfl (by decide) rfl fl_X10_56 (v := u 41 0) rfl dX10_load_13 ?_
  refine lv_aload_n hx hb dX10_load_16 rfl (lv_at hl 2 rfl) ?_
  refine c_getI C0 hH hR ci_8 (i := l0) (j := 7) hl0 rfl (by decide) rfl fl_X10_424 (v := u 6 l0) rfl dX10_load_17 ?_
  refine lv_iadd hx hb dX10_load_20 ?_
  refine c_putI C0 hH hR ci_9 (i := p) (j := 11) hp0 rfl (k := 17) rfl (by decide) (by decide) rfl fl_X10_395 rfl (x := (u 41 0) + (u 6 l0)) rfl rfl dX10_load_21 (fun h H locs hH hR => ?_)
  replace hw := hw.upx (k := 17) (i := p) (x := (u 41 0) + (u 6 l0)) (by unfold kWc kSz; decide)
  refine lv_aload_n hx hb dX10_load_24 rfl (lv_at hl 1 rfl) ?_
  refine c_getR C0 hH hR ci_9 (i := p) (j := 5) hp0 rfl (by decide) rfl fl_X10_171 (v := some (b 6 p)) rfl dX10_load_25 ?_
  refine lv_bipush (v := 108) hx hb dX10_load_28 (by decide) ?_
  refine lv_aload_n hx hb dX10_load_30 rfl (lv_at hl 0 rfl) ?_
  refine c_getI C0 hH hR ci_14 (i := 0) (j := 9) rfl rfl (by decide) rfl fl_X10_56 (v := u 41 0) rfl dX10_load_31 ?_
  refine lv_aload_n hx hb dX10_load_34 rfl (lv_at hl 2 rfl) ?_
  obtain ⟨v_1, hv_1, ev_1⟩ := hw.exH (show vp_in (u 2 l0) _ from (hw.ln hl0).1)
  have kv_1 : (u 2 l0).toNatClampNeg = v_1 := by rw [ev_1]; exact nI_clamp (by have := hw.nh; have := hw.np; omega)
  refine c_getR C0 hH hR ci_8 (i := l0) (j := 1) hl0 rfl (by decide) rfl fl_X10_411 (v := some (b 7 v_1)) (show dec b 7 ((up (up (up u 28 p 116) 116 p (nI l0)) 17 p ((u 41 0) + (u 6 l0))) 2 l0) = some (b 7 v_1) from by rw [show (up (up (up u 28 p 116) 116 p (nI l0)) 17 p ((u 41 0) + (u 6 l0))) 2 l0 = nI v_1 from Eq.trans rfl ev_1]; exact dec_nI (by have := hc7; have := (show v_1 < cnt u 7 from hv_1); omega)) dX10_load_35 ?_
  refine lv_aload_n hx hb dX10_load_38 rfl (lv_at hl 2 rfl) ?_
  have hA0_n_2 : LG u (up (up (up u 28 p 116) 116 p (nI l0)) 17 p ((u 41 0) + (u 6 l0))) := (LG.trans (LG.trans (LG.trans (LG.refl u) (LG.upk (k := 28) (by unfold kSz; decide))) (LG.upk (k := 116) (by unfold kSz; decide))) (LG.upk (k := 17) (by unfold kSz; decide)))
  have hA_n_2 := hA0_n_2 hw00.lw
  have h1_n_2 := hA_n_2.2.1.le
  have hB0_n_2 : LG (up (up (up u 28 p 116) 116 p (nI l0)) 17 p ((u 41 0) + (u 6 l0))) (cNote (up (up (up u 28 p 116) 116 p (nI l0)) 17 p ((u 41 0) + (u 6 l0))) p 3 (u 41 0) v_1 (nI l0)) := (LG.note hp0)
  have hB_n_2 := hB0_n_2 hA_n_2.1
  have hC0_n_2 : LG (cNote (up (up (up u 28 p 116) 116 p (nI l0)) 17 p ((u 41 0) + (u 6 l0))) p 3 (u 41 0) v_1 (nI l0)) (cLoad u p l0) := (by rw [show (cLoad u p l0) = (cNote (up (up (up u 28 p 116) 116 p (nI l0)) 17 p ((u 41 0) + (u 6 l0))) p 3 (u 41 0) v_1 (nI l0)) from by unfold cLoad; rw [kv_1]]; exact LG.refl _)
  have hC_n_2 := hC0_n_2 hB_n_2.1
  have h2_n_2 := hB_n_2.2.1.le
  have h3_n_2 := hC_n_2.2.1.le
  refine k_v hH (k_runV (rest := []) C0 hH (cC_X2_note_l l G A _ b _ hR hw p 3 (u 41 0) v_1 l0 hp0 (by decide) hv_1 hl0) mv_X2_note ml_X10_175 ci_6 (hR.kind (K := 6) (i := p) hp0) rfl ⟨Nat.le_of_ble_eq_true rfl, Nat.le_of_ble_eq_true rfl⟩ hl.1 rfl (Nat.le_of_ble_eq_true rfl) dX10_load_39 ⟨by show _ ≤ UC (cLoad u p l0) - UC u; omega, by show _ ≤ US (cLoad u p l0) - US u; omega⟩) (fun h H locs hp hH => ?_)
  obtain ⟨b, hbx, hR, hw⟩ := hp
  rw [← hbx 14 0 (by decide) rfl, ← hbx 9 p (by decide) hp0, ← hbx 8 l0 (by decide) hl0] at hl
  replace hbe := hbe.trans ((Gw.refl u).trans hA_n_2.2.1) hbx
  have hgu_n_2 := ((Gw.refl u).trans hA_n_2.2.1).trans hB_n_2.2.1
  have hlw_n_2 := hB_n_2.1
  obtain ⟨U_n_2, hU_n_2⟩ : ∃ z, z = (cNote (up (up (up u 28 p 116) 116 p (nI l0)) 17 p ((u 41 0) + (u 6 l0))) p 3 (u 41 0) v_1 (nI l0)) := ⟨_, rfl⟩
  rw [← hU_n_2] at hR hw hgu_n_2 hlw_n_2
  have hE_n_2 : UC U_n_2 = UC (cNote (up (up (up u 28 p 116) 116 p (nI l0)) 17 p ((u 41 0) + (u 6 l0))) p 3 (u 41 0) v_1 (nI l0)) ∧ US U_n_2 = US (cNote (up (up (up u 28 p 116) 116 p (nI l0)) 17 p ((u 41 0) + (u 6 l0))) p 3 (u 41 0) v_1 (nI l0)) := by rw [hU_n_2]; exact ⟨rfl, rfl⟩
  have hn_n_2 : nhN U_n_2 = nhN u ∧ nlN U_n_2 = nlN u ∧ npN U_n_2 = npN u := by rw [hU_n_2]; exact ⟨hB_n_2.2.2.1.trans hA_n_2.2.2.1, hB_n_2.2.2.2.1.trans hA_n_2.2.2.2.1, hB_n_2.2.2.2.2.trans hA_n_2.2.2.2.2⟩
  have hc7 := hw.cnt6 7
  have hc8 := hw.cnt6 8
  have hc9 := hw.cnt6 9
  replace hp0 : p < npN U_n_2 := by rw [hn_n_2.2.2]; exact hp0
  replace hl0 : l0 < nlN U_n_2 := by rw [hn_n_2.2.1]; exact hl0
  replace hv_1 : v_1 < nhN U_n_2 := by rw [hn_n_2.1]; exact hv_1
  have hk_n_2 : ∀ k, nk k = true → U_n_2 k = (up (up (up u 28 p 116) 116 p (nI l0)) 17 p ((u 41 0) + (u 6 l0))) k := fun k e9 => by rw [hU_n_2]; exact cNote_k e9
  have hA0_z : LG U_n_2 U_n_2 := (LG.refl U_n_2)
  have hA_z := hA0_z hlw_n_2
  have h1_z := hA_z.2.1.le
  have eM : (cLoad u p l0) = U_n_2 := by unfold cLoad; rw [kv_1, hU_n_2]
  exact e_V C0 hr hH ⟨b, hbe, by rw [eM]; exact ⟨hR, hw⟩⟩ (by rw [eM]; omega) (by rw [eM]; omega) dX10_load_42

