set_option maxHeartbeats 800000 in
set_option maxRecDepth 100000 in
theorem cC_X10_scan (l : Launch) (hlt : l.stackTraces = false) (G : GT) (A : Nat → Prop) (h : AH) (b0 : BA) (u : MM) (hR : RC G.2.2.1 h b0 u) (hw : WFc u) (x y : Int32) : cxI l G A yX10_scan cX10_scan 5 (Option.some FieldType.char) 11 398 (4 + (UC (cScn u x y) - UC u)) (24 + (US (cScn u x y) - US u)) [.ref (b0 14 0), .int (x), .int (y)] h (fun r h' => xScn u x y = none ∧ r = cScnR u x y ∧ ∃ b', BE u b0 b' ∧ RC G.2.2.1 h' b' (cScn u x y) ∧ WFc (cScn u x y)) (fun E h' => xScn u x y = some E ∧ h' = h) := by
  refine cx_of "Routepost" rfl (by decide) (Nat.le_of_ble_eq_true rfl) ?_
  intro pr e s m9 below meth c C0 hxt hr hH ls hl
  obtain ⟨hx, hb, hml, hown, hts, hK, hA, -⟩ := id C0
  have hl : lv_has ls 5 [(0, .ref (b0 14 0)), (1, .int (x)), (2, .int (y))] := hl
  obtain ⟨b, hb0⟩ : ∃ z, z = b0 := ⟨_, rfl⟩
  rw [← hb0] at hR hl
  have hbe : BE u b0 b := by rw [hb0]; exact BE.refl u b0
  have hc7 := hw.cnt6 7
  have hc8 := hw.cnt6 8
  have hc9 := hw.cnt6 9
  have hw00 := hw
  have hRc9 : ∀ c, c ≤ 4 → c ≤ 4 + (UC (cScn u x y) - UC u) := fun c h9 => by omega
  have hRs9 : ∀ c, c ≤ 24 → c ≤ 24 + (US (cScn u x y) - US u) := fun c h9 => by omega
  refine lv_aload_n hx hb dX10_scan_0 rfl (lv_at hl 0 rfl) ?_
  refine lv_iload_n hx hb dX10_scan_1 rfl (lv_at hl 1 rfl) ?_
  refine k_xq C0 hxt hH (k_xrunV (rest := []) C0 hH (cC_X10_parcelNumbered l hlt G A _ b _ hR hw x ) mv_X10_parcelNumbered ml_X10_186 ci_14 (hR.kind (K := 14) (i := 0) rfl) rfl ⟨Nat.le_of_ble_eq_true rfl, Nat.le_of_ble_eq_true rfl⟩ hl.1 rfl (Nat.le_of_ble_eq_true rfl) dX10_scan_2 ⟨by show _ ≤ 4 + (UC (cScn u x y) - UC u); omega, by show _ ≤ 24 + (US (cScn u x y) - US u); omega⟩) (fun E h9 z => ⟨by unfold xScn; exact xo_s z.1, z.2⟩) (hRc9 _ (by omega)) (hRs9 _ (by omega)) (fun r_1 h1 H locs hp hH => ?_)
  obtain ⟨exr_1, er_1, eh⟩ := hp
  rw [eh] at hH
  clear eh
  have vpv_2 : vp_in (x) (npN u) := (xPa_n hw).mp exr_1
  obtain ⟨v_2, hv_2, ev_2⟩ := vp_ex vpv_2 (by have := hw.nh; have := hw.nl; have := hw.np; omega)
  have kv_2 : (x).toNatClampNeg = v_2 := by rw [ev_2]; exact nI_clamp (by have := hw.nh; have := hw.nl; have := hw.np; omega)
  rw [show dec b 9 (x) = some (b 9 v_2) from by rw [ev_2]; exact dec_nI (by have := hw.nh; have := hw.nl; have := hw.np; omega)] at er_1
  subst er_1
  refine lv_astore_n (lv' := [(3, .ref (b 9 v_2)), (0, .ref (b 14 0)), (1, .int (x)), (2, .int (y))]) hx hb dX10_scan_5 rfl hl (by decide) rfl (fun ls hl => ?_)
  refine lv_aload_n hx hb dX10_scan_6 rfl (lv_at hl 1 rfl) ?_
  refine lv_iload_n hx hb dX10_scan_7 rfl (lv_at hl 3 rfl) ?_
  refine k_xq C0 hxt hH (k_xrunV (rest := []) C0 hH (cC_X10_hubNumbered l hlt G A _ b _ hR hw y ) mv_X10_hubNumbered ml_X10_100 ci_14 (hR.kind (K := 14) (i := 0) rfl) rfl ⟨Nat.le_of_ble_eq_true rfl, Nat.le_of_ble_eq_true rfl⟩ hl.1 rfl (Nat.le_of_ble_eq_true rfl) dX10_scan_8 ⟨by show _ ≤ 4 + (UC (cScn u x y) - UC u); omega, by show _ ≤ 24 + (US (cScn u x y) - US u); omega⟩) (fun E h9 z => ⟨by unfold xScn; rw [xo_n exr_1]; exact xo_s z.1, z.2⟩) (hRc9 _ (by omega)) (hRs9 _ (by omega)) (fun r_3 h1 H locs hp hH => ?_)
  obtain ⟨exr_3, er_3, eh⟩ := hp
  rw [eh] at hH
  clear eh
  have vpv_4 : vp_in (y) (nhN u) := (xHb_n hw).mp exr_3
  obtain ⟨v_4, hv_4, ev_4⟩ := vp_ex vpv_4 (by have := hw.nh; have := hw.nl; have := hw.np; omega)
  have kv_4 : (y).toNatClampNeg = v_4 := by rw [ev_4]; exact nI_clamp (by have := hw.nh; have := hw.nl; have := hw.np; omega)
  rw [show dec b 7 (y) = some (b 7 v_4) from by rw [ev_4]; exact dec_nI (by have := hw.nh; have := hw.nl; have := hw.np; omega)] at er_3
  subst er_3
  refine lv_astore (lv' := [(4, .ref (b 7 v_4)), (3, .ref (b 9 v_2)), (0, .ref (b 14 0)), (1, .int (x)), (2, .int (y))]) hx hb dX10_scan_11 hl (by decide) rfl (fun ls hl => ?_)
  refine lv_aload_n hx hb dX10_scan_13 rfl (lv_at hl 1 rfl) ?_
  refine c_getI C0 hH hR ci_9 (i := v_2) (j := 8) hv_2 rfl (by decide) rfl fl_X10_190 (v := u 28 v_2) rfl dX10_scan_14 ?_
  refine lv_bipush (v := 100) hx hb dX10_scan_17 (by decide) ?_
  refine lv_icmp_eq (tgt := 31) hx hb dX10_scan_19 (by decide) (fun c19_5 => ?_) (fun c19_5 => ?_)
  · exact k_throwS C0 hxt hlt hH thr_ISE (is := 194) (text := "it does not travel any more") (by decide) hl.1 dX10_scan_31 dX10_scan_34 dX10_scan_35 dX10_scan_37 dX10_scan_40 (Nat.le_of_ble_eq_true rfl) (Nat.le_of_ble_eq_true rfl) (by show _ ≤ 4 + (UC (cScn u x y) - UC u); omega) (by show _ ≤ 24 + (US (cScn u x y) - US u); omega) ⟨by unfold xScn; rw [xo_n exr_1, xo_n exr_3, kv_2, if_pos (Or.inl c19_5)]; rfl, rfl⟩ (hRc9 _ (by omega)) (hRs9 _ (by omega))
  · refine lv_aload_n hx hb dX10_scan_22 rfl (lv_at hl 1 rfl) ?_
    refine c_getI C0 hH hR ci_9 (i := v_2) (j := 8) hv_2 rfl (by decide) rfl fl_X10_190 (v := u 28 v_2) rfl dX10_scan_23 ?_
    refine lv_bipush (v := 104) hx hb dX10_scan_26 (by decide) ?_
    refine lv_icmp_ne (tgt := 41) hx hb dX10_scan_28 (by decide) (fun c28_6 => ?_) (fun c28_6 => ?_)
    · refine lv_aload_n hx hb dX10_scan_41 rfl (lv_at hl 1 rfl) ?_
      refine c_getI C0 hH hR ci_9 (i := v_2) (j := 8) hv_2 rfl (by decide) rfl fl_X10_190 (v := u 28 v_2) rfl dX10_scan_42 ?_
      refine lv_bipush (v := 116) hx hb dX10_scan_45 (by decide) ?_
      refine lv_icmp_eq (tgt := 59) hx hb dX10_scan_47 (by decide) (fun c47_7 => ?_) (fun c47_7 => ?_)
      · refine lv_aload_n hx hb dX10_scan_59 rfl (lv_at hl 2 rfl) ?_
        refine lv_aload_n hx hb dX10_scan_60 rfl (lv_at hl 1 rfl) ?_
        refine lv_aload hx hb dX10_scan_61 (lv_at hl 0 rfl) ?_
        have hA0_n_8 : LG u u := (LG.refl u)
        have hA_n_8 := hA0_n_8 hw00.lw
        have h1_n_8 := hA_n_8.2.1.le
        have hB0_n_8 : LG u (cMis u v_2 v_4) := (LG.mis hv_2)
        have hB_n_8 := hB0_n_8 hA_n_8.1
        have hC0_n_8 : LG (cMis u v_2 v_4) (cScn u x y) := (by rw [show (cScn u x y) = (cMis u v_2 v_4) from by unfold cScn; rw [kv_2, if_pos (Or.inl c47_7), kv_4]]; exact LG.refl _)
        have hC_n_8 := hC0_n_8 hB_n_8.1
        have h2_n_8 := hB_n_8.2.1.le
        have h3_n_8 := hC_n_8.2.1.le
        refine k_i hH (k_runV (rest := []) C0 hH (cC_X10_noticeMisroute l G A _ b _ hR hw v_2 v_4 hv_2 hv_4) mv_X10_noticeMisroute ml_X10_200 ci_14 (hR.kind (K := 14) (i := 0) rfl) rfl ⟨Nat.le_of_ble_eq_true rfl, Nat.le_of_ble_eq_true rfl⟩ hl.1 rfl (Nat.le_of_ble_eq_true rfl) dX10_scan_63 ⟨by show _ ≤ 4 + (UC (cScn u x y) - UC u); omega, by show _ ≤ 24 + (US (cScn u x y) - US u); omega⟩) (fun r_9 h H locs hp hH => ?_)
        obtain ⟨er_9, b, hbx, hR, hw⟩ := hp
        subst er_9
        rw [← hbx 7 v_4 (by decide) hv_4, ← hbx 9 v_2 (by decide) hv_2, ← hbx 14 0 (by decide) rfl] at hl
        replace hbe := hbe.trans ((Gw.refl u).trans hA_n_8.2.1) hbx
        have hgu_n_8 := ((Gw.refl u).trans hA_n_8.2.1).trans hB_n_8.2.1
        have hlw_n_8 := hB_n_8.1
        obtain ⟨U_n_8, hU_n_8⟩ : ∃ z, z = (cMis u v_2 v_4) := ⟨_, rfl⟩
        rw [← hU_n_8] at hR hw hgu_n_8 hlw_n_8
        have hE_n_8 : UC U_n_8 = UC (cMis u v_2 v_4) ∧ US U_n_8 = US (cMis u v_2 v_4) := by rw [hU_n_8]; exact ⟨rfl, rfl⟩
        have hn_n_8 : nhN U_n_8 = nhN u ∧ nlN U_n_8 = nlN u ∧ npN U_n_8 = npN u := by rw [hU_n_8]; exact ⟨hB_n_8.2.2.1.trans hA_n_8.2.2.1, hB_n_8.2.2.2.1.trans hA_n_8.2.2.2.1, hB_n_8.2.2.2.2.trans hA_n_8.2.2.2.2⟩
        have hc7 := hw.cnt6 7
        have hc8 := hw.cnt6 8
        have hc9 := hw.cnt6 9
        replace hv_2 : v_2 < npN U_n_8 := by rw [hn_n_8.2.2]; exact hv_2
        replace hv_4 : v_4 < nhN U_n_8 := by rw [hn_n_8.1]; exact hv_4
        have hA0_z : LG U_n_8 U_n_8 := (LG.refl U_n_8)
        have hA_z := hA0_z hlw_n_8
        have h1_z := hA_z.2.1.le
        have eM : (cScn u x y) = U_n_8 := by unfold cScn; rw [kv_2, if_pos (Or.inl c47_7), kv_4, hU_n_8]
        refine vx_ret ?_
        have eR : (cMisR u v_2 : Int32) = cScnR u x y := by unfold cScnR; rw [kv_2, if_pos (Or.inl c47_7)]
        exact e_Z C0 hr cMisR_nar hH ⟨(by unfold xScn; rw [xo_n exr_1, xo_n exr_3, kv_2, if_neg (fun z => z.elim c19_5 c28_6)]), eR, b, hbe, by rw [eM]; exact ⟨hR, hw⟩⟩ (by rw [eM]; omega) (by rw [eM]; omega) dX10_scan_66
      · refine lv_aload_n hx hb dX10_scan_50 rfl (lv_at hl 1 rfl) ?_
        obtain ⟨v_10, hv_10, ev_10⟩ := hw.exH (show vp_in (u 15 v_2) _ from (hw.pa hv_2).2.2)
        have kv_10 : (u 15 v_2).toNatClampNeg = v_10 := by rw [ev_10]; exact nI_clamp (by have := hw.nh; have := hw.np; omega)
        refine c_getR C0 hH hR ci_9 (i := v_2) (j := 7) hv_2 rfl (by decide) rfl fl_X10_196 (v := some (b 7 v_10)) (show dec b 7 (u 15 v_2) = some (b 7 v_10) from by rw [show u 15 v_2 = nI v_10 from Eq.trans rfl ev_10]; exact dec_nI (by have := hc7; have := (show v_10 < cnt u 7 from hv_10); omega)) dX10_scan_51 ?_
        refine lv_aload hx hb dX10_scan_54 (lv_at hl 0 rfl) ?_
        refine lv_acmp_eq (rx := some (b 7 v_10)) (ry := some (b 7 v_4)) (tgt := 67) hx hb dX10_scan_56 (by decide) (fun c56_11 => ?_) (fun c56_11 => ?_)
        · rw [hR.acR hw (T := 7) (by omega) hv_10 hv_4] at c56_11
          rw [← ev_10] at c56_11
          rw [← ev_4] at c56_11
          refine lv_aload_n hx hb dX10_scan_67 rfl (lv_at hl 1 rfl) ?_
          refine c_getI C0 hH hR ci_9 (i := v_2) (j := 8) hv_2 rfl (by decide) rfl fl_X10_190 (v := u 28 v_2) rfl dX10_scan_68 ?_
          refine lv_bipush (v := 115) hx hb dX10_scan_71 (by decide) ?_
          refine lv_icmp_ne (tgt := 79) hx hb dX10_scan_73 (by decide) (fun c73_12 => ?_) (fun c73_12 => ?_)
          · refine lv_aload_n hx hb dX10_scan_79 rfl (lv_at hl 1 rfl) ?_
            refine lv_aload hx hb dX10_scan_80 (lv_at hl 0 rfl) ?_
            refine lv_aload_n hx hb dX10_scan_82 rfl (lv_at hl 2 rfl) ?_
            refine c_getI C0 hH hR ci_14 (i := 0) (j := 9) rfl rfl (by decide) rfl fl_X10_56 (v := u 41 0) rfl dX10_scan_83 ?_
            have hA0_n_13 : LG u u := (LG.refl u)
            have hA_n_13 := hA0_n_13 hw00.lw
            have h1_n_13 := hA_n_13.2.1.le
            refine k_v hH (k_runV (rest := []) C0 hH (cC_X5_settle l G A _ b _ hR hw v_2 v_4 (u 41 0) hv_2 hv_4) mv_X5_settle ml_X10_167 ci_9 (hR.kind (K := 9) (i := v_2) hv_2) rfl ⟨Nat.le_of_ble_eq_true rfl, Nat.le_of_ble_eq_true rfl⟩ hl.1 rfl (Nat.le_of_ble_eq_true rfl) dX10_scan_86 ⟨by show _ ≤ 4 + (UC (cScn u x y) - UC u); omega, by show _ ≤ 24 + (US (cScn u x y) - US u); omega⟩) (fun h H locs hp hH => ?_)
            obtain ⟨hR, hw⟩ := hp
            rw [← ev_4] at hR hw
            have hB0_n_13 : LG u (cSettle u v_2 (y) (u 41 0)) := LG.settle
            have hB_n_13 := hB0_n_13 hA_n_13.1
            have h2_n_13 := hB_n_13.2.1.le
            have hgu_n_13 := ((Gw.refl u).trans hA_n_13.2.1).trans hB_n_13.2.1
            have hlw_n_13 := hB_n_13.1
            obtain ⟨U_n_13, hU_n_13⟩ : ∃ z, z = (cSettle u v_2 (y) (u 41 0)) := ⟨_, rfl⟩
            rw [← hU_n_13] at hR hw hgu_n_13 hlw_n_13
            have hE_n_13 : UC U_n_13 = UC (cSettle u v_2 (y) (u 41 0)) ∧ US U_n_13 = US (cSettle u v_2 (y) (u 41 0)) := by rw [hU_n_13]; exact ⟨rfl, rfl⟩
            have hn_n_13 : nhN U_n_13 = nhN u ∧ nlN U_n_13 = nlN u ∧ npN U_n_13 = npN u := by rw [hU_n_13]; exact ⟨hB_n_13.2.2.1.trans hA_n_13.2.2.1, hB_n_13.2.2.2.1.trans hA_n_13.2.2.2.1, hB_n_13.2.2.2.2.trans hA_n_13.2.2.2.2⟩
            have hc7 := hw.cnt6 7
            have hc8 := hw.cnt6 8
            have hc9 := hw.cnt6 9
            replace hv_2 : v_2 < npN U_n_13 := by rw [hn_n_13.2.2]; exact hv_2
            replace hv_4 : v_4 < nhN U_n_13 := by rw [hn_n_13.1]; exact hv_4
            replace hv_10 : v_10 < nhN U_n_13 := by rw [hn_n_13.1]; exact hv_10
            have hk_n_13 : ∀ k, stk k = true → U_n_13 k = u k := fun k e9 => by rw [hU_n_13]; exact cSettle_k e9
            have hs15_n_13 : U_n_13 15 v_2 = y := by rw [hU_n_13]; unfold cSettle; split <;> simp [up]
            have hs28_n_13 : U_n_13 28 v_2 = 115 := by rw [hU_n_13]; unfold cSettle; split <;> simp [up]
            refine lv_aload_n hx hb dX10_scan_89 rfl (lv_at hl 1 rfl) ?_
            refine c_getR C0 hH hR ci_9 (i := v_2) (j := 5) hv_2 rfl (by decide) rfl fl_X10_171 (v := some (b 6 v_2)) rfl dX10_scan_90 ?_
            refine lv_bipush (v := 115) hx hb dX10_scan_93 (by decide) ?_
            refine lv_aload_n hx hb dX10_scan_95 rfl (lv_at hl 2 rfl) ?_
            refine c_getI C0 hH hR ci_14 (i := 0) (j := 9) rfl rfl (by decide) rfl fl_X10_56 (v := u 41 0) (by show U_n_13 41 0 = _; simp [up, hk_n_13 41 rfl]) dX10_scan_96 ?_
            refine lv_aload hx hb dX10_scan_99 (lv_at hl 0 rfl) ?_
            refine lv_null hx hb dX10_scan_101 ?_
            have hA0_n_15 : LG U_n_13 U_n_13 := (LG.refl U_n_13)
            have hA_n_15 := hA0_n_15 hlw_n_13
            have h1_n_15 := hA_n_15.2.1.le
            have hB0_n_15 : LG U_n_13 (cNote U_n_13 v_2 1 (u 41 0) v_4 (-1)) := (LG.note hv_2)
            have hB_n_15 := hB0_n_15 hA_n_15.1
            have hC0_n_15 : LG (cNote U_n_13 v_2 1 (u 41 0) v_4 (-1)) (cScn u x y) := (by rw [show cScn u x y = cPlan (cNote U_n_13 v_2 1 (u 41 0) v_4 (-1)) v_2 from by unfold cScn; rw [kv_2, if_neg (fun z => z.elim c47_7 (fun y9 => y9 c56_11)), if_neg c73_12, hU_n_13, kv_4]]; exact LG.plan)
            have hC_n_15 := hC0_n_15 hB_n_15.1
            have h2_n_15 := hB_n_15.2.1.le
            have h3_n_15 := hC_n_15.2.1.le
            refine k_v hH (k_runV (rest := []) C0 hH (cC_X2_note_n l G A _ b _ hR hw v_2 1 (u 41 0) v_4 hv_2 (by decide) hv_4) mv_X2_note ml_X10_175 ci_6 (hR.kind (K := 6) (i := v_2) hv_2) rfl ⟨Nat.le_of_ble_eq_true rfl, Nat.le_of_ble_eq_true rfl⟩ hl.1 rfl (Nat.le_of_ble_eq_true rfl) dX10_scan_102 ⟨by show _ ≤ 4 + (UC (cScn u x y) - UC u); omega, by show _ ≤ 24 + (US (cScn u x y) - US u); omega⟩) (fun h H locs hp hH => ?_)
            obtain ⟨b, hbx, hR, hw⟩ := hp
            rw [← hbx 7 v_4 (by decide) hv_4, ← hbx 9 v_2 (by decide) hv_2, ← hbx 14 0 (by decide) rfl] at hl
            replace hbe := hbe.trans (hgu_n_13.trans hA_n_15.2.1) hbx
            have hgu_n_15 := (hgu_n_13.trans hA_n_15.2.1).trans hB_n_15.2.1
            have hlw_n_15 := hB_n_15.1
            obtain ⟨U_n_15, hU_n_15⟩ : ∃ z, z = (cNote U_n_13 v_2 1 (u 41 0) v_4 (-1)) := ⟨_, rfl⟩
            rw [← hU_n_15] at hR hw hgu_n_15 hlw_n_15
            have hE_n_15 : UC U_n_15 = UC (cNote U_n_13 v_2 1 (u 41 0) v_4 (-1)) ∧ US U_n_15 = US (cNote U_n_13 v_2 1 (u 41 0) v_4 (-1)) := by rw [hU_n_15]; exact ⟨rfl, rfl⟩
            have hn_n_15 : nhN U_n_15 = nhN U_n_13 ∧ nlN U_n_15 = nlN U_n_13 ∧ npN U_n_15 = npN U_n_13 := by rw [hU_n_15]; exact ⟨hB_n_15.2.2.1.trans hA_n_15.2.2.1, hB_n_15.2.2.2.1.trans hA_n_15.2.2.2.1, hB_n_15.2.2.2.2.trans hA_n_15.2.2.2.2⟩
            have hc7 := hw.cnt6 7
            have hc8 := hw.cnt6 8
            have hc9 := hw.cnt6 9
            replace hv_2 : v_2 < npN U_n_15 := by rw [hn_n_15.2.2]; exact hv_2
            replace hv_4 : v_4 < nhN U_n_15 := by rw [hn_n_15.1]; exact hv_4
            replace hv_10 : v_10 < nhN U_n_15 := by rw [hn_n_15.1]; exact hv_10
            have hk_n_15 : ∀ k, nk k = true → U_n_15 k = U_n_13 k := fun k e9 => by rw [hU_n_15]; exact cNote_k e9
            refine lv_aload_n hx hb dX10_scan_105 rfl (lv_at hl 2 rfl) ?_
            refine lv_aload_n hx hb dX10_scan_106 rfl (lv_at hl 1 rfl) ?_
            have hA0_n_16 : LG U_n_15 U_n_15 := (LG.refl U_n_15)
            have hA_n_16 := hA0_n_16 hlw_n_15
            have h1_n_16 := hA_n_16.2.1.le
            refine k_v hH (k_runV (rest := []) C0 hH (cC_X10_plan l G A _ b _ hR hw v_2 hv_2) mv_X10_plan ml_X10_204 ci_14 (hR.kind (K := 14) (i := 0) rfl) rfl ⟨Nat.le_of_ble_eq_true rfl, Nat.le_of_ble_eq_true rfl⟩ hl.1 rfl (Nat.le_of_ble_eq_true rfl) dX10_scan_107 ⟨by show _ ≤ 4 + (UC (cScn u x y) - UC u); omega, by show _ ≤ 24 + (US (cScn u x y) - US u); omega⟩) (fun h H locs hp hH => ?_)
            obtain ⟨hR, hw⟩ := hp
            have hB0_n_16 : LG U_n_15 (cPlan U_n_15 v_2) := LG.plan
            have hB_n_16 := hB0_n_16 hA_n_16.1
            have h2_n_16 := hB_n_16.2.1.le
            have hgu_n_16 := (hgu_n_15.trans hA_n_16.2.1).trans hB_n_16.2.1
            have hlw_n_16 := hB_n_16.1
            obtain ⟨U_n_16, hU_n_16⟩ : ∃ z, z = (cPlan U_n_15 v_2) := ⟨_, rfl⟩
            rw [← hU_n_16] at hR hw hgu_n_16 hlw_n_16
            have hE_n_16 : UC U_n_16 = UC (cPlan U_n_15 v_2) ∧ US U_n_16 = US (cPlan U_n_15 v_2) := by rw [hU_n_16]; exact ⟨rfl, rfl⟩
            have hn_n_16 : nhN U_n_16 = nhN U_n_15 ∧ nlN U_n_16 = nlN U_n_15 ∧ npN U_n_16 = npN U_n_15 := by rw [hU_n_16]; exact ⟨hB_n_16.2.2.1.trans hA_n_16.2.2.1, hB_n_16.2.2.2.1.trans hA_n_16.2.2.2.1, hB_n_16.2.2.2.2.trans hA_n_16.2.2.2.2⟩
            have hc7 := hw.cnt6 7
            have hc8 := hw.cnt6 8
            have hc9 := hw.cnt6 9
            replace hv_2 : v_2 < npN U_n_16 := by rw [hn_n_16.2.2]; exact hv_2
            replace hv_4 : v_4 < nhN U_n_16 := by rw [hn_n_16.1]; exact hv_4
            replace hv_10 : v_10 < nhN U_n_16 := by rw [hn_n_16.1]; exact hv_10
            refine lv_bipush (v := 111) hx hb dX10_scan_110 (by decide) ?_
            have hA0_z : LG U_n_16 U_n_16 := (LG.refl U_n_16)
            have hA_z := hA0_z hlw_n_16
            have h1_z := hA_z.2.1.le
            have eM : (cScn u x y) = U_n_16 := by unfold cScn; rw [kv_2, if_neg (fun z => z.elim c47_7 (fun y9 => y9 c56_11)), if_neg c73_12, hU_n_16, hU_n_15, hU_n_13, kv_4]
            refine vx_ret ?_
            have eR : (111 : Int32) = cScnR u x y := by unfold cScnR; rw [kv_2, if_neg (fun z => z.elim c47_7 (fun y9 => y9 c56_11)), if_neg c73_12]
            exact e_Z C0 hr (by decide) hH ⟨(by unfold xScn; rw [xo_n exr_1, xo_n exr_3, kv_2, if_neg (fun z => z.elim c19_5 c28_6)]), eR, b, hbe, by rw [eM]; exact ⟨hR, hw⟩⟩ (by rw [eM]; omega) (by rw [eM]; omega) dX10_scan_112
          · refine lv_bipush (v := 97) hx hb dX10_scan_76 (by decide) ?_
            have hA0_z : LG u u := (LG.refl u)
            have hA_z := hA0_z hw00.lw
            have h1_z := hA_z.2.1.le
            have eM : (cScn u x y) = u := by unfold cScn; rw [kv_2, if_neg (fun z => z.elim c47_7 (fun y9 => y9 c56_11)), if_pos c73_12]
            refine vx_ret ?_
            have eR : (97 : Int32) = cScnR u x y := by unfold cScnR; rw [kv_2, if_neg (fun z => z.elim c47_7 (fun y9 => y9 c56_11)), if_pos c73_12]
            exact e_Z C0 hr (by decide) hH ⟨(by unfold xScn; rw [xo_n exr_1, xo_n exr_3, kv_2, if_neg (fun z => z.elim c19_5 c28_6)]), eR, b, hbe, by rw [eM]; exact ⟨hR, hw⟩⟩ (by rw [eM]; omega) (by rw [eM]; omega) dX10_scan_78
        · rw [hR.acR hw (T := 7) (by omega) hv_10 hv_4] at c56_11
          rw [← ev_10] at c56_11
          rw [← ev_4] at c56_11
          refine lv_aload_n hx hb dX10_scan_59 rfl (lv_at hl 2 rfl) ?_
          refine lv_aload_n hx hb dX10_scan_60 rfl (lv_at hl 1 rfl) ?_
          refine lv_aload hx hb dX10_scan_61 (lv_at hl 0 rfl) ?_
          have hA0_n_18 : LG u u := (LG.refl u)
          have hA_n_18 := hA0_n_18 hw00.lw
          have h1_n_18 := hA_n_18.2.1.le
          have hB0_n_18 : LG u (cMis u v_2 v_4) := (LG.mis hv_2)
          have hB_n_18 := hB0_n_18 hA_n_18.1
          have hC0_n_18 : LG (cMis u v_2 v_4) (cScn u x y) := (by rw [show (cScn u x y) = (cMis u v_2 v_4) from by unfold cScn; rw [kv_2, if_pos (Or.inr c56_11), kv_4]]; exact LG.refl _)
          have hC_n_18 := hC0_n_18 hB_n_18.1
          have h2_n_18 := hB_n_18.2.1.le
          have h3_n_18 := hC_n_18.2.1.le
          refine k_i hH (k_runV (rest := []) C0 hH (cC_X10_noticeMisroute l G A _ b _ hR hw v_2 v_4 hv_2 hv_4) mv_X10_noticeMisroute ml_X10_200 ci_14 (hR.kind (K := 14) (i := 0) rfl) rfl ⟨Nat.le_of_ble_eq_true rfl, Nat.le_of_ble_eq_true rfl⟩ hl.1 rfl (Nat.le_of_ble_eq_true rfl) dX10_scan_63 ⟨by show _ ≤ 4 + (UC (cScn u x y) - UC u); omega, by show _ ≤ 24 + (US (cScn u x y) - US u); omega⟩) (fun r_19 h H locs hp hH => ?_)
          obtain ⟨er_19, b, hbx, hR, hw⟩ := hp
          subst er_19
          rw [← hbx 7 v_4 (by decide) hv_4, ← hbx 9 v_2 (by decide) hv_2, ← hbx 14 0 (by decide) rfl] at hl
          replace hbe := hbe.trans ((Gw.refl u).trans hA_n_18.2.1) hbx
          have hgu_n_18 := ((Gw.refl u).trans hA_n_18.2.1).trans hB_n_18.2.1
          have hlw_n_18 := hB_n_18.1
          obtain ⟨U_n_18, hU_n_18⟩ : ∃ z, z = (cMis u v_2 v_4) := ⟨_, rfl⟩
          rw [← hU_n_18] at hR hw hgu_n_18 hlw_n_18
          have hE_n_18 : UC U_n_18 = UC (cMis u v_2 v_4) ∧ US U_n_18 = US (cMis u v_2 v_4) := by rw [hU_n_18]; exact ⟨rfl, rfl⟩
          have hn_n_18 : nhN U_n_18 = nhN u ∧ nlN U_n_18 = nlN u ∧ npN U_n_18 = npN u := by rw [hU_n_18]; exact ⟨hB_n_18.2.2.1.trans hA_n_18.2.2.1, hB_n_18.2.2.2.1.trans hA_n_18.2.2.2.1, hB_n_18.2.2.2.2.trans hA_n_18.2.2.2.2⟩
          have hc7 := hw.cnt6 7
          have hc8 := hw.cnt6 8
          have hc9 := hw.cnt6 9
          replace hv_2 : v_2 < npN U_n_18 := by rw [hn_n_18.2.2]; exact hv_2
          replace hv_4 : v_4 < nhN U_n_18 := by rw [hn_n_18.1]; exact hv_4
          replace hv_10 : v_10 < nhN U_n_18 := by rw [hn_n_18.1]; exact hv_10
          have hA0_z : LG U_n_18 U_n_18 := (LG.refl U_n_18)
          have hA_z := hA0_z hlw_n_18
          have h1_z := hA_z.2.1.le
          have eM : (cScn u x y) = U_n_18 := by unfold cScn; rw [kv_2, if_pos (Or.inr c56_11), kv_4, hU_n_18]
          refine vx_ret ?_
          have eR : (cMisR u v_2 : Int32) = cScnR u x y := by unfold cScnR; rw [kv_2, if_pos (Or.inr c56_11)]
          exact e_Z C0 hr cMisR_nar hH ⟨(by unfold xScn; rw [xo_n exr_1, xo_n exr_3, kv_2, if_neg (fun z => z.elim c19_5 c28_6)]), eR, b, hbe, by rw [eM]; exact ⟨hR, hw⟩⟩ (by rw [eM]; omega) (by rw [eM]; omega) dX10_scan_66
    · exact k_throwS C0 hxt hlt hH thr_ISE (is := 194) (text := "it does not travel any more") (by decide) hl.1 dX10_scan_31 dX10_scan_34 dX10_scan_35 dX10_scan_37 dX10_scan_40 (Nat.le_of_ble_eq_true rfl) (Nat.le_of_ble_eq_true rfl) (by show _ ≤ 4 + (UC (cScn u x y) - UC u); omega) (by show _ ≤ 24 + (US (cScn u x y) - US u); omega) ⟨by unfold xScn; rw [xo_n exr_1, xo_n exr_3, kv_2, if_pos (Or.inr c28_6)]; rfl, rfl⟩ (hRc9 _ (by omega)) (hRs9 _ (by omega))
set_option maxHeartbeats 800000 in
set_option maxRecDepth 100000 in
theorem cC_X10_deliver (l : Launch) (hlt : l.stackTraces = false) (G : GT) (A : Nat → Prop) (h : AH) (b0 : BA) (u : MM) (hR : RC G.2.2.1 h b0 u) (hw : WFc u) (x t : Int32) : cxI l G A yX10_deliver cX10_deliver 4 (Option.some FieldType.char) 11 397 (4 + (UC (cDel u x t) - UC u)) (24 + (US (cDel u x t) - US u)) [.ref (b0 14 0), .int (x), .int (t)] h (fun r h' => xDel u x = none ∧ r = cDelR u x t ∧ ∃ b', BE u b0 b' ∧ RC G.2.2.1 h' b' (cDel u x t) ∧ WFc (cDel u x t)) (fun E h' => xDel u x = some E ∧ h' = h) := by
  refine cx_of "Routepost" rfl (by decide) (Nat.le_of_ble_eq_true rfl) ?_
  intro pr e s m9 below meth c C0 hxt hr hH ls hl
  obtain ⟨hx, hb, hml, hown, hts, hK, hA, -⟩ := id C0
  have hl : lv_has ls 4 [(0, .ref (b0 14 0)), (1, .int (x)), (2, .int (t))] := hl
  obtain ⟨b, hb0⟩ : ∃ z, z = b0 := ⟨_, rfl⟩
  rw [← hb0] at hR hl
  have hbe : BE u b0 b := by rw [hb0]; exact BE.refl u b0
  have hc7 := hw.cnt6 7
  have hc8 := hw.cnt6 8
  have hc9 := hw.cnt6 9
  have hw00 := hw
  have hRc9 : ∀ c, c ≤ 4 → c ≤ 4 + (UC (cDel u x t) - UC u) := fun c h9 => by omega
  have hRs9 : ∀ c, c ≤ 24 → c ≤ 24 + (US (cDel u x t) - US u) := fun c h9 => by omega
  refine lv_aload_n hx hb dX10_deliver_0 rfl (lv_at hl 0 rfl) ?_
  refine lv_iload_n hx hb dX10_deliver_1 rfl (lv_at hl 1 rfl) ?_
  refine k_xq C0 hxt hH (k_xrunV (rest := []) C0 hH (cC_X10_parcelNumbered l hlt G A _ b _ hR hw x ) mv_X10_parcelNumbered ml_X10_186 ci_14 (hR.kind (K := 14) (i := 0) rfl) rfl ⟨Nat.le_of_ble_eq_true rfl, Nat.le_of_ble_eq_true rfl⟩ hl.1 rfl (Nat.le_of_ble_eq_true rfl) dX10_deliver_2 ⟨by show _ ≤ 4 + (UC (cDel u x t) - UC u); omega, by show _ ≤ 24 + (US (cDel u x t) - US u); omega⟩) (fun E h9 z => ⟨by unfold xDel; exact xo_s z.1, z.2⟩) (hRc9 _ (by omega)) (hRs9 _ (by omega)) (fun r_1 h1 H locs hp hH => ?_)
  obtain ⟨exr_1, er_1, eh⟩ := hp
  rw [eh] at hH
  clear eh
  have vpv_2 : vp_in (x) (npN u) := (xPa_n hw).mp exr_1
  obtain ⟨v_2, hv_2, ev_2⟩ := vp_ex vpv_2 (by have := hw.nh; have := hw.nl; have := hw.np; omega)
  have kv_2 : (x).toNatClampNeg = v_2 := by rw [ev_2]; exact nI_clamp (by have := hw.nh; have := hw.nl; have := hw.np; omega)
  rw [show dec b 9 (x) = some (b 9 v_2) from by rw [ev_2]; exact dec_nI (by have := hw.nh; have := hw.nl; have := hw.np; omega)] at er_1
  subst er_1
  refine lv_astore_n (lv' := [(3, .ref (b 9 v_2)), (0, .ref (b 14 0)), (1, .int (x)), (2, .int (t))]) hx hb dX10_deliver_5 rfl hl (by decide) rfl (fun ls hl => ?_)
  refine lv_aload_n hx hb dX10_deliver_6 rfl (lv_at hl 0 rfl) ?_
  refine c_getI C0 hH hR ci_9 (i := v_2) (j := 8) hv_2 rfl (by decide) rfl fl_X10_190 (v := u 28 v_2) rfl dX10_deliver_7 ?_
  refine lv_bipush (v := 115) hx hb dX10_deliver_10 (by decide) ?_
  refine lv_icmp_ne (tgt := 26) hx hb dX10_deliver_12 (by decide) (fun c12_3 => ?_) (fun c12_3 => ?_)
  · exact k_throwS C0 hxt hlt hH thr_ISE (is := 210) (text := "it is not scanned at its destination") (by decide) hl.1 dX10_deliver_26 dX10_deliver_29 dX10_deliver_30 dX10_deliver_32 dX10_deliver_35 (Nat.le_of_ble_eq_true rfl) (Nat.le_of_ble_eq_true rfl) (by show _ ≤ 4 + (UC (cDel u x t) - UC u); omega) (by show _ ≤ 24 + (US (cDel u x t) - US u); omega) ⟨by unfold xDel; rw [xo_n exr_1, kv_2, if_neg (fun z => c12_3 z.1)]; rfl, rfl⟩ (hRc9 _ (by omega)) (hRs9 _ (by omega))
  · refine lv_aload_n hx hb dX10_deliver_15 rfl (lv_at hl 0 rfl) ?_
    obtain ⟨v_4, hv_4, ev_4⟩ := hw.exH (show vp_in (u 15 v_2) _ from (hw.pa hv_2).2.2)
    have kv_4 : (u 15 v_2).toNatClampNeg = v_4 := by rw [ev_4]; exact nI_clamp (by have := hw.nh; have := hw.np; omega)
    refine c_getR C0 hH hR ci_9 (i := v_2) (j := 7) hv_2 rfl (by decide) rfl fl_X10_196 (v := some (b 7 v_4)) (show dec b 7 (u 15 v_2) = some (b 7 v_4) from by rw [show u 15 v_2 = nI v_4 from Eq.trans rfl ev_4]; exact dec_nI (by have := hc7; have := (show v_4 < cnt u 7 from hv_4); omega)) dX10_deliver_16 ?_
    refine lv_aload_n hx hb dX10_deliver_19 rfl (lv_at hl 0 rfl) ?_
    obtain ⟨v_5, hv_5, ev_5⟩ := hw.exH (show vp_in (u 14 v_2) _ from (hw.pa hv_2).2.1)
    have kv_5 : (u 14 v_2).toNatClampNeg = v_5 := by rw [ev_5]; exact nI_clamp (by have := hw.nh; have := hw.np; omega)
    refine c_getR C0 hH hR ci_9 (i := v_2) (j := 6) hv_2 rfl (by decide) rfl fl_X10_207 (v := some (b 7 v_5)) (show dec b 7 (u 14 v_2) = some (b 7 v_5) from by rw [show u 14 v_2 = nI v_5 from Eq.trans rfl ev_5]; exact dec_nI (by have := hc7; have := (show v_5 < cnt u 7 from hv_5); omega)) dX10_deliver_20 ?_
    refine lv_acmp_eq (rx := some (b 7 v_4)) (ry := some (b 7 v_5)) (tgt := 36) hx hb dX10_deliver_23 (by decide) (fun c23_6 => ?_) (fun c23_6 => ?_)
    · rw [hR.acR hw (T := 7) (by omega) hv_4 hv_5] at c23_6
      rw [← ev_4] at c23_6
      rw [← ev_5] at c23_6
      refine lv_iload_n hx hb dX10_deliver_36 rfl (lv_at hl 3 rfl) ?_
      refine lv_if_ne (tgt := 46) hx hb dX10_deliver_37 (by decide) (fun c37_7 => ?_) (fun c37_7 => ?_)
      · refine lv_aload_n hx hb dX10_deliver_46 rfl (lv_at hl 0 rfl) ?_
        refine lv_bipush (v := 100) hx hb dX10_deliver_47 (by decide) ?_
        refine c_putI C0 hH hR ci_9 (i := v_2) (j := 8) hv_2 rfl (k := 28) rfl (by decide) (by decide) rfl fl_X10_190 rfl (x := 100) (by decide) (by decide) dX10_deliver_49 (fun h H locs hH hR => ?_)
        replace hw := hw.upx (k := 28) (i := v_2) (x := 100) (by unfold kWc kSz; decide)
        refine lv_aload_n hx hb dX10_deliver_52 rfl (lv_at hl 0 rfl) ?_
        refine lv_aload_n hx hb dX10_deliver_53 rfl (lv_at hl 1 rfl) ?_
        refine c_getI C0 hH hR ci_14 (i := 0) (j := 9) rfl rfl (by decide) rfl fl_X10_56 (v := u 41 0) rfl dX10_deliver_54 ?_
        refine c_putI C0 hH hR ci_9 (i := v_2) (j := 14) hv_2 rfl (k := 26) rfl (by decide) (by decide) rfl fl_X10_216 rfl (x := u 41 0) rfl rfl dX10_deliver_57 (fun h H locs hH hR => ?_)
        replace hw := hw.upx (k := 26) (i := v_2) (x := u 41 0) (by unfold kWc kSz; decide)
        refine lv_aload_n hx hb dX10_deliver_60 rfl (lv_at hl 0 rfl) ?_
        refine c_getR C0 hH hR ci_9 (i := v_2) (j := 5) hv_2 rfl (by decide) rfl fl_X10_171 (v := some (b 6 v_2)) rfl dX10_deliver_61 ?_
        refine lv_bipush (v := 100) hx hb dX10_deliver_64 (by decide) ?_
        refine lv_aload_n hx hb dX10_deliver_66 rfl (lv_at hl 1 rfl) ?_
        refine c_getI C0 hH hR ci_14 (i := 0) (j := 9) rfl rfl (by decide) rfl fl_X10_56 (v := u 41 0) rfl dX10_deliver_67 ?_
        refine lv_aload_n hx hb dX10_deliver_70 rfl (lv_at hl 0 rfl) ?_
        refine c_getR C0 hH hR ci_9 (i := v_2) (j := 7) hv_2 rfl (by decide) rfl fl_X10_196 (v := some (b 7 v_4)) (show dec b 7 ((up (up u 28 v_2 100) 26 v_2 (u 41 0)) 15 v_2) = some (b 7 v_4) from by rw [show (up (up u 28 v_2 100) 26 v_2 (u 41 0)) 15 v_2 = nI v_4 from Eq.trans rfl ev_4]; exact dec_nI (by have := hc7; have := (show v_4 < cnt u 7 from hv_4); omega)) dX10_deliver_71 ?_
        refine lv_null hx hb dX10_deliver_74 ?_
        have hA0_n_8 : LG u (up (up u 28 v_2 100) 26 v_2 (u 41 0)) := (LG.trans (LG.trans (LG.refl u) (LG.upk (k := 28) (by unfold kSz; decide))) (LG.upk (k := 26) (by unfold kSz; decide)))
        have hA_n_8 := hA0_n_8 hw00.lw
        have h1_n_8 := hA_n_8.2.1.le
        have hB0_n_8 : LG (up (up u 28 v_2 100) 26 v_2 (u 41 0)) (cNote (up (up u 28 v_2 100) 26 v_2 (u 41 0)) v_2 5 (u 41 0) v_4 (-1)) := (LG.note hv_2)
        have hB_n_8 := hB0_n_8 hA_n_8.1
        have hC0_n_8 : LG (cNote (up (up u 28 v_2 100) 26 v_2 (u 41 0)) v_2 5 (u 41 0) v_4 (-1)) (cDel u x t) := (by rw [show (cDel u x t) = (cNote (up (up u 28 v_2 100) 26 v_2 (u 41 0)) v_2 5 (u 41 0) v_4 (-1)) from by unfold cDel; rw [kv_2, if_neg c37_7, kv_4]]; exact LG.refl _)
        have hC_n_8 := hC0_n_8 hB_n_8.1
        have h2_n_8 := hB_n_8.2.1.le
        have h3_n_8 := hC_n_8.2.1.le
        refine k_v hH (k_runV (rest := []) C0 hH (cC_X2_note_n l G A _ b _ hR hw v_2 5 (u 41 0) v_4 hv_2 (by decide) hv_4) mv_X2_note ml_X10_175 ci_6 (hR.kind (K := 6) (i := v_2) hv_2) rfl ⟨Nat.le_of_ble_eq_true rfl, Nat.le_of_ble_eq_true rfl⟩ hl.1 rfl (Nat.le_of_ble_eq_true rfl) dX10_deliver_75 ⟨by show _ ≤ 4 + (UC (cDel u x t) - UC u); omega, by show _ ≤ 24 + (US (cDel u x t) - US u); omega⟩) (fun h H locs hp hH => ?_)
        obtain ⟨b, hbx, hR, hw⟩ := hp
        rw [← hbx 9 v_2 (by decide) hv_2, ← hbx 14 0 (by decide) rfl] at hl
        replace hbe := hbe.trans ((Gw.refl u).trans hA_n_8.2.1) hbx
        have hgu_n_8 := ((Gw.refl u).trans hA_n_8.2.1).trans hB_n_8.2.1
        have hlw_n_8 := hB_n_8.1
        obtain ⟨U_n_8, hU_n_8⟩ : ∃ z, z = (cNote (up (up u 28 v_2 100) 26 v_2 (u 41 0)) v_2 5 (u 41 0) v_4 (-1)) := ⟨_, rfl⟩
        rw [← hU_n_8] at hR hw hgu_n_8 hlw_n_8
        have hE_n_8 : UC U_n_8 = UC (cNote (up (up u 28 v_2 100) 26 v_2 (u 41 0)) v_2 5 (u 41 0) v_4 (-1)) ∧ US U_n_8 = US (cNote (up (up u 28 v_2 100) 26 v_2 (u 41 0)) v_2 5 (u 41 0) v_4 (-1)) := by rw [hU_n_8]; exact ⟨rfl, rfl⟩
        have hn_n_8 : nhN U_n_8 = nhN u ∧ nlN U_n_8 = nlN u ∧ npN U_n_8 = npN u := by rw [hU_n_8]; exact ⟨hB_n_8.2.2.1.trans hA_n_8.2.2.1, hB_n_8.2.2.2.1.trans hA_n_8.2.2.2.1, hB_n_8.2.2.2.2.trans hA_n_8.2.2.2.2⟩
        have hc7 := hw.cnt6 7
        have hc8 := hw.cnt6 8
        have hc9 := hw.cnt6 9
        replace hv_2 : v_2 < npN U_n_8 := by rw [hn_n_8.2.2]; exact hv_2
        replace hv_4 : v_4 < nhN U_n_8 := by rw [hn_n_8.1]; exact hv_4
        replace hv_5 : v_5 < nhN U_n_8 := by rw [hn_n_8.1]; exact hv_5
        have hk_n_8 : ∀ k, nk k = true → U_n_8 k = (up (up u 28 v_2 100) 26 v_2 (u 41 0)) k := fun k e9 => by rw [hU_n_8]; exact cNote_k e9
        refine lv_bipush (v := 100) hx hb dX10_deliver_78 (by decide) ?_
        have hA0_z : LG U_n_8 U_n_8 := (LG.refl U_n_8)
        have hA_z := hA0_z hlw_n_8
        have h1_z := hA_z.2.1.le
        have eM : (cDel u x t) = U_n_8 := by unfold cDel; rw [kv_2, if_neg c37_7, kv_4, hU_n_8]
        refine vx_ret ?_
        have eR : (100 : Int32) = cDelR u x t := by unfold cDelR; rw [if_neg c37_7]
        exact e_Z C0 hr (by decide) hH ⟨(by unfold xDel; rw [xo_n exr_1, kv_2, if_pos ⟨c12_3, c23_6⟩]), eR, b, hbe, by rw [eM]; exact ⟨hR, hw⟩⟩ (by rw [eM]; omega) (by rw [eM]; omega) dX10_deliver_80
      · refine lv_aload_n hx hb dX10_deliver_40 rfl (lv_at hl 1 rfl) ?_
        refine lv_aload_n hx hb dX10_deliver_41 rfl (lv_at hl 0 rfl) ?_
        have hA0_n_9 : LG u u := (LG.refl u)
        have hA_n_9 := hA0_n_9 hw00.lw
        have h1_n_9 := hA_n_9.2.1.le
        have hB0_n_9 : LG u (cFail u v_2) := (LG.fail hv_2)
        have hB_n_9 := hB0_n_9 hA_n_9.1
        have hC0_n_9 : LG (cFail u v_2) (cDel u x t) := (by rw [show (cDel u x t) = (cFail u v_2) from by unfold cDel; rw [kv_2, if_pos c37_7]]; exact LG.refl _)
        have hC_n_9 := hC0_n_9 hB_n_9.1
        have h2_n_9 := hB_n_9.2.1.le
        have h3_n_9 := hC_n_9.2.1.le
        refine k_i hH (k_runV (rest := []) C0 hH (cC_X10_failAttempt l G A _ b _ hR hw v_2 hv_2) mv_X10_failAttempt ml_X10_212 ci_14 (hR.kind (K := 14) (i := 0) rfl) rfl ⟨Nat.le_of_ble_eq_true rfl, Nat.le_of_ble_eq_true rfl⟩ hl.1 rfl (Nat.le_of_ble_eq_true rfl) dX10_deliver_42 ⟨by show _ ≤ 4 + (UC (cDel u x t) - UC u); omega, by show _ ≤ 24 + (US (cDel u x t) - US u); omega⟩) (fun r_10 h H locs hp hH => ?_)
        obtain ⟨er_10, b, hbx, hR, hw⟩ := hp
        subst er_10
        rw [← hbx 9 v_2 (by decide) hv_2, ← hbx 14 0 (by decide) rfl] at hl
        replace hbe := hbe.trans ((Gw.refl u).trans hA_n_9.2.1) hbx
        have hgu_n_9 := ((Gw.refl u).trans hA_n_9.2.1).trans hB_n_9.2.1
        have hlw_n_9 := hB_n_9.1
        obtain ⟨U_n_9, hU_n_9⟩ : ∃ z, z = (cFail u v_2) := ⟨_, rfl⟩
        rw [← hU_n_9] at hR hw hgu_n_9 hlw_n_9
        have hE_n_9 : UC U_n_9 = UC (cFail u v_2) ∧ US U_n_9 = US (cFail u v_2) := by rw [hU_n_9]; exact ⟨rfl, rfl⟩
        have hn_n_9 : nhN U_n_9 = nhN u ∧ nlN U_n_9 = nlN u ∧ npN U_n_9 = npN u := by rw [hU_n_9]; exact ⟨hB_n_9.2.2.1.trans hA_n_9.2.2.1, hB_n_9.2.2.2.1.trans hA_n_9.2.2.2.1, hB_n_9.2.2.2.2.trans hA_n_9.2.2.2.2⟩
        have hc7 := hw.cnt6 7
        have hc8 := hw.cnt6 8
        have hc9 := hw.cnt6 9
        replace hv_2 : v_2 < npN U_n_9 := by rw [hn_n_9.2.2]; exact hv_2
        replace hv_4 : v_4 < nhN U_n_9 := by rw [hn_n_9.1]; exact hv_4
        replace hv_5 : v_5 < nhN U_n_9 := by rw [hn_n_9.1]; exact hv_5
        have hA0_z : LG U_n_9 U_n_9 := (LG.refl U_n_9)
        have hA_z := hA0_z hlw_n_9
        have h1_z := hA_z.2.1.le
        have eM : (cDel u x t) = U_n_9 := by unfold cDel; rw [kv_2, if_pos c37_7, hU_n_9]
        refine vx_ret ?_
        have eR : (cFailR u v_2 : Int32) = cDelR u x t := by unfold cDelR; rw [kv_2, if_pos c37_7]
        exact e_Z C0 hr cFailR_nar hH ⟨(by unfold xDel; rw [xo_n exr_1, kv_2, if_pos ⟨c12_3, c23_6⟩]), eR, b, hbe, by rw [eM]; exact ⟨hR, hw⟩⟩ (by rw [eM]; omega) (by rw [eM]; omega) dX10_deliver_45
    · rw [hR.acR hw (T := 7) (by omega) hv_4 hv_5] at c23_6
      rw [← ev_4] at c23_6
      rw [← ev_5] at c23_6
      exact k_throwS C0 hxt hlt hH thr_ISE (is := 210) (text := "it is not scanned at its destination") (by decide) hl.1 dX10_deliver_26 dX10_deliver_29 dX10_deliver_30 dX10_deliver_32 dX10_deliver_35 (Nat.le_of_ble_eq_true rfl) (Nat.le_of_ble_eq_true rfl) (by show _ ≤ 4 + (UC (cDel u x t) - UC u); omega) (by show _ ≤ 24 + (US (cDel u x t) - US u); omega) ⟨by unfold xDel; rw [xo_n exr_1, kv_2, if_neg (fun z => c23_6 z.2)]; rfl, rfl⟩ (hRc9 _ (by omega)) (hRs9 _ (by omega))
set_option maxHeartbeats 800000 in
set_option maxRecDepth 100000 in
theorem cC_X10_recall (l : Launch) (hlt : l.stackTraces = false) (G : GT) (A : Nat → Prop) (h : AH) (b0 : BA) (u : MM) (hR : RC G.2.2.1 h b0 u) (hw : WFc u) (x : Int32) : cxI l G A yX10_recall cX10_recall 3 (Option.some FieldType.int) 10 376 (4 + (UC (cTurn u x.toNatClampNeg) - UC u)) (24 + (US (cTurn u x.toNatClampNeg) - US u)) [.ref (b0 14 0), .int (x)] h (fun r h' => xRec u x = none ∧ r = cTurn u x.toNatClampNeg 20 x.toNatClampNeg ∧ ∃ b', BE u b0 b' ∧ RC G.2.2.1 h' b' (cTurn u x.toNatClampNeg) ∧ WFc (cTurn u x.toNatClampNeg)) (fun E h' => xRec u x = some E ∧ h' = h) := by
  refine cx_of "Routepost" rfl (by decide) (Nat.le_of_ble_eq_true rfl) ?_
  intro pr e s m9 below meth c C0 hxt hr hH ls hl
  obtain ⟨hx, hb, hml, hown, hts, hK, hA, -⟩ := id C0
  have hl : lv_has ls 3 [(0, .ref (b0 14 0)), (1, .int (x))] := hl
  obtain ⟨b, hb0⟩ : ∃ z, z = b0 := ⟨_, rfl⟩
  rw [← hb0] at hR hl
  have hbe : BE u b0 b := by rw [hb0]; exact BE.refl u b0
  have hc7 := hw.cnt6 7
  have hc8 := hw.cnt6 8
  have hc9 := hw.cnt6 9
  have hw00 := hw
  have hRc9 : ∀ c, c ≤ 4 → c ≤ 4 + (UC (cTurn u x.toNatClampNeg) - UC u) := fun c h9 => by omega
  have hRs9 : ∀ c, c ≤ 24 → c ≤ 24 + (US (cTurn u x.toNatClampNeg) - US u) := fun c h9 => by omega
  refine lv_aload_n hx hb dX10_recall_0 rfl (lv_at hl 0 rfl) ?_
  refine lv_iload_n hx hb dX10_recall_1 rfl (lv_at hl 1 rfl) ?_
  refine k_xq C0 hxt hH (k_xrunV (rest := []) C0 hH (cC_X10_scannedParcel l hlt G A _ b _ hR hw x ) mv_X10_scannedParcel ml_X10_219 ci_14 (hR.kind (K := 14) (i := 0) rfl) rfl ⟨Nat.le_of_ble_eq_true rfl, Nat.le_of_ble_eq_true rfl⟩ hl.1 rfl (Nat.le_of_ble_eq_true rfl) dX10_recall_2 ⟨by show _ ≤ 4 + (UC (cTurn u x.toNatClampNeg) - UC u); omega, by show _ ≤ 24 + (US (cTurn u x.toNatClampNeg) - US u); omega⟩) (fun E h9 z => ⟨by unfold xRec; exact xo_s z.1, z.2⟩) (hRc9 _ (by omega)) (hRs9 _ (by omega)) (fun r_1 h1 H locs hp hH => ?_)
  obtain ⟨exr_1, er_1, eh⟩ := hp
  rw [eh] at hH
  clear eh
  have vpv_2 : vp_in (x) (npN u) := xSc_vp hw exr_1
  obtain ⟨v_2, hv_2, ev_2⟩ := vp_ex vpv_2 (by have := hw.nh; have := hw.nl; have := hw.np; omega)
  have kv_2 : (x).toNatClampNeg = v_2 := by rw [ev_2]; exact nI_clamp (by have := hw.nh; have := hw.nl; have := hw.np; omega)
  rw [show dec b 9 (x) = some (b 9 v_2) from by rw [ev_2]; exact dec_nI (by have := hw.nh; have := hw.nl; have := hw.np; omega)] at er_1
  subst er_1
  refine lv_astore_n (lv' := [(2, .ref (b 9 v_2)), (0, .ref (b 14 0)), (1, .int (x))]) hx hb dX10_recall_5 rfl hl (by decide) rfl (fun ls hl => ?_)
  refine lv_aload_n hx hb dX10_recall_6 rfl (lv_at hl 0 rfl) ?_
  refine c_getI C0 hH hR ci_9 (i := v_2) (j := 19) hv_2 rfl (by decide) rfl fl_X10_222 (v := u 29 v_2) rfl dX10_recall_7 ?_
  refine lv_if_eq (tgt := 23) hx hb dX10_recall_10 (by decide) (fun c10_3 => ?_) (fun c10_3 => ?_)
  · refine lv_aload_n hx hb dX10_recall_23 rfl (lv_at hl 1 rfl) ?_
    refine lv_aload_n hx hb dX10_recall_24 rfl (lv_at hl 0 rfl) ?_
    have hA0_n_4 : LG u u := (LG.refl u)
    have hA_n_4 := hA0_n_4 hw00.lw
    have h1_n_4 := hA_n_4.2.1.le
    have hB0_n_4 : LG u (cTurn u v_2) := (LG.turn hv_2)
    have hB_n_4 := hB0_n_4 hA_n_4.1
    have hC0_n_4 : LG (cTurn u v_2) (cTurn u x.toNatClampNeg) := (by rw [show (cTurn u x.toNatClampNeg) = (cTurn u v_2) from by rw [kv_2]]; exact LG.refl _)
    have hC_n_4 := hC0_n_4 hB_n_4.1
    have h2_n_4 := hB_n_4.2.1.le
    have h3_n_4 := hC_n_4.2.1.le
    refine k_v hH (k_runV (rest := []) C0 hH (cC_X10_turnBack l G A _ b _ hR hw v_2 hv_2) mv_X10_turnBack ml_X10_227 ci_14 (hR.kind (K := 14) (i := 0) rfl) rfl ⟨Nat.le_of_ble_eq_true rfl, Nat.le_of_ble_eq_true rfl⟩ hl.1 rfl (Nat.le_of_ble_eq_true rfl) dX10_recall_25 ⟨by show _ ≤ 4 + (UC (cTurn u x.toNatClampNeg) - UC u); omega, by show _ ≤ 24 + (US (cTurn u x.toNatClampNeg) - US u); omega⟩) (fun h H locs hp hH => ?_)
    obtain ⟨b, hbx, hR, hw⟩ := hp
    rw [← hbx 9 v_2 (by decide) hv_2, ← hbx 14 0 (by decide) rfl] at hl
    replace hbe := hbe.trans ((Gw.refl u).trans hA_n_4.2.1) hbx
    have hgu_n_4 := ((Gw.refl u).trans hA_n_4.2.1).trans hB_n_4.2.1
    have hlw_n_4 := hB_n_4.1
    obtain ⟨U_n_4, hU_n_4⟩ : ∃ z, z = (cTurn u v_2) := ⟨_, rfl⟩
    rw [← hU_n_4] at hR hw hgu_n_4 hlw_n_4
    have hE_n_4 : UC U_n_4 = UC (cTurn u v_2) ∧ US U_n_4 = US (cTurn u v_2) := by rw [hU_n_4]; exact ⟨rfl, rfl⟩
    have hn_n_4 : nhN U_n_4 = nhN u ∧ nlN U_n_4 = nlN u ∧ npN U_n_4 = npN u := by rw [hU_n_4]; exact ⟨hB_n_4.2.2.1.trans hA_n_4.2.2.1, hB_n_4.2.2.2.1.trans hA_n_4.2.2.2.1, hB_n_4.2.2.2.2.trans hA_n_4.2.2.2.2⟩
    have hc7 := hw.cnt6 7
    have hc8 := hw.cnt6 8
    have hc9 := hw.cnt6 9
    replace hv_2 : v_2 < npN U_n_4 := by rw [hn_n_4.2.2]; exact hv_2
    refine lv_aload_n hx hb dX10_recall_28 rfl (lv_at hl 0 rfl) ?_
    refine c_getI C0 hH hR ci_9 (i := v_2) (j := 15) hv_2 rfl (by decide) rfl fl_X10_230 (v := U_n_4 20 v_2) rfl dX10_recall_29 ?_
    have hA0_z : LG U_n_4 U_n_4 := (LG.refl U_n_4)
    have hA_z := hA0_z hlw_n_4
    have h1_z := hA_z.2.1.le
    have eM : (cTurn u x.toNatClampNeg) = U_n_4 := by rw [kv_2, hU_n_4]
    refine vx_ret ?_
    have eR : (U_n_4 20 v_2 : Int32) = cTurn u x.toNatClampNeg 20 x.toNatClampNeg := by rw [kv_2, hU_n_4]
    exact e_I C0 hr hH ⟨(by unfold xRec; rw [xo_n exr_1, kv_2, if_pos c10_3]), eR, b, hbe, by rw [eM]; exact ⟨hR, hw⟩⟩ (by rw [eM]; omega) (by rw [eM]; omega) dX10_recall_32
  · exact k_throwS C0 hxt hlt hH thr_ISE (is := 225) (text := "it is a return already") (by decide) hl.1 dX10_recall_13 dX10_recall_16 dX10_recall_17 dX10_recall_19 dX10_recall_22 (Nat.le_of_ble_eq_true rfl) (Nat.le_of_ble_eq_true rfl) (by show _ ≤ 4 + (UC (cTurn u x.toNatClampNeg) - UC u); omega) (by show _ ≤ 24 + (US (cTurn u x.toNatClampNeg) - US u); omega) ⟨by unfold xRec; rw [xo_n exr_1, kv_2, if_neg c10_3]; rfl, rfl⟩ (hRc9 _ (by omega)) (hRs9 _ (by omega))

