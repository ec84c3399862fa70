set_option maxHeartbeats 800000 in
set_option maxRecDepth 100000 in
theorem cC_X10_loadTrucks (l : Launch) (G : GT) (A : Nat → Prop) (h : AH) (b0 : BA) (u : MM) (hR : RC G.2.2.1 h b0 u) (hw : WFc u) : cmV l G A yX10_loadTrucks cX10_loadTrucks 3 11 401 (UC (cLds u) - UC u) (US (cLds u) - US u) [.ref (b0 14 0)] h (fun h' => ∃ b', BE u b0 b' ∧ RC G.2.2.1 h' b' (cLds u) ∧ WFc (cLds u)) := by
  refine cm_of "Routepost" rfl (by decide) (Nat.le_of_ble_eq_true rfl) ?_
  intro pr e s m9 below meth c C0 hr hname hH ls hl
  obtain ⟨hx, hb, hml, hown, hts, hK, hA, -⟩ := id C0
  have hl : lv_has ls 3 [(0, .ref (b0 14 0))] := hl
  obtain ⟨b, hb0⟩ : ∃ z, z = b0 := ⟨_, rfl⟩
  rw [← hb0] at hR hl
  have hbe : BE u b0 b := by rw [hb0]; exact BE.refl u b0
  have hc7 := hw.cnt6 7
  have hc8 := hw.cnt6 8
  have hc9 := hw.cnt6 9
  have hw00 := hw
  refine lv_aload_n hx hb dX10_loadTrucks_0 rfl (lv_at hl 0 rfl) ?_
  refine c_getR C0 hH hR ci_14 (i := 0) (j := 4) rfl rfl (by decide) rfl fl_X10_25 (v := some (b 3 4)) rfl dX10_loadTrucks_1 ?_
  refine k_v hH (k_runV (rest := []) C0 hH (cL_clear l G A _ b _ hR hw 4 (Or.inr rfl)) mv_Jx4a65c_clear_da8c8 ml_X10_401 ci_3 (hR.kind (K := 3) (i := 4) (show 4 < 6 + npN _ by omega)) rfl ⟨Nat.le_of_ble_eq_true rfl, Nat.le_of_ble_eq_true rfl⟩ hl.1 rfl (Nat.le_of_ble_eq_true rfl) dX10_loadTrucks_4 ⟨by show _ ≤ UC (cLds u) - UC u; omega, by show _ ≤ US (cLds u) - US u; omega⟩) (fun h H locs hp hH => ?_)
  replace hR := hR.lclear (show 4 < 6 + npN _ by omega) hp
  replace hw := hw.clr (q := 4) (Or.inr rfl)
  refine lv_iconst (v := 0) hx hb dX10_loadTrucks_7 (by decide) ?_
  refine lv_istore_n (lv' := [(1, .int (0)), (0, .ref (b 14 0))]) hx hb dX10_loadTrucks_8 rfl hl (by decide) rfl (fun ls hl => ?_)
  have K : ∀ (k : Nat) (l0 : Nat) (U : MM) (cc : Nat) (ss : Nat) (b : BA), l0 + k = nlN u → cLdTL k l0 U = cLdTL (nlN u) 0 (up u 171 4 0) → szN U 4 + 40 * k ≤ 1000 → npN U = npN u ∧ nlN U = nlN u → Gw u U → cc ≤ UC U - UC u → ss ≤ US U - US u → BE u b0 b → ∀ (h : AH) (H : Heap) (locs : List Loc) (hH : HS G.1 G.2.1 A s.heap h H locs) (hR : RC G.2.2.1 h b U) (hw : WFc U) (ls : Array Slot), lv_has ls 3 [(1, .int (nI l0)), (0, .ref (b 14 0))] → W pr l e (rmm 11 401 (UC (cLds u) - UC u) (US (cLds u) - US u)) s m9 ([.ref (b0 14 0)] : List Value).toArray below meth c H locs cc ss (QV below G A (fun h' => ∃ b', BE u b0 b' ∧ RC G.2.2.1 h' b' (cLds u) ∧ WFc (cLds u)) ([.ref (b0 14 0)] : List Value).toArray s (UC (cLds u) - UC u) (US (cLds u) - US u)) (F0 m9 9 ls []) := by
    intro k
    induction k with
    | zero =>
      intro l0 U cc ss b hik hT hs5 hnU hgU hcc hss hbe h H locs hH hR hw ls hl
      have hwU := hw
      have hlU := hw.lw
      have hle0 := hgU.le
      have hc7 := hw.cnt6 7
      have hc8 := hw.cnt6 8
      have hc9 := hw.cnt6 9
      have hTg0 : LG U (cLdTL 0 l0 U) := cLdTL_g _ _ hlU (by omega)
      rw [hT] at hTg0
      have hTg : LG U (cLds u) := by unfold cLds; exact hTg0.trans (LG.lfL _ _)
      have hTl := (hTg hlU).2.1.le
      refine lv_iload_n hx hb dX10_loadTrucks_9 rfl (lv_at hl 0 rfl) ?_
      refine lv_aload_n hx hb dX10_loadTrucks_10 rfl (lv_at hl 1 rfl) ?_
      refine c_getR C0 hH hR ci_14 (i := 0) (j := 1) rfl rfl (by decide) rfl fl_X10_16 (v := some (b 3 1)) rfl dX10_loadTrucks_11 ?_
      refine k_i hH (k_runV (rest := [.int (nI l0)]) C0 hH (cL_size l G A _ b _ hR hw 1 (show 1 < 6 + npN _ by omega)) mv_Jx4a65c_size_8abf5 ml_X10_79 ci_3 (hR.kind (K := 3) (i := 1) (show 1 < 6 + npN _ by omega)) rfl ⟨Nat.le_of_ble_eq_true rfl, Nat.le_of_ble_eq_true rfl⟩ hl.1 rfl (Nat.le_of_ble_eq_true rfl) dX10_loadTrucks_14 ⟨by show _ ≤ UC (cLds u) - UC u; omega, by show _ ≤ US (cLds u) - US u; omega⟩) (fun r9 h1 H locs hp hH => ?_)
      obtain ⟨er9, eh⟩ := hp
      rw [eh] at hH
      clear eh
      rw [hw.sz1] at er9
      subst er9
      refine lv_icmp_ge (tgt := 54) hx hb dX10_loadTrucks_17 (by decide) (fun c17_1 => ?_) (fun c17_1 => ?_)
      · refine lv_iconst (v := 0) hx hb dX10_loadTrucks_54 (by decide) ?_
        refine lv_istore_n (lv' := [(1, .int (0)), (0, .ref (b 14 0))]) hx hb dX10_loadTrucks_55 rfl hl (by decide) rfl (fun ls hl => ?_)
        have K2 : ∀ (k2 : Nat) (j : Nat) (U2 : MM) (c2 : Nat) (s2 : Nat) (b : BA), j + k2 = szN U 4 → cLfL k2 j U2 = cLds u → szN U2 4 = szN U 4 → npN U2 = npN u ∧ nlN U2 = nlN u → Gw u U2 → c2 ≤ UC U2 - UC u → s2 ≤ US U2 - US u → BE u b0 b → ∀ (h : AH) (H : Heap) (locs : List Loc) (hH : HS G.1 G.2.1 A s.heap h H locs) (hR : RC G.2.2.1 h b U2) (hw : WFc U2) (ls : Array Slot), lv_has ls 3 [(1, .int (nI j)), (0, .ref (b 14 0))] → W pr l e (rmm 11 401 (UC (cLds u) - UC u) (US (cLds u) - US u)) s m9 ([.ref (b0 14 0)] : List Value).toArray below meth c H locs c2 s2 (QV below G A (fun h' => ∃ b', BE u b0 b' ∧ RC G.2.2.1 h' b' (cLds u) ∧ WFc (cLds u)) ([.ref (b0 14 0)] : List Value).toArray s (UC (cLds u) - UC u) (US (cLds u) - US u)) (F0 m9 56 ls []) := by
          intro k2
          induction k2 with
          | zero =>
            intro j U2 c2 s2 b hik2 hT2 hs4 hnU2 hgU2 hcc hss hbe h H locs hH hR hw ls hl
            have hwU2 := hw
            have hlU2 := hw.lw
            have hle2 := hgU2.le
            have hc7 := hw.cnt6 7
            have hc8 := hw.cnt6 8
            have hc9 := hw.cnt6 9
            have hTg2 : LG U2 (cLfL 0 j U2) := LG.lfL _ _
            rw [hT2] at hTg2
            have hTl2 := (hTg2 hlU2).2.1.le
            refine lv_iload_n hx hb dX10_loadTrucks_56 rfl (lv_at hl 0 rfl) ?_
            refine lv_aload_n hx hb dX10_loadTrucks_57 rfl (lv_at hl 1 rfl) ?_
            refine c_getR C0 hH hR ci_14 (i := 0) (j := 4) rfl rfl (by decide) rfl fl_X10_25 (v := some (b 3 4)) rfl dX10_loadTrucks_58 ?_
            refine k_i hH (k_runV (rest := [.int (nI j)]) C0 hH (cL_size l G A _ b _ hR hw 4 (show 4 < 6 + npN _ by omega)) mv_Jx4a65c_size_8abf5 ml_X10_79 ci_3 (hR.kind (K := 3) (i := 4) (show 4 < 6 + npN _ by omega)) rfl ⟨Nat.le_of_ble_eq_true rfl, Nat.le_of_ble_eq_true rfl⟩ hl.1 rfl (Nat.le_of_ble_eq_true rfl) dX10_loadTrucks_61 ⟨by show _ ≤ UC (cLds u) - UC u; omega, by show _ ≤ US (cLds u) - US u; omega⟩) (fun r9 h1 H locs hp hH => ?_)
            obtain ⟨er9, eh⟩ := hp
            rw [eh] at hH
            clear eh
            subst er9
            refine lv_icmp_ge (tgt := 88) hx hb dX10_loadTrucks_64 (by decide) (fun c64_2 => ?_) (fun c64_2 => ?_)
            · have hA0_z : LG U2 U2 := (LG.refl U2)
              have hA_z := hA0_z hlU2
              have h1_z := hA_z.2.1.le
              have eM : (cLds u) = U2 := hT2.symm
              exact e_V C0 hr hH ⟨b, hbe, by rw [eM]; exact ⟨hR, hw⟩⟩ (by rw [eM]; omega) (by rw [eM]; omega) dX10_loadTrucks_88
            · exact absurd (by rw [hs4, show j = szN U 4 by omega]; exact Int32.le_refl _) c64_2
          | succ k2 ih2 =>
            intro j U2 c2 s2 b hik2 hT2 hs4 hnU2 hgU2 hcc hss hbe h H locs hH hR hw ls hl
            have hwU2 := hw
            have hlU2 := hw.lw
            have hle2 := hgU2.le
            have hc7 := hw.cnt6 7
            have hc8 := hw.cnt6 8
            have hc9 := hw.cnt6 9
            have hTg2 : LG U2 (cLfL (k2 + 1) j U2) := LG.lfL _ _
            rw [hT2] at hTg2
            have hTl2 := (hTg2 hlU2).2.1.le
            refine lv_iload_n hx hb dX10_loadTrucks_56 rfl (lv_at hl 0 rfl) ?_
            refine lv_aload_n hx hb dX10_loadTrucks_57 rfl (lv_at hl 1 rfl) ?_
            refine c_getR C0 hH hR ci_14 (i := 0) (j := 4) rfl rfl (by decide) rfl fl_X10_25 (v := some (b 3 4)) rfl dX10_loadTrucks_58 ?_
            refine k_i hH (k_runV (rest := [.int (nI j)]) C0 hH (cL_size l G A _ b _ hR hw 4 (show 4 < 6 + npN _ by omega)) mv_Jx4a65c_size_8abf5 ml_X10_79 ci_3 (hR.kind (K := 3) (i := 4) (show 4 < 6 + npN _ by omega)) rfl ⟨Nat.le_of_ble_eq_true rfl, Nat.le_of_ble_eq_true rfl⟩ hl.1 rfl (Nat.le_of_ble_eq_true rfl) dX10_loadTrucks_61 ⟨by show _ ≤ UC (cLds u) - UC u; omega, by show _ ≤ US (cLds u) - US u; omega⟩) (fun r9 h1 H locs hp hH => ?_)
            obtain ⟨er9, eh⟩ := hp
            rw [eh] at hH
            clear eh
            subst er9
            refine lv_icmp_ge (tgt := 88) hx hb dX10_loadTrucks_64 (by decide) (fun c64_3 => ?_) (fun c64_3 => ?_)
            · exact absurd c64_3 (nI_ge (show j < szN U2 4 by omega) (by omega))
            · have hjU : j < szN U2 4 := by omega
              refine lv_aload_n hx hb dX10_loadTrucks_67 rfl (lv_at hl 1 rfl) ?_
              refine lv_aload_n hx hb dX10_loadTrucks_68 rfl (lv_at hl 1 rfl) ?_
              refine c_getR C0 hH hR ci_14 (i := 0) (j := 4) rfl rfl (by decide) rfl fl_X10_25 (v := some (b 3 4)) rfl dX10_loadTrucks_69 ?_
              refine lv_iload_n hx hb dX10_loadTrucks_72 rfl (lv_at hl 0 rfl) ?_
              obtain ⟨v_4, hv_4, ev_4⟩ := hw.exP (show vp_in (U2 176 j) _ from hw.lf hjU)
              have kv_4 : (U2 176 j).toNatClampNeg = v_4 := by rw [ev_4]; exact nI_clamp (by have := hw.nh; have := hw.np; omega)
              refine k_q hH (k_runV (rest := [.ref (b 14 0)]) C0 hH (cL_get l G A _ b _ hR hw 4 j (show 4 < 6 + npN _ by omega) hjU (a := b 9 v_4) (show b 9 (U2 176 j).toNatClampNeg = b 9 v_4 from by rw [ev_4, nI_clamp (by have := hw.np; omega)])) mv_Jx4a65c_get_915e3 ml_X10_143 ci_3 (hR.kind (K := 3) (i := 4) (show 4 < 6 + npN _ by omega)) rfl ⟨Nat.le_of_ble_eq_true rfl, Nat.le_of_ble_eq_true rfl⟩ hl.1 rfl (Nat.le_of_ble_eq_true rfl) dX10_loadTrucks_73 ⟨by show _ ≤ UC (cLds u) - UC u; omega, by show _ ≤ US (cLds u) - US u; omega⟩) (fun r9 h1 H locs hp hH => ?_)
              obtain ⟨er9, eh⟩ := hp
              rw [eh] at hH
              clear eh
              subst er9
              refine k_chk C0 hH ci_9 (hR.kind (K := 9) (i := v_4) hv_4) cl_X10_162 dX10_loadTrucks_76 ?_
              have hA0_n_5 : LG U2 U2 := (LG.refl U2)
              have hA_n_5 := hA0_n_5 hlU2
              have h1_n_5 := hA_n_5.2.1.le
              refine k_v hH (k_runV (rest := []) C0 hH (cC_X10_plan l G A _ b _ hR hw v_4 hv_4) mv_X10_plan ml_X10_204 ci_14 (hR.kind (K := 14) (i := 0) rfl) rfl ⟨Nat.le_of_ble_eq_true rfl, Nat.le_of_ble_eq_true rfl⟩ hl.1 rfl (Nat.le_of_ble_eq_true rfl) dX10_loadTrucks_79 ⟨by show _ ≤ UC (cLds u) - UC u; omega, by show _ ≤ US (cLds u) - US u; omega⟩) (fun h H locs hp hH => ?_)
              obtain ⟨hR, hw⟩ := hp
              have hB0_n_5 : LG U2 (cPlan U2 v_4) := LG.plan
              have hB_n_5 := hB0_n_5 hA_n_5.1
              have h2_n_5 := hB_n_5.2.1.le
              have hgu_n_5 := (hgU2.trans hA_n_5.2.1).trans hB_n_5.2.1
              have hlw_n_5 := hB_n_5.1
              obtain ⟨U_n_5, hU_n_5⟩ : ∃ z, z = (cPlan U2 v_4) := ⟨_, rfl⟩
              rw [← hU_n_5] at hR hw hgu_n_5 hlw_n_5
              have hE_n_5 : UC U_n_5 = UC (cPlan U2 v_4) ∧ US U_n_5 = US (cPlan U2 v_4) := by rw [hU_n_5]; exact ⟨rfl, rfl⟩
              have hn_n_5 : nhN U_n_5 = nhN U2 ∧ nlN U_n_5 = nlN U2 ∧ npN U_n_5 = npN U2 := by rw [hU_n_5]; exact ⟨hB_n_5.2.2.1.trans hA_n_5.2.2.1, hB_n_5.2.2.2.1.trans hA_n_5.2.2.2.1, hB_n_5.2.2.2.2.trans hA_n_5.2.2.2.2⟩
              have hc7 := hw.cnt6 7
              have hc8 := hw.cnt6 8
              have hc9 := hw.cnt6 9
              replace hv_4 : v_4 < npN U_n_5 := by rw [hn_n_5.2.2]; exact hv_4
              refine lv_iinc (v := nI (j + 1)) (lv' := [(1, .int (nI (j + 1))), (0, .ref (b 14 0))]) hx hb dX10_loadTrucks_82 hl (k := 0) rfl (by rw [← nI_1]; rfl) (by decide) rfl (fun ls hl => ?_)
              refine lv_goto (tgt := 56) hx hb dX10_loadTrucks_85 (by decide) ?_
              exact ih2 (j + 1) U_n_5 c2 s2 b (by omega) (by rw [← hT2]; simp only [cLfL]; rw [kv_4, hU_n_5]) (by rw [hU_n_5]; exact (show szN (cPlan U2 _) 4 = szN U2 4 from by unfold szN; rw [cPlan_key _ _ (by omega) (by omega)]).trans hs4) ⟨hn_n_5.2.2.trans hnU2.1, hn_n_5.2.1.trans hnU2.2⟩ hgu_n_5 (by omega) (by omega) hbe _ _ _ hH hR hw ls (lv_sub hl [0, 1] rfl)
        exact K2 (szN U 4) 0 U cc ss b (by omega) (by unfold cLds; rw [← hT]; rfl) rfl hnU hgU hcc hss hbe _ _ _ hH hR hw ls (lv_sub hl [0, 1] rfl)
      · exact absurd (by rw [hnU.2, show l0 = nlN u by omega]; exact Int32.le_refl _) c17_1
    | succ k ih =>
      intro l0 U cc ss b hik hT hs5 hnU hgU hcc hss hbe h H locs hH hR hw ls hl
      have hwU := hw
      have hlU := hw.lw
      have hle0 := hgU.le
      have hc7 := hw.cnt6 7
      have hc8 := hw.cnt6 8
      have hc9 := hw.cnt6 9
      have hTg0 : LG U (cLdTL (k + 1) l0 U) := cLdTL_g _ _ hlU (by omega)
      rw [hT] at hTg0
      have hTg : LG U (cLds u) := by unfold cLds; exact hTg0.trans (LG.lfL _ _)
      have hTl := (hTg hlU).2.1.le
      refine lv_iload_n hx hb dX10_loadTrucks_9 rfl (lv_at hl 0 rfl) ?_
      refine lv_aload_n hx hb dX10_loadTrucks_10 rfl (lv_at hl 1 rfl) ?_
      refine c_getR C0 hH hR ci_14 (i := 0) (j := 1) rfl rfl (by decide) rfl fl_X10_16 (v := some (b 3 1)) rfl dX10_loadTrucks_11 ?_
      refine k_i hH (k_runV (rest := [.int (nI l0)]) C0 hH (cL_size l G A _ b _ hR hw 1 (show 1 < 6 + npN _ by omega)) mv_Jx4a65c_size_8abf5 ml_X10_79 ci_3 (hR.kind (K := 3) (i := 1) (show 1 < 6 + npN _ by omega)) rfl ⟨Nat.le_of_ble_eq_true rfl, Nat.le_of_ble_eq_true rfl⟩ hl.1 rfl (Nat.le_of_ble_eq_true rfl) dX10_loadTrucks_14 ⟨by show _ ≤ UC (cLds u) - UC u; omega, by show _ ≤ US (cLds u) - US u; omega⟩) (fun r9 h1 H locs hp hH => ?_)
      obtain ⟨er9, eh⟩ := hp
      rw [eh] at hH
      clear eh
      rw [hw.sz1] at er9
      subst er9
      refine lv_icmp_ge (tgt := 54) hx hb dX10_loadTrucks_17 (by decide) (fun c17_7 => ?_) (fun c17_7 => ?_)
      · exact absurd c17_7 (nI_ge (show l0 < nlN U by omega) (by have := hw.nl; omega))
      · have hl0 : l0 < nlN U := by omega
        refine lv_aload_n hx hb dX10_loadTrucks_20 rfl (lv_at hl 1 rfl) ?_
        refine c_getR C0 hH hR ci_14 (i := 0) (j := 1) rfl rfl (by decide) rfl fl_X10_16 (v := some (b 3 1)) rfl dX10_loadTrucks_21 ?_
        refine lv_iload_n hx hb dX10_loadTrucks_24 rfl (lv_at hl 0 rfl) ?_
        refine k_q hH (k_runV (rest := []) C0 hH (cL_get l G A _ b _ hR hw 1 l0 (show 1 < 6 + npN _ by omega) (by rw [hw.sz1]; omega) (a := b 8 l0) rfl) mv_Jx4a65c_get_915e3 ml_X10_143 ci_3 (hR.kind (K := 3) (i := 1) (show 1 < 6 + npN _ by omega)) rfl ⟨Nat.le_of_ble_eq_true rfl, Nat.le_of_ble_eq_true rfl⟩ hl.1 rfl (Nat.le_of_ble_eq_true rfl) dX10_loadTrucks_25 ⟨by show _ ≤ UC (cLds u) - UC u; omega, by show _ ≤ US (cLds u) - US u; omega⟩) (fun r9 h1 H locs hp hH => ?_)
        obtain ⟨er9, eh⟩ := hp
        rw [eh] at hH
        clear eh
        subst er9
        refine k_chk C0 hH ci_8 (hR.kind (K := 8) (i := l0) hl0) cl_X10_107 dX10_loadTrucks_28 ?_
        refine lv_astore_n (lv' := [(2, .ref (b 8 l0)), (1, .int (nI l0)), (0, .ref (b 14 0))]) hx hb dX10_loadTrucks_31 rfl hl (by decide) rfl (fun ls hl => ?_)
        refine lv_aload_n hx hb dX10_loadTrucks_32 rfl (lv_at hl 0 rfl) ?_
        refine lv_aload_n hx hb dX10_loadTrucks_33 rfl (lv_at hl 2 rfl) ?_
        refine c_getI C0 hH hR ci_14 (i := 0) (j := 9) rfl rfl (by decide) rfl fl_X10_56 (v := U 41 0) rfl dX10_loadTrucks_34 ?_
        refine k_i hH (k_runV (rest := []) C0 hH (cC_X4_leavesIn l G A _ b _ hR hw l0 (U 41 0) hl0) mv_X4_leavesIn ml_X10_402 ci_8 (hR.kind (K := 8) (i := l0) hl0) rfl ⟨Nat.le_of_ble_eq_true rfl, Nat.le_of_ble_eq_true rfl⟩ hl.1 rfl (Nat.le_of_ble_eq_true rfl) dX10_loadTrucks_37 ⟨by show _ ≤ UC (cLds u) - UC u; omega, by show _ ≤ US (cLds u) - US u; omega⟩) (fun r_8 h1 H locs hp hH => ?_)
        obtain ⟨er_8, eh⟩ := hp
        rw [eh] at hH
        clear eh
        subst er_8
        refine lv_if_eq (tgt := 48) hx hb dX10_loadTrucks_40 (by decide) (fun c40_9 => ?_) (fun c40_9 => ?_)
        · refine lv_iinc (v := nI (l0 + 1)) (lv' := [(1, .int (nI (l0 + 1))), (2, .ref (b 8 l0)), (0, .ref (b 14 0))]) hx hb dX10_loadTrucks_48 hl (k := 1) rfl (by rw [← nI_1]; rfl) (by decide) rfl (fun ls hl => ?_)
          refine lv_goto (tgt := 9) hx hb dX10_loadTrucks_51 (by decide) ?_
          exact ih (l0 + 1) U _ _ b (by omega) (by rw [← hT]; simp only [cLdTL]; rw [show cLdT1 U l0 = U from if_neg (fun z => z c40_9)]) (by omega) hnU hgU hcc hss hbe _ _ _ hH hR hw ls (lv_sub hl [0, 2] rfl)
        · refine lv_aload_n hx hb dX10_loadTrucks_43 rfl (lv_at hl 2 rfl) ?_
          refine lv_aload_n hx hb dX10_loadTrucks_44 rfl (lv_at hl 0 rfl) ?_
          have hA0_n_10 : LG U U := (LG.refl U)
          have hA_n_10 := hA0_n_10 hlU
          have h1_n_10 := hA_n_10.2.1.le
          have hB0_n_10 : LG U (cLt U l0) := (cLt_q hw l0 (by omega)).1
          have hB_n_10 := hB0_n_10 hA_n_10.1
          have hst : cLdT1 U l0 = (cLt U l0) := if_pos c40_9
          have hq4 := (cLt_q hwU l0 (by omega)).2
          have hC0_n_10 : LG (cLt U l0) (cLds u) := (by rw [show cLds u = cLfL (szN (cLdTL k (l0 + 1) (cLt U l0)) 4) 0 (cLdTL k (l0 + 1) (cLt U l0)) from by unfold cLds; rw [← hT]; simp only [cLdTL]; rw [hst]]; exact (cLdTL_g k (l0 + 1) hB_n_10.1 (by omega)).trans (LG.lfL _ _))
          have hC_n_10 := hC0_n_10 hB_n_10.1
          have h2_n_10 := hB_n_10.2.1.le
          have h3_n_10 := hC_n_10.2.1.le
          refine k_v hH (k_runV (rest := []) C0 hH (cC_X10_loadTruck l G A _ b _ hR hw l0 hl0 (by omega)) mv_X10_loadTruck ml_X10_405 ci_14 (hR.kind (K := 14) (i := 0) rfl) rfl ⟨Nat.le_of_ble_eq_true rfl, Nat.le_of_ble_eq_true rfl⟩ hl.1 rfl (Nat.le_of_ble_eq_true rfl) dX10_loadTrucks_45 ⟨by show _ ≤ UC (cLds u) - UC u; omega, by show _ ≤ US (cLds u) - US u; omega⟩) (fun h H locs hp hH => ?_)
          obtain ⟨b, hbx, hR, hw⟩ := hp
          rw [← hbx 8 l0 (by decide) hl0, ← hbx 14 0 (by decide) rfl] at hl
          replace hbe := hbe.trans (hgU.trans hA_n_10.2.1) hbx
          have hgu_n_10 := (hgU.trans hA_n_10.2.1).trans hB_n_10.2.1
          have hlw_n_10 := hB_n_10.1
          obtain ⟨U_n_10, hU_n_10⟩ : ∃ z, z = (cLt U l0) := ⟨_, rfl⟩
          rw [← hU_n_10] at hR hw hgu_n_10 hlw_n_10
          have hE_n_10 : UC U_n_10 = UC (cLt U l0) ∧ US U_n_10 = US (cLt U l0) := by rw [hU_n_10]; exact ⟨rfl, rfl⟩
          have hn_n_10 : nhN U_n_10 = nhN U ∧ nlN U_n_10 = nlN U ∧ npN U_n_10 = npN U := by rw [hU_n_10]; exact ⟨hB_n_10.2.2.1.trans hA_n_10.2.2.1, hB_n_10.2.2.2.1.trans hA_n_10.2.2.2.1, hB_n_10.2.2.2.2.trans hA_n_10.2.2.2.2⟩
          have hc7 := hw.cnt6 7
          have hc8 := hw.cnt6 8
          have hc9 := hw.cnt6 9
          replace hl0 : l0 < nlN U_n_10 := by rw [hn_n_10.2.1]; exact hl0
          refine lv_iinc (v := nI (l0 + 1)) (lv' := [(1, .int (nI (l0 + 1))), (2, .ref (b 8 l0)), (0, .ref (b 14 0))]) hx hb dX10_loadTrucks_48 hl (k := 1) rfl (by rw [← nI_1]; rfl) (by decide) rfl (fun ls hl => ?_)
          refine lv_goto (tgt := 9) hx hb dX10_loadTrucks_51 (by decide) ?_
          exact ih (l0 + 1) U_n_10 _ _ b (by omega) (by rw [← hT]; simp only [cLdTL]; rw [hst, hU_n_10]) (by rw [hU_n_10]; omega) ⟨hn_n_10.2.2.trans hnU.1, hn_n_10.2.1.trans hnU.2⟩ hgu_n_10 (by omega) (by omega) hbe _ _ _ hH hR hw ls (lv_sub hl [0, 2] rfl)
  have hA8 := ((LG.trans (LG.refl u) (LG.clr (q := 4) (Or.inr rfl))) : LG u (up u 171 4 0)) hw00.lw
  exact K (nlN u) 0 (up u 171 4 0) _ _ b (by omega) rfl (by rw [sz_clr]; have := hw00.nl; omega) ⟨hA8.2.2.2.2, hA8.2.2.2.1⟩ hA8.2.1 (Nat.zero_le _) (Nat.zero_le _) hbe _ _ _ hH hR hw ls (lv_sub hl [0, 1] rfl)

