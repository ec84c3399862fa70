def qk (k : Nat) : Bool := !(k == 171 || k == 172 || k == 36)
theorem cQu_k {u : MM} {y : Int32} {k : Nat} (h : qk k = true) : cQu u y k = u k := by
  have e : k ≠ 171 ∧ k ≠ 172 ∧ k ≠ 36 := by refine ⟨?_, ?_, ?_⟩ <;> (intro e; subst e; exact absurd h (by decide))
  exact cQu_key u y e.1 e.2.1 e.2.2
set_option maxHeartbeats 800000 in
set_option maxRecDepth 100000 in
theorem cC_X10_loadTruck (l : Launch) (G : GT) (A : Nat → Prop) (h : AH) (b0 : BA) (u : MM) (hR : RC G.2.2.1 h b0 u) (hw : WFc u) (l0 : Nat) (hl0 : l0 < nlN u) (hs4 : szN u 4 + 40 ≤ 1000) : cmV l G A yX10_loadTruck cX10_loadTruck 5 10 377 (UC (cLt u l0) - UC u) (US (cLt u l0) - US u) [.ref (b0 14 0), .ref (b0 8 l0)] h (fun h' => ∃ b', BE u b0 b' ∧ RC G.2.2.1 h' b' (cLt u l0) ∧ WFc (cLt u l0)) := by
  refine cm_of "Routepost" rfl (by decide) (Nat.le_of_ble_eq_true rfl) ?_
  intro pr e s m9 below meth c C0 hr hname hH ls hl
  obtain ⟨hx, hb, hml, hown, hts, hK, hA, -⟩ := id C0
  have hl : lv_has ls 5 [(0, .ref (b0 14 0)), (1, .ref (b0 8 l0))] := hl
  obtain ⟨b, hb0⟩ : ∃ z, z = b0 := ⟨_, rfl⟩
  rw [← hb0] at hR hl
  have hbe : BE u b0 b := by rw [hb0]; exact BE.refl u b0
  have hc7 := hw.cnt6 7
  have hc8 := hw.cnt6 8
  have hc9 := hw.cnt6 9
  have hw00 := hw
  have hl00 := hl0
  refine lv_aload_n hx hb dX10_loadTruck_0 rfl (lv_at hl 0 rfl) ?_
  refine lv_aload_n hx hb dX10_loadTruck_1 rfl (lv_at hl 1 rfl) ?_
  have hA0_n_1 : LG u u := (LG.refl u)
  have hA_n_1 := hA0_n_1 hw00.lw
  have h1_n_1 := hA_n_1.2.1.le
  have hB0_n_1 : LG u (cQu u (nI l0)) := LG.qu
  have hB_n_1 := hB0_n_1 hA_n_1.1
  obtain ⟨w1, w2, w3⟩ := cQu_ok hw00 (nI l0)
  obtain ⟨a1, a2, a3⟩ := cQu_s (u := u) (nI l0) hw00.np
  have a34 := a3 4 (by omega)
  have hnp0 := hw00.np
  have w1n := w1.np
  have hC0_n_1 : LG (cQu u (nI l0)) (cLt u l0) := (cLtL_q l0 (szN (cQu u (nI l0)) 3) 0 1 (u := cQu u (nI l0)) (fun k9 h9 => w1.qu h9) w1n w1.lw (by omega) (by omega)).1
  have hC_n_1 := hC0_n_1 hB_n_1.1
  have h2_n_1 := hB_n_1.2.1.le
  have h3_n_1 := hC_n_1.2.1.le
  refine k_v hH (k_runV (rest := []) C0 hH (cC_X10_queueUp l G A _ b _ hR hw l0 hl0) mv_X10_queueUp ml_X10_302 ci_14 (hR.kind (K := 14) (i := 0) rfl) rfl ⟨Nat.le_of_ble_eq_true rfl, Nat.le_of_ble_eq_true rfl⟩ hl.1 rfl (Nat.le_of_ble_eq_true rfl) dX10_loadTruck_2 ⟨by show _ ≤ UC (cLt u l0) - UC u; omega, by show _ ≤ US (cLt u l0) - US u; omega⟩) (fun h H locs hp hH => ?_)
  obtain ⟨b, hbx, hR, hw⟩ := hp
  rw [← hbx 14 0 (by decide) rfl, ← hbx 8 l0 (by decide) hl0] at hl
  replace hbe := hbe.trans ((Gw.refl u).trans hA_n_1.2.1) hbx
  have hgu_n_1 := ((Gw.refl u).trans hA_n_1.2.1).trans hB_n_1.2.1
  have hlw_n_1 := hB_n_1.1
  obtain ⟨U_n_1, hU_n_1⟩ : ∃ z, z = (cQu u (nI l0)) := ⟨_, rfl⟩
  rw [← hU_n_1] at hR hw hgu_n_1 hlw_n_1
  have hE_n_1 : UC U_n_1 = UC (cQu u (nI l0)) ∧ US U_n_1 = US (cQu u (nI l0)) := by rw [hU_n_1]; exact ⟨rfl, rfl⟩
  have hn_n_1 : nhN U_n_1 = nhN u ∧ nlN U_n_1 = nlN u ∧ npN U_n_1 = npN u := by rw [hU_n_1]; exact ⟨hB_n_1.2.2.1.trans hA_n_1.2.2.1, hB_n_1.2.2.2.1.trans hA_n_1.2.2.2.1, hB_n_1.2.2.2.2.trans hA_n_1.2.2.2.2⟩
  have hc7 := hw.cnt6 7
  have hc8 := hw.cnt6 8
  have hc9 := hw.cnt6 9
  replace hl0 : l0 < nlN U_n_1 := by rw [hn_n_1.2.1]; exact hl0
  have hk_n_1 : ∀ k, qk k = true → U_n_1 k = u k := fun k e9 => by rw [hU_n_1]; exact cQu_k e9
  refine lv_iconst (v := 1) hx hb dX10_loadTruck_5 (by decide) ?_
  refine lv_istore_n (lv' := [(2, .int (1)), (0, .ref (b 14 0)), (1, .ref (b 8 l0))]) hx hb dX10_loadTruck_6 rfl hl (by decide) rfl (fun ls hl => ?_)
  refine lv_iconst (v := 0) hx hb dX10_loadTruck_7 (by decide) ?_
  refine lv_istore_n (lv' := [(3, .int (0)), (2, .int (1)), (0, .ref (b 14 0)), (1, .ref (b 8 l0))]) hx hb dX10_loadTruck_8 rfl hl (by decide) rfl (fun ls hl => ?_)
  have K : ∀ (k : Nat) (j : Nat) (U : MM) (e0 : Int32) (cc : Nat) (ss : Nat) (b : BA), j + k = szN U 3 → cLtL l0 k j e0 U = cLt u l0 → npN U = npN u ∧ nlN U = nlN u → szN U 3 ≤ 40 → szN U 4 + k ≤ 1000 → Gw u U → cc ≤ UC U - UC u → ss ≤ US U - US u → BE u b0 b → ∀ (h : AH) (H : Heap) (locs : List Loc) (hH : HS G.1 G.2.1 A s.heap h H locs) (hR : RC G.2.2.1 h b U) (hw : WFc U) (ls : Array Slot), lv_has ls 5 [(3, .int (nI j)), (2, .int (e0)), (0, .ref (b 14 0)), (1, .ref (b 8 l0))] → W pr l e (rmm 10 377 (UC (cLt u l0) - UC u) (US (cLt u l0) - US u)) s m9 ([.ref (b0 14 0), .ref (b0 8 l0)] : List Value).toArray below meth c H locs cc ss (QV below G A (fun h' => ∃ b', BE u b0 b' ∧ RC G.2.2.1 h' b' (cLt u l0) ∧ WFc (cLt u l0)) ([.ref (b0 14 0), .ref (b0 8 l0)] : List Value).toArray s (UC (cLt u l0) - UC u) (US (cLt u l0) - US u)) (F0 m9 9 ls []) := by
    intro k
    induction k with
    | zero =>
      intro j U e0 cc ss b hik hT hnU hs3 hs5 hgU hcc hss hbe h H locs hH hR hw ls hl
      have hwU := hw
      have hlU := hw.lw
      have hle0 := hgU.le
      have hc7 := hw.cnt6 7
      have hc8 := hw.cnt6 8
      have hc9 := hw.cnt6 9
      have hl0 : l0 < nlN U := by rw [hnU.2]; exact hl00
      have hTg : LG U (cLtL l0 0 j e0 U) := (cLtL_q l0 _ _ _ (fun k9 h9 => hwU.qu h9) hwU.np hlU (by omega) (by omega)).1
      rw [hT] at hTg
      have hTl := (hTg hlU).2.1.le
      refine lv_iload_n hx hb dX10_loadTruck_9 rfl (lv_at hl 0 rfl) ?_
      refine lv_aload_n hx hb dX10_loadTruck_10 rfl (lv_at hl 2 rfl) ?_
      refine c_getR C0 hH hR ci_14 (i := 0) (j := 3) rfl rfl (by decide) rfl fl_X10_22 (v := some (b 3 3)) rfl dX10_loadTruck_11 ?_
      refine k_i hH (k_runV (rest := [.int (nI j)]) C0 hH (cL_size l G A _ b _ hR hw 3 (show 3 < 6 + npN _ by omega)) mv_Jx4a65c_size_8abf5 ml_X10_79 ci_3 (hR.kind (K := 3) (i := 3) (show 3 < 6 + npN _ by omega)) rfl ⟨Nat.le_of_ble_eq_true rfl, Nat.le_of_ble_eq_true rfl⟩ hl.1 rfl (Nat.le_of_ble_eq_true rfl) dX10_loadTruck_14 ⟨by show _ ≤ UC (cLt u l0) - UC u; omega, by show _ ≤ US (cLt u l0) - US u; omega⟩) (fun r9 h1 H locs hp hH => ?_)
      obtain ⟨er9, eh⟩ := hp
      rw [eh] at hH
      clear eh
      subst er9
      refine lv_icmp_ge (tgt := 122) hx hb dX10_loadTruck_17 (by decide) (fun c17_2 => ?_) (fun c17_2 => ?_)
      · have hA0_z : LG U U := (LG.refl U)
        have hA_z := hA0_z hlU
        have h1_z := hA_z.2.1.le
        have eM : (cLt u l0) = U := hT.symm
        exact e_V C0 hr hH ⟨b, hbe, by rw [eM]; exact ⟨hR, hw⟩⟩ (by rw [eM]; omega) (by rw [eM]; omega) dX10_loadTruck_122
      · exact absurd (by rw [show szN U 3 = j by omega]; exact Int32.le_refl _) c17_2
    | succ k ih =>
      intro j U e0 cc ss b hik hT hnU hs3 hs5 hgU hcc hss hbe h H locs hH hR hw ls hl
      have hwU := hw
      have hlU := hw.lw
      have hle0 := hgU.le
      have hc7 := hw.cnt6 7
      have hc8 := hw.cnt6 8
      have hc9 := hw.cnt6 9
      have hl0 : l0 < nlN U := by rw [hnU.2]; exact hl00
      have hTg : LG U (cLtL l0 (k + 1) j e0 U) := (cLtL_q l0 _ _ _ (fun k9 h9 => hwU.qu h9) hwU.np hlU (by omega) (by omega)).1
      rw [hT] at hTg
      have hTl := (hTg hlU).2.1.le
      refine lv_iload_n hx hb dX10_loadTruck_9 rfl (lv_at hl 0 rfl) ?_
      refine lv_aload_n hx hb dX10_loadTruck_10 rfl (lv_at hl 2 rfl) ?_
      refine c_getR C0 hH hR ci_14 (i := 0) (j := 3) rfl rfl (by decide) rfl fl_X10_22 (v := some (b 3 3)) rfl dX10_loadTruck_11 ?_
      refine k_i hH (k_runV (rest := [.int (nI j)]) C0 hH (cL_size l G A _ b _ hR hw 3 (show 3 < 6 + npN _ by omega)) mv_Jx4a65c_size_8abf5 ml_X10_79 ci_3 (hR.kind (K := 3) (i := 3) (show 3 < 6 + npN _ by omega)) rfl ⟨Nat.le_of_ble_eq_true rfl, Nat.le_of_ble_eq_true rfl⟩ hl.1 rfl (Nat.le_of_ble_eq_true rfl) dX10_loadTruck_14 ⟨by show _ ≤ UC (cLt u l0) - UC u; omega, by show _ ≤ US (cLt u l0) - US u; omega⟩) (fun r9 h1 H locs hp hH => ?_)
      obtain ⟨er9, eh⟩ := hp
      rw [eh] at hH
      clear eh
      subst er9
      refine lv_icmp_ge (tgt := 122) hx hb dX10_loadTruck_17 (by decide) (fun c17_3 => ?_) (fun c17_3 => ?_)
      · exact absurd c17_3 (nI_ge (show j < szN U 3 by omega) (by omega))
      · have hjU : j < szN U 3 := by omega
        refine lv_aload_n hx hb dX10_loadTruck_20 rfl (lv_at hl 2 rfl) ?_
        refine c_getR C0 hH hR ci_14 (i := 0) (j := 3) rfl rfl (by decide) rfl fl_X10_22 (v := some (b 3 3)) rfl dX10_loadTruck_21 ?_
        refine lv_iload_n hx hb dX10_loadTruck_24 rfl (lv_at hl 0 rfl) ?_
        obtain ⟨v_4, hv_4, ev_4⟩ := hw.exP (show vp_in (U 36 j) _ from hw.qu hjU)
        have kv_4 : (U 36 j).toNatClampNeg = v_4 := by rw [ev_4]; exact nI_clamp (by have := hw.nh; have := hw.np; omega)
        refine k_q hH (k_runV (rest := []) C0 hH (cL_get l G A _ b _ hR hw 3 j (show 3 < 6 + npN _ by omega) hjU (a := b 9 v_4) (show b 9 (U 36 j).toNatClampNeg = b 9 v_4 from by rw [ev_4, nI_clamp (by have := hw.np; omega)])) mv_Jx4a65c_get_915e3 ml_X10_143 ci_3 (hR.kind (K := 3) (i := 3) (show 3 < 6 + npN _ by omega)) rfl ⟨Nat.le_of_ble_eq_true rfl, Nat.le_of_ble_eq_true rfl⟩ hl.1 rfl (Nat.le_of_ble_eq_true rfl) dX10_loadTruck_25 ⟨by show _ ≤ UC (cLt u l0) - UC u; omega, by show _ ≤ US (cLt u l0) - US u; omega⟩) (fun r9 h1 H locs hp hH => ?_)
        obtain ⟨er9, eh⟩ := hp
        rw [eh] at hH
        clear eh
        subst er9
        refine k_chk C0 hH ci_9 (hR.kind (K := 9) (i := v_4) hv_4) cl_X10_162 dX10_loadTruck_28 ?_
        refine lv_astore (lv' := [(4, .ref (b 9 v_4)), (3, .int (nI j)), (2, .int (e0)), (0, .ref (b 14 0)), (1, .ref (b 8 l0))]) hx hb dX10_loadTruck_31 hl (by decide) rfl (fun ls hl => ?_)
        refine lv_aload_n hx hb dX10_loadTruck_33 rfl (lv_at hl 3 rfl) ?_
        refine c_getI C0 hH hR ci_14 (i := 0) (j := 9) rfl rfl (by decide) rfl fl_X10_56 (v := U 41 0) rfl dX10_loadTruck_34 ?_
        refine lv_aload hx hb dX10_loadTruck_37 (lv_at hl 0 rfl) ?_
        refine c_getI C0 hH hR ci_9 (i := v_4) (j := 12) hv_4 rfl (by decide) rfl fl_X10_408 (v := U 18 v_4) rfl dX10_loadTruck_39 ?_
        refine lv_isub hx hb dX10_loadTruck_42 ?_
        refine lv_aload_n hx hb dX10_loadTruck_43 rfl (lv_at hl 4 rfl) ?_
        obtain ⟨v_5, hv_5, ev_5⟩ := hw.exH (show vp_in (U 2 l0) _ from (hw.ln hl0).1)
        have kv_5 : (U 2 l0).toNatClampNeg = v_5 := by rw [ev_5]; exact nI_clamp (by have := hw.nh; have := hw.np; omega)
        refine c_getR C0 hH hR ci_8 (i := l0) (j := 1) hl0 rfl (by decide) rfl fl_X10_411 (v := some (b 7 v_5)) (show dec b 7 (U 2 l0) = some (b 7 v_5) from by rw [show U 2 l0 = nI v_5 from Eq.trans rfl ev_5]; exact dec_nI (by have := hc7; have := (show v_5 < cnt U 7 from hv_5); omega)) dX10_loadTruck_44 ?_
        refine c_getI C0 hH hR ci_7 (i := v_5) (j := 2) hv_5 rfl (by decide) rfl fl_X10_414 (v := U 1 v_5) rfl dX10_loadTruck_47 ?_
        refine lv_icmp_ge (tgt := 56) hx hb dX10_loadTruck_50 (by decide) (fun c50_6 => ?_) (fun c50_6 => ?_)
        · refine lv_iload_n hx hb dX10_loadTruck_56 rfl (lv_at hl 2 rfl) ?_
          refine lv_if_eq (tgt := 69) hx hb dX10_loadTruck_57 (by decide) (fun c57_7 => ?_) (fun c57_7 => ?_)
          · refine lv_aload_n hx hb dX10_loadTruck_69 rfl (lv_at hl 4 rfl) ?_
            refine c_getR C0 hH hR ci_8 (i := l0) (j := 4) hl0 rfl (by decide) rfl fl_X10_322 (v := some (b 4 l0)) rfl dX10_loadTruck_70 ?_
            refine lv_aload hx hb dX10_loadTruck_73 (lv_at hl 0 rfl) ?_
            refine lv_aload_n hx hb dX10_loadTruck_75 rfl (lv_at hl 4 rfl) ?_
            refine c_getI C0 hH hR ci_8 (i := l0) (j := 3) hl0 rfl (by decide) rfl fl_X10_417 (v := U 7 l0) rfl dX10_loadTruck_76 ?_
            have hA0_n_8 : LG U U := (LG.refl U)
            have hA_n_8 := hA0_n_8 hlU
            have h1_n_8 := hA_n_8.2.1.le
            refine k_i hH (k_runV (rest := []) C0 hH (cC_X0_put l G A _ b _ hR hw l0 40 v_4 (U 7 l0) (Or.inl hl0) (by unfold len20; rw [if_pos (show l0 < 13 by have := hw.nl; omega)]) hv_4) mv_X0_put ml_X10_311 ci_4 (hR.kind (K := 4) (i := l0) (Or.inl hl0)) rfl ⟨Nat.le_of_ble_eq_true rfl, Nat.le_of_ble_eq_true rfl⟩ hl.1 rfl (Nat.le_of_ble_eq_true rfl) dX10_loadTruck_79 ⟨by show _ ≤ UC (cLt u l0) - UC u; omega, by show _ ≤ US (cLt u l0) - US u; omega⟩) (fun r_9 h H locs hp hH => ?_)
            obtain ⟨er_9, hR, hw⟩ := hp
            subst er_9
            have hB0_n_8 : LG U ((cPut U l0 40 v_4 (U 7 l0)).2) := LG.put
            have hB_n_8 := hB0_n_8 hA_n_8.1
            have h2_n_8 := hB_n_8.2.1.le
            have hgu_n_8 := (hgU.trans hA_n_8.2.1).trans hB_n_8.2.1
            have hlw_n_8 := hB_n_8.1
            obtain ⟨U_n_8, hU_n_8⟩ : ∃ z, z = ((cPut U l0 40 v_4 (U 7 l0)).2) := ⟨_, rfl⟩
            rw [← hU_n_8] at hR hw hgu_n_8 hlw_n_8
            have hE_n_8 : UC U_n_8 = UC ((cPut U l0 40 v_4 (U 7 l0)).2) ∧ US U_n_8 = US ((cPut U l0 40 v_4 (U 7 l0)).2) := by rw [hU_n_8]; exact ⟨rfl, rfl⟩
            have hn_n_8 : nhN U_n_8 = nhN U ∧ nlN U_n_8 = nlN U ∧ npN U_n_8 = npN U := by rw [hU_n_8]; exact ⟨hB_n_8.2.2.1.trans hA_n_8.2.2.1, hB_n_8.2.2.2.1.trans hA_n_8.2.2.2.1, hB_n_8.2.2.2.2.trans hA_n_8.2.2.2.2⟩
            have hc7 := hw.cnt6 7
            have hc8 := hw.cnt6 8
            have hc9 := hw.cnt6 9
            replace hl0 : l0 < nlN U_n_8 := by rw [hn_n_8.2.1]; exact hl0
            replace hv_4 : v_4 < npN U_n_8 := by rw [hn_n_8.2.2]; exact hv_4
            replace hv_5 : v_5 < nhN U_n_8 := by rw [hn_n_8.1]; exact hv_5
            refine lv_if_eq (tgt := 95) hx hb dX10_loadTruck_82 (by decide) (fun c82_10 => ?_) (fun c82_10 => ?_)
            · refine lv_aload hx hb dX10_loadTruck_95 (lv_at hl 0 rfl) ?_
              refine lv_dup hx hb dX10_loadTruck_97 rfl ?_
              refine c_getI C0 hH hR ci_9 (i := v_4) (j := 18) hv_4 rfl (by decide) rfl fl_X10_258 (v := U_n_8 24 v_4) rfl dX10_loadTruck_98 ?_
              refine lv_iconst (v := 1) hx hb dX10_loadTruck_101 (by decide) ?_
              refine lv_iadd hx hb dX10_loadTruck_102 ?_
              refine c_putI C0 hH hR ci_9 (i := v_4) (j := 18) hv_4 rfl (k := 24) rfl (by decide) (by decide) rfl fl_X10_258 rfl (x := (U_n_8 24 v_4) + 1) rfl rfl dX10_loadTruck_103 (fun h H locs hH hR => ?_)
              replace hw := hw.upx (k := 24) (i := v_4) (x := (U_n_8 24 v_4) + 1) (by unfold kWc kSz; decide)
              refine lv_aload_n hx hb dX10_loadTruck_106 rfl (lv_at hl 3 rfl) ?_
              refine c_getR C0 hH hR ci_14 (i := 0) (j := 4) rfl rfl (by decide) rfl fl_X10_25 (v := some (b 3 4)) rfl dX10_loadTruck_107 ?_
              refine lv_aload hx hb dX10_loadTruck_110 (lv_at hl 0 rfl) ?_
              have hA0_n_11 : LG U_n_8 (up U_n_8 24 v_4 ((U_n_8 24 v_4) + 1)) := (LG.trans (LG.refl U_n_8) (LG.upk (k := 24) (by unfold kSz; decide)))
              have hA_n_11 := hA0_n_11 hlw_n_8
              have h1_n_11 := hA_n_11.2.1.le
              have hz4 : szN (up U_n_8 24 v_4 ((U_n_8 24 v_4) + 1)) 4 = szN U 4 := by unfold szN; rw [up_key (by omega), hU_n_8, cPut_k rfl]
              have hst : cLt1 l0 j e0 U = (0, (cLq (up U_n_8 24 v_4 ((U_n_8 24 v_4) + 1)) 4 176 (szN (up U_n_8 24 v_4 ((U_n_8 24 v_4) + 1)) 4) (nI v_4))) := by unfold cLt1; rw [kv_4, kv_5, if_neg (Int32.not_lt.mpr c50_6), show (if ¬ e0 = 0 then up U 8 l0 0 else U) = U from if_neg (fun z => z c57_7), if_neg (fun z => z c82_10), hz4, hU_n_8, ev_4]
              have hq1 : LG U (cLq (up U_n_8 24 v_4 ((U_n_8 24 v_4) + 1)) 4 176 (szN (up U_n_8 24 v_4 ((U_n_8 24 v_4) + 1)) 4) (nI v_4)) ∧ QuV (cLq (up U_n_8 24 v_4 ((U_n_8 24 v_4) + 1)) 4 176 (szN (up U_n_8 24 v_4 ((U_n_8 24 v_4) + 1)) 4) (nI v_4)) ∧ szN (cLq (up U_n_8 24 v_4 ((U_n_8 24 v_4) + 1)) 4 176 (szN (up U_n_8 24 v_4 ((U_n_8 24 v_4) + 1)) 4) (nI v_4)) 3 = szN U 3 ∧ szN (cLq (up U_n_8 24 v_4 ((U_n_8 24 v_4) + 1)) 4 176 (szN (up U_n_8 24 v_4 ((U_n_8 24 v_4) + 1)) 4) (nI v_4)) 4 ≤ szN U 4 + 1 := by have h9 := cLt1_q (l := l0) (e := e0) (u := U) (fun k9 h9 => hwU.qu h9) hwU.np (k := j) (by omega) (by omega); rw [hst] at h9; exact h9
              have hq2 := hq1.1 hlU
              have hq3 := hq1.2.2.1
              have hq4 := hq1.2.2.2
              have hs9_n_11 : szN (up U_n_8 24 v_4 ((U_n_8 24 v_4) + 1)) 4 < 1000 := by rw [hz4]; omega
              have hrm := cLq_room (i := szN (up U_n_8 24 v_4 ((U_n_8 24 v_4) + 1)) 4) (x := nI v_4) hw (Or.inr ⟨rfl, rfl⟩ : 4 = 3 ∧ 176 = 36 ∨ 4 = 4 ∧ 176 = 176) hs9_n_11
              have hB0_n_11 : LG (up U_n_8 24 v_4 ((U_n_8 24 v_4) + 1)) (cLq (up U_n_8 24 v_4 ((U_n_8 24 v_4) + 1)) 4 176 (szN (up U_n_8 24 v_4 ((U_n_8 24 v_4) + 1)) 4) (nI v_4)) := LG.lq (Or.inr ⟨rfl, rfl⟩) hs9_n_11
              have hB_n_11 := hB0_n_11 hA_n_11.1
              have h2_n_11 := hB_n_11.2.1.le
              have hC0_n_11 : LG (cLq (up U_n_8 24 v_4 ((U_n_8 24 v_4) + 1)) 4 176 (szN (up U_n_8 24 v_4 ((U_n_8 24 v_4) + 1)) 4) (nI v_4)) (cLt u l0) := (by rw [show cLt u l0 = cLtL l0 k (j + 1) 0 (cLq (up U_n_8 24 v_4 ((U_n_8 24 v_4) + 1)) 4 176 (szN (up U_n_8 24 v_4 ((U_n_8 24 v_4) + 1)) 4) (nI v_4)) from by rw [← hT]; simp only [cLtL]; rw [hst]]; exact (cLtL_q l0 k (j + 1) 0 hq1.2.1 (by rw [hq2.2.2.2.2]; exact hwU.np) hq2.1 (by omega) (by omega)).1)
              have hC_n_11 := hC0_n_11 hB_n_11.1
              have h3_n_11 := hC_n_11.2.1.le
              refine k_i hH (k_runV (rest := []) C0 hH (cL_addL l G A _ b _ hR hw v_4 hv_4) mv_Jx4a65c_add_9ea2d ml_X10_93 ci_3 (hR.kind (K := 3) (i := 4) (show 4 < 6 + npN _ by omega)) rfl ⟨Nat.le_of_ble_eq_true rfl, Nat.le_of_ble_eq_true rfl⟩ hl.1 rfl (Nat.le_of_ble_eq_true rfl) dX10_loadTruck_112 ⟨by show _ ≤ UC (cLt u l0) - UC u; omega, by show _ ≤ US (cLt u l0) - US u; omega⟩) (fun r9 h H locs hp hH => ?_)
              obtain ⟨er9, hp⟩ := hp
              subst er9
              obtain ⟨b, hbx, hR⟩ := hR.addQ hw (Or.inr ⟨rfl, rfl⟩) (Nat.le_refl _) hv_4 hp
              rw [← hbx 9 v_4 (by decide) hv_4, ← hbx 14 0 (by decide) rfl, ← hbx 8 l0 (by decide) hl0] at hl
              replace hbe := hbe.trans (hgu_n_8.trans hA_n_11.2.1) hbx
              replace hw := hw.addQ (Or.inr ⟨rfl, rfl⟩) hs9_n_11 (Nat.le_refl _) (vp_in_nI hv_4 (by omega))
              have hgu_n_11 := (hgu_n_8.trans hA_n_11.2.1).trans hB_n_11.2.1
              have hlw_n_11 := hB_n_11.1
              obtain ⟨U_n_11, hU_n_11⟩ : ∃ z, z = (cLq (up U_n_8 24 v_4 ((U_n_8 24 v_4) + 1)) 4 176 (szN (up U_n_8 24 v_4 ((U_n_8 24 v_4) + 1)) 4) (nI v_4)) := ⟨_, rfl⟩
              rw [← hU_n_11] at hR hw hgu_n_11 hlw_n_11
              have hE_n_11 : UC U_n_11 = UC (cLq (up U_n_8 24 v_4 ((U_n_8 24 v_4) + 1)) 4 176 (szN (up U_n_8 24 v_4 ((U_n_8 24 v_4) + 1)) 4) (nI v_4)) ∧ US U_n_11 = US (cLq (up U_n_8 24 v_4 ((U_n_8 24 v_4) + 1)) 4 176 (szN (up U_n_8 24 v_4 ((U_n_8 24 v_4) + 1)) 4) (nI v_4)) := by rw [hU_n_11]; exact ⟨rfl, rfl⟩
              have hn_n_11 : nhN U_n_11 = nhN U_n_8 ∧ nlN U_n_11 = nlN U_n_8 ∧ npN U_n_11 = npN U_n_8 := by rw [hU_n_11]; exact ⟨hB_n_11.2.2.1.trans hA_n_11.2.2.1, hB_n_11.2.2.2.1.trans hA_n_11.2.2.2.1, hB_n_11.2.2.2.2.trans hA_n_11.2.2.2.2⟩
              have hc7 := hw.cnt6 7
              have hc8 := hw.cnt6 8
              have hc9 := hw.cnt6 9
              replace hl0 : l0 < nlN U_n_11 := by rw [hn_n_11.2.1]; exact hl0
              replace hv_4 : v_4 < npN U_n_11 := by rw [hn_n_11.2.2]; exact hv_4
              replace hv_5 : v_5 < nhN U_n_11 := by rw [hn_n_11.1]; exact hv_5
              refine lv_pop hx hb dX10_loadTruck_115 rfl ?_
              refine lv_iinc (v := nI (j + 1)) (lv' := [(3, .int (nI (j + 1))), (4, .ref (b 9 v_4)), (2, .int (e0)), (0, .ref (b 14 0)), (1, .ref (b 8 l0))]) hx hb dX10_loadTruck_116 hl (k := 1) rfl (by rw [← nI_1]; rfl) (by decide) rfl (fun ls hl => ?_)
              refine lv_goto (tgt := 9) hx hb dX10_loadTruck_119 (by decide) ?_
              exact ih (j + 1) U_n_11 0 _ _ b (by rw [hU_n_11]; omega) (by rw [← hT]; simp only [cLtL]; rw [hst, hU_n_11]) ⟨hn_n_11.2.2.trans (hn_n_8.2.2.trans hnU.1), hn_n_11.2.1.trans (hn_n_8.2.1.trans hnU.2)⟩ (by rw [hU_n_11]; omega) (by rw [hU_n_11]; omega) hgu_n_11 (by omega) (by omega) hbe _ _ _ hH hR hw ls (by rw [c57_7] at hl; exact lv_sub hl [0, 2, 3, 4] rfl)
            · refine lv_aload_n hx hb dX10_loadTruck_85 rfl (lv_at hl 3 rfl) ?_
              refine lv_aload hx hb dX10_loadTruck_86 (lv_at hl 0 rfl) ?_
              refine lv_aload_n hx hb dX10_loadTruck_88 rfl (lv_at hl 4 rfl) ?_
              have hA0_n_12 : LG U_n_8 U_n_8 := (LG.refl U_n_8)
              have hA_n_12 := hA0_n_12 hlw_n_8
              have h1_n_12 := hA_n_12.2.1.le
              have hB0_n_12 : LG U_n_8 (cLoad U_n_8 v_4 l0) := (LG.load hv_4)
              have hB_n_12 := hB0_n_12 hA_n_12.1
              have hst : cLt1 l0 j e0 U = (0, (cLoad U_n_8 v_4 l0)) := by unfold cLt1; rw [kv_4, kv_5, if_neg (Int32.not_lt.mpr c50_6), show (if ¬ e0 = 0 then up U 8 l0 0 else U) = U from if_neg (fun z => z c57_7), if_pos c82_10, hU_n_8]
              have hq1 : LG U (cLoad U_n_8 v_4 l0) ∧ QuV (cLoad U_n_8 v_4 l0) ∧ szN (cLoad U_n_8 v_4 l0) 3 = szN U 3 ∧ szN (cLoad U_n_8 v_4 l0) 4 ≤ szN U 4 + 1 := by have h9 := cLt1_q (l := l0) (e := e0) (u := U) (fun k9 h9 => hwU.qu h9) hwU.np (k := j) (by omega) (by omega); rw [hst] at h9; exact h9
              have hq2 := hq1.1 hlU
              have hq3 := hq1.2.2.1
              have hq4 := hq1.2.2.2
              have hC0_n_12 : LG (cLoad U_n_8 v_4 l0) (cLt u l0) := (by rw [show cLt u l0 = cLtL l0 k (j + 1) 0 (cLoad U_n_8 v_4 l0) from by rw [← hT]; simp only [cLtL]; rw [hst]]; exact (cLtL_q l0 k (j + 1) 0 hq1.2.1 (by rw [hq2.2.2.2.2]; exact hwU.np) hq2.1 (by omega) (by omega)).1)
              have hC_n_12 := hC0_n_12 hB_n_12.1
              have h2_n_12 := hB_n_12.2.1.le
              have h3_n_12 := hC_n_12.2.1.le
              refine k_v hH (k_runV (rest := []) C0 hH (cC_X10_load l G A _ b _ hR hw v_4 l0 hv_4 hl0) mv_X10_load ml_X10_420 ci_14 (hR.kind (K := 14) (i := 0) rfl) rfl ⟨Nat.le_of_ble_eq_true rfl, Nat.le_of_ble_eq_true rfl⟩ hl.1 rfl (Nat.le_of_ble_eq_true rfl) dX10_loadTruck_89 ⟨by show _ ≤ UC (cLt u l0) - UC u; omega, by show _ ≤ US (cLt u l0) - US u; omega⟩) (fun h H locs hp hH => ?_)
              obtain ⟨b, hbx, hR, hw⟩ := hp
              rw [← hbx 9 v_4 (by decide) hv_4, ← hbx 14 0 (by decide) rfl, ← hbx 8 l0 (by decide) hl0] at hl
              replace hbe := hbe.trans (hgu_n_8.trans hA_n_12.2.1) hbx
              have hgu_n_12 := (hgu_n_8.trans hA_n_12.2.1).trans hB_n_12.2.1
              have hlw_n_12 := hB_n_12.1
              obtain ⟨U_n_12, hU_n_12⟩ : ∃ z, z = (cLoad U_n_8 v_4 l0) := ⟨_, rfl⟩
              rw [← hU_n_12] at hR hw hgu_n_12 hlw_n_12
              have hE_n_12 : UC U_n_12 = UC (cLoad U_n_8 v_4 l0) ∧ US U_n_12 = US (cLoad U_n_8 v_4 l0) := by rw [hU_n_12]; exact ⟨rfl, rfl⟩
              have hn_n_12 : nhN U_n_12 = nhN U_n_8 ∧ nlN U_n_12 = nlN U_n_8 ∧ npN U_n_12 = npN U_n_8 := by rw [hU_n_12]; exact ⟨hB_n_12.2.2.1.trans hA_n_12.2.2.1, hB_n_12.2.2.2.1.trans hA_n_12.2.2.2.1, hB_n_12.2.2.2.2.trans hA_n_12.2.2.2.2⟩
              have hc7 := hw.cnt6 7
              have hc8 := hw.cnt6 8
              have hc9 := hw.cnt6 9
              replace hl0 : l0 < nlN U_n_12 := by rw [hn_n_12.2.1]; exact hl0
              replace hv_4 : v_4 < npN U_n_12 := by rw [hn_n_12.2.2]; exact hv_4
              replace hv_5 : v_5 < nhN U_n_12 := by rw [hn_n_12.1]; exact hv_5
              refine lv_goto (tgt := 116) hx hb dX10_loadTruck_92 (by decide) ?_
              refine lv_iinc (v := nI (j + 1)) (lv' := [(3, .int (nI (j + 1))), (4, .ref (b 9 v_4)), (2, .int (e0)), (0, .ref (b 14 0)), (1, .ref (b 8 l0))]) hx hb dX10_loadTruck_116 hl (k := 1) rfl (by rw [← nI_1]; rfl) (by decide) rfl (fun ls hl => ?_)
              refine lv_goto (tgt := 9) hx hb dX10_loadTruck_119 (by decide) ?_
              exact ih (j + 1) U_n_12 0 _ _ b (by rw [hU_n_12]; omega) (by rw [← hT]; simp only [cLtL]; rw [hst, hU_n_12]) ⟨hn_n_12.2.2.trans (hn_n_8.2.2.trans hnU.1), hn_n_12.2.1.trans (hn_n_8.2.1.trans hnU.2)⟩ (by rw [hU_n_12]; omega) (by rw [hU_n_12]; omega) hgu_n_12 (by omega) (by omega) hbe _ _ _ hH hR hw ls (by rw [c57_7] at hl; exact lv_sub hl [0, 2, 3, 4] rfl)
          · refine lv_aload_n hx hb dX10_loadTruck_60 rfl (lv_at hl 4 rfl) ?_
            refine c_getR C0 hH hR ci_8 (i := l0) (j := 4) hl0 rfl (by decide) rfl fl_X10_322 (v := some (b 4 l0)) rfl dX10_loadTruck_61 ?_
            refine k_v hH (k_runV (rest := []) C0 hH (cC_X0_clear l G A _ b _ hR hw l0 (Or.inl hl0)) mv_X0_clear ml_X10_308 ci_4 (hR.kind (K := 4) (i := l0) (Or.inl hl0)) rfl ⟨Nat.le_of_ble_eq_true rfl, Nat.le_of_ble_eq_true rfl⟩ hl.1 rfl (Nat.le_of_ble_eq_true rfl) dX10_loadTruck_64 ⟨by show _ ≤ UC (cLt u l0) - UC u; omega, by show _ ≤ US (cLt u l0) - US u; omega⟩) (fun h H locs hp hH => ?_)
            obtain ⟨hR, hw⟩ := hp
            refine lv_iconst (v := 0) hx hb dX10_loadTruck_67 (by decide) ?_
            refine lv_istore_n (lv' := [(2, .int (0)), (4, .ref (b 9 v_4)), (3, .int (nI j)), (0, .ref (b 14 0)), (1, .ref (b 8 l0))]) hx hb dX10_loadTruck_68 rfl hl (by decide) rfl (fun ls hl => ?_)
            refine lv_aload_n hx hb dX10_loadTruck_69 rfl (lv_at hl 4 rfl) ?_
            refine c_getR C0 hH hR ci_8 (i := l0) (j := 4) hl0 rfl (by decide) rfl fl_X10_322 (v := some (b 4 l0)) rfl dX10_loadTruck_70 ?_
            refine lv_aload hx hb dX10_loadTruck_73 (lv_at hl 1 rfl) ?_
            refine lv_aload_n hx hb dX10_loadTruck_75 rfl (lv_at hl 4 rfl) ?_
            refine c_getI C0 hH hR ci_8 (i := l0) (j := 3) hl0 rfl (by decide) rfl fl_X10_417 (v := U 7 l0) rfl dX10_loadTruck_76 ?_
            have hA0_n_14 : LG U (up U 8 l0 0) := (LG.trans (LG.refl U) (LG.upk (k := 8) (by unfold kSz; decide)))
            have hA_n_14 := hA0_n_14 hlU
            have h1_n_14 := hA_n_14.2.1.le
            refine k_i hH (k_runV (rest := []) C0 hH (cC_X0_put l G A _ b _ hR hw l0 40 v_4 (U 7 l0) (Or.inl hl0) (by unfold len20; rw [if_pos (show l0 < 13 by have := hw.nl; omega)]) hv_4) mv_X0_put ml_X10_311 ci_4 (hR.kind (K := 4) (i := l0) (Or.inl hl0)) rfl ⟨Nat.le_of_ble_eq_true rfl, Nat.le_of_ble_eq_true rfl⟩ hl.1 rfl (Nat.le_of_ble_eq_true rfl) dX10_loadTruck_79 ⟨by show _ ≤ UC (cLt u l0) - UC u; omega, by show _ ≤ US (cLt u l0) - US u; omega⟩) (fun r_15 h H locs hp hH => ?_)
            obtain ⟨er_15, hR, hw⟩ := hp
            subst er_15
            have hB0_n_14 : LG (up U 8 l0 0) ((cPut (up U 8 l0 0) l0 40 v_4 (U 7 l0)).2) := LG.put
            have hB_n_14 := hB0_n_14 hA_n_14.1
            have h2_n_14 := hB_n_14.2.1.le
            have hgu_n_14 := (hgU.trans hA_n_14.2.1).trans hB_n_14.2.1
            have hlw_n_14 := hB_n_14.1
            obtain ⟨U_n_14, hU_n_14⟩ : ∃ z, z = ((cPut (up U 8 l0 0) l0 40 v_4 (U 7 l0)).2) := ⟨_, rfl⟩
            rw [← hU_n_14] at hR hw hgu_n_14 hlw_n_14
            have hE_n_14 : UC U_n_14 = UC ((cPut (up U 8 l0 0) l0 40 v_4 (U 7 l0)).2) ∧ US U_n_14 = US ((cPut (up U 8 l0 0) l0 40 v_4 (U 7 l0)).2) := by rw [hU_n_14]; exact ⟨rfl, rfl⟩
            have hn_n_14 : nhN U_n_14 = nhN U ∧ nlN U_n_14 = nlN U ∧ npN U_n_14 = npN U := by rw [hU_n_14]; exact ⟨hB_n_14.2.2.1.trans hA_n_14.2.2.1, hB_n_14.2.2.2.1.trans hA_n_14.2.2.2.1, hB_n_14.2.2.2.2.trans hA_n_14.2.2.2.2⟩
            have hc7 := hw.cnt6 7
            have hc8 := hw.cnt6 8
            have hc9 := hw.cnt6 9
            replace hl0 : l0 < nlN U_n_14 := by rw [hn_n_14.2.1]; exact hl0
            replace hv_4 : v_4 < npN U_n_14 := by rw [hn_n_14.2.2]; exact hv_4
            replace hv_5 : v_5 < nhN U_n_14 := by rw [hn_n_14.1]; exact hv_5
            refine lv_if_eq (tgt := 95) hx hb dX10_loadTruck_82 (by decide) (fun c82_16 => ?_) (fun c82_16 => ?_)
            · refine lv_aload hx hb dX10_loadTruck_95 (lv_at hl 1 rfl) ?_
              refine lv_dup hx hb dX10_loadTruck_97 rfl ?_
              refine c_getI C0 hH hR ci_9 (i := v_4) (j := 18) hv_4 rfl (by decide) rfl fl_X10_258 (v := U_n_14 24 v_4) rfl dX10_loadTruck_98 ?_
              refine lv_iconst (v := 1) hx hb dX10_loadTruck_101 (by decide) ?_
              refine lv_iadd hx hb dX10_loadTruck_102 ?_
              refine c_putI C0 hH hR ci_9 (i := v_4) (j := 18) hv_4 rfl (k := 24) rfl (by decide) (by decide) rfl fl_X10_258 rfl (x := (U_n_14 24 v_4) + 1) rfl rfl dX10_loadTruck_103 (fun h H locs hH hR => ?_)
              replace hw := hw.upx (k := 24) (i := v_4) (x := (U_n_14 24 v_4) + 1) (by unfold kWc kSz; decide)
              refine lv_aload_n hx hb dX10_loadTruck_106 rfl (lv_at hl 3 rfl) ?_
              refine c_getR C0 hH hR ci_14 (i := 0) (j := 4) rfl rfl (by decide) rfl fl_X10_25 (v := some (b 3 4)) rfl dX10_loadTruck_107 ?_
              refine lv_aload hx hb dX10_loadTruck_110 (lv_at hl 1 rfl) ?_
              have hA0_n_17 : LG U_n_14 (up U_n_14 24 v_4 ((U_n_14 24 v_4) + 1)) := (LG.trans (LG.refl U_n_14) (LG.upk (k := 24) (by unfold kSz; decide)))
              have hA_n_17 := hA0_n_17 hlw_n_14
              have h1_n_17 := hA_n_17.2.1.le
              have hz4 : szN (up U_n_14 24 v_4 ((U_n_14 24 v_4) + 1)) 4 = szN U 4 := by unfold szN; rw [up_key (by omega), hU_n_14, cPut_k rfl]; rfl
              have hst : cLt1 l0 j e0 U = (0, (cLq (up U_n_14 24 v_4 ((U_n_14 24 v_4) + 1)) 4 176 (szN (up U_n_14 24 v_4 ((U_n_14 24 v_4) + 1)) 4) (nI v_4))) := by unfold cLt1; rw [kv_4, kv_5, if_neg (Int32.not_lt.mpr c50_6), show (if ¬ e0 = 0 then up U 8 l0 0 else U) = up U 8 l0 0 from if_pos c57_7, if_neg (fun z => z c82_16), hz4, hU_n_14, ev_4]
              have hq1 : LG U (cLq (up U_n_14 24 v_4 ((U_n_14 24 v_4) + 1)) 4 176 (szN (up U_n_14 24 v_4 ((U_n_14 24 v_4) + 1)) 4) (nI v_4)) ∧ QuV (cLq (up U_n_14 24 v_4 ((U_n_14 24 v_4) + 1)) 4 176 (szN (up U_n_14 24 v_4 ((U_n_14 24 v_4) + 1)) 4) (nI v_4)) ∧ szN (cLq (up U_n_14 24 v_4 ((U_n_14 24 v_4) + 1)) 4 176 (szN (up U_n_14 24 v_4 ((U_n_14 24 v_4) + 1)) 4) (nI v_4)) 3 = szN U 3 ∧ szN (cLq (up U_n_14 24 v_4 ((U_n_14 24 v_4) + 1)) 4 176 (szN (up U_n_14 24 v_4 ((U_n_14 24 v_4) + 1)) 4) (nI v_4)) 4 ≤ szN U 4 + 1 := by have h9 := cLt1_q (l := l0) (e := e0) (u := U) (fun k9 h9 => hwU.qu h9) hwU.np (k := j) (by omega) (by omega); rw [hst] at h9; exact h9
              have hq2 := hq1.1 hlU
              have hq3 := hq1.2.2.1
              have hq4 := hq1.2.2.2
              have hs9_n_17 : szN (up U_n_14 24 v_4 ((U_n_14 24 v_4) + 1)) 4 < 1000 := by rw [hz4]; omega
              have hrm := cLq_room (i := szN (up U_n_14 24 v_4 ((U_n_14 24 v_4) + 1)) 4) (x := nI v_4) hw (Or.inr ⟨rfl, rfl⟩ : 4 = 3 ∧ 176 = 36 ∨ 4 = 4 ∧ 176 = 176) hs9_n_17
              have hB0_n_17 : LG (up U_n_14 24 v_4 ((U_n_14 24 v_4) + 1)) (cLq (up U_n_14 24 v_4 ((U_n_14 24 v_4) + 1)) 4 176 (szN (up U_n_14 24 v_4 ((U_n_14 24 v_4) + 1)) 4) (nI v_4)) := LG.lq (Or.inr ⟨rfl, rfl⟩) hs9_n_17
              have hB_n_17 := hB0_n_17 hA_n_17.1
              have h2_n_17 := hB_n_17.2.1.le
              have hC0_n_17 : LG (cLq (up U_n_14 24 v_4 ((U_n_14 24 v_4) + 1)) 4 176 (szN (up U_n_14 24 v_4 ((U_n_14 24 v_4) + 1)) 4) (nI v_4)) (cLt u l0) := (by rw [show cLt u l0 = cLtL l0 k (j + 1) 0 (cLq (up U_n_14 24 v_4 ((U_n_14 24 v_4) + 1)) 4 176 (szN (up U_n_14 24 v_4 ((U_n_14 24 v_4) + 1)) 4) (nI v_4)) from by rw [← hT]; simp only [cLtL]; rw [hst]]; exact (cLtL_q l0 k (j + 1) 0 hq1.2.1 (by rw [hq2.2.2.2.2]; exact hwU.np) hq2.1 (by omega) (by omega)).1)
              have hC_n_17 := hC0_n_17 hB_n_17.1
              have h3_n_17 := hC_n_17.2.1.le
              refine k_i hH (k_runV (rest := []) C0 hH (cL_addL l G A _ b _ hR hw v_4 hv_4) mv_Jx4a65c_add_9ea2d ml_X10_93 ci_3 (hR.kind (K := 3) (i := 4) (show 4 < 6 + npN _ by omega)) rfl ⟨Nat.le_of_ble_eq_true rfl, Nat.le_of_ble_eq_true rfl⟩ hl.1 rfl (Nat.le_of_ble_eq_true rfl) dX10_loadTruck_112 ⟨by show _ ≤ UC (cLt u l0) - UC u; omega, by show _ ≤ US (cLt u l0) - US u; omega⟩) (fun r9 h H locs hp hH => ?_)
              obtain ⟨er9, hp⟩ := hp
              subst er9
              obtain ⟨b, hbx, hR⟩ := hR.addQ hw (Or.inr ⟨rfl, rfl⟩) (Nat.le_refl _) hv_4 hp
              rw [← hbx 9 v_4 (by decide) hv_4, ← hbx 14 0 (by decide) rfl, ← hbx 8 l0 (by decide) hl0] at hl
              replace hbe := hbe.trans (hgu_n_14.trans hA_n_17.2.1) hbx
              replace hw := hw.addQ (Or.inr ⟨rfl, rfl⟩) hs9_n_17 (Nat.le_refl _) (vp_in_nI hv_4 (by omega))
              have hgu_n_17 := (hgu_n_14.trans hA_n_17.2.1).trans hB_n_17.2.1
              have hlw_n_17 := hB_n_17.1
              obtain ⟨U_n_17, hU_n_17⟩ : ∃ z, z = (cLq (up U_n_14 24 v_4 ((U_n_14 24 v_4) + 1)) 4 176 (szN (up U_n_14 24 v_4 ((U_n_14 24 v_4) + 1)) 4) (nI v_4)) := ⟨_, rfl⟩
              rw [← hU_n_17] at hR hw hgu_n_17 hlw_n_17
              have hE_n_17 : UC U_n_17 = UC (cLq (up U_n_14 24 v_4 ((U_n_14 24 v_4) + 1)) 4 176 (szN (up U_n_14 24 v_4 ((U_n_14 24 v_4) + 1)) 4) (nI v_4)) ∧ US U_n_17 = US (cLq (up U_n_14 24 v_4 ((U_n_14 24 v_4) + 1)) 4 176 (szN (up U_n_14 24 v_4 ((U_n_14 24 v_4) + 1)) 4) (nI v_4)) := by rw [hU_n_17]; exact ⟨rfl, rfl⟩
              have hn_n_17 : nhN U_n_17 = nhN U_n_14 ∧ nlN U_n_17 = nlN U_n_14 ∧ npN U_n_17 = npN U_n_14 := by rw [hU_n_17]; exact ⟨hB_n_17.2.2.1.trans hA_n_17.2.2.1, hB_n_17.2.2.2.1.trans hA_n_17.2.2.2.1, hB_n_17.2.2.2.2.trans hA_n_17.2.2.2.2⟩
              have hc7 := hw.cnt6 7
              have hc8 := hw.cnt6 8
              have hc9 := hw.cnt6 9
              replace hl0 : l0 < nlN U_n_17 := by rw [hn_n_17.2.1]; exact hl0
              replace hv_4 : v_4 < npN U_n_17 := by rw [hn_n_17.2.2]; exact hv_4
              replace hv_5 : v_5 < nhN U_n_17 := by rw [hn_n_17.1]; exact hv_5
              refine lv_pop hx hb dX10_loadTruck_115 rfl ?_
              refine lv_iinc (v := nI (j + 1)) (lv' := [(3, .int (nI (j + 1))), (2, .int (0)), (4, .ref (b 9 v_4)), (0, .ref (b 14 0)), (1, .ref (b 8 l0))]) hx hb dX10_loadTruck_116 hl (k := 2) rfl (by rw [← nI_1]; rfl) (by decide) rfl (fun ls hl => ?_)
              refine lv_goto (tgt := 9) hx hb dX10_loadTruck_119 (by decide) ?_
              exact ih (j + 1) U_n_17 0 _ _ b (by rw [hU_n_17]; omega) (by rw [← hT]; simp only [cLtL]; rw [hst, hU_n_17]) ⟨hn_n_17.2.2.trans (hn_n_14.2.2.trans hnU.1), hn_n_17.2.1.trans (hn_n_14.2.1.trans hnU.2)⟩ (by rw [hU_n_17]; omega) (by rw [hU_n_17]; omega) hgu_n_17 (by omega) (by omega) hbe _ _ _ hH hR hw ls (lv_sub hl [0, 1, 3, 4] rfl)
            · refine lv_aload_n hx hb dX10_loadTruck_85 rfl (lv_at hl 3 rfl) ?_
              refine lv_aload hx hb dX10_loadTruck_86 (lv_at hl 1 rfl) ?_
              refine lv_aload_n hx hb dX10_loadTruck_88 rfl (lv_at hl 4 rfl) ?_
              have hA0_n_18 : LG U_n_14 U_n_14 := (LG.refl U_n_14)
              have hA_n_18 := hA0_n_18 hlw_n_14
              have h1_n_18 := hA_n_18.2.1.le
              have hB0_n_18 : LG U_n_14 (cLoad U_n_14 v_4 l0) := (LG.load hv_4)
              have hB_n_18 := hB0_n_18 hA_n_18.1
              have hst : cLt1 l0 j e0 U = (0, (cLoad U_n_14 v_4 l0)) := by unfold cLt1; rw [kv_4, kv_5, if_neg (Int32.not_lt.mpr c50_6), show (if ¬ e0 = 0 then up U 8 l0 0 else U) = up U 8 l0 0 from if_pos c57_7, if_pos c82_16, hU_n_14]
              have hq1 : LG U (cLoad U_n_14 v_4 l0) ∧ QuV (cLoad U_n_14 v_4 l0) ∧ szN (cLoad U_n_14 v_4 l0) 3 = szN U 3 ∧ szN (cLoad U_n_14 v_4 l0) 4 ≤ szN U 4 + 1 := by have h9 := cLt1_q (l := l0) (e := e0) (u := U) (fun k9 h9 => hwU.qu h9) hwU.np (k := j) (by omega) (by omega); rw [hst] at h9; exact h9
              have hq2 := hq1.1 hlU
              have hq3 := hq1.2.2.1
              have hq4 := hq1.2.2.2
              have hC0_n_18 : LG (cLoad U_n_14 v_4 l0) (cLt u l0) := (by rw [show cLt u l0 = cLtL l0 k (j + 1) 0 (cLoad U_n_14 v_4 l0) from by rw [← hT]; simp only [cLtL]; rw [hst]]; exact (cLtL_q l0 k (j + 1) 0 hq1.2.1 (by rw [hq2.2.2.2.2]; exact hwU.np) hq2.1 (by omega) (by omega)).1)
              have hC_n_18 := hC0_n_18 hB_n_18.1
              have h2_n_18 := hB_n_18.2.1.le
              have h3_n_18 := hC_n_18.2.1.le
              refine k_v hH (k_runV (rest := []) C0 hH (cC_X10_load l G A _ b _ hR hw v_4 l0 hv_4 hl0) mv_X10_load ml_X10_420 ci_14 (hR.kind (K := 14) (i := 0) rfl) rfl ⟨Nat.le_of_ble_eq_true rfl, Nat.le_of_ble_eq_true rfl⟩ hl.1 rfl (Nat.le_of_ble_eq_true rfl) dX10_loadTruck_89 ⟨by show _ ≤ UC (cLt u l0) - UC u; omega, by show _ ≤ US (cLt u l0) - US u; omega⟩) (fun h H locs hp hH => ?_)
              obtain ⟨b, hbx, hR, hw⟩ := hp
              rw [← hbx 9 v_4 (by decide) hv_4, ← hbx 14 0 (by decide) rfl, ← hbx 8 l0 (by decide) hl0] at hl
              replace hbe := hbe.trans (hgu_n_14.trans hA_n_18.2.1) hbx
              have hgu_n_18 := (hgu_n_14.trans hA_n_18.2.1).trans hB_n_18.2.1
              have hlw_n_18 := hB_n_18.1
              obtain ⟨U_n_18, hU_n_18⟩ : ∃ z, z = (cLoad U_n_14 v_4 l0) := ⟨_, rfl⟩
              rw [← hU_n_18] at hR hw hgu_n_18 hlw_n_18
              have hE_n_18 : UC U_n_18 = UC (cLoad U_n_14 v_4 l0) ∧ US U_n_18 = US (cLoad U_n_14 v_4 l0) := by rw [hU_n_18]; exact ⟨rfl, rfl⟩
              have hn_n_18 : nhN U_n_18 = nhN U_n_14 ∧ nlN U_n_18 = nlN U_n_14 ∧ npN U_n_18 = npN U_n_14 := by rw [hU_n_18]; exact ⟨hB_n_18.2.2.1.trans hA_n_18.2.2.1, hB_n_18.2.2.2.1.trans hA_n_18.2.2.2.1, hB_n_18.2.2.2.2.trans hA_n_18.2.2.2.2⟩
              have hc7 := hw.cnt6 7
              have hc8 := hw.cnt6 8
              have hc9 := hw.cnt6 9
              replace hl0 : l0 < nlN U_n_18 := by rw [hn_n_18.2.1]; exact hl0
              replace hv_4 : v_4 < npN U_n_18 := by rw [hn_n_18.2.2]; exact hv_4
              replace hv_5 : v_5 < nhN U_n_18 := by rw [hn_n_18.1]; exact hv_5
              refine lv_goto (tgt := 116) hx hb dX10_loadTruck_92 (by decide) ?_
              refine lv_iinc (v := nI (j + 1)) (lv' := [(3, .int (nI (j + 1))), (2, .int (0)), (4, .ref (b 9 v_4)), (0, .ref (b 14 0)), (1, .ref (b 8 l0))]) hx hb dX10_loadTruck_116 hl (k := 2) rfl (by rw [← nI_1]; rfl) (by decide) rfl (fun ls hl => ?_)
              refine lv_goto (tgt := 9) hx hb dX10_loadTruck_119 (by decide) ?_
              exact ih (j + 1) U_n_18 0 _ _ b (by rw [hU_n_18]; omega) (by rw [← hT]; simp only [cLtL]; rw [hst, hU_n_18]) ⟨hn_n_18.2.2.trans (hn_n_14.2.2.trans hnU.1), hn_n_18.2.1.trans (hn_n_14.2.1.trans hnU.2)⟩ (by rw [hU_n_18]; omega) (by rw [hU_n_18]; omega) hgu_n_18 (by omega) (by omega) hbe _ _ _ hH hR hw ls (lv_sub hl [0, 1, 3, 4] rfl)
        · refine lv_goto (tgt := 116) hx hb dX10_loadTruck_53 (by decide) ?_
          refine lv_iinc (v := nI (j + 1)) (lv' := [(3, .int (nI (j + 1))), (4, .ref (b 9 v_4)), (2, .int (e0)), (0, .ref (b 14 0)), (1, .ref (b 8 l0))]) hx hb dX10_loadTruck_116 hl (k := 1) rfl (by rw [← nI_1]; rfl) (by decide) rfl (fun ls hl => ?_)
          refine lv_goto (tgt := 9) hx hb dX10_loadTruck_119 (by decide) ?_
          exact ih (j + 1) U e0 _ _ b (by omega) (by rw [← hT]; simp only [cLtL]; rw [show cLt1 l0 j e0 U = (e0, U) from by unfold cLt1; rw [kv_4, kv_5, if_pos (Int32.not_le.mp c50_6)]]) hnU hs3 (by omega) hgU hcc hss hbe _ _ _ hH hR hw ls (lv_sub hl [0, 2, 3, 4] rfl)
  have hq3 : szN U_n_1 3 ≤ 40 := by rw [hU_n_1]; omega
  have hq4 : szN U_n_1 4 + 40 ≤ 1000 := by rw [hU_n_1]; omega
  exact K (szN U_n_1 3) 0 U_n_1 1 _ _ b (by omega) (by rw [hU_n_1]; rfl) ⟨hn_n_1.2.2, hn_n_1.2.1⟩ hq3 (by omega) hgu_n_1 (by omega) (by omega) hbe _ _ _ hH hR hw ls (lv_sub hl [0, 1, 2, 3] rfl)

