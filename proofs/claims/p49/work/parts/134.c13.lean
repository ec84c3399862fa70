theorem nI_m1 (n : Nat) : nI (n + 1) + (-1) = nI n := by
  have e := nI_pred n
  rw [Int32.sub_eq_add_neg] at e
  exact e
set_option maxHeartbeats 800000 in
set_option maxRecDepth 100000 in
theorem cC_X10_queueUp (l : Launch) (G : GT) (A : Nat → Prop) (h : AH) (b0 : BA) (u : MM) (hR : RC G.2.2.1 h b0 u) (hw : WFc u) (l0 : Nat) (hl0 : l0 < nlN u) : cmV l G A yX10_queueUp cX10_queueUp 5 6 171 (UC (cQu u (nI l0)) - UC u) (US (cQu u (nI l0)) - US u) [.ref (b0 14 0), .ref (b0 8 l0)] h (fun h' => ∃ b', BE u b0 b' ∧ RC G.2.2.1 h' b' (cQu u (nI l0)) ∧ WFc (cQu u (nI l0))) := by
  refine cm_of "Routepost" rfl (by decide) (Nat.le_of_ble_eq_true rfl) ?_
  intro pr e s m9 below meth c C0 hr hname hH ls hl
  obtain ⟨hx, hb, hml, hown, hts, hK, hA, -⟩ := id C0
  have hl : lv_has ls 5 [(0, .ref (b0 14 0)), (1, .ref (b0 8 l0))] := hl
  obtain ⟨b, hb0⟩ : ∃ z, z = b0 := ⟨_, rfl⟩
  rw [← hb0] at hR hl
  have hbe : BE u b0 b := by rw [hb0]; exact BE.refl u b0
  have hc7 := hw.cnt6 7
  have hc8 := hw.cnt6 8
  have hc9 := hw.cnt6 9
  have hM9 := cQu_ok hw (nI l0)
  have hM8 := hM9.2.1.le
  have hl00 := hl0
  have hnp0 := hw.np
  refine lv_aload_n hx hb dX10_queueUp_0 rfl (lv_at hl 0 rfl) ?_
  refine c_getR C0 hH hR ci_14 (i := 0) (j := 3) rfl rfl (by decide) rfl fl_X10_22 (v := some (b 3 3)) rfl dX10_queueUp_1 ?_
  refine k_v hH (k_runV (rest := []) C0 hH (cL_clear l G A _ b _ hR hw 3 (Or.inl rfl)) mv_Jx4a65c_clear_da8c8 ml_X10_401 ci_3 (hR.kind (K := 3) (i := 3) (show 3 < 6 + npN _ by omega)) rfl ⟨Nat.le_of_ble_eq_true rfl, Nat.le_of_ble_eq_true rfl⟩ hl.1 rfl (Nat.le_of_ble_eq_true rfl) dX10_queueUp_4 ⟨by show _ ≤ UC (cQu u (nI l0)) - UC u; omega, by show _ ≤ US (cQu u (nI l0)) - US u; omega⟩) (fun h H locs hp hH => ?_)
  replace hR := hR.lclear (show 3 < 6 + npN _ by omega) hp
  replace hw := hw.clr (q := 3) (Or.inl rfl)
  refine lv_iconst (v := 0) hx hb dX10_queueUp_7 (by decide) ?_
  refine lv_istore_n (lv' := [(2, .int (0)), (0, .ref (b 14 0)), (1, .ref (b 8 l0))]) hx hb dX10_queueUp_8 rfl hl (by decide) rfl (fun ls hl => ?_)
  have K : ∀ (k : Nat) (p : Nat) (U : MM) (cc : Nat) (ss : Nat) (b : BA), p + k = npN u → cQuL (nI l0) k p U = cQu u (nI l0) → npN U = npN u ∧ nlN U = nlN u → szN U 3 ≤ p → Gw u U → cc ≤ UC U - UC u → ss ≤ US U - US u → BE u b0 b → ∀ (h : AH) (H : Heap) (locs : List Loc) (hH : HS G.1 G.2.1 A s.heap h H locs) (hR : RC G.2.2.1 h b U) (hw : WFc U) (ls : Array Slot), lv_has ls 5 [(2, .int (nI p)), (0, .ref (b 14 0)), (1, .ref (b 8 l0))] → W pr l e (rmm 6 171 (UC (cQu u (nI l0)) - UC u) (US (cQu u (nI l0)) - US u)) s m9 ([.ref (b0 14 0), .ref (b0 8 l0)] : List Value).toArray below meth c H locs cc ss (QV below G A (fun h' => ∃ b', BE u b0 b' ∧ RC G.2.2.1 h' b' (cQu u (nI l0)) ∧ WFc (cQu u (nI l0))) ([.ref (b0 14 0), .ref (b0 8 l0)] : List Value).toArray s (UC (cQu u (nI l0)) - UC u) (US (cQu u (nI l0)) - US u)) (F0 m9 9 ls []) := by
    intro k
    induction k with
    | zero =>
      intro p U cc ss b hik hT hnU hsz hgU hcc hss hbe h H locs hH hR hw ls hl
      have hc7 := hw.cnt6 7
      have hc8 := hw.cnt6 8
      have hc9 := hw.cnt6 9
      have hl0 : l0 < nlN U := by rw [hnU.2]; exact hl00
      have hQa := (cQuL_ok (nI l0) _ p U hw (by rw [hnU.1]; exact hik) hsz).2.1.le
      rw [hT] at hQa
      have hQb := hgU.le
      refine lv_iload_n hx hb dX10_queueUp_9 rfl (lv_at hl 0 rfl) ?_
      refine lv_aload_n hx hb dX10_queueUp_10 rfl (lv_at hl 1 rfl) ?_
      refine c_getR C0 hH hR ci_14 (i := 0) (j := 2) rfl rfl (by decide) rfl fl_X10_19 (v := some (b 3 2)) rfl dX10_queueUp_11 ?_
      refine k_i hH (k_runV (rest := [.int (nI p)]) C0 hH (cL_size l G A _ b _ hR hw 2 (show 2 < 6 + npN _ by omega)) mv_Jx4a65c_size_8abf5 ml_X10_79 ci_3 (hR.kind (K := 3) (i := 2) (show 2 < 6 + npN _ by omega)) rfl ⟨Nat.le_of_ble_eq_true rfl, Nat.le_of_ble_eq_true rfl⟩ hl.1 rfl (Nat.le_of_ble_eq_true rfl) dX10_queueUp_14 ⟨by show _ ≤ UC (cQu u (nI l0)) - UC u; omega, by show _ ≤ US (cQu u (nI l0)) - US u; omega⟩) (fun r9 h1 H locs hp hH => ?_)
      obtain ⟨er9, eh⟩ := hp
      rw [eh] at hH
      clear eh
      rw [hw.sz2] at er9
      subst er9
      refine lv_icmp_ge (tgt := 97) hx hb dX10_queueUp_17 (by decide) (fun c17_1 => ?_) (fun c17_1 => ?_)
      · have eM : (cQu u (nI l0)) = U := hT.symm
        exact e_V C0 hr hH ⟨b, hbe, by rw [eM]; exact ⟨hR, hw⟩⟩ (by rw [eM]; omega) (by rw [eM]; omega) dX10_queueUp_97
      · exact absurd (by rw [hnU.1, show p = npN u by omega]; exact Int32.le_refl _) c17_1
    | succ k ih =>
      intro p U cc ss b hik hT hnU hsz hgU hcc hss hbe h H locs hH hR hw ls hl
      have hc7 := hw.cnt6 7
      have hc8 := hw.cnt6 8
      have hc9 := hw.cnt6 9
      have hl0 : l0 < nlN U := by rw [hnU.2]; exact hl00
      have hQa := (cQuL_ok (nI l0) _ p U hw (by rw [hnU.1]; exact hik) hsz).2.1.le
      rw [hT] at hQa
      have hQb := hgU.le
      refine lv_iload_n hx hb dX10_queueUp_9 rfl (lv_at hl 0 rfl) ?_
      refine lv_aload_n hx hb dX10_queueUp_10 rfl (lv_at hl 1 rfl) ?_
      refine c_getR C0 hH hR ci_14 (i := 0) (j := 2) rfl rfl (by decide) rfl fl_X10_19 (v := some (b 3 2)) rfl dX10_queueUp_11 ?_
      refine k_i hH (k_runV (rest := [.int (nI p)]) C0 hH (cL_size l G A _ b _ hR hw 2 (show 2 < 6 + npN _ by omega)) mv_Jx4a65c_size_8abf5 ml_X10_79 ci_3 (hR.kind (K := 3) (i := 2) (show 2 < 6 + npN _ by omega)) rfl ⟨Nat.le_of_ble_eq_true rfl, Nat.le_of_ble_eq_true rfl⟩ hl.1 rfl (Nat.le_of_ble_eq_true rfl) dX10_queueUp_14 ⟨by show _ ≤ UC (cQu u (nI l0)) - UC u; omega, by show _ ≤ US (cQu u (nI l0)) - US u; omega⟩) (fun r9 h1 H locs hp hH => ?_)
      obtain ⟨er9, eh⟩ := hp
      rw [eh] at hH
      clear eh
      rw [hw.sz2] at er9
      subst er9
      refine lv_icmp_ge (tgt := 97) hx hb dX10_queueUp_17 (by decide) (fun c17_2 => ?_) (fun c17_2 => ?_)
      · exact absurd c17_2 (nI_ge (show p < npN U by omega) (by omega))
      · refine lv_aload_n hx hb dX10_queueUp_20 rfl (lv_at hl 1 rfl) ?_
        refine c_getR C0 hH hR ci_14 (i := 0) (j := 2) rfl rfl (by decide) rfl fl_X10_19 (v := some (b 3 2)) rfl dX10_queueUp_21 ?_
        refine lv_iload_n hx hb dX10_queueUp_24 rfl (lv_at hl 0 rfl) ?_
        refine k_q hH (k_runV (rest := []) C0 hH (cL_get l G A _ b _ hR hw 2 p (show 2 < 6 + npN _ by omega) (by rw [hw.sz2]; omega) (a := b 9 p) rfl) mv_Jx4a65c_get_915e3 ml_X10_143 ci_3 (hR.kind (K := 3) (i := 2) (show 2 < 6 + npN _ by omega)) rfl ⟨Nat.le_of_ble_eq_true rfl, Nat.le_of_ble_eq_true rfl⟩ hl.1 rfl (Nat.le_of_ble_eq_true rfl) dX10_queueUp_25 ⟨by show _ ≤ UC (cQu u (nI l0)) - UC u; omega, by show _ ≤ US (cQu u (nI l0)) - US u; omega⟩) (fun r9 h1 H locs hp hH => ?_)
        obtain ⟨er9, eh⟩ := hp
        rw [eh] at hH
        clear eh
        subst er9
        refine k_chk C0 hH ci_9 (hR.kind (K := 9) (i := p) (show p < npN U by omega)) cl_X10_162 dX10_queueUp_28 ?_
        refine lv_astore_n (lv' := [(3, .ref (b 9 p)), (2, .int (nI p)), (0, .ref (b 14 0)), (1, .ref (b 8 l0))]) hx hb dX10_queueUp_31 rfl hl (by decide) rfl (fun ls hl => ?_)
        refine lv_aload_n hx hb dX10_queueUp_32 rfl (lv_at hl 0 rfl) ?_
        refine lv_aload_n hx hb dX10_queueUp_33 rfl (lv_at hl 3 rfl) ?_
        refine k_i hH (k_runV (rest := []) C0 hH (cC_X5_waitsFor l G A _ b _ hR hw p l0 (show p < npN U by omega) hl0) mv_X5_waitsFor ml_X10_427 ci_9 (hR.kind (K := 9) (i := p) (show p < npN U by omega)) rfl ⟨Nat.le_of_ble_eq_true rfl, Nat.le_of_ble_eq_true rfl⟩ hl.1 rfl (Nat.le_of_ble_eq_true rfl) dX10_queueUp_34 ⟨by show _ ≤ UC (cQu u (nI l0)) - UC u; omega, by show _ ≤ US (cQu u (nI l0)) - US u; omega⟩) (fun r_3 h1 H locs hp hH => ?_)
        obtain ⟨er_3, eh⟩ := hp
        rw [eh] at hH
        clear eh
        subst er_3
        refine lv_if_eq (tgt := 91) hx hb dX10_queueUp_37 (by decide) (fun c37_4 => ?_) (fun c37_4 => ?_)
        · refine lv_iinc (v := nI (p + 1)) (lv' := [(2, .int (nI (p + 1))), (3, .ref (b 9 p)), (0, .ref (b 14 0)), (1, .ref (b 8 l0))]) hx hb dX10_queueUp_91 hl (k := 1) rfl (by rw [← nI_1]; rfl) (by decide) rfl (fun ls hl => ?_)
          refine lv_goto (tgt := 9) hx hb dX10_queueUp_94 (by decide) ?_
          exact ih (p + 1) U _ _ b (by omega) (by rw [← hT]; simp only [cQuL, cQu1]; rw [if_neg (fun z => z c37_4)]) hnU (by omega) hgU (by omega) (by omega) hbe _ _ _ hH hR hw ls (lv_sub hl [0, 2, 3] rfl)
        · have hwf9 := c37_4
          refine lv_aload_n hx hb dX10_queueUp_40 rfl (lv_at hl 2 rfl) ?_
          refine c_getR C0 hH hR ci_14 (i := 0) (j := 3) rfl rfl (by decide) rfl fl_X10_22 (v := some (b 3 3)) rfl dX10_queueUp_41 ?_
          refine k_i hH (k_runV (rest := []) C0 hH (cL_size l G A _ b _ hR hw 3 (show 3 < 6 + npN _ by omega)) mv_Jx4a65c_size_8abf5 ml_X10_79 ci_3 (hR.kind (K := 3) (i := 3) (show 3 < 6 + npN _ by omega)) rfl ⟨Nat.le_of_ble_eq_true rfl, Nat.le_of_ble_eq_true rfl⟩ hl.1 rfl (Nat.le_of_ble_eq_true rfl) dX10_queueUp_44 ⟨by show _ ≤ UC (cQu u (nI l0)) - UC u; omega, by show _ ≤ US (cQu u (nI l0)) - US u; omega⟩) (fun r9 h1 H locs hp hH => ?_)
          obtain ⟨er9, eh⟩ := hp
          rw [eh] at hH
          clear eh
          subst er9
          refine lv_istore (lv' := [(4, .int (nI (szN U 3))), (3, .ref (b 9 p)), (2, .int (nI p)), (0, .ref (b 14 0)), (1, .ref (b 8 l0))]) hx hb dX10_queueUp_47 hl (by decide) rfl (fun ls hl => ?_)
          have K2 : ∀ (k2 : Nat) (c2 : Nat) (s2 : Nat), cPlc U p k2 = cPlc U p (szN U 3) → k2 ≤ szN U 3 → c2 ≤ cc → s2 ≤ ss → ∀ (H : Heap) (locs : List Loc) (hH : HS G.1 G.2.1 A s.heap h H locs) (ls : Array Slot), lv_has ls 5 [(4, .int (nI k2)), (3, .ref (b 9 p)), (2, .int (nI p)), (0, .ref (b 14 0)), (1, .ref (b 8 l0))] → W pr l e (rmm 6 171 (UC (cQu u (nI l0)) - UC u) (US (cQu u (nI l0)) - US u)) s m9 ([.ref (b0 14 0), .ref (b0 8 l0)] : List Value).toArray below meth c H locs c2 s2 (QV below G A (fun h' => ∃ b', BE u b0 b' ∧ RC G.2.2.1 h' b' (cQu u (nI l0)) ∧ WFc (cQu u (nI l0))) ([.ref (b0 14 0), .ref (b0 8 l0)] : List Value).toArray s (UC (cQu u (nI l0)) - UC u) (US (cQu u (nI l0)) - US u)) (F0 m9 49 ls []) := by
            intro k2
            induction k2 with
            | zero =>
              intro c2 s2 hT2 hk2 hc2 hs2 H locs hH ls hl
              refine lv_iload hx hb dX10_queueUp_49 (lv_at hl 0 rfl) ?_
              refine lv_if_le (tgt := 81) hx hb dX10_queueUp_51 (by decide) (fun c51_5 => ?_) (fun c51_5 => ?_)
              · refine lv_aload_n hx hb dX10_queueUp_81 rfl (lv_at hl 3 rfl) ?_
                refine c_getR C0 hH hR ci_14 (i := 0) (j := 3) rfl rfl (by decide) rfl fl_X10_22 (v := some (b 3 3)) rfl dX10_queueUp_82 ?_
                refine lv_iload hx hb dX10_queueUp_85 (lv_at hl 0 rfl) ?_
                refine lv_aload_n hx hb dX10_queueUp_87 rfl (lv_at hl 1 rfl) ?_
                have hrm := cLq_room (i := 0) (x := nI p) hw (Or.inl ⟨rfl, rfl⟩ : 3 = 3 ∧ 36 = 36 ∨ 3 = 4 ∧ 36 = 176) (show szN U 3 < 1000 by omega)
                have hpl : cPlc U p (szN U 3) = 0 := by rw [← hT2]; rfl
                have hQ1 : cQu1 U (nI l0) p = cLq U 3 36 0 (nI p) := by unfold cQu1; rw [if_pos hwf9, hpl]
                obtain ⟨-, hg1, hs9, hn1⟩ := cQu1_ok hw (nI l0) (p := p) (by omega) hsz
                rw [hQ1] at hg1 hs9 hn1
                have hT9 : cQuL (nI l0) k (p + 1) (cLq U 3 36 0 (nI p)) = cQu u (nI l0) := by rw [← hQ1]; exact hT
                have hg9 := hgU.trans hg1
                have hl9 := hg9.le
                have hl8 := hg1.le
                have hl7 := hgU.le
                have hQ9 := cQuL_ok (nI l0) k (p + 1) _ (hw.addQ (Or.inl ⟨rfl, rfl⟩ : 3 = 3 ∧ 36 = 36 ∨ 3 = 4 ∧ 36 = 176) (show szN U 3 < 1000 by omega) (show 0 ≤ szN U 3 by omega) (vp_in_nI (show p < npN U by omega) (by omega))) (by rw [hn1]; omega) hs9
                rw [hT9] at hQ9
                have hQ8 := hQ9.2.1.le
                have hn9 : npN (cLq U 3 36 0 (nI p)) = npN u ∧ nlN (cLq U 3 36 0 (nI p)) = nlN u := ⟨hn1.trans hnU.1, (nlN_ext (cLq_k (by omega) (by omega) (by omega))).trans hnU.2⟩
                obtain ⟨U9, hU9⟩ : ∃ z, z = cLq U 3 36 0 (nI p) := ⟨_, rfl⟩
                refine k_v hH (k_runV (rest := []) C0 hH (cL_addQ l G A _ b _ hR hw 0 p (show p < npN U by omega) (show 0 ≤ szN U 3 by omega)) mv_Jx4a65c_add_7a177 ml_X10_438 ci_3 (hR.kind (K := 3) (i := 3) (show 3 < 6 + npN _ by omega)) rfl ⟨Nat.le_of_ble_eq_true rfl, Nat.le_of_ble_eq_true rfl⟩ hl.1 rfl (Nat.le_of_ble_eq_true rfl) dX10_queueUp_88 ⟨by show _ ≤ UC (cQu u (nI l0)) - UC u; omega, by show _ ≤ US (cQu u (nI l0)) - US u; omega⟩) (fun h H locs hp hH => ?_)
                obtain ⟨b, hbx, hR⟩ := hR.addQ hw (Or.inl ⟨rfl, rfl⟩) (show 0 ≤ szN U 3 by omega) (show p < npN U by omega) hp
                rw [← hbx 9 p (by decide) (show p < npN U by omega), ← hbx 14 0 (by decide) rfl, ← hbx 8 l0 (by decide) hl0] at hl
                replace hbe := hbe.trans hgU hbx
                replace hw := hw.addQ (Or.inl ⟨rfl, rfl⟩) (show szN U 3 < 1000 by omega) (show 0 ≤ szN U 3 by omega) (vp_in_nI (show p < npN U by omega) (by omega))
                refine lv_iinc (v := nI (p + 1)) (lv' := [(2, .int (nI (p + 1))), (4, .int (nI 0)), (3, .ref (b 9 p)), (0, .ref (b 14 0)), (1, .ref (b 8 l0))]) hx hb dX10_queueUp_91 hl (k := 2) rfl (by rw [← nI_1]; rfl) (by decide) rfl (fun ls hl => ?_)
                refine lv_goto (tgt := 9) hx hb dX10_queueUp_94 (by decide) ?_
                rw [← hU9] at hR hw
                exact ih (p + 1) U9 _ _ b (by omega) (by rw [hU9]; exact hT9) (by rw [hU9]; exact hn9) (by rw [hU9]; exact hs9) (by rw [hU9]; exact hg9) (by rw [hU9]; omega) (by rw [hU9]; omega) hbe _ _ _ hH hR hw ls (lv_sub hl [0, 3, 4] rfl)
              · exact absurd (by decide) c51_5
            | succ k2 ih2 =>
              intro c2 s2 hT2 hk2 hc2 hs2 H locs hH ls hl
              refine lv_iload hx hb dX10_queueUp_49 (lv_at hl 0 rfl) ?_
              refine lv_if_le (tgt := 81) hx hb dX10_queueUp_51 (by decide) (fun c51_6 => ?_) (fun c51_6 => ?_)
              · exact absurd ((nI_pos0 (by omega)).mp c51_6) (by omega)
              · refine lv_aload_n hx hb dX10_queueUp_54 rfl (lv_at hl 1 rfl) ?_
                refine lv_aload_n hx hb dX10_queueUp_55 rfl (lv_at hl 3 rfl) ?_
                refine c_getR C0 hH hR ci_14 (i := 0) (j := 3) rfl rfl (by decide) rfl fl_X10_22 (v := some (b 3 3)) rfl dX10_queueUp_56 ?_
                refine lv_iload hx hb dX10_queueUp_59 (lv_at hl 0 rfl) ?_
                refine lv_iconst (v := 1) hx hb dX10_queueUp_61 (by decide) ?_
                refine lv_isub hx hb dX10_queueUp_62 ?_
                refine lv_topi (fun x9 ex9 => ?_)
                replace ex9 : x9 = nI k2 := ex9.trans (by rw [nI_pred])
                subst ex9
                obtain ⟨v_7, hv_7, ev_7⟩ := hw.exP (show vp_in (U 36 k2) _ from hw.qu (show k2 < szN U 3 by omega))
                have kv_7 : (U 36 k2).toNatClampNeg = v_7 := by rw [ev_7]; exact nI_clamp (by have := hw.nh; have := hw.np; omega)
                refine k_q hH (k_runV (rest := [.ref (b 9 p)]) C0 hH (cL_get l G A _ b _ hR hw 3 k2 (show 3 < 6 + npN _ by omega) (show k2 < szN U 3 by omega) (a := b 9 v_7) (show b 9 (U 36 k2).toNatClampNeg = b 9 v_7 from by rw [ev_7, nI_clamp (by have := hw.np; omega)])) mv_Jx4a65c_get_915e3 ml_X10_143 ci_3 (hR.kind (K := 3) (i := 3) (show 3 < 6 + npN _ by omega)) rfl ⟨Nat.le_of_ble_eq_true rfl, Nat.le_of_ble_eq_true rfl⟩ hl.1 rfl (Nat.le_of_ble_eq_true rfl) dX10_queueUp_63 ⟨by show _ ≤ UC (cQu u (nI l0)) - UC u; omega, by show _ ≤ US (cQu u (nI l0)) - US u; omega⟩) (fun r9 h1 H locs hp hH => ?_)
                obtain ⟨er9, eh⟩ := hp
                rw [eh] at hH
                clear eh
                subst er9
                refine k_chk C0 hH ci_9 (hR.kind (K := 9) (i := v_7) hv_7) cl_X10_162 dX10_queueUp_66 ?_
                refine k_i hH (k_runV (rest := []) C0 hH (cC_X5_loadsBefore l G A _ b _ hR hw p v_7 (show p < npN U by omega) hv_7) mv_X5_loadsBefore ml_X10_434 ci_9 (hR.kind (K := 9) (i := p) (show p < npN U by omega)) rfl ⟨Nat.le_of_ble_eq_true rfl, Nat.le_of_ble_eq_true rfl⟩ hl.1 rfl (Nat.le_of_ble_eq_true rfl) dX10_queueUp_69 ⟨by show _ ≤ UC (cQu u (nI l0)) - UC u; omega, by show _ ≤ US (cQu u (nI l0)) - US u; omega⟩) (fun r_8 h1 H locs hp hH => ?_)
                obtain ⟨er_8, eh⟩ := hp
                rw [eh] at hH
                clear eh
                subst er_8
                refine lv_if_eq (tgt := 81) hx hb dX10_queueUp_72 (by decide) (fun c72_9 => ?_) (fun c72_9 => ?_)
                · refine lv_aload_n hx hb dX10_queueUp_81 rfl (lv_at hl 3 rfl) ?_
                  refine c_getR C0 hH hR ci_14 (i := 0) (j := 3) rfl rfl (by decide) rfl fl_X10_22 (v := some (b 3 3)) rfl dX10_queueUp_82 ?_
                  refine lv_iload hx hb dX10_queueUp_85 (lv_at hl 0 rfl) ?_
                  refine lv_aload_n hx hb dX10_queueUp_87 rfl (lv_at hl 1 rfl) ?_
                  have hrm := cLq_room (i := (k2 + 1)) (x := nI p) hw (Or.inl ⟨rfl, rfl⟩ : 3 = 3 ∧ 36 = 36 ∨ 3 = 4 ∧ 36 = 176) (show szN U 3 < 1000 by omega)
                  have hpl : cPlc U p (szN U 3) = (k2 + 1) := by rw [← hT2]; exact if_neg (by rw [kv_7]; exact fun z => z c72_9)
                  have hQ1 : cQu1 U (nI l0) p = cLq U 3 36 (k2 + 1) (nI p) := by unfold cQu1; rw [if_pos hwf9, hpl]
                  obtain ⟨-, hg1, hs9, hn1⟩ := cQu1_ok hw (nI l0) (p := p) (by omega) hsz
                  rw [hQ1] at hg1 hs9 hn1
                  have hT9 : cQuL (nI l0) k (p + 1) (cLq U 3 36 (k2 + 1) (nI p)) = cQu u (nI l0) := by rw [← hQ1]; exact hT
                  have hg9 := hgU.trans hg1
                  have hl9 := hg9.le
                  have hl8 := hg1.le
                  have hl7 := hgU.le
                  have hQ9 := cQuL_ok (nI l0) k (p + 1) _ (hw.addQ (Or.inl ⟨rfl, rfl⟩ : 3 = 3 ∧ 36 = 36 ∨ 3 = 4 ∧ 36 = 176) (show szN U 3 < 1000 by omega) (show (k2 + 1) ≤ szN U 3 by omega) (vp_in_nI (show p < npN U by omega) (by omega))) (by rw [hn1]; omega) hs9
                  rw [hT9] at hQ9
                  have hQ8 := hQ9.2.1.le
                  have hn9 : npN (cLq U 3 36 (k2 + 1) (nI p)) = npN u ∧ nlN (cLq U 3 36 (k2 + 1) (nI p)) = nlN u := ⟨hn1.trans hnU.1, (nlN_ext (cLq_k (by omega) (by omega) (by omega))).trans hnU.2⟩
                  obtain ⟨U9, hU9⟩ : ∃ z, z = cLq U 3 36 (k2 + 1) (nI p) := ⟨_, rfl⟩
                  refine k_v hH (k_runV (rest := []) C0 hH (cL_addQ l G A _ b _ hR hw (k2 + 1) p (show p < npN U by omega) (show (k2 + 1) ≤ szN U 3 by omega)) mv_Jx4a65c_add_7a177 ml_X10_438 ci_3 (hR.kind (K := 3) (i := 3) (show 3 < 6 + npN _ by omega)) rfl ⟨Nat.le_of_ble_eq_true rfl, Nat.le_of_ble_eq_true rfl⟩ hl.1 rfl (Nat.le_of_ble_eq_true rfl) dX10_queueUp_88 ⟨by show _ ≤ UC (cQu u (nI l0)) - UC u; omega, by show _ ≤ US (cQu u (nI l0)) - US u; omega⟩) (fun h H locs hp hH => ?_)
                  obtain ⟨b, hbx, hR⟩ := hR.addQ hw (Or.inl ⟨rfl, rfl⟩) (show (k2 + 1) ≤ szN U 3 by omega) (show p < npN U by omega) hp
                  rw [← hbx 9 p (by decide) (show p < npN U by omega), ← hbx 14 0 (by decide) rfl, ← hbx 8 l0 (by decide) hl0] at hl
                  replace hbe := hbe.trans hgU hbx
                  replace hw := hw.addQ (Or.inl ⟨rfl, rfl⟩) (show szN U 3 < 1000 by omega) (show (k2 + 1) ≤ szN U 3 by omega) (vp_in_nI (show p < npN U by omega) (by omega))
                  refine lv_iinc (v := nI (p + 1)) (lv' := [(2, .int (nI (p + 1))), (4, .int (nI (k2 + 1))), (3, .ref (b 9 p)), (0, .ref (b 14 0)), (1, .ref (b 8 l0))]) hx hb dX10_queueUp_91 hl (k := 2) rfl (by rw [← nI_1]; rfl) (by decide) rfl (fun ls hl => ?_)
                  refine lv_goto (tgt := 9) hx hb dX10_queueUp_94 (by decide) ?_
                  rw [← hU9] at hR hw
                  exact ih (p + 1) U9 _ _ b (by omega) (by rw [hU9]; exact hT9) (by rw [hU9]; exact hn9) (by rw [hU9]; exact hs9) (by rw [hU9]; exact hg9) (by rw [hU9]; omega) (by rw [hU9]; omega) hbe _ _ _ hH hR hw ls (lv_sub hl [0, 3, 4] rfl)
                · refine lv_iinc (v := nI k2) (lv' := [(4, .int (nI k2)), (3, .ref (b 9 p)), (2, .int (nI p)), (0, .ref (b 14 0)), (1, .ref (b 8 l0))]) hx hb dX10_queueUp_75 hl (k := 0) rfl (nI_m1 k2) (by decide) rfl (fun ls hl => ?_)
                  refine lv_goto (tgt := 49) hx hb dX10_queueUp_78 (by decide) ?_
                  exact ih2 c2 s2 (by rw [← hT2]; exact (if_pos (show ¬ cLb U p (U 36 k2).toNatClampNeg = 0 from by rw [kv_7]; exact c72_9)).symm) (by omega) hc2 hs2 _ _ hH ls (lv_sub hl [0, 1, 2, 3, 4] rfl)
          exact K2 (szN U 3) _ _ rfl (Nat.le_refl _) (by omega) (by omega) _ _ hH ls (lv_sub hl [0, 1, 2, 3, 4] rfl)
  have hgw0 : Gw u (up u 171 3 0) := Gw.up (by omega)
  exact K (npN u) 0 (up u 171 3 0) _ _ b (by omega) rfl ⟨npN_up (by omega), nlN_up (by omega)⟩ (by unfold szN; rw [up_s]; exact Nat.le_refl 0) hgw0 (Nat.zero_le _) (Nat.zero_le _) hbe _ _ _ hH hR hw ls (lv_sub hl [0, 1, 2] rfl)

