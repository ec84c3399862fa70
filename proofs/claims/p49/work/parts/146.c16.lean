set_option maxHeartbeats 800000 in
set_option maxRecDepth 100000 in
theorem cC_X10_unloadTrucks (l : Launch) (G : GT) (A : Nat → Prop) (h : AH) (b0 : BA) (u : MM) (hR : RC G.2.2.1 h b0 u) (hw : WFc u) : cmI l G A yX10_unloadTrucks cX10_unloadTrucks 5 (Option.some FieldType.int) 9 355 (UC ((cUnld u).2) - UC u) (US ((cUnld u).2) - US u) [.ref (b0 14 0)] h (fun r h' => r = (cUnld u).1 ∧ ∃ b', BE u b0 b' ∧ RC G.2.2.1 h' b' ((cUnld u).2) ∧ WFc ((cUnld u).2)) := by
  refine cm_of "Routepost" rfl (by decide) (Nat.le_of_ble_eq_true rfl) ?_
  intro pr e s m9 below meth c C0 hr hname hH ls hl
  obtain ⟨hx, hb, hml, hown, hts, hK, hA, -⟩ := id C0
  have hl : lv_has ls 5 [(0, .ref (b0 14 0))] := hl
  obtain ⟨b, hb0⟩ : ∃ z, z = b0 := ⟨_, rfl⟩
  rw [← hb0] at hR hl
  have hbe : BE u b0 b := by rw [hb0]; exact BE.refl u b0
  have hc7 := hw.cnt6 7
  have hc8 := hw.cnt6 8
  have hc9 := hw.cnt6 9
  have hw00 := hw
  refine lv_iconst (v := 0) hx hb dX10_unloadTrucks_0 (by decide) ?_
  refine lv_istore_n (lv' := [(1, .int (0)), (0, .ref (b 14 0))]) hx hb dX10_unloadTrucks_1 rfl hl (by decide) rfl (fun ls hl => ?_)
  refine lv_iconst (v := 0) hx hb dX10_unloadTrucks_2 (by decide) ?_
  refine lv_istore_n (lv' := [(2, .int (0)), (1, .int (0)), (0, .ref (b 14 0))]) hx hb dX10_unloadTrucks_3 rfl hl (by decide) rfl (fun ls hl => ?_)
  have K : ∀ (k : Nat) (p : Nat) (U : MM) (n0 : Int32) (cc : Nat) (ss : Nat) (b : BA), p + k = npN u → cUnL k p n0 U = cUnld u → npN U = npN u ∧ nlN U = nlN u → Gw u U → cc ≤ UC U - UC u → ss ≤ US U - US u → BE u b0 b → ∀ (h : AH) (H : Heap) (locs : List Loc) (hH : HS G.1 G.2.1 A s.heap h H locs) (hR : RC G.2.2.1 h b U) (hw : WFc U) (ls : Array Slot), lv_has ls 5 [(2, .int (nI p)), (1, .int (n0)), (0, .ref (b 14 0))] → W pr l e (rmm 9 355 (UC ((cUnld u).2) - UC u) (US ((cUnld u).2) - US u)) s m9 ([.ref (b0 14 0)] : List Value).toArray below meth c H locs cc ss (QI below G A (fun r h' => r = (cUnld u).1 ∧ ∃ b', BE u b0 b' ∧ RC G.2.2.1 h' b' ((cUnld u).2) ∧ WFc ((cUnld u).2)) ([.ref (b0 14 0)] : List Value).toArray s (UC ((cUnld u).2) - UC u) (US ((cUnld u).2) - US u)) (F0 m9 4 ls []) := by
    intro k
    induction k with
    | zero =>
      intro p U n0 cc ss b hik hT hnU hgU hcc hss hbe h H locs hH hR hw ls hl
      have hwU := hw
      have hlU := hw.lw
      have hle0 := hgU.le
      have hc7 := hw.cnt6 7
      have hc8 := hw.cnt6 8
      have hc9 := hw.cnt6 9
      have hTg : LG U (cUnL 0 p n0 U).2 := LG.unL _ _ _ (by rw [hnU.1]; omega)
      rw [hT] at hTg
      have hTl := (hTg hlU).2.1.le
      refine lv_iload_n hx hb dX10_unloadTrucks_4 rfl (lv_at hl 0 rfl) ?_
      refine lv_aload_n hx hb dX10_unloadTrucks_5 rfl (lv_at hl 2 rfl) ?_
      refine c_getR C0 hH hR ci_14 (i := 0) (j := 2) rfl rfl (by decide) rfl fl_X10_19 (v := some (b 3 2)) rfl dX10_unloadTrucks_6 ?_
      refine k_i hH (k_runV (rest := [.int (nI p)]) C0 hH (cL_size l G A _ b _ hR hw 2 (show 2 < 6 + npN _ by omega)) mv_Jx4a65c_size_8abf5 ml_X10_79 ci_3 (hR.kind (K := 3) (i := 2) (show 2 < 6 + npN _ by omega)) rfl ⟨Nat.le_of_ble_eq_true rfl, Nat.le_of_ble_eq_true rfl⟩ hl.1 rfl (Nat.le_of_ble_eq_true rfl) dX10_unloadTrucks_9 ⟨by show _ ≤ UC ((cUnld u).2) - UC u; omega, by show _ ≤ US ((cUnld u).2) - US u; omega⟩) (fun r9 h1 H locs hp hH => ?_)
      obtain ⟨er9, eh⟩ := hp
      rw [eh] at hH
      clear eh
      rw [hw.sz2] at er9
      subst er9
      refine lv_icmp_ge (tgt := 107) hx hb dX10_unloadTrucks_12 (by decide) (fun c12_1 => ?_) (fun c12_1 => ?_)
      · refine lv_iload_n hx hb dX10_unloadTrucks_107 rfl (lv_at hl 1 rfl) ?_
        have hA0_z : LG U U := (LG.refl U)
        have hA_z := hA0_z hlU
        have h1_z := hA_z.2.1.le
        have eM : ((cUnld u).2) = U := by rw [← hT]; rfl
        have eR : (n0 : Int32) = (cUnld u).1 := by rw [← hT]; rfl
        exact e_I C0 hr hH ⟨eR, b, hbe, by rw [eM]; exact ⟨hR, hw⟩⟩ (by rw [eM]; omega) (by rw [eM]; omega) dX10_unloadTrucks_108
      · exact absurd (by rw [hnU.1, show p = npN u by omega]; exact Int32.le_refl _) c12_1
    | succ k ih =>
      intro p U n0 cc ss b hik hT hnU hgU hcc hss hbe h H locs hH hR hw ls hl
      have hwU := hw
      have hlU := hw.lw
      have hle0 := hgU.le
      have hc7 := hw.cnt6 7
      have hc8 := hw.cnt6 8
      have hc9 := hw.cnt6 9
      have hTg : LG U (cUnL (k + 1) p n0 U).2 := LG.unL _ _ _ (by rw [hnU.1]; omega)
      rw [hT] at hTg
      have hTl := (hTg hlU).2.1.le
      refine lv_iload_n hx hb dX10_unloadTrucks_4 rfl (lv_at hl 0 rfl) ?_
      refine lv_aload_n hx hb dX10_unloadTrucks_5 rfl (lv_at hl 2 rfl) ?_
      refine c_getR C0 hH hR ci_14 (i := 0) (j := 2) rfl rfl (by decide) rfl fl_X10_19 (v := some (b 3 2)) rfl dX10_unloadTrucks_6 ?_
      refine k_i hH (k_runV (rest := [.int (nI p)]) C0 hH (cL_size l G A _ b _ hR hw 2 (show 2 < 6 + npN _ by omega)) mv_Jx4a65c_size_8abf5 ml_X10_79 ci_3 (hR.kind (K := 3) (i := 2) (show 2 < 6 + npN _ by omega)) rfl ⟨Nat.le_of_ble_eq_true rfl, Nat.le_of_ble_eq_true rfl⟩ hl.1 rfl (Nat.le_of_ble_eq_true rfl) dX10_unloadTrucks_9 ⟨by show _ ≤ UC ((cUnld u).2) - UC u; omega, by show _ ≤ US ((cUnld u).2) - US u; omega⟩) (fun r9 h1 H locs hp hH => ?_)
      obtain ⟨er9, eh⟩ := hp
      rw [eh] at hH
      clear eh
      rw [hw.sz2] at er9
      subst er9
      refine lv_icmp_ge (tgt := 107) hx hb dX10_unloadTrucks_12 (by decide) (fun c12_2 => ?_) (fun c12_2 => ?_)
      · exact absurd c12_2 (nI_ge (show p < npN U by omega) (by have := hw.np; omega))
      · have hpU : p < npN U := by omega
        refine lv_aload_n hx hb dX10_unloadTrucks_15 rfl (lv_at hl 2 rfl) ?_
        refine c_getR C0 hH hR ci_14 (i := 0) (j := 2) rfl rfl (by decide) rfl fl_X10_19 (v := some (b 3 2)) rfl dX10_unloadTrucks_16 ?_
        refine lv_iload_n hx hb dX10_unloadTrucks_19 rfl (lv_at hl 0 rfl) ?_
        refine k_q hH (k_runV (rest := []) C0 hH (cL_get l G A _ b _ hR hw 2 p (show 2 < 6 + npN _ by omega) (by rw [hw.sz2]; omega) (a := b 9 p) rfl) mv_Jx4a65c_get_915e3 ml_X10_143 ci_3 (hR.kind (K := 3) (i := 2) (show 2 < 6 + npN _ by omega)) rfl ⟨Nat.le_of_ble_eq_true rfl, Nat.le_of_ble_eq_true rfl⟩ hl.1 rfl (Nat.le_of_ble_eq_true rfl) dX10_unloadTrucks_20 ⟨by show _ ≤ UC ((cUnld u).2) - UC u; omega, by show _ ≤ US ((cUnld u).2) - US u; omega⟩) (fun r9 h1 H locs hp hH => ?_)
        obtain ⟨er9, eh⟩ := hp
        rw [eh] at hH
        clear eh
        subst er9
        refine k_chk C0 hH ci_9 (hR.kind (K := 9) (i := p) hpU) cl_X10_162 dX10_unloadTrucks_23 ?_
        refine lv_astore_n (lv' := [(3, .ref (b 9 p)), (2, .int (nI p)), (1, .int (n0)), (0, .ref (b 14 0))]) hx hb dX10_unloadTrucks_26 rfl hl (by decide) rfl (fun ls hl => ?_)
        refine lv_aload_n hx hb dX10_unloadTrucks_27 rfl (lv_at hl 0 rfl) ?_
        refine c_getR C0 hH hR ci_9 (i := p) (j := 9) hpU rfl (by decide) rfl fl_X10_243 (v := dec b 8 (U 116 p)) (show dec b 8 (U 116 p) = dec b 8 (U 116 p) from congrArg _ rfl) dX10_unloadTrucks_28 ?_
        refine o_astore_q (lv' := [(4, va_rf (dec b 8 (U 116 p))), (3, .ref (b 9 p)), (2, .int (nI p)), (1, .int (n0)), (0, .ref (b 14 0))]) hx hb dX10_unloadTrucks_31 hl (by decide) rfl (fun ls hl => ?_)
        refine lv_aload_n hx hb dX10_unloadTrucks_33 rfl (lv_at hl 1 rfl) ?_
        refine c_getI C0 hH hR ci_9 (i := p) (j := 8) hpU rfl (by decide) rfl fl_X10_190 (v := U 28 p) rfl dX10_unloadTrucks_34 ?_
        refine lv_bipush (v := 116) hx hb dX10_unloadTrucks_37 (by decide) ?_
        refine lv_icmp_ne (tgt := 101) hx hb dX10_unloadTrucks_39 (by decide) (fun c39_3 => ?_) (fun c39_3 => ?_)
        · refine lv_iinc (v := nI (p + 1)) (lv' := [(2, .int (nI (p + 1))), (4, va_rf (dec b 8 (U 116 p))), (3, .ref (b 9 p)), (1, .int (n0)), (0, .ref (b 14 0))]) hx hb dX10_unloadTrucks_101 hl (k := 2) rfl (by rw [← nI_1]; rfl) (by decide) rfl (fun ls hl => ?_)
          refine lv_goto (tgt := 4) hx hb dX10_unloadTrucks_104 (by decide) ?_
          exact ih (p + 1) U n0 _ _ b (by omega) (by rw [← hT]; simp only [cUnL]; rw [if_neg (fun z => c39_3 z.1), show cUn1 U p = U from if_neg (fun z => c39_3 z.1)]) hnU hgU hcc hss hbe _ _ _ hH hR hw ls (lv_sub hl [0, 3, 4] rfl)
        · refine o_aload_q hx hb dX10_unloadTrucks_42 (lv_at hl 0 rfl) ?_
          rcases (show U 116 p = -1 ∨ ∃ v, v < nlN U ∧ U 116 p = nI v from hw.exL (hw.rg (k := 116) (by decide) p)) with es_4 | ⟨s_4, hs_4, es_4⟩
          · have eds_4 : dec b 8 (U 116 p) = none := by rw [es_4]; exact dec_m1
            rw [eds_4]
            rw [eds_4] at hl
            refine lv_ifnullN (tgt := 101) hx hb dX10_unloadTrucks_44 (by decide) ?_
            refine lv_iinc (v := nI (p + 1)) (lv' := [(2, .int (nI (p + 1))), (4, .null), (3, .ref (b 9 p)), (1, .int (n0)), (0, .ref (b 14 0))]) hx hb dX10_unloadTrucks_101 hl (k := 2) rfl (by rw [← nI_1]; rfl) (by decide) rfl (fun ls hl => ?_)
            refine lv_goto (tgt := 4) hx hb dX10_unloadTrucks_104 (by decide) ?_
            exact ih (p + 1) U n0 _ _ b (by omega) (by rw [← hT]; simp only [cUnL]; rw [if_neg (fun z => z.2.1 es_4), show cUn1 U p = U from if_neg (fun z => z.2.1 es_4)]) hnU hgU hcc hss hbe _ _ _ hH hR hw ls (lv_sub hl [0, 3, 4] rfl)
          · have eds_4 : dec b 8 (U 116 p) = some (b 8 s_4) := by rw [es_4]; exact dec_nI (by have := hc8; have h9 : s_4 < cnt U 8 := hs_4; omega)
            have ks_4 : (U 116 p).toNatClampNeg = s_4 := by rw [es_4]; exact nI_clamp (by have := hc8; have h9 : s_4 < cnt U 8 := hs_4; omega)
            have ns_4 : ¬ (U 116 p) = -1 := by rw [es_4]; exact nI_nm (by have := hc8; have h9 : s_4 < cnt U 8 := hs_4; omega)
            rw [eds_4]
            rw [eds_4] at hl
            refine lv_ifnull hx hb dX10_unloadTrucks_44 ?_
            refine lv_aload_n hx hb dX10_unloadTrucks_47 rfl (lv_at hl 1 rfl) ?_
            refine c_getI C0 hH hR ci_9 (i := p) (j := 11) hpU rfl (by decide) rfl fl_X10_395 (v := U 17 p) rfl dX10_unloadTrucks_48 ?_
            refine lv_aload_n hx hb dX10_unloadTrucks_51 rfl (lv_at hl 4 rfl) ?_
            refine c_getI C0 hH hR ci_14 (i := 0) (j := 9) rfl rfl (by decide) rfl fl_X10_56 (v := U 41 0) rfl dX10_unloadTrucks_52 ?_
            refine lv_icmp_ne (tgt := 101) hx hb dX10_unloadTrucks_55 (by decide) (fun c55_5 => ?_) (fun c55_5 => ?_)
            · refine lv_iinc (v := nI (p + 1)) (lv' := [(2, .int (nI (p + 1))), (4, .ref (b 8 s_4)), (3, .ref (b 9 p)), (1, .int (n0)), (0, .ref (b 14 0))]) hx hb dX10_unloadTrucks_101 hl (k := 2) rfl (by rw [← nI_1]; rfl) (by decide) rfl (fun ls hl => ?_)
              refine lv_goto (tgt := 4) hx hb dX10_unloadTrucks_104 (by decide) ?_
              exact ih (p + 1) U n0 _ _ b (by omega) (by rw [← hT]; simp only [cUnL]; rw [if_neg (fun z => c55_5 z.2.2), show cUn1 U p = U from if_neg (fun z => c55_5 z.2.2)]) hnU hgU hcc hss hbe _ _ _ hH hR hw ls (lv_sub hl [0, 3, 4] rfl)
            · refine lv_aload_n hx hb dX10_unloadTrucks_58 rfl (lv_at hl 1 rfl) ?_
              refine lv_null hx hb dX10_unloadTrucks_59 ?_
              refine c_putR C0 hH hR ci_9 (i := p) (j := 9) hpU rfl (k := 116) rfl (by decide) rfl fl_X10_243 rfl ⟨_, rfl⟩ (-1) (v := none) dec_m1.symm dX10_unloadTrucks_60 (fun h H locs hH hR => ?_)
              replace hw := hw.upr (k := 116) (i := p) (x := -1) (by decide) (Or.inl rfl) (fun z => absurd z (by omega)) (fun z => absurd z (by omega)) (fun z => absurd z (by omega))
              refine lv_aload_n hx hb dX10_unloadTrucks_63 rfl (lv_at hl 1 rfl) ?_
              refine lv_aload hx hb dX10_unloadTrucks_64 (lv_at hl 0 rfl) ?_
              obtain ⟨v_6, hv_6, ev_6⟩ := hw.exH (show vp_in (U 3 s_4) _ from (hw.ln hs_4).2)
              have kv_6 : (U 3 s_4).toNatClampNeg = v_6 := by rw [ev_6]; exact nI_clamp (by have := hw.nh; have := hw.np; omega)
              refine c_getR C0 hH hR ci_8 (i := s_4) (j := 2) hs_4 rfl (by decide) rfl fl_X10_398 (v := some (b 7 v_6)) (show dec b 7 ((up U 116 p (-1)) 3 s_4) = some (b 7 v_6) from by rw [show (up U 116 p (-1)) 3 s_4 = nI v_6 from Eq.trans rfl ev_6]; exact dec_nI (by have := hc7; have := (show v_6 < cnt U 7 from hv_6); omega)) dX10_unloadTrucks_66 ?_
              refine c_putR C0 hH hR ci_9 (i := p) (j := 7) hpU rfl (k := 15) rfl (by decide) rfl fl_X10_196 rfl ⟨_, rfl⟩ (nI v_6) (v := some (b 7 v_6)) (dec_nI (by have h9 : v_6 < cnt U 7 := hv_6; have := hc7; omega)).symm dX10_unloadTrucks_69 (fun h H locs hH hR => ?_)
              replace hw := hw.upr (k := 15) (i := p) (x := nI v_6) (by decide) (RG_v hv_6 (hw.cnt6 7)) (fun z => absurd z (by omega)) (fun _ _ => (vp_in_nI (hv_6) (by have := hw.nh; omega))) (fun z => absurd z (by omega))
              rw [← ev_6] at hR hw
              refine lv_aload_n hx hb dX10_unloadTrucks_72 rfl (lv_at hl 1 rfl) ?_
              refine lv_bipush (v := 117) hx hb dX10_unloadTrucks_73 (by decide) ?_
              refine c_putI C0 hH hR ci_9 (i := p) (j := 8) hpU rfl (k := 28) rfl (by decide) (by decide) rfl fl_X10_190 rfl (x := 117) (by decide) (by decide) dX10_unloadTrucks_75 (fun h H locs hH hR => ?_)
              replace hw := hw.upx (k := 28) (i := p) (x := 117) (by unfold kWc kSz; decide)
              refine lv_aload_n hx hb dX10_unloadTrucks_78 rfl (lv_at hl 1 rfl) ?_
              refine c_getR C0 hH hR ci_9 (i := p) (j := 5) hpU rfl (by decide) rfl fl_X10_171 (v := some (b 6 p)) rfl dX10_unloadTrucks_79 ?_
              refine lv_bipush (v := 117) hx hb dX10_unloadTrucks_82 (by decide) ?_
              refine lv_aload_n hx hb dX10_unloadTrucks_84 rfl (lv_at hl 4 rfl) ?_
              refine c_getI C0 hH hR ci_14 (i := 0) (j := 9) rfl rfl (by decide) rfl fl_X10_56 (v := U 41 0) rfl dX10_unloadTrucks_85 ?_
              refine lv_aload hx hb dX10_unloadTrucks_88 (lv_at hl 0 rfl) ?_
              refine c_getR C0 hH hR ci_8 (i := s_4) (j := 2) hs_4 rfl (by decide) rfl fl_X10_398 (v := some (b 7 v_6)) (show dec b 7 ((up (up (up U 116 p (-1)) 15 p (U 3 s_4)) 28 p 117) 3 s_4) = some (b 7 v_6) from by rw [show (up (up (up U 116 p (-1)) 15 p (U 3 s_4)) 28 p 117) 3 s_4 = nI v_6 from Eq.trans rfl ev_6]; exact dec_nI (by have := hc7; have := (show v_6 < cnt U 7 from hv_6); omega)) dX10_unloadTrucks_90 ?_
              refine lv_aload hx hb dX10_unloadTrucks_93 (lv_at hl 0 rfl) ?_
              have hA0_n_7 : LG U (up (up (up U 116 p (-1)) 15 p (U 3 s_4)) 28 p 117) := (LG.trans (LG.trans (LG.trans (LG.refl U) (LG.upk (k := 116) (by unfold kSz; decide))) (LG.upk (k := 15) (by unfold kSz; decide))) (LG.upk (k := 28) (by unfold kSz; decide)))
              have hA_n_7 := hA0_n_7 hlU
              have h1_n_7 := hA_n_7.2.1.le
              have hB0_n_7 : LG (up (up (up U 116 p (-1)) 15 p (U 3 s_4)) 28 p 117) (cNote (up (up (up U 116 p (-1)) 15 p (U 3 s_4)) 28 p 117) p 4 (U 41 0) v_6 (nI s_4)) := (LG.note hpU)
              have hB_n_7 := hB0_n_7 hA_n_7.1
              have hst : cUn1 U p = (cNote (up (up (up U 116 p (-1)) 15 p (U 3 s_4)) 28 p 117) p 4 (U 41 0) v_6 (nI s_4)) := by unfold cUn1; rw [if_pos ⟨c39_3, ns_4, c55_5⟩, ks_4, kv_6, es_4]
              have hsn : npN (cNote (up (up (up U 116 p (-1)) 15 p (U 3 s_4)) 28 p 117) p 4 (U 41 0) v_6 (nI s_4)) = npN U := by rw [← hst]; exact ((LG.un1 hpU) hlU).2.2.2.2
              have hC0_n_7 : LG (cNote (up (up (up U 116 p (-1)) 15 p (U 3 s_4)) 28 p 117) p 4 (U 41 0) v_6 (nI s_4)) ((cUnld u).2) := (by rw [show (cUnld u).2 = (cUnL k (p + 1) (n0 + 1) (cNote (up (up (up U 116 p (-1)) 15 p (U 3 s_4)) 28 p 117) p 4 (U 41 0) v_6 (nI s_4))).2 from by rw [← hT]; simp only [cUnL]; rw [hst, if_pos ⟨c39_3, ns_4, c55_5⟩]]; exact LG.unL k (p + 1) (n0 + 1) (by rw [hsn]; omega))
              have hC_n_7 := hC0_n_7 hB_n_7.1
              have h2_n_7 := hB_n_7.2.1.le
              have h3_n_7 := hC_n_7.2.1.le
              refine k_v hH (k_runV (rest := []) C0 hH (cC_X2_note_l l G A _ b _ hR hw p 4 (U 41 0) v_6 s_4 hpU (by decide) hv_6 hs_4) mv_X2_note ml_X10_175 ci_6 (hR.kind (K := 6) (i := p) hpU) rfl ⟨Nat.le_of_ble_eq_true rfl, Nat.le_of_ble_eq_true rfl⟩ hl.1 rfl (Nat.le_of_ble_eq_true rfl) dX10_unloadTrucks_95 ⟨by show _ ≤ UC ((cUnld u).2) - UC u; omega, by show _ ≤ US ((cUnld u).2) - US u; omega⟩) (fun h H locs hp hH => ?_)
              obtain ⟨b, hbx, hR, hw⟩ := hp
              rw [← hbx 8 s_4 (by decide) hs_4, ← hbx 9 p (by decide) hpU, ← hbx 14 0 (by decide) rfl] at hl
              replace hbe := hbe.trans (hgU.trans hA_n_7.2.1) hbx
              have hgu_n_7 := (hgU.trans hA_n_7.2.1).trans hB_n_7.2.1
              have hlw_n_7 := hB_n_7.1
              obtain ⟨U_n_7, hU_n_7⟩ : ∃ z, z = (cNote (up (up (up U 116 p (-1)) 15 p (U 3 s_4)) 28 p 117) p 4 (U 41 0) v_6 (nI s_4)) := ⟨_, rfl⟩
              rw [← hU_n_7] at hR hw hgu_n_7 hlw_n_7
              have hE_n_7 : UC U_n_7 = UC (cNote (up (up (up U 116 p (-1)) 15 p (U 3 s_4)) 28 p 117) p 4 (U 41 0) v_6 (nI s_4)) ∧ US U_n_7 = US (cNote (up (up (up U 116 p (-1)) 15 p (U 3 s_4)) 28 p 117) p 4 (U 41 0) v_6 (nI s_4)) := by rw [hU_n_7]; exact ⟨rfl, rfl⟩
              have hn_n_7 : nhN U_n_7 = nhN U ∧ nlN U_n_7 = nlN U ∧ npN U_n_7 = npN U := by rw [hU_n_7]; exact ⟨hB_n_7.2.2.1.trans hA_n_7.2.2.1, hB_n_7.2.2.2.1.trans hA_n_7.2.2.2.1, hB_n_7.2.2.2.2.trans hA_n_7.2.2.2.2⟩
              have hc7 := hw.cnt6 7
              have hc8 := hw.cnt6 8
              have hc9 := hw.cnt6 9
              replace hpU : p < npN U_n_7 := by rw [hn_n_7.2.2]; exact hpU
              replace hs_4 : s_4 < nlN U_n_7 := by rw [hn_n_7.2.1]; exact hs_4
              replace hv_6 : v_6 < nhN U_n_7 := by rw [hn_n_7.1]; exact hv_6
              have hk_n_7 : ∀ k, nk k = true → U_n_7 k = (up (up (up U 116 p (-1)) 15 p (U 3 s_4)) 28 p 117) k := fun k e9 => by rw [hU_n_7]; exact cNote_k e9
              refine lv_iinc (v := n0 + 1) (lv' := [(1, .int (n0 + 1)), (4, .ref (b 8 s_4)), (3, .ref (b 9 p)), (2, .int (nI p)), (0, .ref (b 14 0))]) hx hb dX10_unloadTrucks_98 hl (k := 3) rfl (rfl) (by decide) rfl (fun ls hl => ?_)
              refine lv_iinc (v := nI (p + 1)) (lv' := [(2, .int (nI (p + 1))), (1, .int (n0 + 1)), (4, .ref (b 8 s_4)), (3, .ref (b 9 p)), (0, .ref (b 14 0))]) hx hb dX10_unloadTrucks_101 hl (k := 3) rfl (by rw [← nI_1]; rfl) (by decide) rfl (fun ls hl => ?_)
              refine lv_goto (tgt := 4) hx hb dX10_unloadTrucks_104 (by decide) ?_
              exact ih (p + 1) U_n_7 (n0 + 1) _ _ b (by omega) (by rw [← hT]; simp only [cUnL]; rw [hst, if_pos ⟨c39_3, ns_4, c55_5⟩, hU_n_7]) ⟨hn_n_7.2.2.trans hnU.1, hn_n_7.2.1.trans hnU.2⟩ hgu_n_7 (by omega) (by omega) hbe _ _ _ hH hR hw ls (lv_sub hl [0, 1, 4] rfl)
  exact K (npN u) 0 u 0 _ _ b (by omega) rfl ⟨rfl, rfl⟩ (Gw.refl u) (Nat.zero_le _) (Nat.zero_le _) hbe _ _ _ hH hR hw ls (lv_sub hl [0, 1, 2] rfl)

