set_option maxHeartbeats 800000 in
set_option maxRecDepth 100000 in
theorem cC_X10_hubByTrying (l : Launch) (hlt : l.stackTraces = false) (G : GT) (A : Nat → Prop) (h : AH) (b : BA) (u : MM) (hR : RC G.2.2.1 h b u) (hw : WFc u) (x : Int32) : cxI l G A yX10_hubByTrying cX10_hubByTrying 5 (Option.some FieldType.int) 6 90 1 6 [.ref (b 14 0), .int (x)] h (fun r h' => xAd x = none ∧ r = cHt u x ∧ h' = h) (fun E h' => xAd x = some E ∧ h' = h) := by
  refine cx_of "Routepost" rfl (by decide) (Nat.le_of_ble_eq_true rfl) ?_
  intro pr e s m9 below meth c C0 hxt hr hH ls hl
  obtain ⟨hx, hb, hml, hown, hts, hK, hA, -⟩ := id C0
  have hl : lv_has ls 5 [(0, .ref (b 14 0)), (1, .int (x))] := hl
  have hc7 := hw.cnt6 7
  have hc8 := hw.cnt6 8
  have hc9 := hw.cnt6 9
  refine lv_iload_n hx hb dX10_hubByTrying_0 rfl (lv_at hl 1 rfl) ?_
  refine k_i hH (k_runS (rest := []) C0 hH (cC_X10_isAddress l G A _ b _ hR hw x ) mv_X10_isAddress ml_X10_131 rfl ⟨Nat.le_of_ble_eq_true rfl, Nat.le_of_ble_eq_true rfl⟩ hl.1 rfl (Nat.le_of_ble_eq_true rfl) dX10_hubByTrying_1 ⟨Nat.le_of_ble_eq_true rfl, Nat.le_of_ble_eq_true rfl⟩) (fun r_1 h1 H locs hp hH => ?_)
  obtain ⟨er_1, eh⟩ := hp
  rw [eh] at hH
  clear eh
  subst er_1
  refine lv_if_ne (tgt := 17) hx hb dX10_hubByTrying_4 (by decide) (fun c4_2 => ?_) (fun c4_2 => ?_)
  · have hxa0 : xAd x = none := if_neg c4_2
    refine lv_null hx hb dX10_hubByTrying_17 ?_
    refine lv_astore_nN (lv' := [(2, .null), (0, .ref (b 14 0)), (1, .int (x))]) hx hb dX10_hubByTrying_18 rfl hl (by decide) rfl (fun ls hl => ?_)
    refine lv_iconst (v := 0) hx hb dX10_hubByTrying_19 (by decide) ?_
    refine lv_istore_n (lv' := [(3, .int (0)), (2, .null), (0, .ref (b 14 0)), (1, .int (x))]) hx hb dX10_hubByTrying_20 rfl hl (by decide) rfl (fun ls hl => ?_)
    have K : ∀ (k : Nat) (h0 : Nat) (y : Int32), h0 + k = nhN u → cHtL u x k h0 y = cHt u x → (y = -1 ∨ ∃ v, v < nhN u ∧ y = nI v) → ∀ (H : Heap) (locs : List Loc) (hH : HS G.1 G.2.1 A s.heap h H locs) (ls : Array Slot), lv_has ls 5 [(3, .int (nI h0)), (2, va_rf (dec b 7 y)), (0, .ref (b 14 0)), (1, .int (x))] → W pr l e (rmm 6 90 1 6) s m9 ([.ref (b 14 0), .int (x)] : List Value).toArray below meth c H locs 0 0 (vx_MQ below (va_Qi (fun r h' => xAd x = none ∧ r = cHt u x ∧ h' = h) (fun h' t => HW G.1 G.2.1 A h' t.heap) A) (xcP G A (fun E h' => xAd x = some E ∧ h' = h)) ([.ref (b 14 0), .int (x)] : List Value).toArray s 1 6 A) (F0 m9 21 ls []) := by
      intro k
      induction k with
      | zero =>
        intro h0 y hik hT hyo H locs hH ls hl
        refine lv_iload_n hx hb dX10_hubByTrying_21 rfl (lv_at hl 0 rfl) ?_
        refine lv_aload_n hx hb dX10_hubByTrying_22 rfl (lv_at hl 2 rfl) ?_
        refine c_getR C0 hH hR ci_14 (i := 0) (j := 0) rfl rfl (by decide) rfl fl_X10_12 (v := some (b 3 0)) rfl dX10_hubByTrying_23 ?_
        refine k_i hH (k_runV (rest := [.int (nI h0)]) C0 hH (cL_size l G A _ b _ hR hw 0 (show 0 < 6 + npN _ by omega)) mv_Jx4a65c_size_8abf5 ml_X10_79 ci_3 (hR.kind (K := 3) (i := 0) (show 0 < 6 + npN _ by omega)) rfl ⟨Nat.le_of_ble_eq_true rfl, Nat.le_of_ble_eq_true rfl⟩ hl.1 rfl (Nat.le_of_ble_eq_true rfl) dX10_hubByTrying_26 ⟨Nat.le_of_ble_eq_true rfl, Nat.le_of_ble_eq_true rfl⟩) (fun r9 h1 H locs hp hH => ?_)
        obtain ⟨er9, eh⟩ := hp
        rw [eh] at hH
        clear eh
        rw [hw.sz0] at er9
        subst er9
        refine lv_icmp_ge (tgt := 82) hx hb dX10_hubByTrying_29 (by decide) (fun c29_3 => ?_) (fun c29_3 => ?_)
        · refine o_aload_n_q hx hb dX10_hubByTrying_82 rfl (lv_at hl 1 rfl) ?_
          refine k_i hH (k_runS (rest := []) C0 hH (cC_X10_numberOf l G A _ b _ hR hw y hyo) mv_X10_numberOf ml_X10_139 rfl ⟨Nat.le_of_ble_eq_true rfl, Nat.le_of_ble_eq_true rfl⟩ hl.1 rfl (Nat.le_of_ble_eq_true rfl) dX10_hubByTrying_83 ⟨Nat.le_of_ble_eq_true rfl, Nat.le_of_ble_eq_true rfl⟩) (fun r_4 h1 H locs hp hH => ?_)
          obtain ⟨er_4, eh⟩ := hp
          rw [eh] at hH
          clear eh
          rw [er_4]
          refine vx_ret ?_
          have eR : (y : Int32) = cHt u x := by rw [← hT]; rfl
          exact e_I C0 hr hH ⟨hxa0, eR, rfl⟩ (Nat.le_of_ble_eq_true rfl) (Nat.le_of_ble_eq_true rfl) dX10_hubByTrying_86
        · exact absurd (by rw [show h0 = nhN u by omega]; exact Int32.le_refl _) c29_3
      | succ k ih =>
        intro h0 y hik hT hyo H locs hH ls hl
        refine lv_iload_n hx hb dX10_hubByTrying_21 rfl (lv_at hl 0 rfl) ?_
        refine lv_aload_n hx hb dX10_hubByTrying_22 rfl (lv_at hl 2 rfl) ?_
        refine c_getR C0 hH hR ci_14 (i := 0) (j := 0) rfl rfl (by decide) rfl fl_X10_12 (v := some (b 3 0)) rfl dX10_hubByTrying_23 ?_
        refine k_i hH (k_runV (rest := [.int (nI h0)]) C0 hH (cL_size l G A _ b _ hR hw 0 (show 0 < 6 + npN _ by omega)) mv_Jx4a65c_size_8abf5 ml_X10_79 ci_3 (hR.kind (K := 3) (i := 0) (show 0 < 6 + npN _ by omega)) rfl ⟨Nat.le_of_ble_eq_true rfl, Nat.le_of_ble_eq_true rfl⟩ hl.1 rfl (Nat.le_of_ble_eq_true rfl) dX10_hubByTrying_26 ⟨Nat.le_of_ble_eq_true rfl, Nat.le_of_ble_eq_true rfl⟩) (fun r9 h1 H locs hp hH => ?_)
        obtain ⟨er9, eh⟩ := hp
        rw [eh] at hH
        clear eh
        rw [hw.sz0] at er9
        subst er9
        refine lv_icmp_ge (tgt := 82) hx hb dX10_hubByTrying_29 (by decide) (fun c29_5 => ?_) (fun c29_5 => ?_)
        · exact absurd c29_5 (nI_ge (show h0 < nhN u by omega) (by have := hw.nh; omega))
        · refine lv_aload_n hx hb dX10_hubByTrying_32 rfl (lv_at hl 2 rfl) ?_
          refine c_getR C0 hH hR ci_14 (i := 0) (j := 0) rfl rfl (by decide) rfl fl_X10_12 (v := some (b 3 0)) rfl dX10_hubByTrying_33 ?_
          refine lv_iload_n hx hb dX10_hubByTrying_36 rfl (lv_at hl 0 rfl) ?_
          refine k_q hH (k_runV (rest := []) C0 hH (cL_get l G A _ b _ hR hw 0 h0 (show 0 < 6 + npN _ by omega) (by rw [hw.sz0]; omega) (a := b 7 h0) rfl) mv_Jx4a65c_get_915e3 ml_X10_143 ci_3 (hR.kind (K := 3) (i := 0) (show 0 < 6 + npN _ by omega)) rfl ⟨Nat.le_of_ble_eq_true rfl, Nat.le_of_ble_eq_true rfl⟩ hl.1 rfl (Nat.le_of_ble_eq_true rfl) dX10_hubByTrying_37 ⟨Nat.le_of_ble_eq_true rfl, Nat.le_of_ble_eq_true rfl⟩) (fun r9 h1 H locs hp hH => ?_)
          obtain ⟨er9, eh⟩ := hp
          rw [eh] at hH
          clear eh
          subst er9
          refine k_chk C0 hH ci_7 (hR.kind (K := 7) (i := h0) (show h0 < nhN u by omega)) cl_X10_88 dX10_hubByTrying_40 ?_
          refine lv_astore (lv' := [(4, .ref (b 7 h0)), (3, .int (nI h0)), (2, va_rf (dec b 7 y)), (0, .ref (b 14 0)), (1, .int (x))]) hx hb dX10_hubByTrying_43 hl (by decide) rfl (fun ls hl => ?_)
          refine lv_aload hx hb dX10_hubByTrying_45 (lv_at hl 0 rfl) ?_
          refine c_getI C0 hH hR ci_7 (i := h0) (j := 1) (show h0 < nhN u by omega) rfl (by decide) rfl fl_X10_147 (v := u 0 h0) rfl dX10_hubByTrying_47 ?_
          refine lv_iload_n hx hb dX10_hubByTrying_50 rfl (lv_at hl 4 rfl) ?_
          refine k_i hH (k_runS (rest := []) C0 hH (cC_X10_isPrefix l G A _ b _ hR hw (u 0 h0) x ) mv_X10_isPrefix ml_X10_150 rfl ⟨Nat.le_of_ble_eq_true rfl, Nat.le_of_ble_eq_true rfl⟩ hl.1 rfl (Nat.le_of_ble_eq_true rfl) dX10_hubByTrying_51 ⟨Nat.le_of_ble_eq_true rfl, Nat.le_of_ble_eq_true rfl⟩) (fun r_6 h1 H locs hp hH => ?_)
          obtain ⟨er_6, eh⟩ := hp
          rw [eh] at hH
          clear eh
          subst er_6
          refine lv_if_eq (tgt := 76) hx hb dX10_hubByTrying_54 (by decide) (fun c54_7 => ?_) (fun c54_7 => ?_)
          · refine lv_iinc (v := nI (h0 + 1)) (lv' := [(3, .int (nI (h0 + 1))), (4, .ref (b 7 h0)), (2, va_rf (dec b 7 y)), (0, .ref (b 14 0)), (1, .int (x))]) hx hb dX10_hubByTrying_76 hl (k := 1) rfl (by rw [← nI_1]; rfl) (by decide) (by simp [va_rf_cat]) (fun ls hl => ?_)
            refine lv_goto (tgt := 21) hx hb dX10_hubByTrying_79 (by decide) ?_
            exact ih (h0 + 1) y (by omega) (by rw [← hT]; simp only [cHtL]; congr 1; simp [c29_5, Int32.not_le.mp c29_5, eq_true c54_7]) hyo _ _ hH ls (by first | exact lv_sub hl [0, 2, 3, 4] rfl | (rw [dec_nI (show h0 < 2 ^ 31 by have := hw.nh; omega)]; exact lv_sub hl [0, 2, 3, 4] rfl))
          · refine o_aload_n_q hx hb dX10_hubByTrying_57 rfl (lv_at hl 2 rfl) ?_
            rcases (id hyo) with es_8 | ⟨s_8, hs_8, es_8⟩
            · have eds_8 : dec b 7 (y) = none := by rw [es_8]; exact dec_m1
              rw [eds_8]
              rw [eds_8] at hl
              refine lv_ifnullN (tgt := 73) hx hb dX10_hubByTrying_58 (by decide) ?_
              refine lv_aload hx hb dX10_hubByTrying_73 (lv_at hl 0 rfl) ?_
              refine lv_astore_n (lv' := [(2, .ref (b 7 h0)), (4, .ref (b 7 h0)), (3, .int (nI h0)), (0, .ref (b 14 0)), (1, .int (x))]) hx hb dX10_hubByTrying_75 rfl hl (by decide) rfl (fun ls hl => ?_)
              refine lv_iinc (v := nI (h0 + 1)) (lv' := [(3, .int (nI (h0 + 1))), (2, .ref (b 7 h0)), (4, .ref (b 7 h0)), (0, .ref (b 14 0)), (1, .int (x))]) hx hb dX10_hubByTrying_76 hl (k := 2) rfl (by rw [← nI_1]; rfl) (by decide) rfl (fun ls hl => ?_)
              refine lv_goto (tgt := 21) hx hb dX10_hubByTrying_79 (by decide) ?_
              exact ih (h0 + 1) (nI h0) (by omega) (by rw [← hT]; simp only [cHtL]; congr 1; simp [c29_5, Int32.not_le.mp c29_5, eq_false c54_7, eq_true es_8]) (Or.inr ⟨h0, by omega, rfl⟩) _ _ hH ls (by first | exact lv_sub hl [0, 1, 3, 4] rfl | (rw [dec_nI (show h0 < 2 ^ 31 by have := hw.nh; omega)]; exact lv_sub hl [0, 1, 3, 4] rfl) | (rw [eds_8]; exact lv_sub hl [0, 1, 3, 4] rfl))
            · have eds_8 : dec b 7 (y) = some (b 7 s_8) := by rw [es_8]; exact dec_nI (by have := hc7; have h9 : s_8 < cnt u 7 := hs_8; omega)
              have ks_8 : (y).toNatClampNeg = s_8 := by rw [es_8]; exact nI_clamp (by have := hc7; have h9 : s_8 < cnt u 7 := hs_8; omega)
              have ns_8 : ¬ y = -1 := by rw [es_8]; exact nI_nm (by have := hc7; have h9 : s_8 < cnt u 7 := hs_8; omega)
              rw [eds_8]
              rw [eds_8] at hl
              refine lv_ifnull hx hb dX10_hubByTrying_58 ?_
              refine lv_aload hx hb dX10_hubByTrying_61 (lv_at hl 0 rfl) ?_
              refine c_getI C0 hH hR ci_7 (i := h0) (j := 1) (show h0 < nhN u by omega) rfl (by decide) rfl fl_X10_147 (v := u 0 h0) rfl dX10_hubByTrying_63 ?_
              refine lv_aload_n hx hb dX10_hubByTrying_66 rfl (lv_at hl 2 rfl) ?_
              refine c_getI C0 hH hR ci_7 (i := s_8) (j := 1) hs_8 rfl (by decide) rfl fl_X10_147 (v := u 0 s_8) rfl dX10_hubByTrying_67 ?_
              refine lv_icmp_le (tgt := 76) hx hb dX10_hubByTrying_70 (by decide) (fun c70_9 => ?_) (fun c70_9 => ?_)
              · refine lv_iinc (v := nI (h0 + 1)) (lv' := [(3, .int (nI (h0 + 1))), (4, .ref (b 7 h0)), (2, .ref (b 7 s_8)), (0, .ref (b 14 0)), (1, .int (x))]) hx hb dX10_hubByTrying_76 hl (k := 1) rfl (by rw [← nI_1]; rfl) (by decide) rfl (fun ls hl => ?_)
                refine lv_goto (tgt := 21) hx hb dX10_hubByTrying_79 (by decide) ?_
                exact ih (h0 + 1) y (by omega) (by rw [← hT]; simp only [cHtL]; congr 1; simp [ks_8, c29_5, Int32.not_le.mp c29_5, eq_false c54_7, eq_false ns_8, c70_9, Int32.not_lt.mpr c70_9]) hyo _ _ hH ls (by first | exact lv_sub hl [0, 2, 3, 4] rfl | (rw [dec_nI (show h0 < 2 ^ 31 by have := hw.nh; omega)]; exact lv_sub hl [0, 2, 3, 4] rfl) | (rw [eds_8]; exact lv_sub hl [0, 2, 3, 4] rfl))
              · refine lv_aload hx hb dX10_hubByTrying_73 (lv_at hl 0 rfl) ?_
                refine lv_astore_n (lv' := [(2, .ref (b 7 h0)), (4, .ref (b 7 h0)), (3, .int (nI h0)), (0, .ref (b 14 0)), (1, .int (x))]) hx hb dX10_hubByTrying_75 rfl hl (by decide) rfl (fun ls hl => ?_)
                refine lv_iinc (v := nI (h0 + 1)) (lv' := [(3, .int (nI (h0 + 1))), (2, .ref (b 7 h0)), (4, .ref (b 7 h0)), (0, .ref (b 14 0)), (1, .int (x))]) hx hb dX10_hubByTrying_76 hl (k := 2) rfl (by rw [← nI_1]; rfl) (by decide) rfl (fun ls hl => ?_)
                refine lv_goto (tgt := 21) hx hb dX10_hubByTrying_79 (by decide) ?_
                exact ih (h0 + 1) (nI h0) (by omega) (by rw [← hT]; simp only [cHtL]; congr 1; simp [ks_8, c29_5, Int32.not_le.mp c29_5, eq_false c54_7, eq_false ns_8, c70_9, Int32.not_le.mp c70_9]) (Or.inr ⟨h0, by omega, rfl⟩) _ _ hH ls (by first | exact lv_sub hl [0, 1, 3, 4] rfl | (rw [dec_nI (show h0 < 2 ^ 31 by have := hw.nh; omega)]; exact lv_sub hl [0, 1, 3, 4] rfl) | (rw [eds_8]; exact lv_sub hl [0, 1, 3, 4] rfl))
    have hxa : xAd x = none := if_neg c4_2
    exact K (nhN u) 0 (-1) (by omega) rfl (Or.inl rfl) _ _ hH ls (by rw [dec_m1]; exact lv_sub hl [0, 1, 2, 3] rfl)
  · exact k_throwS C0 hxt hlt hH thr_IAE (is := 134) (text := "no address") (by decide) hl.1 dX10_hubByTrying_7 dX10_hubByTrying_10 dX10_hubByTrying_11 dX10_hubByTrying_13 dX10_hubByTrying_16 (Nat.le_of_ble_eq_true rfl) (Nat.le_of_ble_eq_true rfl) (Nat.le_of_ble_eq_true rfl) (Nat.le_of_ble_eq_true rfl) ⟨by unfold xAd; rw [if_pos c4_2]; rfl, rfl⟩ (Nat.le_of_ble_eq_true rfl) (Nat.le_of_ble_eq_true rfl)

