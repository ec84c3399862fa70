set_option maxHeartbeats 800000 in
set_option maxRecDepth 100000 in
theorem cC_X7_bestToExtend (l : Launch) (G : GT) (A : Nat → Prop) (h : AH) (b : BA) (u : MM) (hR : RC G.2.2.1 h b u) (hw : WFc u) : cmQ l G A yX7_bestToExtend cX7_bestToExtend 4 (Option.some (FieldType.object "Routepost$Path")) 3 64 0 0 [.ref (b 11 0)] h (fun r h' => r = dec b 10 (cBte u 266 0 (-1)) ∧ h' = h) := by
  refine cm_of "Routepost$PathSearch" rfl (by decide) (Nat.le_of_ble_eq_true rfl) ?_
  intro pr e s m9 below meth c C0 hr hname hH ls hl
  obtain ⟨hx, hb, hml, hown, hts, hK, hA, -⟩ := id C0
  have hl : lv_has ls 4 [(0, .ref (b 11 0))] := hl
  have hc7 := hw.cnt6 7
  have hc8 := hw.cnt6 8
  have hc9 := hw.cnt6 9
  refine lv_null hx hb dX7_bestToExtend_0 ?_
  refine lv_astore_nN (lv' := [(1, .null), (0, .ref (b 11 0))]) hx hb dX7_bestToExtend_1 rfl hl (by decide) rfl (fun ls hl => ?_)
  refine lv_iconst (v := 0) hx hb dX7_bestToExtend_2 (by decide) ?_
  refine lv_istore_n (lv' := [(2, .int (0)), (1, .null), (0, .ref (b 11 0))]) hx hb dX7_bestToExtend_3 rfl hl (by decide) rfl (fun ls hl => ?_)
  have K : ∀ (k : Nat) (i : Nat) (x : Int32), i + k = 266 → cBte u k i x = cBte u 266 0 (-1) → (x = -1 ∨ ∃ v, v < 266 ∧ x = nI v) → ∀ (H : Heap) (locs : List Loc) (hH : HS G.1 G.2.1 A s.heap h H locs) (ls : Array Slot), lv_has ls 4 [(1, va_rf (dec b 10 x)), (2, .int (nI i)), (0, .ref (b 11 0))] → W pr l e (rmm 3 64 0 0) s m9 ([.ref (b 11 0)] : List Value).toArray below meth c H locs 0 0 (QQ below G A (fun r h' => r = dec b 10 (cBte u 266 0 (-1)) ∧ h' = h) ([.ref (b 11 0)] : List Value).toArray s 0 0) (F0 m9 4 ls []) := by
    intro k
    induction k with
    | zero =>
      intro i x hik hT hxo H locs hH ls hl
      refine lv_iload_n hx hb dX7_bestToExtend_4 rfl (lv_at hl 1 rfl) ?_
      refine lv_aload_n hx hb dX7_bestToExtend_5 rfl (lv_at hl 2 rfl) ?_
      refine c_getI C0 hH hR ci_11 (i := 0) (j := 2) rfl rfl (by decide) rfl fl_X7_39 (v := u 140 0) rfl dX7_bestToExtend_6 ?_
      refine lv_icmp_ge (tgt := 62) hx hb dX7_bestToExtend_9 (by decide) (fun c9_1 => ?_) (fun c9_1 => ?_)
      · refine o_aload_n_q hx hb dX7_bestToExtend_62 rfl (lv_at hl 0 rfl) ?_
        have eR : (dec b 10 x : Option Nat) = dec b 10 (cBte u 266 0 (-1)) := by rw [← hT]; simp only [cBte]; try rw [if_pos c9_1]
        exact e_Q (v := dec b 10 x) C0 hr (Or.inl ⟨_, rfl⟩) hH ⟨eR, rfl⟩ (Nat.le_of_ble_eq_true rfl) (Nat.le_of_ble_eq_true rfl) dX7_bestToExtend_63
      · refine lv_iload_n hx hb dX7_bestToExtend_12 rfl (lv_at hl 1 rfl) ?_
        refine lv_aload_n hx hb dX7_bestToExtend_13 rfl (lv_at hl 2 rfl) ?_
        refine c_getR C0 hH hR ci_11 (i := 0) (j := 0) rfl rfl (by decide) rfl fl_X7_12 (v := some (b 3 5)) rfl dX7_bestToExtend_14 ?_
        refine k_i hH (k_runV (rest := [.int (nI i)]) C0 hH (cL_size l G A _ b _ hR hw 5 (show 5 < 6 + npN _ by omega)) mv_Jx4a65c_size_8abf5 ml_X7_67 ci_3 (hR.kind (K := 3) (i := 5) (show 5 < 6 + npN _ by omega)) rfl ⟨Nat.le_of_ble_eq_true rfl, Nat.le_of_ble_eq_true rfl⟩ hl.1 rfl (Nat.le_of_ble_eq_true rfl) dX7_bestToExtend_17 (by simp)) (fun r9 h1 H locs hp hH => ?_)
        obtain ⟨er9, eh⟩ := hp
        rw [eh] at hH
        clear eh
        rw [hw.sz5] at er9
        subst er9
        refine lv_icmp_ge (tgt := 62) hx hb dX7_bestToExtend_20 (by decide) (fun c20_2 => ?_) (fun c20_2 => ?_)
        · refine o_aload_n_q hx hb dX7_bestToExtend_62 rfl (lv_at hl 0 rfl) ?_
          have eR : (dec b 10 x : Option Nat) = dec b 10 (cBte u 266 0 (-1)) := by rw [← hT]; rfl
          exact e_Q (v := dec b 10 x) C0 hr (Or.inl ⟨_, rfl⟩) hH ⟨eR, rfl⟩ (Nat.le_of_ble_eq_true rfl) (Nat.le_of_ble_eq_true rfl) dX7_bestToExtend_63
        · exact absurd (nI_le (show 266 ≤ i by omega) (by omega)) c20_2
    | succ k ih =>
      intro i x hik hT hxo H locs hH ls hl
      refine lv_iload_n hx hb dX7_bestToExtend_4 rfl (lv_at hl 1 rfl) ?_
      refine lv_aload_n hx hb dX7_bestToExtend_5 rfl (lv_at hl 2 rfl) ?_
      refine c_getI C0 hH hR ci_11 (i := 0) (j := 2) rfl rfl (by decide) rfl fl_X7_39 (v := u 140 0) rfl dX7_bestToExtend_6 ?_
      refine lv_icmp_ge (tgt := 62) hx hb dX7_bestToExtend_9 (by decide) (fun c9_3 => ?_) (fun c9_3 => ?_)
      · refine o_aload_n_q hx hb dX7_bestToExtend_62 rfl (lv_at hl 0 rfl) ?_
        have eR : (dec b 10 x : Option Nat) = dec b 10 (cBte u 266 0 (-1)) := by rw [← hT]; simp only [cBte]; try rw [if_pos c9_3]
        exact e_Q (v := dec b 10 x) C0 hr (Or.inl ⟨_, rfl⟩) hH ⟨eR, rfl⟩ (Nat.le_of_ble_eq_true rfl) (Nat.le_of_ble_eq_true rfl) dX7_bestToExtend_63
      · refine lv_iload_n hx hb dX7_bestToExtend_12 rfl (lv_at hl 1 rfl) ?_
        refine lv_aload_n hx hb dX7_bestToExtend_13 rfl (lv_at hl 2 rfl) ?_
        refine c_getR C0 hH hR ci_11 (i := 0) (j := 0) rfl rfl (by decide) rfl fl_X7_12 (v := some (b 3 5)) rfl dX7_bestToExtend_14 ?_
        refine k_i hH (k_runV (rest := [.int (nI i)]) C0 hH (cL_size l G A _ b _ hR hw 5 (show 5 < 6 + npN _ by omega)) mv_Jx4a65c_size_8abf5 ml_X7_67 ci_3 (hR.kind (K := 3) (i := 5) (show 5 < 6 + npN _ by omega)) rfl ⟨Nat.le_of_ble_eq_true rfl, Nat.le_of_ble_eq_true rfl⟩ hl.1 rfl (Nat.le_of_ble_eq_true rfl) dX7_bestToExtend_17 (by simp)) (fun r9 h1 H locs hp hH => ?_)
        obtain ⟨er9, eh⟩ := hp
        rw [eh] at hH
        clear eh
        rw [hw.sz5] at er9
        subst er9
        refine lv_icmp_ge (tgt := 62) hx hb dX7_bestToExtend_20 (by decide) (fun c20_4 => ?_) (fun c20_4 => ?_)
        · exact absurd c20_4 (nI_ge (show i < 266 by omega) (by omega))
        · refine lv_aload_n hx hb dX7_bestToExtend_23 rfl (lv_at hl 2 rfl) ?_
          refine c_getR C0 hH hR ci_11 (i := 0) (j := 0) rfl rfl (by decide) rfl fl_X7_12 (v := some (b 3 5)) rfl dX7_bestToExtend_24 ?_
          refine lv_iload_n hx hb dX7_bestToExtend_27 rfl (lv_at hl 1 rfl) ?_
          refine k_q hH (k_runV (rest := []) C0 hH (cL_get l G A _ b _ hR hw 5 i (show 5 < 6 + npN _ by omega) (by rw [hw.sz5]; omega) (a := b 10 i) rfl) mv_Jx4a65c_get_915e3 ml_X7_71 ci_3 (hR.kind (K := 3) (i := 5) (show 5 < 6 + npN _ by omega)) rfl ⟨Nat.le_of_ble_eq_true rfl, Nat.le_of_ble_eq_true rfl⟩ hl.1 rfl (Nat.le_of_ble_eq_true rfl) dX7_bestToExtend_28 (by simp)) (fun r9 h1 H locs hp hH => ?_)
          obtain ⟨er9, eh⟩ := hp
          rw [eh] at hH
          clear eh
          subst er9
          refine k_chk C0 hH ci_10 (hR.kind (K := 10) (i := i) (show i < 266 by omega)) cl_X7_18 dX7_bestToExtend_31 ?_
          refine lv_astore_n (lv' := [(3, .ref (b 10 i)), (1, va_rf (dec b 10 x)), (2, .int (nI i)), (0, .ref (b 11 0))]) hx hb dX7_bestToExtend_34 rfl hl (by decide) rfl (fun ls hl => ?_)
          refine lv_aload_n hx hb dX7_bestToExtend_35 rfl (lv_at hl 0 rfl) ?_
          refine c_getI C0 hH hR ci_10 (i := i) (j := 6) (show i < 266 by omega) rfl (by decide) rfl fl_X7_75 (v := u 136 i) rfl dX7_bestToExtend_36 ?_
          refine lv_if_ne (tgt := 56) hx hb dX7_bestToExtend_39 (by decide) (fun c39_5 => ?_) (fun c39_5 => ?_)
          · refine lv_iinc (v := nI (i + 1)) (lv' := [(2, .int (nI (i + 1))), (3, .ref (b 10 i)), (1, va_rf (dec b 10 x)), (0, .ref (b 11 0))]) hx hb dX7_bestToExtend_56 hl (k := 2) rfl (by rw [← nI_1]; rfl) (by decide) (by simp [va_rf_cat]) (fun ls hl => ?_)
            refine lv_goto (tgt := 4) hx hb dX7_bestToExtend_59 (by decide) ?_
            exact ih (i + 1) x (by omega) (by rw [← hT]; simp only [cBte]; rw [if_neg c9_3]; congr 1; simp [c9_3, Int32.not_le.mp c9_3, c20_4, Int32.not_le.mp c20_4, eq_false c39_5]) hxo _ _ hH ls (by first | exact lv_sub hl [2, 0, 3] rfl | (rw [dec_nI (show i < 2 ^ 31 by omega)]; exact lv_sub hl [2, 0, 3] rfl) | (rw [dec_m1]; exact lv_sub hl [2, 0, 3] rfl))
          · refine o_aload_n_q hx hb dX7_bestToExtend_42 rfl (lv_at hl 1 rfl) ?_
            rcases (id hxo) with es_6 | ⟨s_6, hs_6, es_6⟩
            · have eds_6 : dec b 10 (x) = none := by rw [es_6]; exact dec_m1
              rw [eds_6]
              rw [eds_6] at hl
              refine lv_ifnullN (tgt := 54) hx hb dX7_bestToExtend_43 (by decide) ?_
              refine lv_aload_n hx hb dX7_bestToExtend_54 rfl (lv_at hl 0 rfl) ?_
              refine lv_astore_n (lv' := [(1, .ref (b 10 i)), (3, .ref (b 10 i)), (2, .int (nI i)), (0, .ref (b 11 0))]) hx hb dX7_bestToExtend_55 rfl hl (by decide) rfl (fun ls hl => ?_)
              refine lv_iinc (v := nI (i + 1)) (lv' := [(2, .int (nI (i + 1))), (1, .ref (b 10 i)), (3, .ref (b 10 i)), (0, .ref (b 11 0))]) hx hb dX7_bestToExtend_56 hl (k := 2) rfl (by rw [← nI_1]; rfl) (by decide) rfl (fun ls hl => ?_)
              refine lv_goto (tgt := 4) hx hb dX7_bestToExtend_59 (by decide) ?_
              exact ih (i + 1) (nI i) (by omega) (by rw [← hT]; simp only [cBte]; rw [if_neg c9_3]; congr 1; simp [c9_3, Int32.not_le.mp c9_3, c20_4, Int32.not_le.mp c20_4, eq_true c39_5, eq_true es_6]) (Or.inr ⟨i, by omega, rfl⟩) _ _ hH ls (by first | exact lv_sub hl [1, 0, 3] rfl | (rw [dec_nI (show i < 2 ^ 31 by omega)]; exact lv_sub hl [1, 0, 3] rfl) | (rw [eds_6]; exact lv_sub hl [1, 0, 3] rfl))
            · have eds_6 : dec b 10 (x) = some (b 10 s_6) := by rw [es_6]; exact dec_nI (by have := hc8; omega)
              have ks_6 : (x).toNatClampNeg = s_6 := by rw [es_6]; exact nI_clamp (by have := hc8; omega)
              have ns_6 : ¬ x = -1 := by rw [es_6]; exact nI_nm (by have := hc8; omega)
              rw [eds_6]
              rw [eds_6] at hl
              refine lv_ifnull hx hb dX7_bestToExtend_43 ?_
              refine lv_aload_n hx hb dX7_bestToExtend_46 rfl (lv_at hl 0 rfl) ?_
              refine lv_aload_n hx hb dX7_bestToExtend_47 rfl (lv_at hl 1 rfl) ?_
              refine k_i hH (k_runV (rest := []) C0 hH (cC_X6_isBetterThan l G A _ b _ hR hw i s_6 (show i < 266 by omega) hs_6) mv_X6_isBetterThan ml_X7_79 ci_10 (hR.kind (K := 10) (i := i) (show i < 266 by omega)) rfl ⟨Nat.le_of_ble_eq_true rfl, Nat.le_of_ble_eq_true rfl⟩ hl.1 rfl (Nat.le_of_ble_eq_true rfl) dX7_bestToExtend_48 (by simp)) (fun r_7 h1 H locs hp hH => ?_)
              obtain ⟨er_7, eh⟩ := hp
              rw [eh] at hH
              clear eh
              subst er_7
              refine lv_if_eq (tgt := 56) hx hb dX7_bestToExtend_51 (by decide) (fun c51_8 => ?_) (fun c51_8 => ?_)
              · refine lv_iinc (v := nI (i + 1)) (lv' := [(2, .int (nI (i + 1))), (3, .ref (b 10 i)), (1, .ref (b 10 s_6)), (0, .ref (b 11 0))]) hx hb dX7_bestToExtend_56 hl (k := 2) rfl (by rw [← nI_1]; rfl) (by decide) rfl (fun ls hl => ?_)
                refine lv_goto (tgt := 4) hx hb dX7_bestToExtend_59 (by decide) ?_
                exact ih (i + 1) x (by omega) (by rw [← hT]; simp only [cBte]; rw [if_neg c9_3]; congr 1; simp [ks_6, c9_3, Int32.not_le.mp c9_3, c20_4, Int32.not_le.mp c20_4, eq_true c39_5, eq_false ns_6, eq_true c51_8]) hxo _ _ hH ls (by first | exact lv_sub hl [2, 0, 3] rfl | (rw [dec_nI (show i < 2 ^ 31 by omega)]; exact lv_sub hl [2, 0, 3] rfl) | (rw [eds_6]; exact lv_sub hl [2, 0, 3] rfl))
              · refine lv_aload_n hx hb dX7_bestToExtend_54 rfl (lv_at hl 0 rfl) ?_
                refine lv_astore_n (lv' := [(1, .ref (b 10 i)), (3, .ref (b 10 i)), (2, .int (nI i)), (0, .ref (b 11 0))]) hx hb dX7_bestToExtend_55 rfl hl (by decide) rfl (fun ls hl => ?_)
                refine lv_iinc (v := nI (i + 1)) (lv' := [(2, .int (nI (i + 1))), (1, .ref (b 10 i)), (3, .ref (b 10 i)), (0, .ref (b 11 0))]) hx hb dX7_bestToExtend_56 hl (k := 2) rfl (by rw [← nI_1]; rfl) (by decide) rfl (fun ls hl => ?_)
                refine lv_goto (tgt := 4) hx hb dX7_bestToExtend_59 (by decide) ?_
                exact ih (i + 1) (nI i) (by omega) (by rw [← hT]; simp only [cBte]; rw [if_neg c9_3]; congr 1; simp [ks_6, c9_3, Int32.not_le.mp c9_3, c20_4, Int32.not_le.mp c20_4, eq_true c39_5, eq_false ns_6, eq_false c51_8]) (Or.inr ⟨i, by omega, rfl⟩) _ _ hH ls (by first | exact lv_sub hl [1, 0, 3] rfl | (rw [dec_nI (show i < 2 ^ 31 by omega)]; exact lv_sub hl [1, 0, 3] rfl) | (rw [eds_6]; exact lv_sub hl [1, 0, 3] rfl))
  exact K 266 0 (-1) (by omega) rfl (Or.inl rfl) _ _ hH ls (by rw [dec_m1]; exact lv_sub hl [1, 0, 2] rfl)
theorem PathOK.ext1s {u : MM} {md : Nat} (hp : PathOK u md) (hm : md < 266) {i l : Nat} {rd : Int32} (hs : cExt1 u i l rd 140 0 = nI md + 1) (hl : vp_in (u 3 l) (nhN u)) : PathOK (cExt1 u i l rd) (md + 1) := by
  rcases hp.ext1 hm (i := i) (rd := rd) hl with g | g
  · have e := g.1
    rw [hs, nI_1, nI_eq (by omega) (by omega)] at e
    omega
  · exact g
set_option maxHeartbeats 800000 in
set_option maxRecDepth 100000 in
theorem cC_X7_extend (l : Launch) (G : GT) (A : Nat → Prop) (h : AH) (b : BA) (u : MM) (hR : RC G.2.2.1 h b u) (hw : WFc u) (i0 md0 : Nat) (rd : Int32) (hi0 : i0 < md0) (hp : PathOK u md0) : cmV l G A yX7_extend cX7_extend 6 3 64 0 0 [.ref (b 11 0), .ref (b 10 i0), .ref (b 3 1), .int (rd)] h (fun h' => RC G.2.2.1 h' b (cExt u i0 rd) ∧ WFc (cExt u i0 rd)) := by
  refine cm_of "Routepost$PathSearch" rfl (by decide) (Nat.le_of_ble_eq_true rfl) ?_
  intro pr e s m9 below meth c C0 hr hname hH ls hl
  obtain ⟨hx, hb, hml, hown, hts, hK, hA, -⟩ := id C0
  have hl : lv_has ls 6 [(0, .ref (b 11 0)), (1, .ref (b 10 i0)), (2, .ref (b 3 1)), (3, .int (rd))] := hl
  have hc7 := hw.cnt6 7
  have hc8 := hw.cnt6 8
  have hc9 := hw.cnt6 9
  refine lv_aload_n hx hb dX7_extend_0 rfl (lv_at hl 1 rfl) ?_
  refine lv_iconst (v := 1) hx hb dX7_extend_1 (by decide) ?_
  refine c_putI C0 hH hR ci_10 (i := i0) (j := 6) (show i0 < 266 by have := hp.2.2.1; omega) rfl (k := 136) rfl (by decide) (by decide) rfl fl_X7_75 rfl (x := 1) (by decide) (by decide) dX7_extend_2 (fun h H locs hH hR => ?_)
  replace hw := hw.upx (k := 136) (i := i0) (x := 1) (by unfold kWc kSz; decide)
  refine lv_iconst (v := 0) hx hb dX7_extend_5 (by decide) ?_
  refine lv_istore (lv' := [(4, .int (0)), (0, .ref (b 11 0)), (1, .ref (b 10 i0)), (2, .ref (b 3 1)), (3, .int (rd))]) hx hb dX7_extend_6 hl (by decide) rfl (fun ls hl => ?_)
  have K : ∀ (k : Nat) (l0 : Nat) (U : MM) (md : Nat), l0 + k = nlN u → cExtL i0 rd k l0 U = cExt u i0 rd → nlN U = nlN u → PathOK U md → i0 < md → ∀ (h : AH) (H : Heap) (locs : List Loc) (hH : HS G.1 G.2.1 A s.heap h H locs) (hR : RC G.2.2.1 h b U) (hw : WFc U) (ls : Array Slot), lv_has ls 6 [(4, .int (nI l0)), (0, .ref (b 11 0)), (1, .ref (b 10 i0)), (2, .ref (b 3 1)), (3, .int (rd))] → W pr l e (rmm 3 64 0 0) s m9 ([.ref (b 11 0), .ref (b 10 i0), .ref (b 3 1), .int (rd)] : List Value).toArray below meth c H locs 0 0 (QV below G A (fun h' => RC G.2.2.1 h' b (cExt u i0 rd) ∧ WFc (cExt u i0 rd)) ([.ref (b 11 0), .ref (b 10 i0), .ref (b 3 1), .int (rd)] : List Value).toArray s 0 0) (F0 m9 8 ls []) := by
    intro k
    induction k with
    | zero =>
      intro l0 U md hik hT hnU hpU him h H locs hH hR hw ls hl
      have hc7 := hw.cnt6 7
      have hc8 := hw.cnt6 8
      have hw0 := hw
      refine lv_iload hx hb dX7_extend_8 (lv_at hl 0 rfl) ?_
      refine lv_aload_n hx hb dX7_extend_10 rfl (lv_at hl 3 rfl) ?_
      refine k_i hH (k_runV (rest := [.int (nI l0)]) C0 hH (cL_size l G A _ b _ hR hw 1 (show 1 < 6 + npN _ by omega)) mv_Jx4a65c_size_8abf5 ml_X7_67 ci_3 (hR.kind (K := 3) (i := 1) (show 1 < 6 + npN _ by omega)) rfl ⟨Nat.le_of_ble_eq_true rfl, Nat.le_of_ble_eq_true rfl⟩ hl.1 rfl (Nat.le_of_ble_eq_true rfl) dX7_extend_11 (by simp)) (fun r9 h1 H locs hp hH => ?_)
      obtain ⟨er9, eh⟩ := hp
      rw [eh] at hH
      clear eh
      rw [hw.sz1] at er9
      subst er9
      refine lv_icmp_ge (tgt := 122) hx hb dX7_extend_14 (by decide) (fun c14_1 => ?_) (fun c14_1 => ?_)
      · have eM : (cExt u i0 rd) = U := by rw [← hT]; rfl
        exact e_V C0 hr hH (by rw [eM]; exact ⟨hR, hw⟩) (Nat.le_of_ble_eq_true rfl) (Nat.le_of_ble_eq_true rfl) dX7_extend_122
      · exact absurd (by rw [hnU, show l0 = nlN u by omega]; exact Int32.le_refl _) c14_1
    | succ k ih =>
      intro l0 U md hik hT hnU hpU him h H locs hH hR hw ls hl
      have hc7 := hw.cnt6 7
      have hc8 := hw.cnt6 8
      have hw0 := hw
      refine lv_iload hx hb dX7_extend_8 (lv_at hl 0 rfl) ?_
      refine lv_aload_n hx hb dX7_extend_10 rfl (lv_at hl 3 rfl) ?_
      refine k_i hH (k_runV (rest := [.int (nI l0)]) C0 hH (cL_size l G A _ b _ hR hw 1 (show 1 < 6 + npN _ by omega)) mv_Jx4a65c_size_8abf5 ml_X7_67 ci_3 (hR.kind (K := 3) (i := 1) (show 1 < 6 + npN _ by omega)) rfl ⟨Nat.le_of_ble_eq_true rfl, Nat.le_of_ble_eq_true rfl⟩ hl.1 rfl (Nat.le_of_ble_eq_true rfl) dX7_extend_11 (by simp)) (fun r9 h1 H locs hp hH => ?_)
      obtain ⟨er9, eh⟩ := hp
      rw [eh] at hH
      clear eh
      rw [hw.sz1] at er9
      subst er9
      refine lv_icmp_ge (tgt := 122) hx hb dX7_extend_14 (by decide) (fun c14_2 => ?_) (fun c14_2 => ?_)
      · exact absurd c14_2 (nI_ge (show l0 < nlN U by omega) (by have := hw.nl; omega))
      · refine lv_aload_n hx hb dX7_extend_17 rfl (lv_at hl 1 rfl) ?_
        refine c_getI C0 hH hR ci_11 (i := 0) (j := 2) rfl rfl (by decide) rfl fl_X7_39 (v := nI md) hpU.1 dX7_extend_18 ?_
        refine lv_aload_n hx hb dX7_extend_21 rfl (lv_at hl 1 rfl) ?_
        refine c_getR C0 hH hR ci_11 (i := 0) (j := 0) rfl rfl (by decide) rfl fl_X7_12 (v := some (b 3 5)) rfl dX7_extend_22 ?_
        refine k_i hH (k_runV (rest := [.int (nI md)]) C0 hH (cL_size l G A _ b _ hR hw 5 (show 5 < 6 + npN _ by omega)) mv_Jx4a65c_size_8abf5 ml_X7_67 ci_3 (hR.kind (K := 3) (i := 5) (show 5 < 6 + npN _ by omega)) rfl ⟨Nat.le_of_ble_eq_true rfl, Nat.le_of_ble_eq_true rfl⟩ hl.1 rfl (Nat.le_of_ble_eq_true rfl) dX7_extend_25 (by simp)) (fun r9 h1 H locs hp hH => ?_)
        obtain ⟨er9, eh⟩ := hp
        rw [eh] at hH
        clear eh
        rw [hw.sz5] at er9
        subst er9
        refine lv_icmp_ge (tgt := 122) hx hb dX7_extend_28 (by decide) (fun c28_3 => ?_) (fun c28_3 => ?_)
        · have eM : (cExt u i0 rd) = U := by rw [← hT]; simp only [cExtL]; rw [if_pos (by rw [hpU.1]; exact c28_3)]
          exact e_V C0 hr hH (by rw [eM]; exact ⟨hR, hw⟩) (Nat.le_of_ble_eq_true rfl) (Nat.le_of_ble_eq_true rfl) dX7_extend_122
        · have hm6 : md < 266 := by rcases Nat.lt_or_ge md 266 with q | q; exact q; exact absurd (nI_le q (by have := hpU.2.2.1; omega)) c28_3
          refine lv_aload_n hx hb dX7_extend_31 rfl (lv_at hl 3 rfl) ?_
          refine lv_iload hx hb dX7_extend_32 (lv_at hl 0 rfl) ?_
          refine k_q hH (k_runV (rest := []) C0 hH (cL_get l G A _ b _ hR hw 1 l0 (show 1 < 6 + npN _ by omega) (by rw [hw.sz1]; omega) (a := b 8 l0) rfl) mv_Jx4a65c_get_915e3 ml_X7_71 ci_3 (hR.kind (K := 3) (i := 1) (show 1 < 6 + npN _ by omega)) rfl ⟨Nat.le_of_ble_eq_true rfl, Nat.le_of_ble_eq_true rfl⟩ hl.1 rfl (Nat.le_of_ble_eq_true rfl) dX7_extend_34 (by simp)) (fun r9 h1 H locs hp hH => ?_)
          obtain ⟨er9, eh⟩ := hp
          rw [eh] at hH
          clear eh
          subst er9
          refine k_chk C0 hH ci_8 (hR.kind (K := 8) (i := l0) (show l0 < nlN U by omega)) cl_X7_83 dX7_extend_37 ?_
          refine lv_astore (lv' := [(5, .ref (b 8 l0)), (4, .int (nI l0)), (0, .ref (b 11 0)), (1, .ref (b 10 i0)), (2, .ref (b 3 1)), (3, .int (rd))]) hx hb dX7_extend_40 hl (by decide) rfl (fun ls hl => ?_)
          refine lv_aload hx hb dX7_extend_42 (lv_at hl 0 rfl) ?_
          refine c_getI C0 hH hR ci_8 (i := l0) (j := 8) (show l0 < nlN U by omega) rfl (by decide) rfl fl_X7_85 (v := U 108 l0) rfl dX7_extend_44 ?_
          refine lv_if_eq (tgt := 116) hx hb dX7_extend_47 (by decide) (fun c47_4 => ?_) (fun c47_4 => ?_)
          · refine lv_iinc (v := nI (l0 + 1)) (lv' := [(4, .int (nI (l0 + 1))), (5, .ref (b 8 l0)), (0, .ref (b 11 0)), (1, .ref (b 10 i0)), (2, .ref (b 3 1)), (3, .int (rd))]) hx hb dX7_extend_116 hl (k := 1) rfl (by rw [← nI_1]; rfl) (by decide) rfl (fun ls hl => ?_)
            refine lv_goto (tgt := 8) hx hb dX7_extend_119 (by decide) ?_
            have eX : cExt1 U i0 l0 rd = U := by unfold cExt1; rw [if_neg (by simp [c14_2, Int32.not_le.mp c14_2, c28_3, Int32.not_le.mp c28_3, eq_true c47_4])]
            have hlv := (hw0.ln (l := l0) (by omega)).2
            have hpX : PathOK U md := hpU
            exact ih (l0 + 1) U md (by omega) (by rw [← hT]; simp only [cExtL]; rw [if_neg (by rw [hpU.1]; exact c28_3), eX]) (by rw [← eX]; exact (nlN_ext (cExt1_key _ _ _ _ (by omega))).trans hnU) hpX (by omega) _ _ _ hH hR hw ls (lv_sub hl [0, 2, 3, 4, 5] rfl)
          · refine lv_aload hx hb dX7_extend_50 (lv_at hl 0 rfl) ?_
            obtain ⟨v_5, hv_5, ev_5⟩ := hw.exH (show vp_in (U 2 l0) _ from (hw.ln (show l0 < nlN U by omega)).1)
            have kv_5 : (U 2 l0).toNatClampNeg = v_5 := by rw [ev_5]; exact nI_clamp (by have := hw.nh; have := hw.np; omega)
            refine c_getR C0 hH hR ci_8 (i := l0) (j := 1) (show l0 < nlN U by omega) rfl (by decide) rfl fl_X7_88 (v := some (b 7 v_5)) (show dec b 7 (U 2 l0) = some (b 7 v_5) from by rw [show U 2 l0 = nI v_5 from Eq.trans rfl ev_5]; exact dec_nI (by have := hc7; have := (show v_5 < cnt U 7 from hv_5); omega)) dX7_extend_52 ?_
            refine lv_aload_n hx hb dX7_extend_55 rfl (lv_at hl 3 rfl) ?_
            refine c_getR C0 hH hR ci_10 (i := i0) (j := 0) (show i0 < 266 by have := hp.2.2.1; omega) rfl (by decide) rfl fl_X7_56 (v := dec b 7 (U 130 i0)) (show dec b 7 (U 130 i0) = dec b 7 (U 130 i0) from congrArg _ rfl) dX7_extend_56 ?_
            refine lv_acmp_ne (rx := some (b 7 v_5)) (ry := dec b 7 (U 130 i0)) (tgt := 116) hx hb dX7_extend_59 (by decide) (fun c59_6 => ?_) (fun c59_6 => ?_)
            · rw [(eq_comm.trans (hR.acQ hw (T := 7) (by omega) (hw.rg (k := 130) (by decide) i0) hv_5)).trans eq_comm] at c59_6
              rw [← ev_5] at c59_6
              refine lv_iinc (v := nI (l0 + 1)) (lv' := [(4, .int (nI (l0 + 1))), (5, .ref (b 8 l0)), (0, .ref (b 11 0)), (1, .ref (b 10 i0)), (2, .ref (b 3 1)), (3, .int (rd))]) hx hb dX7_extend_116 hl (k := 1) rfl (by rw [← nI_1]; rfl) (by decide) rfl (fun ls hl => ?_)
              refine lv_goto (tgt := 8) hx hb dX7_extend_119 (by decide) ?_
              have eX : cExt1 U i0 l0 rd = U := by unfold cExt1; rw [if_neg (by simp [kv_5, c14_2, Int32.not_le.mp c14_2, c28_3, Int32.not_le.mp c28_3, eq_false c47_4, eq_false c59_6])]
              have hlv := (hw0.ln (l := l0) (by omega)).2
              have hpX : PathOK U md := hpU
              exact ih (l0 + 1) U md (by omega) (by rw [← hT]; simp only [cExtL]; rw [if_neg (by rw [hpU.1]; exact c28_3), eX]) (by rw [← eX]; exact (nlN_ext (cExt1_key _ _ _ _ (by omega))).trans hnU) hpX (by omega) _ _ _ hH hR hw ls (lv_sub hl [0, 2, 3, 4, 5] rfl)
            · rw [(eq_comm.trans (hR.acQ hw (T := 7) (by omega) (hw.rg (k := 130) (by decide) i0) hv_5)).trans eq_comm] at c59_6
              rw [← ev_5] at c59_6
              refine lv_aload_n hx hb dX7_extend_62 rfl (lv_at hl 3 rfl) ?_
              refine lv_aload hx hb dX7_extend_63 (lv_at hl 0 rfl) ?_
              obtain ⟨v_7, hv_7, ev_7⟩ := hw.exH (show vp_in (U 3 l0) _ from (hw.ln (show l0 < nlN U by omega)).2)
              have kv_7 : (U 3 l0).toNatClampNeg = v_7 := by rw [ev_7]; exact nI_clamp (by have := hw.nh; have := hw.np; omega)
              refine c_getR C0 hH hR ci_8 (i := l0) (j := 2) (show l0 < nlN U by omega) rfl (by decide) rfl fl_X7_91 (v := some (b 7 v_7)) (show dec b 7 (U 3 l0) = some (b 7 v_7) from by rw [show U 3 l0 = nI v_7 from Eq.trans rfl ev_7]; exact dec_nI (by have := hc7; have := (show v_7 < cnt U 7 from hv_7); omega)) dX7_extend_65 ?_
              refine k_i hH (k_runV (rest := []) C0 hH (cC_X6_hasVisited l G A _ b _ hR hw i0 v_7 (show i0 < 266 by have := hp.2.2.1; omega) hv_7) mv_X6_hasVisited ml_X7_94 ci_10 (hR.kind (K := 10) (i := i0) (show i0 < 266 by have := hp.2.2.1; omega)) rfl ⟨Nat.le_of_ble_eq_true rfl, Nat.le_of_ble_eq_true rfl⟩ hl.1 rfl (Nat.le_of_ble_eq_true rfl) dX7_extend_68 (by simp)) (fun r_8 h1 H locs hp hH => ?_)
              obtain ⟨er_8, eh⟩ := hp
              rw [eh] at hH
              clear eh
              rw [← ev_7] at er_8
              subst er_8
              refine lv_if_ne (tgt := 116) hx hb dX7_extend_71 (by decide) (fun c71_9 => ?_) (fun c71_9 => ?_)
              · refine lv_iinc (v := nI (l0 + 1)) (lv' := [(4, .int (nI (l0 + 1))), (5, .ref (b 8 l0)), (0, .ref (b 11 0)), (1, .ref (b 10 i0)), (2, .ref (b 3 1)), (3, .int (rd))]) hx hb dX7_extend_116 hl (k := 1) rfl (by rw [← nI_1]; rfl) (by decide) rfl (fun ls hl => ?_)
                refine lv_goto (tgt := 8) hx hb dX7_extend_119 (by decide) ?_
                have eX : cExt1 U i0 l0 rd = U := by unfold cExt1; rw [if_neg (by simp [kv_5, kv_7, c14_2, Int32.not_le.mp c14_2, c28_3, Int32.not_le.mp c28_3, eq_false c47_4, eq_true c59_6, eq_false c71_9])]
                have hlv := (hw0.ln (l := l0) (by omega)).2
                have hpX : PathOK U md := hpU
                exact ih (l0 + 1) U md (by omega) (by rw [← hT]; simp only [cExtL]; rw [if_neg (by rw [hpU.1]; exact c28_3), eX]) (by rw [← eX]; exact (nlN_ext (cExt1_key _ _ _ _ (by omega))).trans hnU) hpX (by omega) _ _ _ hH hR hw ls (lv_sub hl [0, 2, 3, 4, 5] rfl)
              · refine lv_aload_n hx hb dX7_extend_74 rfl (lv_at hl 2 rfl) ?_
                refine c_getR C0 hH hR ci_11 (i := 0) (j := 0) rfl rfl (by decide) rfl fl_X7_12 (v := some (b 3 5)) rfl dX7_extend_75 ?_
                refine lv_aload_n hx hb dX7_extend_78 rfl (lv_at hl 2 rfl) ?_
                refine c_getI C0 hH hR ci_11 (i := 0) (j := 2) rfl rfl (by decide) rfl fl_X7_39 (v := nI md) hpU.1 dX7_extend_79 ?_
                refine k_q hH (k_runV (rest := []) C0 hH (cL_get l G A _ b _ hR hw 5 md (show 5 < 6 + npN _ by omega) (by rw [hw.sz5]; omega) (a := b 10 md) rfl) mv_Jx4a65c_get_915e3 ml_X7_71 ci_3 (hR.kind (K := 3) (i := 5) (show 5 < 6 + npN _ by omega)) rfl ⟨Nat.le_of_ble_eq_true rfl, Nat.le_of_ble_eq_true rfl⟩ hl.1 rfl (Nat.le_of_ble_eq_true rfl) dX7_extend_82 (by simp)) (fun r9 h1 H locs hp hH => ?_)
                obtain ⟨er9, eh⟩ := hp
                rw [eh] at hH
                clear eh
                subst er9
                refine k_chk C0 hH ci_10 (hR.kind (K := 10) (i := md) (show md < 266 by omega)) cl_X7_18 dX7_extend_85 ?_
                refine lv_aload_n hx hb dX7_extend_88 rfl (lv_at hl 3 rfl) ?_
                refine lv_aload hx hb dX7_extend_89 (lv_at hl 0 rfl) ?_
                refine lv_aload hx hb dX7_extend_91 (lv_at hl 0 rfl) ?_
                refine lv_iload_n hx hb dX7_extend_93 rfl (lv_at hl 5 rfl) ?_
                refine k_i hH (k_runV (rest := [.ref (b 8 l0), .ref (b 10 i0), .ref (b 10 md)]) C0 hH (cC_X4_departureFrom l G A _ b _ hR hw l0 rd (show l0 < nlN U by omega)) mv_X4_departureFrom ml_X7_98 ci_8 (hR.kind (K := 8) (i := l0) (show l0 < nlN U by omega)) rfl ⟨Nat.le_of_ble_eq_true rfl, Nat.le_of_ble_eq_true rfl⟩ hl.1 rfl (Nat.le_of_ble_eq_true rfl) dX7_extend_94 (by simp)) (fun r_10 h1 H locs hp hH => ?_)
                obtain ⟨er_10, eh⟩ := hp
                rw [eh] at hH
                clear eh
                subst er_10
                refine lv_aload hx hb dX7_extend_97 (lv_at hl 0 rfl) ?_
                refine c_getI C0 hH hR ci_8 (i := l0) (j := 7) (show l0 < nlN U by omega) rfl (by decide) rfl fl_X7_102 (v := U 6 l0) rfl dX7_extend_99 ?_
                refine lv_iadd hx hb dX7_extend_102 ?_
                refine k_v hH (k_runV (rest := []) C0 hH (cC_X6_follow l G A _ b _ hR hw md i0 l0 ((cDep U l0 rd) + (U 6 l0)) (show md < 266 by omega) (show i0 < 266 by have := hp.2.2.1; omega) (show md ≠ i0 by omega) (show l0 < nlN U by omega)) mv_X6_follow ml_X7_105 ci_10 (hR.kind (K := 10) (i := md) (show md < 266 by omega)) rfl ⟨Nat.le_of_ble_eq_true rfl, Nat.le_of_ble_eq_true rfl⟩ hl.1 rfl (Nat.le_of_ble_eq_true rfl) dX7_extend_103 (by simp)) (fun h H locs hp hH => ?_)
                obtain ⟨hR, hw⟩ := hp
                refine lv_aload_n hx hb dX7_extend_106 rfl (lv_at hl 2 rfl) ?_
                refine lv_dup hx hb dX7_extend_107 rfl ?_
                refine c_getI C0 hH hR ci_11 (i := 0) (j := 2) rfl rfl (by decide) rfl fl_X7_39 (v := nI md) ((congrFun (cFollow_k U md i0 l0 (cDep U l0 rd + U 6 l0) (k := 140) (by omega)) 0).trans hpU.1) dX7_extend_108 ?_
                refine lv_iconst (v := 1) hx hb dX7_extend_111 (by decide) ?_
                refine lv_iadd hx hb dX7_extend_112 ?_
                refine c_putI C0 hH hR ci_11 (i := 0) (j := 2) rfl rfl (k := 140) rfl (by decide) (by decide) rfl fl_X7_39 rfl (x := (nI md) + 1) rfl rfl dX7_extend_113 (fun h H locs hH hR => ?_)
                replace hw := hw.upx (k := 140) (i := 0) (x := (nI md) + 1) (by unfold kWc kSz; decide)
                refine lv_iinc (v := nI (l0 + 1)) (lv' := [(4, .int (nI (l0 + 1))), (5, .ref (b 8 l0)), (0, .ref (b 11 0)), (1, .ref (b 10 i0)), (2, .ref (b 3 1)), (3, .int (rd))]) hx hb dX7_extend_116 hl (k := 1) rfl (by rw [← nI_1]; rfl) (by decide) rfl (fun ls hl => ?_)
                refine lv_goto (tgt := 8) hx hb dX7_extend_119 (by decide) ?_
                have eX : cExt1 U i0 l0 rd = (up (cFollow U md i0 l0 ((cDep U l0 rd) + (U 6 l0))) 140 0 ((nI md) + 1)) := by unfold cExt1; rw [if_pos (by simp [kv_5, kv_7, c14_2, Int32.not_le.mp c14_2, c28_3, Int32.not_le.mp c28_3, eq_false c47_4, eq_true c59_6, eq_true c71_9])]; rw [hpU.1, nI_clamp (by omega)]
                have hlv := (hw0.ln (l := l0) (by omega)).2
                have hpX : PathOK (up (cFollow U md i0 l0 ((cDep U l0 rd) + (U 6 l0))) 140 0 ((nI md) + 1)) (md + 1) := by rw [← eX]; exact hpU.ext1s hm6 (i := i0) (l := l0) (rd := rd) (by rw [eX, up_s]) hlv
                exact ih (l0 + 1) (up (cFollow U md i0 l0 ((cDep U l0 rd) + (U 6 l0))) 140 0 ((nI md) + 1)) (md + 1) (by omega) (by rw [← hT]; simp only [cExtL]; rw [if_neg (by rw [hpU.1]; exact c28_3), eX]) (by rw [← eX]; exact (nlN_ext (cExt1_key _ _ _ _ (by omega))).trans hnU) hpX (by omega) _ _ _ hH hR hw ls (lv_sub hl [0, 2, 3, 4, 5] rfl)
  exact K (nlN u) 0 (up u 136 i0 1) md0 (by omega) rfl rfl ⟨hp.1, hp.2.1, hp.2.2.1, hp.2.2.2⟩ hi0 _ _ _ hH hR hw ls (lv_sub hl [0, 1, 2, 3, 4] rfl)
theorem cBegin_k (u : MM) (i : Nat) (x now : Int32) {k : Nat} (hk : k < 130 ∨ 136 < k) : cBegin u i x now k = u k := by
  unfold cBegin
  rw [up_key (by omega), up_key (by omega), up_key (by omega), up_key (by omega), up_key (by omega), up_key (by omega), up_key (by omega)]
theorem PathOK.begin {u : MM} {x now : Int32} (hx : vp_in x (nhN u)) : PathOK (up (cBegin u 0 x now) 140 0 1) 1 := by
  refine ⟨up_s _ _ _ _, by omega, by omega, fun j hj => ?_⟩
  have e : j = 0 := by omega
  subst e
  have n1 : nhN (up (cBegin u 0 x now) 140 0 1) = nhN u := (nhN_up (by omega)).trans (nhN_ext (cBegin_k u 0 x now (by omega)))
  rw [n1, up_key (by omega)]
  unfold cBegin
  rw [up_k (by omega), up_k (by omega), up_k (by omega), up_k (by omega), up_k (by omega), up_k (by omega), up_s]
  exact hx
theorem beg_n (u : MM) (x now : Int32) : nhN (up (cBegin u 0 x now) 140 0 1) = nhN u ∧ nlN (up (cBegin u 0 x now) 140 0 1) = nlN u ∧ npN (up (cBegin u 0 x now) 140 0 1) = npN u := ⟨(nhN_up (by omega)).trans (nhN_ext (cBegin_k u 0 x now (by omega))), (nlN_up (by omega)).trans (nlN_ext (cBegin_k u 0 x now (by omega))), (npN_up (by omega)).trans (npN_ext (cBegin_k u 0 x now (by omega)))⟩
set_option maxHeartbeats 800000 in
set_option maxRecDepth 100000 in
theorem cC_X7_bestPath (l : Launch) (G : GT) (A : Nat → Prop) (h : AH) (b : BA) (u : MM) (hR : RC G.2.2.1 h b u) (hw : WFc u) (p : Nat) (now : Int32) (hp0 : p < npN u) : cmQ l G A yX7_bestPath cX7_bestPath 7 (Option.some (FieldType.object "Routepost$Path")) 4 89 0 0 [.ref (b 11 0), .ref (b 3 1), .ref (b 9 p), .int (now)] h (fun r h' => r = dec b 10 (cBp u p now).1 ∧ RC G.2.2.1 h' b ((cBp u p now).2) ∧ WFc ((cBp u p now).2)) := by
  refine cm_of "Routepost$PathSearch" rfl (by decide) (Nat.le_of_ble_eq_true rfl) ?_
  intro pr e s m9 below meth c C0 hr hname hH ls hl
  obtain ⟨hx, hb, hml, hown, hts, hK, hA, -⟩ := id C0
  have hl : lv_has ls 7 [(0, .ref (b 11 0)), (1, .ref (b 3 1)), (2, .ref (b 9 p)), (3, .int (now))] := hl
  have hc7 := hw.cnt6 7
  have hc8 := hw.cnt6 8
  have hc9 := hw.cnt6 9
  have hp00 := hp0
  have hw00 := hw
  obtain ⟨n2, hn2⟩ : ∃ z, z = (266 : Nat) := ⟨_, rfl⟩
  refine lv_aload_n hx hb dX7_bestPath_0 rfl (lv_at hl 0 rfl) ?_
  refine c_getR C0 hH hR ci_11 (i := 0) (j := 1) rfl rfl (by decide) rfl fl_X7_21 (v := some (b 10 0)) rfl dX7_bestPath_1 ?_
  refine lv_aload_n hx hb dX7_bestPath_4 rfl (lv_at hl 2 rfl) ?_
  obtain ⟨v_1, hv_1, ev_1⟩ := hw.exH (show vp_in (u 15 p) _ from (hw.pa hp0).2.2)
  have kv_1 : (u 15 p).toNatClampNeg = v_1 := by rw [ev_1]; exact nI_clamp (by have := hw.nh; have := hw.np; omega)
  refine c_getR C0 hH hR ci_9 (i := p) (j := 7) hp0 rfl (by decide) rfl fl_X7_29 (v := some (b 7 v_1)) (show dec b 7 (u 15 p) = some (b 7 v_1) from by rw [show u 15 p = nI v_1 from Eq.trans rfl ev_1]; exact dec_nI (by have := hc7; have := (show v_1 < cnt u 7 from hv_1); omega)) dX7_bestPath_5 ?_
  refine lv_iload_n hx hb dX7_bestPath_8 rfl (lv_at hl 3 rfl) ?_
  refine k_v hH (k_runV (rest := []) C0 hH (cC_X6_begin l G A _ b _ hR hw 0 v_1 now (show 0 < 266 by omega) hv_1) mv_X6_begin ml_X7_35 ci_10 (hR.kind (K := 10) (i := 0) (show 0 < 266 by omega)) rfl ⟨Nat.le_of_ble_eq_true rfl, Nat.le_of_ble_eq_true rfl⟩ hl.1 rfl (Nat.le_of_ble_eq_true rfl) dX7_bestPath_9 (by simp)) (fun h H locs hp hH => ?_)
  obtain ⟨hR, hw⟩ := hp
  rw [← ev_1] at hR hw
  refine lv_aload_n hx hb dX7_bestPath_12 rfl (lv_at hl 0 rfl) ?_
  refine lv_iconst (v := 1) hx hb dX7_bestPath_13 (by decide) ?_
  refine c_putI C0 hH hR ci_11 (i := 0) (j := 2) rfl rfl (k := 140) rfl (by decide) (by decide) rfl fl_X7_39 rfl (x := 1) rfl rfl dX7_bestPath_14 (fun h H locs hH hR => ?_)
  replace hw := hw.upx (k := 140) (i := 0) (x := 1) (by unfold kWc kSz; decide)
  obtain ⟨U0, hU0⟩ : ∃ z, z = (up (cBegin u 0 (u 15 p) now) 140 0 1) := ⟨_, rfl⟩
  rw [← hU0] at hR hw
  have hnU0 : nhN U0 = nhN u ∧ nlN U0 = nlN u ∧ npN U0 = npN u := by rw [hU0]; exact beg_n _ _ _
  have hc7 := hw.cnt6 7
  have hc8 := hw.cnt6 8
  have hc9 := hw.cnt6 9
  replace hp0 : p < npN U0 := by rw [hnU0.2.2]; exact hp0
  replace hv_1 : v_1 < nhN U0 := by rw [hnU0.1]; exact hv_1
  have hpU0 : PathOK U0 1 := by rw [hU0]; exact PathOK.begin (hw00.pa hp00).2.2
  have e15 : U0 15 p = u 15 p := by rw [hU0, up_k (by omega), cBegin_k _ _ _ _ (by omega)]
  refine lv_aload_n hx hb dX7_bestPath_17 rfl (lv_at hl 2 rfl) ?_
  obtain ⟨v_3, hv_3, ev_3⟩ := hw.exH (show vp_in (U0 15 p) _ from (hw.pa hp0).2.2)
  have kv_3 : (U0 15 p).toNatClampNeg = v_3 := by rw [ev_3]; exact nI_clamp (by have := hw.nh; have := hw.np; omega)
  refine c_getR C0 hH hR ci_9 (i := p) (j := 7) hp0 rfl (by decide) rfl fl_X7_29 (v := some (b 7 v_3)) (show dec b 7 (U0 15 p) = some (b 7 v_3) from by rw [show U0 15 p = nI v_3 from Eq.trans rfl ev_3]; exact dec_nI (by have := hc7; have := (show v_3 < cnt U0 7 from hv_3); omega)) dX7_bestPath_18 ?_
  have kk15 : (u 15 p).toNatClampNeg = v_3 := by rw [← e15]; exact kv_3
  refine lv_aload_n hx hb dX7_bestPath_21 rfl (lv_at hl 2 rfl) ?_
  refine c_getI C0 hH hR ci_9 (i := p) (j := 12) hp0 rfl (by decide) rfl fl_X7_43 (v := U0 18 p) rfl dX7_bestPath_22 ?_
  refine lv_iload_n hx hb dX7_bestPath_25 rfl (lv_at hl 3 rfl) ?_
  refine k_i hH (k_runV (rest := []) C0 hH (cC_X3_readyFrom l G A _ b _ hR hw v_3 (U0 18 p) now hv_3) mv_X3_readyFrom ml_X7_46 ci_7 (hR.kind (K := 7) (i := v_3) hv_3) rfl ⟨Nat.le_of_ble_eq_true rfl, Nat.le_of_ble_eq_true rfl⟩ hl.1 rfl (Nat.le_of_ble_eq_true rfl) dX7_bestPath_26 (by simp)) (fun r_4 h1 H locs hp hH => ?_)
  obtain ⟨er_4, eh⟩ := hp
  rw [eh] at hH
  clear eh
  subst er_4
  refine lv_istore (lv' := [(4, .int (cRdy U0 v_3 (U0 18 p) now)), (0, .ref (b 11 0)), (1, .ref (b 3 1)), (2, .ref (b 9 p)), (3, .int (now))]) hx hb dX7_bestPath_29 hl (by decide) rfl (fun ls hl => ?_)
  refine lv_iconst (v := 0) hx hb dX7_bestPath_31 (by decide) ?_
  refine lv_istore (lv' := [(5, .int (0)), (4, .int (cRdy U0 v_3 (U0 18 p) now)), (0, .ref (b 11 0)), (1, .ref (b 3 1)), (2, .ref (b 9 p)), (3, .int (now))]) hx hb dX7_bestPath_32 hl (by decide) rfl (fun ls hl => ?_)
  obtain ⟨rd, hrd⟩ : ∃ z, z = cRdy u (u 15 p).toNatClampNeg (u 18 p) now := ⟨_, rfl⟩
  have er : cRdy U0 v_3 (U0 18 p) now = rd := by rw [hrd, ← kk15]; unfold cRdy; rw [hU0, up_k (by omega), up_k (by omega), cBegin_k _ _ _ _ (k := 18) (by omega), cBegin_k _ _ _ _ (k := 1) (by omega)]
  rw [er] at hl
  have K : ∀ (k : Nat) (i : Nat) (U : MM) (md : Nat), i + k = 266 → cBpL p rd k U = cBp u p now → nhN U = nhN u → npN U = npN u → PathOK U md → ∀ (h : AH) (H : Heap) (locs : List Loc) (hH : HS G.1 G.2.1 A s.heap h H locs) (hR : RC G.2.2.1 h b U) (hw : WFc U) (ls : Array Slot), lv_has ls 7 [(5, .int (nI i)), (0, .ref (b 11 0)), (1, .ref (b 3 1)), (2, .ref (b 9 p)), (3, .int (now)), (4, .int (rd))] → W pr l e (rmm 4 89 0 0) s m9 ([.ref (b 11 0), .ref (b 3 1), .ref (b 9 p), .int (now)] : List Value).toArray below meth c H locs 0 0 (QQ below G A (fun r h' => r = dec b 10 (cBp u p now).1 ∧ RC G.2.2.1 h' b ((cBp u p now).2) ∧ WFc ((cBp u p now).2)) ([.ref (b 11 0), .ref (b 3 1), .ref (b 9 p), .int (now)] : List Value).toArray s 0 0) (F0 m9 34 ls []) := by
    intro k
    induction k with
    | zero =>
      intro i U md hik hT hnH hnP hpU h H locs hH hR hw ls hl
      have hc7 := hw.cnt6 7
      have hc8 := hw.cnt6 8
      have hc9 := hw.cnt6 9
      have hp0 : p < npN U := by rw [hnP]; exact hp00
      have hw0 := hw
      have h266 := hpU.2.2.1
      refine lv_iload hx hb dX7_bestPath_34 (lv_at hl 0 rfl) ?_
      refine lv_sipush (v := 266) hx hb dX7_bestPath_36 (by decide) ?_
      refine lv_icmp_ge (tgt := 113) hx hb dX7_bestPath_39 (by decide) (fun c39_5 => ?_) (fun c39_5 => ?_)
      · refine lv_null hx hb dX7_bestPath_113 ?_
        have eR : (none : Option Nat) = dec b 10 (cBp u p now).1 := by rw [← hT]; exact dec_m1.symm
        have eM : ((cBp u p now).2) = U := by rw [← hT]; rfl
        exact e_Q (v := none) C0 hr (Or.inl ⟨_, rfl⟩) hH ⟨eR, by rw [eM]; exact ⟨hR, hw⟩⟩ (Nat.le_of_ble_eq_true rfl) (Nat.le_of_ble_eq_true rfl) dX7_bestPath_114
      · exact absurd (by rw [show i = 266 by omega]; decide) c39_5
    | succ k ih =>
      intro i U md hik hT hnH hnP hpU h H locs hH hR hw ls hl
      have hc7 := hw.cnt6 7
      have hc8 := hw.cnt6 8
      have hc9 := hw.cnt6 9
      have hp0 : p < npN U := by rw [hnP]; exact hp00
      have hw0 := hw
      have h266 := hpU.2.2.1
      refine lv_iload hx hb dX7_bestPath_34 (lv_at hl 0 rfl) ?_
      refine lv_sipush (v := 266) hx hb dX7_bestPath_36 (by decide) ?_
      refine lv_icmp_ge (tgt := 113) hx hb dX7_bestPath_39 (by decide) (fun c39_6 => ?_) (fun c39_6 => ?_)
      · exact absurd c39_6 (by rw [show (266 : Int32) = nI 266 from rfl]; exact nI_ge (show i < 266 by omega) (by omega))
      · refine lv_aload_n hx hb dX7_bestPath_42 rfl (lv_at hl 1 rfl) ?_
        refine k_q hH (k_runV (rest := []) C0 hH (cC_X7_bestToExtend l G A _ b _ hR hw  ) mv_X7_bestToExtend ml_X7_52 ci_11 (hR.kind (K := 11) (i := 0) rfl) rfl ⟨Nat.le_of_ble_eq_true rfl, Nat.le_of_ble_eq_true rfl⟩ hl.1 rfl (Nat.le_of_ble_eq_true rfl) dX7_bestPath_43 (by simp)) (fun r_7 h1 H locs hp hH => ?_)
        obtain ⟨er_7, eh⟩ := hp
        rw [eh] at hH
        clear eh
        subst er_7
        refine o_astore_q (lv' := [(6, va_rf (dec b 10 (cBte U 266 0 (-1)))), (5, .int (nI i)), (0, .ref (b 11 0)), (1, .ref (b 3 1)), (2, .ref (b 9 p)), (3, .int (now)), (4, .int (rd))]) hx hb dX7_bestPath_46 hl (by decide) rfl (fun ls hl => ?_)
        refine o_aload_q hx hb dX7_bestPath_48 (lv_at hl 0 rfl) ?_
        rcases (cBte_ok hpU 266 0 (-1) (by omega) (Or.inl rfl)) with es_8 | ⟨s_8, hs_8, es_8⟩
        · have eds_8 : dec b 10 (cBte U 266 0 (-1)) = none := by rw [es_8]; exact dec_m1
          rw [eds_8]
          rw [eds_8] at hl
          refine lv_ifnullN (tgt := 65) hx hb dX7_bestPath_50 (by decide) ?_
          refine lv_aloadN hx hb dX7_bestPath_65 (lv_at hl 0 rfl) ?_
          have eR : (none : Option Nat) = dec b 10 (cBp u p now).1 := by rw [← hT]; simp only [cBpL]; rw [if_pos (Or.inl es_8)]; exact eds_8.symm
          have eM : ((cBp u p now).2) = U := by rw [← hT]; simp only [cBpL]; rw [if_pos (Or.inl es_8)]
          exact e_Q (v := none) C0 hr (Or.inl ⟨_, rfl⟩) hH ⟨eR, by rw [eM]; exact ⟨hR, hw⟩⟩ (Nat.le_of_ble_eq_true rfl) (Nat.le_of_ble_eq_true rfl) dX7_bestPath_67
        · have eds_8 : dec b 10 (cBte U 266 0 (-1)) = some (b 10 s_8) := by rw [es_8]; exact dec_nI (by have := hc8; omega)
          have ks_8 : (cBte U 266 0 (-1)).toNatClampNeg = s_8 := by rw [es_8]; exact nI_clamp (by have := hc8; omega)
          have ns_8 : ¬ (cBte U 266 0 (-1)) = -1 := by rw [es_8]; exact nI_nm (by have := hc8; omega)
          rw [eds_8]
          rw [eds_8] at hl
          refine lv_ifnull hx hb dX7_bestPath_50 ?_
          refine lv_aload hx hb dX7_bestPath_53 (lv_at hl 0 rfl) ?_
          obtain ⟨v_9, hv_9, ev_9⟩ := hw.exH (show vp_in (U 130 s_8) _ from hpU.2.2.2 s_8 hs_8)
          have kv_9 : (U 130 s_8).toNatClampNeg = v_9 := by rw [ev_9]; exact nI_clamp (by have := hw.nh; have := hw.np; omega)
          refine c_getR C0 hH hR ci_10 (i := s_8) (j := 0) (show _ < 266 by have := hs_8; have := hpU.2.2.1; omega) rfl (by decide) rfl fl_X7_56 (v := some (b 7 v_9)) (show dec b 7 (U 130 s_8) = some (b 7 v_9) from by rw [show U 130 s_8 = nI v_9 from Eq.trans rfl ev_9]; exact dec_nI (by have := hc7; have := (show v_9 < cnt U 7 from hv_9); omega)) dX7_bestPath_55 ?_
          refine lv_aload_n hx hb dX7_bestPath_58 rfl (lv_at hl 4 rfl) ?_
          obtain ⟨v_10, hv_10, ev_10⟩ := hw.exH (show vp_in (U 14 p) _ from (hw.pa hp0).2.1)
          have kv_10 : (U 14 p).toNatClampNeg = v_10 := by rw [ev_10]; exact nI_clamp (by have := hw.nh; have := hw.np; omega)
          refine c_getR C0 hH hR ci_9 (i := p) (j := 6) hp0 rfl (by decide) rfl fl_X7_57 (v := some (b 7 v_10)) (show dec b 7 (U 14 p) = some (b 7 v_10) from by rw [show U 14 p = nI v_10 from Eq.trans rfl ev_10]; exact dec_nI (by have := hc7; have := (show v_10 < cnt U 7 from hv_10); omega)) dX7_bestPath_59 ?_
          refine lv_acmp_ne (rx := some (b 7 v_9)) (ry := some (b 7 v_10)) (tgt := 68) hx hb dX7_bestPath_62 (by decide) (fun c62_11 => ?_) (fun c62_11 => ?_)
          · rw [hR.acR hw (T := 7) (by omega) hv_9 hv_10] at c62_11
            rw [← ev_9] at c62_11
            rw [← ev_10] at c62_11
            refine lv_aload_n hx hb dX7_bestPath_68 rfl (lv_at hl 2 rfl) ?_
            refine lv_aload hx hb dX7_bestPath_69 (lv_at hl 0 rfl) ?_
            refine lv_aload_n hx hb dX7_bestPath_71 rfl (lv_at hl 3 rfl) ?_
            refine lv_aload hx hb dX7_bestPath_72 (lv_at hl 0 rfl) ?_
            refine lv_aload_n hx hb dX7_bestPath_74 rfl (lv_at hl 2 rfl) ?_
            refine c_getR C0 hH hR ci_11 (i := 0) (j := 1) rfl rfl (by decide) rfl fl_X7_21 (v := some (b 10 0)) rfl dX7_bestPath_75 ?_
            refine lv_acmp_ne (rx := some (b 10 s_8)) (ry := some (b 10 0)) (tgt := 86) hx hb dX7_bestPath_78 (by decide) (fun c78_12 => ?_) (fun c78_12 => ?_)
            · rw [hR.ac10 (show _ < 266 by have := hs_8; have := hpU.2.2.1; omega) (show 0 < 266 by omega)] at c78_12
              rw [← es_8] at c78_12
              have z78 : ¬ s_8 = 0 := fun z => c78_12 (by rw [es_8, z])
              refine lv_aload hx hb dX7_bestPath_86 (lv_at hl 0 rfl) ?_
              refine c_getR C0 hH hR ci_10 (i := s_8) (j := 0) (show _ < 266 by have := hs_8; have := hpU.2.2.1; omega) rfl (by decide) rfl fl_X7_56 (v := some (b 7 v_9)) (show dec b 7 (U 130 s_8) = some (b 7 v_9) from by rw [show U 130 s_8 = nI v_9 from Eq.trans rfl ev_9]; exact dec_nI (by have := hc7; have := (show v_9 < cnt U 7 from hv_9); omega)) dX7_bestPath_88 ?_
              refine lv_aload hx hb dX7_bestPath_91 (lv_at hl 0 rfl) ?_
              refine c_getI C0 hH hR ci_10 (i := s_8) (j := 2) (show _ < 266 by have := hs_8; have := hpU.2.2.1; omega) rfl (by decide) rfl fl_X7_60 (v := U 132 s_8) rfl dX7_bestPath_93 ?_
              refine lv_aload hx hb dX7_bestPath_96 (lv_at hl 0 rfl) ?_
              refine c_getI C0 hH hR ci_10 (i := s_8) (j := 2) (show _ < 266 by have := hs_8; have := hpU.2.2.1; omega) rfl (by decide) rfl fl_X7_60 (v := U 132 s_8) rfl dX7_bestPath_98 ?_
              refine k_i hH (k_runV (rest := [.ref (b 3 1), .ref (b 10 s_8), .ref (b 11 0)]) C0 hH (cC_X3_readyFrom l G A _ b _ hR hw v_9 (U 132 s_8) (U 132 s_8) hv_9) mv_X3_readyFrom ml_X7_46 ci_7 (hR.kind (K := 7) (i := v_9) hv_9) rfl ⟨Nat.le_of_ble_eq_true rfl, Nat.le_of_ble_eq_true rfl⟩ hl.1 rfl (Nat.le_of_ble_eq_true rfl) dX7_bestPath_101 (by simp)) (fun r_13 h1 H locs hp hH => ?_)
              obtain ⟨er_13, eh⟩ := hp
              rw [eh] at hH
              clear eh
              subst er_13
              refine k_v hH (k_runV (rest := []) C0 hH (cC_X7_extend l G A _ b _ hR hw s_8 md (cRdy U v_9 (U 132 s_8) (U 132 s_8)) hs_8 hpU) mv_X7_extend ml_X7_63 ci_11 (hR.kind (K := 11) (i := 0) rfl) rfl ⟨Nat.le_of_ble_eq_true rfl, Nat.le_of_ble_eq_true rfl⟩ hl.1 rfl (Nat.le_of_ble_eq_true rfl) dX7_bestPath_104 (by simp)) (fun h H locs hp hH => ?_)
              obtain ⟨hR, hw⟩ := hp
              refine lv_iinc (v := nI (i + 1)) (lv' := [(5, .int (nI (i + 1))), (6, .ref (b 10 s_8)), (0, .ref (b 11 0)), (1, .ref (b 3 1)), (2, .ref (b 9 p)), (3, .int (now)), (4, .int (rd))]) hx hb dX7_bestPath_107 hl (k := 1) rfl (by rw [← nI_1]; rfl) (by decide) rfl (fun ls hl => ?_)
              refine lv_goto (tgt := 34) hx hb dX7_bestPath_110 (by decide) ?_
              have eX : (cExt U s_8 (cRdy U v_9 (U 132 s_8) (U 132 s_8))) = (cExt U (cBte U 266 0 (-1)).toNatClampNeg (cRdI U (cBte U 266 0 (-1)).toNatClampNeg rd)) := by rw [ks_8]; unfold cRdI; rw [if_neg z78, kv_9]
              obtain ⟨md9, hp9⟩ := hpU.ext hw0 (cBte U 266 0 (-1)).toNatClampNeg (cRdI U (cBte U 266 0 (-1)).toNatClampNeg rd)
              rw [eX] at hR hw
              exact ih (i + 1) (cExt U (cBte U 266 0 (-1)).toNatClampNeg (cRdI U (cBte U 266 0 (-1)).toNatClampNeg rd)) md9 (by omega) (by rw [← hT]; simp only [cBpL]; rw [if_neg (fun z => z.elim (fun z => ns_8 z) (fun z => c62_11 (by rw [ks_8] at z; exact z)))]) ((nhN_ext (cExt_key _ _ _ (by omega))).trans hnH) ((npN_ext (cExt_key _ _ _ (by omega))).trans hnP) hp9 _ _ _ hH hR hw ls (lv_sub hl [0, 2, 3, 4, 5, 6] rfl)
            · rw [hR.ac10 (show _ < 266 by have := hs_8; have := hpU.2.2.1; omega) (show 0 < 266 by omega)] at c78_12
              rw [← es_8] at c78_12
              have z78 : s_8 = 0 := (nI_eq (by omega) (by omega)).mp (by rw [← es_8]; exact c78_12)
              refine lv_iload hx hb dX7_bestPath_81 (lv_at hl 6 rfl) ?_
              refine lv_goto (tgt := 104) hx hb dX7_bestPath_83 (by decide) ?_
              refine k_v hH (k_runV (rest := []) C0 hH (cC_X7_extend l G A _ b _ hR hw s_8 md rd hs_8 hpU) mv_X7_extend ml_X7_63 ci_11 (hR.kind (K := 11) (i := 0) rfl) rfl ⟨Nat.le_of_ble_eq_true rfl, Nat.le_of_ble_eq_true rfl⟩ hl.1 rfl (Nat.le_of_ble_eq_true rfl) dX7_bestPath_104 (by simp)) (fun h H locs hp hH => ?_)
              obtain ⟨hR, hw⟩ := hp
              refine lv_iinc (v := nI (i + 1)) (lv' := [(5, .int (nI (i + 1))), (6, .ref (b 10 s_8)), (0, .ref (b 11 0)), (1, .ref (b 3 1)), (2, .ref (b 9 p)), (3, .int (now)), (4, .int (rd))]) hx hb dX7_bestPath_107 hl (k := 1) rfl (by rw [← nI_1]; rfl) (by decide) rfl (fun ls hl => ?_)
              refine lv_goto (tgt := 34) hx hb dX7_bestPath_110 (by decide) ?_
              have eX : (cExt U s_8 rd) = (cExt U (cBte U 266 0 (-1)).toNatClampNeg (cRdI U (cBte U 266 0 (-1)).toNatClampNeg rd)) := by rw [ks_8]; unfold cRdI; rw [if_pos z78]
              obtain ⟨md9, hp9⟩ := hpU.ext hw0 (cBte U 266 0 (-1)).toNatClampNeg (cRdI U (cBte U 266 0 (-1)).toNatClampNeg rd)
              rw [eX] at hR hw
              exact ih (i + 1) (cExt U (cBte U 266 0 (-1)).toNatClampNeg (cRdI U (cBte U 266 0 (-1)).toNatClampNeg rd)) md9 (by omega) (by rw [← hT]; simp only [cBpL]; rw [if_neg (fun z => z.elim (fun z => ns_8 z) (fun z => c62_11 (by rw [ks_8] at z; exact z)))]) ((nhN_ext (cExt_key _ _ _ (by omega))).trans hnH) ((npN_ext (cExt_key _ _ _ (by omega))).trans hnP) hp9 _ _ _ hH hR hw ls (lv_sub hl [0, 2, 3, 4, 5, 6] rfl)
          · rw [hR.acR hw (T := 7) (by omega) hv_9 hv_10] at c62_11
            rw [← ev_9] at c62_11
            rw [← ev_10] at c62_11
            refine lv_aload hx hb dX7_bestPath_65 (lv_at hl 0 rfl) ?_
            have eR : (some (b 10 s_8) : Option Nat) = dec b 10 (cBp u p now).1 := by rw [← hT]; simp only [cBpL]; rw [if_pos (Or.inr (by rw [ks_8]; exact c62_11))]; exact eds_8.symm
            have eM : ((cBp u p now).2) = U := by rw [← hT]; simp only [cBpL]; rw [if_pos (Or.inr (by rw [ks_8]; exact c62_11))]
            exact e_Q (v := some (b 10 s_8)) C0 hr (Or.inl ⟨_, rfl⟩) hH ⟨eR, by rw [eM]; exact ⟨hR, hw⟩⟩ (Nat.le_of_ble_eq_true rfl) (Nat.le_of_ble_eq_true rfl) dX7_bestPath_67
  exact K n2 0 U0 1 (by omega) (by unfold cBp; rw [← hn2, ← hrd, ← hU0]) hnU0.1 hnU0.2.2 hpU0 _ _ _ hH hR hw ls (lv_sub hl [0, 2, 3, 4, 5, 1] rfl)

