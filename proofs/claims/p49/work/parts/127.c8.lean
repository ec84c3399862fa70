set_option maxHeartbeats 800000 in
set_option maxRecDepth 100000 in
theorem cC_X10_countWaiting (l : Launch) (G : GT) (A : Nat → Prop) (h : AH) (b : BA) (u : MM) (hR : RC G.2.2.1 h b u) (hw : WFc u) (l0 : Nat) (hl0 : l0 < nlN u) : cmI l G A yX10_countWaiting cX10_countWaiting 4 (Option.some FieldType.int) 3 64 0 0 [.ref (b 14 0), .ref (b 8 l0)] h (fun r h' => r = cCw u (nI l0) ∧ h' = h) := by
  refine cm_of "Routepost" rfl (by decide) (Nat.le_of_ble_eq_true rfl) ?_
  intro pr e s m9 below meth c C0 hr hname hH ls hl
  obtain ⟨hx, hb, hml, hown, hts, hK, hA, -⟩ := id C0
  have hl : lv_has ls 4 [(0, .ref (b 14 0)), (1, .ref (b 8 l0))] := hl
  have hc7 := hw.cnt6 7
  have hc8 := hw.cnt6 8
  have hc9 := hw.cnt6 9
  refine lv_iconst (v := 0) hx hb dX10_countWaiting_0 (by decide) ?_
  refine lv_istore_n (lv' := [(2, .int (0)), (0, .ref (b 14 0)), (1, .ref (b 8 l0))]) hx hb dX10_countWaiting_1 rfl hl (by decide) rfl (fun ls hl => ?_)
  refine lv_iconst (v := 0) hx hb dX10_countWaiting_2 (by decide) ?_
  refine lv_istore_n (lv' := [(3, .int (0)), (2, .int (0)), (0, .ref (b 14 0)), (1, .ref (b 8 l0))]) hx hb dX10_countWaiting_3 rfl hl (by decide) rfl (fun ls hl => ?_)
  have K : ∀ (k : Nat) (p : Nat) (n0 : Int32), p + k = npN u → cCwL u (nI l0) k p n0 = cCw u (nI l0) → ∀ (H : Heap) (locs : List Loc) (hH : HS G.1 G.2.1 A s.heap h H locs) (ls : Array Slot), lv_has ls 4 [(3, .int (nI p)), (2, .int (n0)), (0, .ref (b 14 0)), (1, .ref (b 8 l0))] → W pr l e (rmm 3 64 0 0) s m9 ([.ref (b 14 0), .ref (b 8 l0)] : List Value).toArray below meth c H locs 0 0 (QI below G A (fun r h' => r = cCw u (nI l0) ∧ h' = h) ([.ref (b 14 0), .ref (b 8 l0)] : List Value).toArray s 0 0) (F0 m9 4 ls []) := by
    intro k
    induction k with
    | zero =>
      intro p n0 hik hT H locs hH ls hl
      refine lv_iload_n hx hb dX10_countWaiting_4 rfl (lv_at hl 0 rfl) ?_
      refine lv_aload_n hx hb dX10_countWaiting_5 rfl (lv_at hl 2 rfl) ?_
      refine c_getR C0 hH hR ci_14 (i := 0) (j := 2) rfl rfl (by decide) rfl fl_X10_19 (v := some (b 3 2)) rfl dX10_countWaiting_6 ?_
      refine k_i hH (k_runV (rest := [.int (nI p)]) C0 hH (cL_size l G A _ b _ hR hw 2 (show 2 < 6 + npN _ by omega)) mv_Jx4a65c_size_8abf5 ml_X10_79 ci_3 (hR.kind (K := 3) (i := 2) (show 2 < 6 + npN _ by omega)) rfl ⟨Nat.le_of_ble_eq_true rfl, Nat.le_of_ble_eq_true rfl⟩ hl.1 rfl (Nat.le_of_ble_eq_true rfl) dX10_countWaiting_9 (by simp)) (fun r9 h1 H locs hp hH => ?_)
      obtain ⟨er9, eh⟩ := hp
      rw [eh] at hH
      clear eh
      rw [hw.sz2] at er9
      subst er9
      refine lv_icmp_ge (tgt := 42) hx hb dX10_countWaiting_12 (by decide) (fun c12_1 => ?_) (fun c12_1 => ?_)
      · refine lv_iload_n hx hb dX10_countWaiting_42 rfl (lv_at hl 1 rfl) ?_
        have eR : (n0 : Int32) = cCw u (nI l0) := hT
        exact e_I C0 hr hH ⟨eR, rfl⟩ (Nat.le_of_ble_eq_true rfl) (Nat.le_of_ble_eq_true rfl) dX10_countWaiting_43
      · exact absurd (by rw [show p = npN u by omega]; exact Int32.le_refl _) c12_1
    | succ k ih =>
      intro p n0 hik hT H locs hH ls hl
      refine lv_iload_n hx hb dX10_countWaiting_4 rfl (lv_at hl 0 rfl) ?_
      refine lv_aload_n hx hb dX10_countWaiting_5 rfl (lv_at hl 2 rfl) ?_
      refine c_getR C0 hH hR ci_14 (i := 0) (j := 2) rfl rfl (by decide) rfl fl_X10_19 (v := some (b 3 2)) rfl dX10_countWaiting_6 ?_
      refine k_i hH (k_runV (rest := [.int (nI p)]) C0 hH (cL_size l G A _ b _ hR hw 2 (show 2 < 6 + npN _ by omega)) mv_Jx4a65c_size_8abf5 ml_X10_79 ci_3 (hR.kind (K := 3) (i := 2) (show 2 < 6 + npN _ by omega)) rfl ⟨Nat.le_of_ble_eq_true rfl, Nat.le_of_ble_eq_true rfl⟩ hl.1 rfl (Nat.le_of_ble_eq_true rfl) dX10_countWaiting_9 (by simp)) (fun r9 h1 H locs hp hH => ?_)
      obtain ⟨er9, eh⟩ := hp
      rw [eh] at hH
      clear eh
      rw [hw.sz2] at er9
      subst er9
      refine lv_icmp_ge (tgt := 42) hx hb dX10_countWaiting_12 (by decide) (fun c12_2 => ?_) (fun c12_2 => ?_)
      · exact absurd c12_2 (nI_ge (show p < npN u by omega) (by have := hw.nh; have := hw.nl; have := hw.np; omega))
      · refine lv_aload_n hx hb dX10_countWaiting_15 rfl (lv_at hl 2 rfl) ?_
        refine c_getR C0 hH hR ci_14 (i := 0) (j := 2) rfl rfl (by decide) rfl fl_X10_19 (v := some (b 3 2)) rfl dX10_countWaiting_16 ?_
        refine lv_iload_n hx hb dX10_countWaiting_19 rfl (lv_at hl 0 rfl) ?_
        refine k_q hH (k_runV (rest := []) C0 hH (cL_get l G A _ b _ hR hw 2 p (show 2 < 6 + npN _ by omega) (by rw [hw.sz2]; omega) (a := b 9 p) rfl) mv_Jx4a65c_get_915e3 ml_X10_143 ci_3 (hR.kind (K := 3) (i := 2) (show 2 < 6 + npN _ by omega)) rfl ⟨Nat.le_of_ble_eq_true rfl, Nat.le_of_ble_eq_true rfl⟩ hl.1 rfl (Nat.le_of_ble_eq_true rfl) dX10_countWaiting_20 (by simp)) (fun r9 h1 H locs hp hH => ?_)
        obtain ⟨er9, eh⟩ := hp
        rw [eh] at hH
        clear eh
        subst er9
        refine k_chk C0 hH ci_9 (hR.kind (K := 9) (i := p) (show p < npN u by omega)) cl_X10_162 dX10_countWaiting_23 ?_
        refine lv_aload_n hx hb dX10_countWaiting_26 rfl (lv_at hl 3 rfl) ?_
        refine k_i hH (k_runV (rest := []) C0 hH (cC_X5_waitsFor l G A _ b _ hR hw p l0 (show p < npN u by omega) hl0) mv_X5_waitsFor ml_X10_427 ci_9 (hR.kind (K := 9) (i := p) (show p < npN u by omega)) rfl ⟨Nat.le_of_ble_eq_true rfl, Nat.le_of_ble_eq_true rfl⟩ hl.1 rfl (Nat.le_of_ble_eq_true rfl) dX10_countWaiting_27 (by simp)) (fun r_3 h1 H locs hp hH => ?_)
        obtain ⟨er_3, eh⟩ := hp
        rw [eh] at hH
        clear eh
        subst er_3
        refine lv_if_eq (tgt := 36) hx hb dX10_countWaiting_30 (by decide) (fun c30_4 => ?_) (fun c30_4 => ?_)
        · refine lv_iinc (v := nI (p + 1)) (lv' := [(3, .int (nI (p + 1))), (2, .int (n0)), (0, .ref (b 14 0)), (1, .ref (b 8 l0))]) hx hb dX10_countWaiting_36 hl (k := 0) rfl (by rw [← nI_1]; rfl) (by decide) rfl (fun ls hl => ?_)
          refine lv_goto (tgt := 4) hx hb dX10_countWaiting_39 (by decide) ?_
          exact ih (p + 1) n0 (by omega) (by rw [← hT]; simp [cCwL, c12_2, Int32.not_le.mp c12_2, eq_true c30_4]) _ _ hH ls (lv_sub hl [0, 1, 2, 3] rfl)
        · refine lv_iinc (v := n0 + 1) (lv' := [(2, .int (n0 + 1)), (3, .int (nI p)), (0, .ref (b 14 0)), (1, .ref (b 8 l0))]) hx hb dX10_countWaiting_33 hl (k := 1) rfl (rfl) (by decide) rfl (fun ls hl => ?_)
          refine lv_iinc (v := nI (p + 1)) (lv' := [(3, .int (nI (p + 1))), (2, .int (n0 + 1)), (0, .ref (b 14 0)), (1, .ref (b 8 l0))]) hx hb dX10_countWaiting_36 hl (k := 1) rfl (by rw [← nI_1]; rfl) (by decide) rfl (fun ls hl => ?_)
          refine lv_goto (tgt := 4) hx hb dX10_countWaiting_39 (by decide) ?_
          exact ih (p + 1) (n0 + 1) (by omega) (by rw [← hT]; simp [cCwL, c12_2, Int32.not_le.mp c12_2, eq_false c30_4]) _ _ hH ls (lv_sub hl [0, 1, 2, 3] rfl)
  exact K (npN u) 0 0 (by omega) rfl _ _ hH ls (lv_sub hl [0, 1, 2, 3] rfl)
set_option maxHeartbeats 800000 in
set_option maxRecDepth 100000 in
theorem cC_X10_volumeWaiting (l : Launch) (G : GT) (A : Nat → Prop) (h : AH) (b : BA) (u : MM) (hR : RC G.2.2.1 h b u) (hw : WFc u) (l0 x : Nat) (hl0 : l0 < nlN u) (hx0 : x < nhN u) : cmI l G A yX10_volumeWaiting cX10_volumeWaiting 6 (Option.some FieldType.int) 3 64 0 0 [.ref (b 14 0), .ref (b 8 l0), .ref (b 7 x)] h (fun r h' => r = cVw u (nI l0) (nI x) ∧ h' = h) := by
  refine cm_of "Routepost" rfl (by decide) (Nat.le_of_ble_eq_true rfl) ?_
  intro pr e s m9 below meth c C0 hr hname hH ls hl
  obtain ⟨hx, hb, hml, hown, hts, hK, hA, -⟩ := id C0
  have hl : lv_has ls 6 [(0, .ref (b 14 0)), (1, .ref (b 8 l0)), (2, .ref (b 7 x))] := hl
  have hc7 := hw.cnt6 7
  have hc8 := hw.cnt6 8
  have hc9 := hw.cnt6 9
  refine lv_iconst (v := 0) hx hb dX10_volumeWaiting_0 (by decide) ?_
  refine lv_istore_n (lv' := [(3, .int (0)), (0, .ref (b 14 0)), (1, .ref (b 8 l0)), (2, .ref (b 7 x))]) hx hb dX10_volumeWaiting_1 rfl hl (by decide) rfl (fun ls hl => ?_)
  refine lv_iconst (v := 0) hx hb dX10_volumeWaiting_2 (by decide) ?_
  refine lv_istore (lv' := [(4, .int (0)), (3, .int (0)), (0, .ref (b 14 0)), (1, .ref (b 8 l0)), (2, .ref (b 7 x))]) hx hb dX10_volumeWaiting_3 hl (by decide) rfl (fun ls hl => ?_)
  have K : ∀ (k : Nat) (p : Nat) (n0 : Int32), p + k = npN u → cVwL u (nI l0) (nI x) k p n0 = cVw u (nI l0) (nI x) → ∀ (H : Heap) (locs : List Loc) (hH : HS G.1 G.2.1 A s.heap h H locs) (ls : Array Slot), lv_has ls 6 [(4, .int (nI p)), (3, .int (n0)), (0, .ref (b 14 0)), (1, .ref (b 8 l0)), (2, .ref (b 7 x))] → W pr l e (rmm 3 64 0 0) s m9 ([.ref (b 14 0), .ref (b 8 l0), .ref (b 7 x)] : List Value).toArray below meth c H locs 0 0 (QI below G A (fun r h' => r = cVw u (nI l0) (nI x) ∧ h' = h) ([.ref (b 14 0), .ref (b 8 l0), .ref (b 7 x)] : List Value).toArray s 0 0) (F0 m9 5 ls []) := by
    intro k
    induction k with
    | zero =>
      intro p n0 hik hT H locs hH ls hl
      refine lv_iload hx hb dX10_volumeWaiting_5 (lv_at hl 0 rfl) ?_
      refine lv_aload_n hx hb dX10_volumeWaiting_7 rfl (lv_at hl 2 rfl) ?_
      refine c_getR C0 hH hR ci_14 (i := 0) (j := 2) rfl rfl (by decide) rfl fl_X10_19 (v := some (b 3 2)) rfl dX10_volumeWaiting_8 ?_
      refine k_i hH (k_runV (rest := [.int (nI p)]) C0 hH (cL_size l G A _ b _ hR hw 2 (show 2 < 6 + npN _ by omega)) mv_Jx4a65c_size_8abf5 ml_X10_79 ci_3 (hR.kind (K := 3) (i := 2) (show 2 < 6 + npN _ by omega)) rfl ⟨Nat.le_of_ble_eq_true rfl, Nat.le_of_ble_eq_true rfl⟩ hl.1 rfl (Nat.le_of_ble_eq_true rfl) dX10_volumeWaiting_11 (by simp)) (fun r9 h1 H locs hp hH => ?_)
      obtain ⟨er9, eh⟩ := hp
      rw [eh] at hH
      clear eh
      rw [hw.sz2] at er9
      subst er9
      refine lv_icmp_ge (tgt := 63) hx hb dX10_volumeWaiting_14 (by decide) (fun c14_1 => ?_) (fun c14_1 => ?_)
      · refine lv_iload_n hx hb dX10_volumeWaiting_63 rfl (lv_at hl 1 rfl) ?_
        have eR : (n0 : Int32) = cVw u (nI l0) (nI x) := hT
        exact e_I C0 hr hH ⟨eR, rfl⟩ (Nat.le_of_ble_eq_true rfl) (Nat.le_of_ble_eq_true rfl) dX10_volumeWaiting_64
      · exact absurd (by rw [show p = npN u by omega]; exact Int32.le_refl _) c14_1
    | succ k ih =>
      intro p n0 hik hT H locs hH ls hl
      refine lv_iload hx hb dX10_volumeWaiting_5 (lv_at hl 0 rfl) ?_
      refine lv_aload_n hx hb dX10_volumeWaiting_7 rfl (lv_at hl 2 rfl) ?_
      refine c_getR C0 hH hR ci_14 (i := 0) (j := 2) rfl rfl (by decide) rfl fl_X10_19 (v := some (b 3 2)) rfl dX10_volumeWaiting_8 ?_
      refine k_i hH (k_runV (rest := [.int (nI p)]) C0 hH (cL_size l G A _ b _ hR hw 2 (show 2 < 6 + npN _ by omega)) mv_Jx4a65c_size_8abf5 ml_X10_79 ci_3 (hR.kind (K := 3) (i := 2) (show 2 < 6 + npN _ by omega)) rfl ⟨Nat.le_of_ble_eq_true rfl, Nat.le_of_ble_eq_true rfl⟩ hl.1 rfl (Nat.le_of_ble_eq_true rfl) dX10_volumeWaiting_11 (by simp)) (fun r9 h1 H locs hp hH => ?_)
      obtain ⟨er9, eh⟩ := hp
      rw [eh] at hH
      clear eh
      rw [hw.sz2] at er9
      subst er9
      refine lv_icmp_ge (tgt := 63) hx hb dX10_volumeWaiting_14 (by decide) (fun c14_2 => ?_) (fun c14_2 => ?_)
      · exact absurd c14_2 (nI_ge (show p < npN u by omega) (by have := hw.nh; have := hw.nl; have := hw.np; omega))
      · refine lv_aload_n hx hb dX10_volumeWaiting_17 rfl (lv_at hl 2 rfl) ?_
        refine c_getR C0 hH hR ci_14 (i := 0) (j := 2) rfl rfl (by decide) rfl fl_X10_19 (v := some (b 3 2)) rfl dX10_volumeWaiting_18 ?_
        refine lv_iload hx hb dX10_volumeWaiting_21 (lv_at hl 0 rfl) ?_
        refine k_q hH (k_runV (rest := []) C0 hH (cL_get l G A _ b _ hR hw 2 p (show 2 < 6 + npN _ by omega) (by rw [hw.sz2]; omega) (a := b 9 p) rfl) mv_Jx4a65c_get_915e3 ml_X10_143 ci_3 (hR.kind (K := 3) (i := 2) (show 2 < 6 + npN _ by omega)) rfl ⟨Nat.le_of_ble_eq_true rfl, Nat.le_of_ble_eq_true rfl⟩ hl.1 rfl (Nat.le_of_ble_eq_true rfl) dX10_volumeWaiting_23 (by simp)) (fun r9 h1 H locs hp hH => ?_)
        obtain ⟨er9, eh⟩ := hp
        rw [eh] at hH
        clear eh
        subst er9
        refine k_chk C0 hH ci_9 (hR.kind (K := 9) (i := p) (show p < npN u by omega)) cl_X10_162 dX10_volumeWaiting_26 ?_
        refine lv_astore (lv' := [(5, .ref (b 9 p)), (4, .int (nI p)), (3, .int (n0)), (0, .ref (b 14 0)), (1, .ref (b 8 l0)), (2, .ref (b 7 x))]) hx hb dX10_volumeWaiting_29 hl (by decide) rfl (fun ls hl => ?_)
        refine lv_aload hx hb dX10_volumeWaiting_31 (lv_at hl 0 rfl) ?_
        refine lv_aload_n hx hb dX10_volumeWaiting_33 rfl (lv_at hl 4 rfl) ?_
        refine k_i hH (k_runV (rest := []) C0 hH (cC_X5_waitsFor l G A _ b _ hR hw p l0 (show p < npN u by omega) hl0) mv_X5_waitsFor ml_X10_427 ci_9 (hR.kind (K := 9) (i := p) (show p < npN u by omega)) rfl ⟨Nat.le_of_ble_eq_true rfl, Nat.le_of_ble_eq_true rfl⟩ hl.1 rfl (Nat.le_of_ble_eq_true rfl) dX10_volumeWaiting_34 (by simp)) (fun r_3 h1 H locs hp hH => ?_)
        obtain ⟨er_3, eh⟩ := hp
        rw [eh] at hH
        clear eh
        subst er_3
        refine lv_if_eq (tgt := 57) hx hb dX10_volumeWaiting_37 (by decide) (fun c37_4 => ?_) (fun c37_4 => ?_)
        · refine lv_iinc (v := nI (p + 1)) (lv' := [(4, .int (nI (p + 1))), (5, .ref (b 9 p)), (3, .int (n0)), (0, .ref (b 14 0)), (1, .ref (b 8 l0)), (2, .ref (b 7 x))]) hx hb dX10_volumeWaiting_57 hl (k := 1) rfl (by rw [← nI_1]; rfl) (by decide) rfl (fun ls hl => ?_)
          refine lv_goto (tgt := 5) hx hb dX10_volumeWaiting_60 (by decide) ?_
          exact ih (p + 1) n0 (by omega) (by rw [← hT]; simp [cVwL, c14_2, Int32.not_le.mp c14_2, eq_true c37_4]) _ _ hH ls (lv_sub hl [0, 2, 3, 4, 5] rfl)
        · refine lv_aload hx hb dX10_volumeWaiting_40 (lv_at hl 0 rfl) ?_
          obtain ⟨v_5, hv_5, ev_5⟩ := hw.exH (show vp_in (u 14 p) _ from (hw.pa (show p < npN u by omega)).2.1)
          have kv_5 : (u 14 p).toNatClampNeg = v_5 := by rw [ev_5]; exact nI_clamp (by have := hw.nh; have := hw.np; omega)
          refine c_getR C0 hH hR ci_9 (i := p) (j := 6) (show p < npN u by omega) rfl (by decide) rfl fl_X10_207 (v := some (b 7 v_5)) (show dec b 7 (u 14 p) = some (b 7 v_5) from by rw [show u 14 p = nI v_5 from Eq.trans rfl ev_5]; exact dec_nI (by have := hc7; have := (show v_5 < cnt u 7 from hv_5); omega)) dX10_volumeWaiting_42 ?_
          refine lv_aload_n hx hb dX10_volumeWaiting_45 rfl (lv_at hl 5 rfl) ?_
          refine lv_acmp_ne (rx := some (b 7 v_5)) (ry := some (b 7 x)) (tgt := 57) hx hb dX10_volumeWaiting_46 (by decide) (fun c46_6 => ?_) (fun c46_6 => ?_)
          · rw [hR.acR hw (T := 7) (by omega) hv_5 hx0] at c46_6
            rw [← ev_5] at c46_6
            refine lv_iinc (v := nI (p + 1)) (lv' := [(4, .int (nI (p + 1))), (5, .ref (b 9 p)), (3, .int (n0)), (0, .ref (b 14 0)), (1, .ref (b 8 l0)), (2, .ref (b 7 x))]) hx hb dX10_volumeWaiting_57 hl (k := 1) rfl (by rw [← nI_1]; rfl) (by decide) rfl (fun ls hl => ?_)
            refine lv_goto (tgt := 5) hx hb dX10_volumeWaiting_60 (by decide) ?_
            exact ih (p + 1) n0 (by omega) (by rw [← hT]; simp [cVwL, kv_5, c14_2, Int32.not_le.mp c14_2, eq_false c37_4, eq_false c46_6]) _ _ hH ls (lv_sub hl [0, 2, 3, 4, 5] rfl)
          · rw [hR.acR hw (T := 7) (by omega) hv_5 hx0] at c46_6
            rw [← ev_5] at c46_6
            refine lv_iload_n hx hb dX10_volumeWaiting_49 rfl (lv_at hl 2 rfl) ?_
            refine lv_aload hx hb dX10_volumeWaiting_50 (lv_at hl 0 rfl) ?_
            refine c_getI C0 hH hR ci_9 (i := p) (j := 1) (show p < npN u by omega) rfl (by decide) rfl fl_X10_431 (v := u 11 p) rfl dX10_volumeWaiting_52 ?_
            refine lv_iadd hx hb dX10_volumeWaiting_55 ?_
            refine lv_istore_n (lv' := [(3, .int (n0 + (u 11 p))), (5, .ref (b 9 p)), (4, .int (nI p)), (0, .ref (b 14 0)), (1, .ref (b 8 l0)), (2, .ref (b 7 x))]) hx hb dX10_volumeWaiting_56 rfl hl (by decide) rfl (fun ls hl => ?_)
            refine lv_iinc (v := nI (p + 1)) (lv' := [(4, .int (nI (p + 1))), (3, .int (n0 + (u 11 p))), (5, .ref (b 9 p)), (0, .ref (b 14 0)), (1, .ref (b 8 l0)), (2, .ref (b 7 x))]) hx hb dX10_volumeWaiting_57 hl (k := 2) rfl (by rw [← nI_1]; rfl) (by decide) rfl (fun ls hl => ?_)
            refine lv_goto (tgt := 5) hx hb dX10_volumeWaiting_60 (by decide) ?_
            exact ih (p + 1) (n0 + (u 11 p)) (by omega) (by rw [← hT]; simp [cVwL, kv_5, c14_2, Int32.not_le.mp c14_2, eq_false c37_4, eq_true c46_6]) _ _ hH ls (lv_sub hl [0, 1, 3, 4, 5] rfl)
  exact K (npN u) 0 0 (by omega) rfl _ _ hH ls (lv_sub hl [0, 1, 2, 3, 4] rfl)
set_option maxHeartbeats 800000 in
set_option maxRecDepth 100000 in
theorem cC_X10_hubs (l : Launch) (G : GT) (A : Nat → Prop) (h : AH) (b : BA) (u : MM) (hR : RC G.2.2.1 h b u) (hw : WFc u) : cmI l G A yX10_hubs cX10_hubs 1 (Option.some FieldType.int) 1 20 0 0 [.ref (b 14 0)] h (fun r h' => r = nI (nhN u) ∧ h' = h) := by
  refine cm_of "Routepost" rfl (by decide) (Nat.le_of_ble_eq_true rfl) ?_
  intro pr e s m9 below meth c C0 hr hname hH ls hl
  obtain ⟨hx, hb, hml, hown, hts, hK, hA, -⟩ := id C0
  have hl : lv_has ls 1 [(0, .ref (b 14 0))] := hl
  have hc7 := hw.cnt6 7
  have hc8 := hw.cnt6 8
  have hc9 := hw.cnt6 9
  refine lv_aload_n hx hb dX10_hubs_0 rfl (lv_at hl 0 rfl) ?_
  refine c_getR C0 hH hR ci_14 (i := 0) (j := 0) rfl rfl (by decide) rfl fl_X10_12 (v := some (b 3 0)) rfl dX10_hubs_1 ?_
  refine k_i hH (k_runV (rest := []) C0 hH (cL_size l G A _ b _ hR hw 0 (show 0 < 6 + npN _ by omega)) mv_Jx4a65c_size_8abf5 ml_X10_79 ci_3 (hR.kind (K := 3) (i := 0) (show 0 < 6 + npN _ by omega)) rfl ⟨Nat.le_of_ble_eq_true rfl, Nat.le_of_ble_eq_true rfl⟩ hl.1 rfl (Nat.le_of_ble_eq_true rfl) dX10_hubs_4 (by simp)) (fun r9 h1 H locs hp hH => ?_)
  obtain ⟨er9, eh⟩ := hp
  rw [eh] at hH
  clear eh
  rw [hw.sz0] at er9
  subst er9
  have eR : (nI (nhN u) : Int32) = nI (nhN u) := rfl
  exact e_I C0 hr hH ⟨eR, rfl⟩ (Nat.le_of_ble_eq_true rfl) (Nat.le_of_ble_eq_true rfl) dX10_hubs_7
set_option maxHeartbeats 800000 in
set_option maxRecDepth 100000 in
theorem cC_X10_lines (l : Launch) (G : GT) (A : Nat → Prop) (h : AH) (b : BA) (u : MM) (hR : RC G.2.2.1 h b u) (hw : WFc u) : cmI l G A yX10_lines cX10_lines 1 (Option.some FieldType.int) 1 20 0 0 [.ref (b 14 0)] h (fun r h' => r = nI (nlN u) ∧ h' = h) := by
  refine cm_of "Routepost" rfl (by decide) (Nat.le_of_ble_eq_true rfl) ?_
  intro pr e s m9 below meth c C0 hr hname hH ls hl
  obtain ⟨hx, hb, hml, hown, hts, hK, hA, -⟩ := id C0
  have hl : lv_has ls 1 [(0, .ref (b 14 0))] := hl
  have hc7 := hw.cnt6 7
  have hc8 := hw.cnt6 8
  have hc9 := hw.cnt6 9
  refine lv_aload_n hx hb dX10_lines_0 rfl (lv_at hl 0 rfl) ?_
  refine c_getR C0 hH hR ci_14 (i := 0) (j := 1) rfl rfl (by decide) rfl fl_X10_16 (v := some (b 3 1)) rfl dX10_lines_1 ?_
  refine k_i hH (k_runV (rest := []) C0 hH (cL_size l G A _ b _ hR hw 1 (show 1 < 6 + npN _ by omega)) mv_Jx4a65c_size_8abf5 ml_X10_79 ci_3 (hR.kind (K := 3) (i := 1) (show 1 < 6 + npN _ by omega)) rfl ⟨Nat.le_of_ble_eq_true rfl, Nat.le_of_ble_eq_true rfl⟩ hl.1 rfl (Nat.le_of_ble_eq_true rfl) dX10_lines_4 (by simp)) (fun r9 h1 H locs hp hH => ?_)
  obtain ⟨er9, eh⟩ := hp
  rw [eh] at hH
  clear eh
  rw [hw.sz1] at er9
  subst er9
  have eR : (nI (nlN u) : Int32) = nI (nlN u) := rfl
  exact e_I C0 hr hH ⟨eR, rfl⟩ (Nat.le_of_ble_eq_true rfl) (Nat.le_of_ble_eq_true rfl) dX10_lines_7
set_option maxHeartbeats 800000 in
set_option maxRecDepth 100000 in
theorem cC_X10_parcels (l : Launch) (G : GT) (A : Nat → Prop) (h : AH) (b : BA) (u : MM) (hR : RC G.2.2.1 h b u) (hw : WFc u) : cmI l G A yX10_parcels cX10_parcels 1 (Option.some FieldType.int) 1 20 0 0 [.ref (b 14 0)] h (fun r h' => r = nI (npN u) ∧ h' = h) := by
  refine cm_of "Routepost" rfl (by decide) (Nat.le_of_ble_eq_true rfl) ?_
  intro pr e s m9 below meth c C0 hr hname hH ls hl
  obtain ⟨hx, hb, hml, hown, hts, hK, hA, -⟩ := id C0
  have hl : lv_has ls 1 [(0, .ref (b 14 0))] := hl
  have hc7 := hw.cnt6 7
  have hc8 := hw.cnt6 8
  have hc9 := hw.cnt6 9
  refine lv_aload_n hx hb dX10_parcels_0 rfl (lv_at hl 0 rfl) ?_
  refine c_getR C0 hH hR ci_14 (i := 0) (j := 2) rfl rfl (by decide) rfl fl_X10_19 (v := some (b 3 2)) rfl dX10_parcels_1 ?_
  refine k_i hH (k_runV (rest := []) C0 hH (cL_size l G A _ b _ hR hw 2 (show 2 < 6 + npN _ by omega)) mv_Jx4a65c_size_8abf5 ml_X10_79 ci_3 (hR.kind (K := 3) (i := 2) (show 2 < 6 + npN _ by omega)) rfl ⟨Nat.le_of_ble_eq_true rfl, Nat.le_of_ble_eq_true rfl⟩ hl.1 rfl (Nat.le_of_ble_eq_true rfl) dX10_parcels_4 (by simp)) (fun r9 h1 H locs hp hH => ?_)
  obtain ⟨er9, eh⟩ := hp
  rw [eh] at hH
  clear eh
  rw [hw.sz2] at er9
  subst er9
  have eR : (nI (npN u) : Int32) = nI (npN u) := rfl
  exact e_I C0 hr hH ⟨eR, rfl⟩ (Nat.le_of_ble_eq_true rfl) (Nat.le_of_ble_eq_true rfl) dX10_parcels_7
set_option maxHeartbeats 800000 in
set_option maxRecDepth 100000 in
theorem cC_X10_minute (l : Launch) (G : GT) (A : Nat → Prop) (h : AH) (b : BA) (u : MM) (hR : RC G.2.2.1 h b u) (hw : WFc u) : cmI l G A yX10_minute cX10_minute 1 (Option.some FieldType.int) 0 0 0 0 [.ref (b 14 0)] h (fun r h' => r = u 41 0 ∧ h' = h) := by
  refine cm_of "Routepost" rfl (by decide) (Nat.le_of_ble_eq_true rfl) ?_
  intro pr e s m9 below meth c C0 hr hname hH ls hl
  obtain ⟨hx, hb, hml, hown, hts, hK, hA, -⟩ := id C0
  have hl : lv_has ls 1 [(0, .ref (b 14 0))] := hl
  have hc7 := hw.cnt6 7
  have hc8 := hw.cnt6 8
  have hc9 := hw.cnt6 9
  refine lv_aload_n hx hb dX10_minute_0 rfl (lv_at hl 0 rfl) ?_
  refine c_getI C0 hH hR ci_14 (i := 0) (j := 9) rfl rfl (by decide) rfl fl_X10_56 (v := u 41 0) rfl dX10_minute_1 ?_
  have eR : (u 41 0 : Int32) = u 41 0 := rfl
  exact e_I C0 hr hH ⟨eR, rfl⟩ (Nat.le_of_ble_eq_true rfl) (Nat.le_of_ble_eq_true rfl) dX10_minute_4
set_option maxHeartbeats 800000 in
set_option maxRecDepth 100000 in
theorem cC_X10_at (l : Launch) (hlt : l.stackTraces = false) (G : GT) (A : Nat → Prop) (h : AH) (b : BA) (u : MM) (hR : RC G.2.2.1 h b u) (hw : WFc u) (x : Int32) : cxI l G A yX10_at cX10_at 3 (Option.some FieldType.int) 7 111 2 12 [.ref (b 14 0), .int (x)] h (fun r h' => xAt u x = none ∧ r = u 15 x.toNatClampNeg ∧ h' = h) (fun E h' => xAt u x = some E ∧ h' = h) := by
  refine cx_of "Routepost" rfl (by decide) (Nat.le_of_ble_eq_true rfl) ?_
  intro pr e s m9 below meth c C0 hxt hr hH ls hl
  obtain ⟨hx, hb, hml, hown, hts, hK, hA, -⟩ := id C0
  have hl : lv_has ls 3 [(0, .ref (b 14 0)), (1, .int (x))] := hl
  have hc7 := hw.cnt6 7
  have hc8 := hw.cnt6 8
  have hc9 := hw.cnt6 9
  refine lv_aload_n hx hb dX10_at_0 rfl (lv_at hl 0 rfl) ?_
  refine lv_iload_n hx hb dX10_at_1 rfl (lv_at hl 1 rfl) ?_
  refine k_xq C0 hxt hH (k_xrunV (rest := []) C0 hH (cC_X10_parcelNumbered l hlt G A _ b _ hR hw x ) mv_X10_parcelNumbered ml_X10_186 ci_14 (hR.kind (K := 14) (i := 0) rfl) rfl ⟨Nat.le_of_ble_eq_true rfl, Nat.le_of_ble_eq_true rfl⟩ hl.1 rfl (Nat.le_of_ble_eq_true rfl) dX10_at_2 ⟨Nat.le_of_ble_eq_true rfl, Nat.le_of_ble_eq_true rfl⟩) (fun E h9 z => ⟨by unfold xAt; exact xo_s z.1, z.2⟩) (Nat.le_of_ble_eq_true rfl) (Nat.le_of_ble_eq_true rfl) (fun r_1 h1 H locs hp hH => ?_)
  obtain ⟨exr_1, er_1, eh⟩ := hp
  rw [eh] at hH
  clear eh
  have vpv_2 : vp_in (x) (npN u) := (xPa_n hw).mp exr_1
  obtain ⟨v_2, hv_2, ev_2⟩ := vp_ex vpv_2 (by have := hw.nh; have := hw.nl; have := hw.np; omega)
  have kv_2 : (x).toNatClampNeg = v_2 := by rw [ev_2]; exact nI_clamp (by have := hw.nh; have := hw.nl; have := hw.np; omega)
  rw [show dec b 9 (x) = some (b 9 v_2) from by rw [ev_2]; exact dec_nI (by have := hw.nh; have := hw.nl; have := hw.np; omega)] at er_1
  subst er_1
  refine lv_astore_n (lv' := [(2, .ref (b 9 v_2)), (0, .ref (b 14 0)), (1, .int (x))]) hx hb dX10_at_5 rfl hl (by decide) rfl (fun ls hl => ?_)
  refine lv_aload_n hx hb dX10_at_6 rfl (lv_at hl 0 rfl) ?_
  refine c_getI C0 hH hR ci_9 (i := v_2) (j := 8) hv_2 rfl (by decide) rfl fl_X10_190 (v := u 28 v_2) rfl dX10_at_7 ?_
  refine lv_bipush (v := 116) hx hb dX10_at_10 (by decide) ?_
  refine lv_icmp_ne (tgt := 25) hx hb dX10_at_12 (by decide) (fun c12_3 => ?_) (fun c12_3 => ?_)
  · refine lv_aload_n hx hb dX10_at_25 rfl (lv_at hl 0 rfl) ?_
    obtain ⟨v_4, hv_4, ev_4⟩ := hw.exH (show vp_in (u 15 v_2) _ from (hw.pa hv_2).2.2)
    have kv_4 : (u 15 v_2).toNatClampNeg = v_4 := by rw [ev_4]; exact nI_clamp (by have := hw.nh; have := hw.np; omega)
    refine c_getR C0 hH hR ci_9 (i := v_2) (j := 7) hv_2 rfl (by decide) rfl fl_X10_196 (v := some (b 7 v_4)) (show dec b 7 (u 15 v_2) = some (b 7 v_4) from by rw [show u 15 v_2 = nI v_4 from Eq.trans rfl ev_4]; exact dec_nI (by have := hc7; have := (show v_4 < cnt u 7 from hv_4); omega)) dX10_at_26 ?_
    refine c_getI C0 hH hR ci_7 (i := v_4) (j := 0) hv_4 rfl (by decide) rfl fl_X10_97 (v := u 15 v_2) ev_4.symm dX10_at_29 ?_
    refine vx_ret ?_
    have eR : (u 15 v_2 : Int32) = u 15 x.toNatClampNeg := by rw [kv_2]
    exact e_I C0 hr hH ⟨(by unfold xAt; rw [xo_n exr_1]; simp [kv_2, kv_4, eq_false c12_3]), eR, rfl⟩ (Nat.le_of_ble_eq_true rfl) (Nat.le_of_ble_eq_true rfl) dX10_at_32
  · exact k_throwS C0 hxt hlt hH thr_ISE (is := 241) (text := "it is on a truck") (by decide) hl.1 dX10_at_15 dX10_at_18 dX10_at_19 dX10_at_21 dX10_at_24 (Nat.le_of_ble_eq_true rfl) (Nat.le_of_ble_eq_true rfl) (Nat.le_of_ble_eq_true rfl) (Nat.le_of_ble_eq_true rfl) ⟨by unfold xAt; rw [xo_n exr_1]; simp [kv_2, eq_true c12_3]; rfl, rfl⟩ (Nat.le_of_ble_eq_true rfl) (Nat.le_of_ble_eq_true rfl)
set_option maxHeartbeats 800000 in
set_option maxRecDepth 100000 in
theorem cC_X10_rides (l : Launch) (hlt : l.stackTraces = false) (G : GT) (A : Nat → Prop) (h : AH) (b : BA) (u : MM) (hR : RC G.2.2.1 h b u) (hw : WFc u) (x : Int32) : cxI l G A yX10_rides cX10_rides 4 (Option.some FieldType.int) 7 111 2 12 [.ref (b 14 0), .int (x)] h (fun r h' => xRd u x = none ∧ r = u 116 x.toNatClampNeg ∧ h' = h) (fun E h' => xRd u x = some E ∧ h' = h) := by
  refine cx_of "Routepost" rfl (by decide) (Nat.le_of_ble_eq_true rfl) ?_
  intro pr e s m9 below meth c C0 hxt hr hH ls hl
  obtain ⟨hx, hb, hml, hown, hts, hK, hA, -⟩ := id C0
  have hl : lv_has ls 4 [(0, .ref (b 14 0)), (1, .int (x))] := hl
  have hc7 := hw.cnt6 7
  have hc8 := hw.cnt6 8
  have hc9 := hw.cnt6 9
  refine lv_aload_n hx hb dX10_rides_0 rfl (lv_at hl 0 rfl) ?_
  refine lv_iload_n hx hb dX10_rides_1 rfl (lv_at hl 1 rfl) ?_
  refine k_xq C0 hxt hH (k_xrunV (rest := []) C0 hH (cC_X10_parcelNumbered l hlt G A _ b _ hR hw x ) mv_X10_parcelNumbered ml_X10_186 ci_14 (hR.kind (K := 14) (i := 0) rfl) rfl ⟨Nat.le_of_ble_eq_true rfl, Nat.le_of_ble_eq_true rfl⟩ hl.1 rfl (Nat.le_of_ble_eq_true rfl) dX10_rides_2 ⟨Nat.le_of_ble_eq_true rfl, Nat.le_of_ble_eq_true rfl⟩) (fun E h9 z => ⟨by unfold xRd; exact xo_s z.1, z.2⟩) (Nat.le_of_ble_eq_true rfl) (Nat.le_of_ble_eq_true rfl) (fun r_1 h1 H locs hp hH => ?_)
  obtain ⟨exr_1, er_1, eh⟩ := hp
  rw [eh] at hH
  clear eh
  have vpv_2 : vp_in (x) (npN u) := (xPa_n hw).mp exr_1
  obtain ⟨v_2, hv_2, ev_2⟩ := vp_ex vpv_2 (by have := hw.nh; have := hw.nl; have := hw.np; omega)
  have kv_2 : (x).toNatClampNeg = v_2 := by rw [ev_2]; exact nI_clamp (by have := hw.nh; have := hw.nl; have := hw.np; omega)
  rw [show dec b 9 (x) = some (b 9 v_2) from by rw [ev_2]; exact dec_nI (by have := hw.nh; have := hw.nl; have := hw.np; omega)] at er_1
  subst er_1
  refine lv_astore_n (lv' := [(2, .ref (b 9 v_2)), (0, .ref (b 14 0)), (1, .int (x))]) hx hb dX10_rides_5 rfl hl (by decide) rfl (fun ls hl => ?_)
  refine lv_aload_n hx hb dX10_rides_6 rfl (lv_at hl 0 rfl) ?_
  refine c_getR C0 hH hR ci_9 (i := v_2) (j := 9) hv_2 rfl (by decide) rfl fl_X10_243 (v := dec b 8 (u 116 v_2)) (show dec b 8 (u 116 v_2) = dec b 8 (u 116 v_2) from congrArg _ rfl) dX10_rides_7 ?_
  refine o_astore_n_q (lv' := [(3, va_rf (dec b 8 (u 116 v_2))), (2, .ref (b 9 v_2)), (0, .ref (b 14 0)), (1, .int (x))]) hx hb dX10_rides_10 rfl hl (by decide) rfl (fun ls hl => ?_)
  refine lv_aload_n hx hb dX10_rides_11 rfl (lv_at hl 1 rfl) ?_
  refine c_getI C0 hH hR ci_9 (i := v_2) (j := 8) hv_2 rfl (by decide) rfl fl_X10_190 (v := u 28 v_2) rfl dX10_rides_12 ?_
  refine lv_bipush (v := 116) hx hb dX10_rides_15 (by decide) ?_
  refine lv_icmp_ne (tgt := 24) hx hb dX10_rides_17 (by decide) (fun c17_3 => ?_) (fun c17_3 => ?_)
  · exact k_throwS C0 hxt hlt hH thr_ISE (is := 247) (text := "it is on no truck") (by decide) hl.1 dX10_rides_24 dX10_rides_27 dX10_rides_28 dX10_rides_30 dX10_rides_33 (Nat.le_of_ble_eq_true rfl) (Nat.le_of_ble_eq_true rfl) (Nat.le_of_ble_eq_true rfl) (Nat.le_of_ble_eq_true rfl) ⟨by unfold xRd; rw [xo_n exr_1]; simp [kv_2, eq_false c17_3]; rfl, rfl⟩ (Nat.le_of_ble_eq_true rfl) (Nat.le_of_ble_eq_true rfl)
  · refine o_aload_n_q hx hb dX10_rides_20 rfl (lv_at hl 0 rfl) ?_
    rcases (show u 116 v_2 = -1 ∨ ∃ v, v < nlN u ∧ u 116 v_2 = nI v from hw.exL (hw.rg (k := 116) (by decide) v_2)) with es_4 | ⟨s_4, hs_4, es_4⟩
    · have eds_4 : dec b 8 (u 116 v_2) = none := by rw [es_4]; exact dec_m1
      rw [eds_4]
      rw [eds_4] at hl
      refine lv_ifnonnullN hx hb dX10_rides_21 ?_
      exact k_throwS C0 hxt hlt hH thr_ISE (is := 247) (text := "it is on no truck") (by decide) hl.1 dX10_rides_24 dX10_rides_27 dX10_rides_28 dX10_rides_30 dX10_rides_33 (Nat.le_of_ble_eq_true rfl) (Nat.le_of_ble_eq_true rfl) (Nat.le_of_ble_eq_true rfl) (Nat.le_of_ble_eq_true rfl) ⟨by unfold xRd; rw [xo_n exr_1]; simp [kv_2, eq_true c17_3, eq_true es_4]; rfl, rfl⟩ (Nat.le_of_ble_eq_true rfl) (Nat.le_of_ble_eq_true rfl)
    · have eds_4 : dec b 8 (u 116 v_2) = some (b 8 s_4) := by rw [es_4]; exact dec_nI (by have := hc8; have h9 : s_4 < cnt u 8 := hs_4; omega)
      have ks_4 : (u 116 v_2).toNatClampNeg = s_4 := by rw [es_4]; exact nI_clamp (by have := hc8; have h9 : s_4 < cnt u 8 := hs_4; omega)
      have ns_4 : ¬ (u 116 v_2) = -1 := by rw [es_4]; exact nI_nm (by have := hc8; have h9 : s_4 < cnt u 8 := hs_4; omega)
      rw [eds_4]
      rw [eds_4] at hl
      refine lv_ifnonnull (tgt := 34) hx hb dX10_rides_21 (by decide) ?_
      refine lv_aload_n hx hb dX10_rides_34 rfl (lv_at hl 0 rfl) ?_
      refine c_getI C0 hH hR ci_8 (i := s_4) (j := 0) hs_4 rfl (by decide) rfl fl_X10_118 (v := u 116 v_2) es_4.symm dX10_rides_35 ?_
      refine vx_ret ?_
      have eR : (u 116 v_2 : Int32) = u 116 x.toNatClampNeg := by rw [kv_2]
      exact e_I C0 hr hH ⟨(by unfold xRd; rw [xo_n exr_1]; simp [kv_2, ks_4, eq_true c17_3, eq_false ns_4]), eR, rfl⟩ (Nat.le_of_ble_eq_true rfl) (Nat.le_of_ble_eq_true rfl) dX10_rides_38
set_option maxHeartbeats 800000 in
set_option maxRecDepth 100000 in
theorem cC_X10_nextLine (l : Launch) (hlt : l.stackTraces = false) (G : GT) (A : Nat → Prop) (h : AH) (b : BA) (u : MM) (hR : RC G.2.2.1 h b u) (hw : WFc u) (x : Int32) : cxI l G A yX10_nextLine cX10_nextLine 2 (Option.some FieldType.int) 8 133 2 12 [.ref (b 14 0), .int (x)] h (fun r h' => xSc u x = none ∧ r = u 19 x.toNatClampNeg ∧ h' = h) (fun E h' => xSc u x = some E ∧ h' = h) := by
  refine cx_of "Routepost" rfl (by decide) (Nat.le_of_ble_eq_true rfl) ?_
  intro pr e s m9 below meth c C0 hxt hr hH ls hl
  obtain ⟨hx, hb, hml, hown, hts, hK, hA, -⟩ := id C0
  have hl : lv_has ls 2 [(0, .ref (b 14 0)), (1, .int (x))] := hl
  have hc7 := hw.cnt6 7
  have hc8 := hw.cnt6 8
  have hc9 := hw.cnt6 9
  refine lv_aload_n hx hb dX10_nextLine_0 rfl (lv_at hl 0 rfl) ?_
  refine lv_iload_n hx hb dX10_nextLine_1 rfl (lv_at hl 1 rfl) ?_
  refine k_xq C0 hxt hH (k_xrunV (rest := []) C0 hH (cC_X10_scannedParcel l hlt G A _ b _ hR hw x ) mv_X10_scannedParcel ml_X10_219 ci_14 (hR.kind (K := 14) (i := 0) rfl) rfl ⟨Nat.le_of_ble_eq_true rfl, Nat.le_of_ble_eq_true rfl⟩ hl.1 rfl (Nat.le_of_ble_eq_true rfl) dX10_nextLine_2 ⟨Nat.le_of_ble_eq_true rfl, Nat.le_of_ble_eq_true rfl⟩) (fun _ _ z => z) (Nat.le_of_ble_eq_true rfl) (Nat.le_of_ble_eq_true rfl) (fun r_1 h1 H locs hp hH => ?_)
  obtain ⟨exr_1, er_1, eh⟩ := hp
  rw [eh] at hH
  clear eh
  have vpv_2 : vp_in (x) (npN u) := xSc_vp hw exr_1
  obtain ⟨v_2, hv_2, ev_2⟩ := vp_ex vpv_2 (by have := hw.nh; have := hw.nl; have := hw.np; omega)
  have kv_2 : (x).toNatClampNeg = v_2 := by rw [ev_2]; exact nI_clamp (by have := hw.nh; have := hw.nl; have := hw.np; omega)
  rw [show dec b 9 (x) = some (b 9 v_2) from by rw [ev_2]; exact dec_nI (by have := hw.nh; have := hw.nl; have := hw.np; omega)] at er_1
  subst er_1
  refine c_getR C0 hH hR ci_9 (i := v_2) (j := 10) hv_2 rfl (by decide) rfl fl_X10_261 (v := dec b 8 (u 19 v_2)) (show dec b 8 (u 19 v_2) = dec b 8 (u 19 v_2) from congrArg _ rfl) dX10_nextLine_5 ?_
  refine k_i hH (k_runS (rest := []) C0 hH (cC_X10_numberOf_ l G A _ b _ hR hw (u 19 v_2) (hw.exL (hw.rg (k := 19) (by decide) _))) mv_X10_numberOf_ ml_X10_264 rfl ⟨Nat.le_of_ble_eq_true rfl, Nat.le_of_ble_eq_true rfl⟩ hl.1 rfl (Nat.le_of_ble_eq_true rfl) dX10_nextLine_8 ⟨Nat.le_of_ble_eq_true rfl, Nat.le_of_ble_eq_true rfl⟩) (fun r_3 h1 H locs hp hH => ?_)
  obtain ⟨er_3, eh⟩ := hp
  rw [eh] at hH
  clear eh
  subst er_3
  refine vx_ret ?_
  have eR : ((u 19 v_2) : Int32) = u 19 x.toNatClampNeg := by rw [kv_2]
  exact e_I C0 hr hH ⟨exr_1, eR, rfl⟩ (Nat.le_of_ble_eq_true rfl) (Nat.le_of_ble_eq_true rfl) dX10_nextLine_11
set_option maxHeartbeats 800000 in
set_option maxRecDepth 100000 in
theorem cC_X10_nextDeparture (l : Launch) (hlt : l.stackTraces = false) (G : GT) (A : Nat → Prop) (h : AH) (b : BA) (u : MM) (hR : RC G.2.2.1 h b u) (hw : WFc u) (x : Int32) : cxI l G A yX10_nextDeparture cX10_nextDeparture 2 (Option.some FieldType.int) 8 133 2 12 [.ref (b 14 0), .int (x)] h (fun r h' => xOpn u x = none ∧ r = cDep u x.toNatClampNeg (u 41 0 + 1) ∧ h' = h) (fun E h' => xOpn u x = some E ∧ h' = h) := by
  refine cx_of "Routepost" rfl (by decide) (Nat.le_of_ble_eq_true rfl) ?_
  intro pr e s m9 below meth c C0 hxt hr hH ls hl
  obtain ⟨hx, hb, hml, hown, hts, hK, hA, -⟩ := id C0
  have hl : lv_has ls 2 [(0, .ref (b 14 0)), (1, .int (x))] := hl
  have hc7 := hw.cnt6 7
  have hc8 := hw.cnt6 8
  have hc9 := hw.cnt6 9
  refine lv_aload_n hx hb dX10_nextDeparture_0 rfl (lv_at hl 0 rfl) ?_
  refine lv_iload_n hx hb dX10_nextDeparture_1 rfl (lv_at hl 1 rfl) ?_
  refine k_xq C0 hxt hH (k_xrunV (rest := []) C0 hH (cC_X10_openLineNumbered l hlt G A _ b _ hR hw x ) mv_X10_openLineNumbered ml_X10_119 ci_14 (hR.kind (K := 14) (i := 0) rfl) rfl ⟨Nat.le_of_ble_eq_true rfl, Nat.le_of_ble_eq_true rfl⟩ hl.1 rfl (Nat.le_of_ble_eq_true rfl) dX10_nextDeparture_2 ⟨Nat.le_of_ble_eq_true rfl, Nat.le_of_ble_eq_true rfl⟩) (fun _ _ z => z) (Nat.le_of_ble_eq_true rfl) (Nat.le_of_ble_eq_true rfl) (fun r_1 h1 H locs hp hH => ?_)
  obtain ⟨exr_1, er_1, eh⟩ := hp
  rw [eh] at hH
  clear eh
  have vpv_2 : vp_in (x) (nlN u) := xOpn_vp hw exr_1
  obtain ⟨v_2, hv_2, ev_2⟩ := vp_ex vpv_2 (by have := hw.nh; have := hw.nl; have := hw.np; omega)
  have kv_2 : (x).toNatClampNeg = v_2 := by rw [ev_2]; exact nI_clamp (by have := hw.nh; have := hw.nl; have := hw.np; omega)
  rw [show dec b 8 (x) = some (b 8 v_2) from by rw [ev_2]; exact dec_nI (by have := hw.nh; have := hw.nl; have := hw.np; omega)] at er_1
  subst er_1
  refine lv_aload_n hx hb dX10_nextDeparture_5 rfl (lv_at hl 0 rfl) ?_
  refine c_getI C0 hH hR ci_14 (i := 0) (j := 9) rfl rfl (by decide) rfl fl_X10_56 (v := u 41 0) rfl dX10_nextDeparture_6 ?_
  refine lv_iconst (v := 1) hx hb dX10_nextDeparture_9 (by decide) ?_
  refine lv_iadd hx hb dX10_nextDeparture_10 ?_
  refine k_i hH (k_runV (rest := []) C0 hH (cC_X4_departureFrom l G A _ b _ hR hw v_2 ((u 41 0) + 1) hv_2) mv_X4_departureFrom ml_X10_154 ci_8 (hR.kind (K := 8) (i := v_2) hv_2) rfl ⟨Nat.le_of_ble_eq_true rfl, Nat.le_of_ble_eq_true rfl⟩ hl.1 rfl (Nat.le_of_ble_eq_true rfl) dX10_nextDeparture_11 ⟨Nat.le_of_ble_eq_true rfl, Nat.le_of_ble_eq_true rfl⟩) (fun r_3 h1 H locs hp hH => ?_)
  obtain ⟨er_3, eh⟩ := hp
  rw [eh] at hH
  clear eh
  subst er_3
  refine vx_ret ?_
  have eR : (cDep u v_2 ((u 41 0) + 1) : Int32) = cDep u x.toNatClampNeg (u 41 0 + 1) := by rw [kv_2]
  exact e_I C0 hr hH ⟨exr_1, eR, rfl⟩ (Nat.le_of_ble_eq_true rfl) (Nat.le_of_ble_eq_true rfl) dX10_nextDeparture_14
set_option maxHeartbeats 800000 in
set_option maxRecDepth 100000 in
theorem cC_X10_waiting (l : Launch) (hlt : l.stackTraces = false) (G : GT) (A : Nat → Prop) (h : AH) (b : BA) (u : MM) (hR : RC G.2.2.1 h b u) (hw : WFc u) (x : Int32) : cxI l G A yX10_waiting cX10_waiting 2 (Option.some FieldType.int) 7 111 1 6 [.ref (b 14 0), .int (x)] h (fun r h' => xLn u x = none ∧ r = cCw u x ∧ h' = h) (fun E h' => xLn u x = some E ∧ h' = h) := by
  refine cx_of "Routepost" rfl (by decide) (Nat.le_of_ble_eq_true rfl) ?_
  intro pr e s m9 below meth c C0 hxt hr hH ls hl
  obtain ⟨hx, hb, hml, hown, hts, hK, hA, -⟩ := id C0
  have hl : lv_has ls 2 [(0, .ref (b 14 0)), (1, .int (x))] := hl
  have hc7 := hw.cnt6 7
  have hc8 := hw.cnt6 8
  have hc9 := hw.cnt6 9
  refine lv_aload_n hx hb dX10_waiting_0 rfl (lv_at hl 0 rfl) ?_
  refine lv_aload_n hx hb dX10_waiting_1 rfl (lv_at hl 0 rfl) ?_
  refine lv_iload_n hx hb dX10_waiting_2 rfl (lv_at hl 1 rfl) ?_
  refine k_xq C0 hxt hH (k_xrunV (rest := [.ref (b 14 0)]) C0 hH (cC_X10_lineNumbered l hlt G A _ b _ hR hw x ) mv_X10_lineNumbered ml_X10_299 ci_14 (hR.kind (K := 14) (i := 0) rfl) rfl ⟨Nat.le_of_ble_eq_true rfl, Nat.le_of_ble_eq_true rfl⟩ hl.1 rfl (Nat.le_of_ble_eq_true rfl) dX10_waiting_3 ⟨Nat.le_of_ble_eq_true rfl, Nat.le_of_ble_eq_true rfl⟩) (fun _ _ z => z) (Nat.le_of_ble_eq_true rfl) (Nat.le_of_ble_eq_true rfl) (fun r_1 h1 H locs hp hH => ?_)
  obtain ⟨exr_1, er_1, eh⟩ := hp
  rw [eh] at hH
  clear eh
  have vpv_2 : vp_in (x) (nlN u) := (xLn_n hw).mp exr_1
  obtain ⟨v_2, hv_2, ev_2⟩ := vp_ex vpv_2 (by have := hw.nh; have := hw.nl; have := hw.np; omega)
  have kv_2 : (x).toNatClampNeg = v_2 := by rw [ev_2]; exact nI_clamp (by have := hw.nh; have := hw.nl; have := hw.np; omega)
  rw [show dec b 8 (x) = some (b 8 v_2) from by rw [ev_2]; exact dec_nI (by have := hw.nh; have := hw.nl; have := hw.np; omega)] at er_1
  subst er_1
  refine k_i hH (k_runV (rest := []) C0 hH (cC_X10_countWaiting l G A _ b _ hR hw v_2 hv_2) mv_X10_countWaiting ml_X10_123 ci_14 (hR.kind (K := 14) (i := 0) rfl) rfl ⟨Nat.le_of_ble_eq_true rfl, Nat.le_of_ble_eq_true rfl⟩ hl.1 rfl (Nat.le_of_ble_eq_true rfl) dX10_waiting_6 ⟨Nat.le_of_ble_eq_true rfl, Nat.le_of_ble_eq_true rfl⟩) (fun r_3 h1 H locs hp hH => ?_)
  obtain ⟨er_3, eh⟩ := hp
  rw [eh] at hH
  clear eh
  rw [← ev_2] at er_3
  subst er_3
  refine vx_ret ?_
  have eR : (cCw u (x) : Int32) = cCw u x := rfl
  exact e_I C0 hr hH ⟨exr_1, eR, rfl⟩ (Nat.le_of_ble_eq_true rfl) (Nat.le_of_ble_eq_true rfl) dX10_waiting_9
set_option maxHeartbeats 800000 in
set_option maxRecDepth 100000 in
theorem cC_X10_bags (l : Launch) (hlt : l.stackTraces = false) (G : GT) (A : Nat → Prop) (h : AH) (b : BA) (u : MM) (hR : RC G.2.2.1 h b u) (hw : WFc u) (x : Int32) : cxI l G A yX10_bags cX10_bags 2 (Option.some FieldType.int) 7 111 1 6 [.ref (b 14 0), .int (x)] h (fun r h' => xLn u x = none ∧ r = u 8 x.toNatClampNeg ∧ h' = h) (fun E h' => xLn u x = some E ∧ h' = h) := by
  refine cx_of "Routepost" rfl (by decide) (Nat.le_of_ble_eq_true rfl) ?_
  intro pr e s m9 below meth c C0 hxt hr hH ls hl
  obtain ⟨hx, hb, hml, hown, hts, hK, hA, -⟩ := id C0
  have hl : lv_has ls 2 [(0, .ref (b 14 0)), (1, .int (x))] := hl
  have hc7 := hw.cnt6 7
  have hc8 := hw.cnt6 8
  have hc9 := hw.cnt6 9
  refine lv_aload_n hx hb dX10_bags_0 rfl (lv_at hl 0 rfl) ?_
  refine lv_iload_n hx hb dX10_bags_1 rfl (lv_at hl 1 rfl) ?_
  refine k_xq C0 hxt hH (k_xrunV (rest := []) C0 hH (cC_X10_lineNumbered l hlt G A _ b _ hR hw x ) mv_X10_lineNumbered ml_X10_299 ci_14 (hR.kind (K := 14) (i := 0) rfl) rfl ⟨Nat.le_of_ble_eq_true rfl, Nat.le_of_ble_eq_true rfl⟩ hl.1 rfl (Nat.le_of_ble_eq_true rfl) dX10_bags_2 ⟨Nat.le_of_ble_eq_true rfl, Nat.le_of_ble_eq_true rfl⟩) (fun _ _ z => z) (Nat.le_of_ble_eq_true rfl) (Nat.le_of_ble_eq_true rfl) (fun r_1 h1 H locs hp hH => ?_)
  obtain ⟨exr_1, er_1, eh⟩ := hp
  rw [eh] at hH
  clear eh
  have vpv_2 : vp_in (x) (nlN u) := (xLn_n hw).mp exr_1
  obtain ⟨v_2, hv_2, ev_2⟩ := vp_ex vpv_2 (by have := hw.nh; have := hw.nl; have := hw.np; omega)
  have kv_2 : (x).toNatClampNeg = v_2 := by rw [ev_2]; exact nI_clamp (by have := hw.nh; have := hw.nl; have := hw.np; omega)
  rw [show dec b 8 (x) = some (b 8 v_2) from by rw [ev_2]; exact dec_nI (by have := hw.nh; have := hw.nl; have := hw.np; omega)] at er_1
  subst er_1
  refine c_getR C0 hH hR ci_8 (i := v_2) (j := 4) hv_2 rfl (by decide) rfl fl_X10_322 (v := some (b 4 v_2)) rfl dX10_bags_5 ?_
  refine c_getI C0 hH hR ci_4 (i := v_2) (j := 2) (Or.inl hv_2) rfl (by decide) rfl fl_X10_315 (v := u 8 v_2) rfl dX10_bags_8 ?_
  refine vx_ret ?_
  have eR : (u 8 v_2 : Int32) = u 8 x.toNatClampNeg := by rw [kv_2]
  exact e_I C0 hr hH ⟨exr_1, eR, rfl⟩ (Nat.le_of_ble_eq_true rfl) (Nat.le_of_ble_eq_true rfl) dX10_bags_11
set_option maxHeartbeats 800000 in
set_option maxRecDepth 100000 in
theorem cC_X10_hubOf (l : Launch) (hlt : l.stackTraces = false) (G : GT) (A : Nat → Prop) (h : AH) (b : BA) (u : MM) (hR : RC G.2.2.1 h b u) (hw : WFc u) (x : Int32) : cxI l G A yX10_hubOf cX10_hubOf 2 (Option.some FieldType.int) 6 110 1 6 [.ref (b 14 0), .int (x)] h (fun r h' => xAd x = none ∧ r = cHs u x ∧ h' = h) (fun E h' => xAd x = some E ∧ h' = h) := by
  refine cx_of "Routepost" rfl (by decide) (Nat.le_of_ble_eq_true rfl) ?_
  intro pr e s m9 below meth c C0 hxt hr hH ls hl
  obtain ⟨hx, hb, hml, hown, hts, hK, hA, -⟩ := id C0
  have hl : lv_has ls 2 [(0, .ref (b 14 0)), (1, .int (x))] := hl
  have hc7 := hw.cnt6 7
  have hc8 := hw.cnt6 8
  have hc9 := hw.cnt6 9
  refine lv_iload_n hx hb dX10_hubOf_0 rfl (lv_at hl 1 rfl) ?_
  refine k_i hH (k_runS (rest := []) C0 hH (cC_X10_isAddress l G A _ b _ hR hw x ) mv_X10_isAddress ml_X10_131 rfl ⟨Nat.le_of_ble_eq_true rfl, Nat.le_of_ble_eq_true rfl⟩ hl.1 rfl (Nat.le_of_ble_eq_true rfl) dX10_hubOf_1 ⟨Nat.le_of_ble_eq_true rfl, Nat.le_of_ble_eq_true rfl⟩) (fun r_1 h1 H locs hp hH => ?_)
  obtain ⟨er_1, eh⟩ := hp
  rw [eh] at hH
  clear eh
  subst er_1
  refine lv_if_ne (tgt := 17) hx hb dX10_hubOf_4 (by decide) (fun c4_2 => ?_) (fun c4_2 => ?_)
  · refine lv_aload_n hx hb dX10_hubOf_17 rfl (lv_at hl 0 rfl) ?_
    refine lv_iload_n hx hb dX10_hubOf_18 rfl (lv_at hl 1 rfl) ?_
    refine k_q hH (k_runV (rest := []) C0 hH (cC_X10_hubByShortening l G A _ b _ hR hw x ) mv_X10_hubByShortening ml_X10_136 ci_14 (hR.kind (K := 14) (i := 0) rfl) rfl ⟨Nat.le_of_ble_eq_true rfl, Nat.le_of_ble_eq_true rfl⟩ hl.1 rfl (Nat.le_of_ble_eq_true rfl) dX10_hubOf_19 ⟨Nat.le_of_ble_eq_true rfl, Nat.le_of_ble_eq_true rfl⟩) (fun r_3 h1 H locs hp hH => ?_)
    obtain ⟨er_3, eh⟩ := hp
    rw [eh] at hH
    clear eh
    subst er_3
    refine k_i hH (k_runS (rest := []) C0 hH (cC_X10_numberOf l G A _ b _ hR hw (cHs u x) (cHs_ok _ _)) mv_X10_numberOf ml_X10_139 rfl ⟨Nat.le_of_ble_eq_true rfl, Nat.le_of_ble_eq_true rfl⟩ hl.1 rfl (Nat.le_of_ble_eq_true rfl) dX10_hubOf_22 ⟨Nat.le_of_ble_eq_true rfl, Nat.le_of_ble_eq_true rfl⟩) (fun r_4 h1 H locs hp hH => ?_)
    obtain ⟨er_4, eh⟩ := hp
    rw [eh] at hH
    clear eh
    subst er_4
    refine vx_ret ?_
    have eR : ((cHs u x) : Int32) = cHs u x := rfl
    exact e_I C0 hr hH ⟨(by unfold xAd; rw [if_neg c4_2]), eR, rfl⟩ (Nat.le_of_ble_eq_true rfl) (Nat.le_of_ble_eq_true rfl) dX10_hubOf_25
  · exact k_throwS C0 hxt hlt hH thr_IAE (is := 134) (text := "no address") (by decide) hl.1 dX10_hubOf_7 dX10_hubOf_10 dX10_hubOf_11 dX10_hubOf_13 dX10_hubOf_16 (Nat.le_of_ble_eq_true rfl) (Nat.le_of_ble_eq_true rfl) (Nat.le_of_ble_eq_true rfl) (Nat.le_of_ble_eq_true rfl) ⟨by unfold xAd; rw [if_pos c4_2]; rfl, rfl⟩ (Nat.le_of_ble_eq_true rfl) (Nat.le_of_ble_eq_true rfl)

