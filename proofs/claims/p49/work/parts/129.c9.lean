set_option maxHeartbeats 800000 in
set_option maxRecDepth 100000 in
theorem cC_X10_riding (l : Launch) (hlt : l.stackTraces = false) (G : GT) (A : Nat → Prop) (h : AH) (b : BA) (u : MM) (hR : RC G.2.2.1 h b u) (hw : WFc u) (x : Int32) : cxI l G A yX10_riding cX10_riding 6 (Option.some FieldType.int) 7 111 1 6 [.ref (b 14 0), .int (x)] h (fun r h' => xLn u x = none ∧ r = cRdL u x (npN u) 0 0 ∧ h' = h) (fun E h' => xLn u x = some E ∧ h' = h) := by
  refine cx_of "Routepost" rfl (by decide) (Nat.le_of_ble_eq_true rfl) ?_
  intro pr e s m9 below meth c C0 hxt hr hH ls hl
  obtain ⟨hx, hb, hml, hown, hts, hK, hA, -⟩ := id C0
  have hl : lv_has ls 6 [(0, .ref (b 14 0)), (1, .int (x))] := hl
  have hc7 := hw.cnt6 7
  have hc8 := hw.cnt6 8
  have hc9 := hw.cnt6 9
  refine lv_aload_n hx hb dX10_riding_0 rfl (lv_at hl 0 rfl) ?_
  refine lv_iload_n hx hb dX10_riding_1 rfl (lv_at hl 1 rfl) ?_
  refine k_xq C0 hxt hH (k_xrunV (rest := []) C0 hH (cC_X10_lineNumbered l hlt G A _ b _ hR hw x ) mv_X10_lineNumbered ml_X10_299 ci_14 (hR.kind (K := 14) (i := 0) rfl) rfl ⟨Nat.le_of_ble_eq_true rfl, Nat.le_of_ble_eq_true rfl⟩ hl.1 rfl (Nat.le_of_ble_eq_true rfl) dX10_riding_2 ⟨Nat.le_of_ble_eq_true rfl, Nat.le_of_ble_eq_true rfl⟩) (fun _ _ z => z) (Nat.le_of_ble_eq_true rfl) (Nat.le_of_ble_eq_true rfl) (fun r_1 h1 H locs hp hH => ?_)
  obtain ⟨exr_1, er_1, eh⟩ := hp
  rw [eh] at hH
  clear eh
  have vpv_2 : vp_in (x) (nlN u) := (xLn_n hw).mp exr_1
  obtain ⟨v_2, hv_2, ev_2⟩ := vp_ex vpv_2 (by have := hw.nh; have := hw.nl; have := hw.np; omega)
  have kv_2 : (x).toNatClampNeg = v_2 := by rw [ev_2]; exact nI_clamp (by have := hw.nh; have := hw.nl; have := hw.np; omega)
  rw [show dec b 8 (x) = some (b 8 v_2) from by rw [ev_2]; exact dec_nI (by have := hw.nh; have := hw.nl; have := hw.np; omega)] at er_1
  subst er_1
  refine lv_astore_n (lv' := [(2, .ref (b 8 v_2)), (0, .ref (b 14 0)), (1, .int (x))]) hx hb dX10_riding_5 rfl hl (by decide) rfl (fun ls hl => ?_)
  refine lv_iconst (v := 0) hx hb dX10_riding_6 (by decide) ?_
  refine lv_istore_n (lv' := [(3, .int (0)), (2, .ref (b 8 v_2)), (0, .ref (b 14 0)), (1, .int (x))]) hx hb dX10_riding_7 rfl hl (by decide) rfl (fun ls hl => ?_)
  refine lv_iconst (v := 0) hx hb dX10_riding_8 (by decide) ?_
  refine lv_istore (lv' := [(4, .int (0)), (3, .int (0)), (2, .ref (b 8 v_2)), (0, .ref (b 14 0)), (1, .int (x))]) hx hb dX10_riding_9 hl (by decide) rfl (fun ls hl => ?_)
  have K : ∀ (k : Nat) (p : Nat) (n0 : Int32), p + k = npN u → cRdL u x k p n0 = cRdL u x (npN u) 0 0 → ∀ (H : Heap) (locs : List Loc) (hH : HS G.1 G.2.1 A s.heap h H locs) (ls : Array Slot), lv_has ls 6 [(4, .int (nI p)), (3, .int (n0)), (0, .ref (b 14 0)), (2, .ref (b 8 v_2))] → W pr l e (rmm 7 111 1 6) s m9 ([.ref (b 14 0), .int (x)] : List Value).toArray below meth c H locs (0 + 1) (0 + 6) (vx_MQ below (va_Qi (fun r h' => xLn u x = none ∧ r = cRdL u x (npN u) 0 0 ∧ h' = h) (fun h' t => HW G.1 G.2.1 A h' t.heap) A) (xcP G A (fun E h' => xLn u x = some E ∧ h' = h)) ([.ref (b 14 0), .int (x)] : List Value).toArray s 1 6 A) (F0 m9 11 ls []) := by
    intro k
    induction k with
    | zero =>
      intro p n0 hik hT H locs hH ls hl
      refine lv_iload hx hb dX10_riding_11 (lv_at hl 0 rfl) ?_
      refine lv_aload_n hx hb dX10_riding_13 rfl (lv_at hl 2 rfl) ?_
      refine c_getR C0 hH hR ci_14 (i := 0) (j := 2) rfl rfl (by decide) rfl fl_X10_19 (v := some (b 3 2)) rfl dX10_riding_14 ?_
      refine k_i hH (k_runV (rest := [.int (nI p)]) C0 hH (cL_size l G A _ b _ hR hw 2 (show 2 < 6 + npN _ by omega)) mv_Jx4a65c_size_8abf5 ml_X10_79 ci_3 (hR.kind (K := 3) (i := 2) (show 2 < 6 + npN _ by omega)) rfl ⟨Nat.le_of_ble_eq_true rfl, Nat.le_of_ble_eq_true rfl⟩ hl.1 rfl (Nat.le_of_ble_eq_true rfl) dX10_riding_17 ⟨Nat.le_of_ble_eq_true rfl, Nat.le_of_ble_eq_true rfl⟩) (fun r9 h1 H locs hp hH => ?_)
      obtain ⟨er9, eh⟩ := hp
      rw [eh] at hH
      clear eh
      rw [hw.sz2] at er9
      subst er9
      refine lv_icmp_ge (tgt := 65) hx hb dX10_riding_20 (by decide) (fun c20_3 => ?_) (fun c20_3 => ?_)
      · refine lv_iload_n hx hb dX10_riding_65 rfl (lv_at hl 1 rfl) ?_
        refine vx_ret ?_
        have eR : (n0 : Int32) = cRdL u x (npN u) 0 0 := hT
        exact e_I C0 hr hH ⟨exr_1, eR, rfl⟩ (Nat.le_of_ble_eq_true rfl) (Nat.le_of_ble_eq_true rfl) dX10_riding_66
      · exact absurd (by rw [show p = npN u by omega]; exact Int32.le_refl _) c20_3
    | succ k ih =>
      intro p n0 hik hT H locs hH ls hl
      refine lv_iload hx hb dX10_riding_11 (lv_at hl 0 rfl) ?_
      refine lv_aload_n hx hb dX10_riding_13 rfl (lv_at hl 2 rfl) ?_
      refine c_getR C0 hH hR ci_14 (i := 0) (j := 2) rfl rfl (by decide) rfl fl_X10_19 (v := some (b 3 2)) rfl dX10_riding_14 ?_
      refine k_i hH (k_runV (rest := [.int (nI p)]) C0 hH (cL_size l G A _ b _ hR hw 2 (show 2 < 6 + npN _ by omega)) mv_Jx4a65c_size_8abf5 ml_X10_79 ci_3 (hR.kind (K := 3) (i := 2) (show 2 < 6 + npN _ by omega)) rfl ⟨Nat.le_of_ble_eq_true rfl, Nat.le_of_ble_eq_true rfl⟩ hl.1 rfl (Nat.le_of_ble_eq_true rfl) dX10_riding_17 ⟨Nat.le_of_ble_eq_true rfl, Nat.le_of_ble_eq_true rfl⟩) (fun r9 h1 H locs hp hH => ?_)
      obtain ⟨er9, eh⟩ := hp
      rw [eh] at hH
      clear eh
      rw [hw.sz2] at er9
      subst er9
      refine lv_icmp_ge (tgt := 65) hx hb dX10_riding_20 (by decide) (fun c20_4 => ?_) (fun c20_4 => ?_)
      · exact absurd c20_4 (nI_ge (show p < npN u by omega) (by have := hw.nh; have := hw.nl; have := hw.np; omega))
      · refine lv_aload_n hx hb dX10_riding_23 rfl (lv_at hl 2 rfl) ?_
        refine c_getR C0 hH hR ci_14 (i := 0) (j := 2) rfl rfl (by decide) rfl fl_X10_19 (v := some (b 3 2)) rfl dX10_riding_24 ?_
        refine lv_iload hx hb dX10_riding_27 (lv_at hl 0 rfl) ?_
        refine k_q hH (k_runV (rest := []) C0 hH (cL_get l G A _ b _ hR hw 2 p (show 2 < 6 + npN _ by omega) (by rw [hw.sz2]; omega) (a := b 9 p) rfl) mv_Jx4a65c_get_915e3 ml_X10_143 ci_3 (hR.kind (K := 3) (i := 2) (show 2 < 6 + npN _ by omega)) rfl ⟨Nat.le_of_ble_eq_true rfl, Nat.le_of_ble_eq_true rfl⟩ hl.1 rfl (Nat.le_of_ble_eq_true rfl) dX10_riding_29 ⟨Nat.le_of_ble_eq_true rfl, Nat.le_of_ble_eq_true rfl⟩) (fun r9 h1 H locs hp hH => ?_)
        obtain ⟨er9, eh⟩ := hp
        rw [eh] at hH
        clear eh
        subst er9
        refine k_chk C0 hH ci_9 (hR.kind (K := 9) (i := p) (show p < npN u by omega)) cl_X10_162 dX10_riding_32 ?_
        refine lv_astore (lv' := [(5, .ref (b 9 p)), (4, .int (nI p)), (3, .int (n0)), (0, .ref (b 14 0)), (2, .ref (b 8 v_2))]) hx hb dX10_riding_35 hl (by decide) rfl (fun ls hl => ?_)
        refine lv_aload hx hb dX10_riding_37 (lv_at hl 0 rfl) ?_
        refine c_getI C0 hH hR ci_9 (i := p) (j := 8) (show p < npN u by omega) rfl (by decide) rfl fl_X10_190 (v := u 28 p) rfl dX10_riding_39 ?_
        refine lv_bipush (v := 116) hx hb dX10_riding_42 (by decide) ?_
        refine lv_icmp_ne (tgt := 59) hx hb dX10_riding_44 (by decide) (fun c44_5 => ?_) (fun c44_5 => ?_)
        · refine lv_iinc (v := nI (p + 1)) (lv' := [(4, .int (nI (p + 1))), (5, .ref (b 9 p)), (3, .int (n0)), (0, .ref (b 14 0)), (2, .ref (b 8 v_2))]) hx hb dX10_riding_59 hl (k := 1) rfl (by rw [← nI_1]; rfl) (by decide) rfl (fun ls hl => ?_)
          refine lv_goto (tgt := 11) hx hb dX10_riding_62 (by decide) ?_
          exact ih (p + 1) n0 (by omega) (by rw [← hT]; simp [cRdL, kv_2, c20_4, Int32.not_le.mp c20_4, eq_false c44_5]) _ _ hH ls (lv_sub hl [0, 2, 3, 4] rfl)
        · refine lv_aload hx hb dX10_riding_47 (lv_at hl 0 rfl) ?_
          refine c_getR C0 hH hR ci_9 (i := p) (j := 9) (show p < npN u by omega) rfl (by decide) rfl fl_X10_243 (v := dec b 8 (u 116 p)) (show dec b 8 (u 116 p) = dec b 8 (u 116 p) from congrArg _ rfl) dX10_riding_49 ?_
          refine lv_aload_n hx hb dX10_riding_52 rfl (lv_at hl 4 rfl) ?_
          refine lv_acmp_ne (rx := dec b 8 (u 116 p)) (ry := some (b 8 v_2)) (tgt := 59) hx hb dX10_riding_53 (by decide) (fun c53_6 => ?_) (fun c53_6 => ?_)
          · rw [hR.acQ hw (T := 8) (by omega) (hw.rg (k := 116) (by decide) p) hv_2] at c53_6
            rw [← ev_2] at c53_6
            refine lv_iinc (v := nI (p + 1)) (lv' := [(4, .int (nI (p + 1))), (5, .ref (b 9 p)), (3, .int (n0)), (0, .ref (b 14 0)), (2, .ref (b 8 v_2))]) hx hb dX10_riding_59 hl (k := 1) rfl (by rw [← nI_1]; rfl) (by decide) rfl (fun ls hl => ?_)
            refine lv_goto (tgt := 11) hx hb dX10_riding_62 (by decide) ?_
            exact ih (p + 1) n0 (by omega) (by rw [← hT]; simp [cRdL, kv_2, c20_4, Int32.not_le.mp c20_4, eq_true c44_5, eq_false c53_6]) _ _ hH ls (lv_sub hl [0, 2, 3, 4] rfl)
          · rw [hR.acQ hw (T := 8) (by omega) (hw.rg (k := 116) (by decide) p) hv_2] at c53_6
            rw [← ev_2] at c53_6
            refine lv_iinc (v := n0 + 1) (lv' := [(3, .int (n0 + 1)), (5, .ref (b 9 p)), (4, .int (nI p)), (0, .ref (b 14 0)), (2, .ref (b 8 v_2))]) hx hb dX10_riding_56 hl (k := 2) rfl (rfl) (by decide) rfl (fun ls hl => ?_)
            refine lv_iinc (v := nI (p + 1)) (lv' := [(4, .int (nI (p + 1))), (3, .int (n0 + 1)), (5, .ref (b 9 p)), (0, .ref (b 14 0)), (2, .ref (b 8 v_2))]) hx hb dX10_riding_59 hl (k := 2) rfl (by rw [← nI_1]; rfl) (by decide) rfl (fun ls hl => ?_)
            refine lv_goto (tgt := 11) hx hb dX10_riding_62 (by decide) ?_
            exact ih (p + 1) (n0 + 1) (by omega) (by rw [← hT]; simp [cRdL, kv_2, c20_4, Int32.not_le.mp c20_4, eq_true c44_5, eq_true c53_6]) _ _ hH ls (lv_sub hl [0, 1, 3, 4] rfl)
  exact K (npN u) 0 0 (by omega) rfl _ _ hH ls (lv_sub hl [0, 1, 3, 2] rfl)
set_option maxHeartbeats 800000 in
set_option maxRecDepth 100000 in
theorem cC_X10_bagsAtLeast (l : Launch) (hlt : l.stackTraces = false) (G : GT) (A : Nat → Prop) (h : AH) (b : BA) (u : MM) (hR : RC G.2.2.1 h b u) (hw : WFc u) (x : Int32) : cxI l G A yX10_bagsAtLeast cX10_bagsAtLeast 6 (Option.some FieldType.int) 7 111 1 6 [.ref (b 14 0), .int (x)] h (fun r h' => xLn u x = none ∧ r = cBaL u x (nhN u) 0 0 ∧ h' = h) (fun E h' => xLn u x = some E ∧ h' = h) := by
  refine cx_of "Routepost" rfl (by decide) (Nat.le_of_ble_eq_true rfl) ?_
  intro pr e s m9 below meth c C0 hxt hr hH ls hl
  obtain ⟨hx, hb, hml, hown, hts, hK, hA, -⟩ := id C0
  have hl : lv_has ls 6 [(0, .ref (b 14 0)), (1, .int (x))] := hl
  have hc7 := hw.cnt6 7
  have hc8 := hw.cnt6 8
  have hc9 := hw.cnt6 9
  refine lv_aload_n hx hb dX10_bagsAtLeast_0 rfl (lv_at hl 0 rfl) ?_
  refine lv_iload_n hx hb dX10_bagsAtLeast_1 rfl (lv_at hl 1 rfl) ?_
  refine k_xq C0 hxt hH (k_xrunV (rest := []) C0 hH (cC_X10_lineNumbered l hlt G A _ b _ hR hw x ) mv_X10_lineNumbered ml_X10_299 ci_14 (hR.kind (K := 14) (i := 0) rfl) rfl ⟨Nat.le_of_ble_eq_true rfl, Nat.le_of_ble_eq_true rfl⟩ hl.1 rfl (Nat.le_of_ble_eq_true rfl) dX10_bagsAtLeast_2 ⟨Nat.le_of_ble_eq_true rfl, Nat.le_of_ble_eq_true rfl⟩) (fun _ _ z => z) (Nat.le_of_ble_eq_true rfl) (Nat.le_of_ble_eq_true rfl) (fun r_1 h1 H locs hp hH => ?_)
  obtain ⟨exr_1, er_1, eh⟩ := hp
  rw [eh] at hH
  clear eh
  have vpv_2 : vp_in (x) (nlN u) := (xLn_n hw).mp exr_1
  obtain ⟨v_2, hv_2, ev_2⟩ := vp_ex vpv_2 (by have := hw.nh; have := hw.nl; have := hw.np; omega)
  have kv_2 : (x).toNatClampNeg = v_2 := by rw [ev_2]; exact nI_clamp (by have := hw.nh; have := hw.nl; have := hw.np; omega)
  rw [show dec b 8 (x) = some (b 8 v_2) from by rw [ev_2]; exact dec_nI (by have := hw.nh; have := hw.nl; have := hw.np; omega)] at er_1
  subst er_1
  refine lv_astore_n (lv' := [(2, .ref (b 8 v_2)), (0, .ref (b 14 0)), (1, .int (x))]) hx hb dX10_bagsAtLeast_5 rfl hl (by decide) rfl (fun ls hl => ?_)
  refine lv_iconst (v := 0) hx hb dX10_bagsAtLeast_6 (by decide) ?_
  refine lv_istore_n (lv' := [(3, .int (0)), (2, .ref (b 8 v_2)), (0, .ref (b 14 0)), (1, .int (x))]) hx hb dX10_bagsAtLeast_7 rfl hl (by decide) rfl (fun ls hl => ?_)
  refine lv_iconst (v := 0) hx hb dX10_bagsAtLeast_8 (by decide) ?_
  refine lv_istore (lv' := [(4, .int (0)), (3, .int (0)), (2, .ref (b 8 v_2)), (0, .ref (b 14 0)), (1, .int (x))]) hx hb dX10_bagsAtLeast_9 hl (by decide) rfl (fun ls hl => ?_)
  have K : ∀ (k : Nat) (h0 : Nat) (n0 : Int32), h0 + k = nhN u → cBaL u x k h0 n0 = cBaL u x (nhN u) 0 0 → ∀ (H : Heap) (locs : List Loc) (hH : HS G.1 G.2.1 A s.heap h H locs) (ls : Array Slot), lv_has ls 6 [(4, .int (nI h0)), (3, .int (n0)), (0, .ref (b 14 0)), (2, .ref (b 8 v_2))] → W pr l e (rmm 7 111 1 6) s m9 ([.ref (b 14 0), .int (x)] : List Value).toArray below meth c H locs (0 + 1) (0 + 6) (vx_MQ below (va_Qi (fun r h' => xLn u x = none ∧ r = cBaL u x (nhN u) 0 0 ∧ h' = h) (fun h' t => HW G.1 G.2.1 A h' t.heap) A) (xcP G A (fun E h' => xLn u x = some E ∧ h' = h)) ([.ref (b 14 0), .int (x)] : List Value).toArray s 1 6 A) (F0 m9 11 ls []) := by
    intro k
    induction k with
    | zero =>
      intro h0 n0 hik hT H locs hH ls hl
      refine lv_iload hx hb dX10_bagsAtLeast_11 (lv_at hl 0 rfl) ?_
      refine lv_aload_n hx hb dX10_bagsAtLeast_13 rfl (lv_at hl 2 rfl) ?_
      refine c_getR C0 hH hR ci_14 (i := 0) (j := 0) rfl rfl (by decide) rfl fl_X10_12 (v := some (b 3 0)) rfl dX10_bagsAtLeast_14 ?_
      refine k_i hH (k_runV (rest := [.int (nI h0)]) C0 hH (cL_size l G A _ b _ hR hw 0 (show 0 < 6 + npN _ by omega)) mv_Jx4a65c_size_8abf5 ml_X10_79 ci_3 (hR.kind (K := 3) (i := 0) (show 0 < 6 + npN _ by omega)) rfl ⟨Nat.le_of_ble_eq_true rfl, Nat.le_of_ble_eq_true rfl⟩ hl.1 rfl (Nat.le_of_ble_eq_true rfl) dX10_bagsAtLeast_17 ⟨Nat.le_of_ble_eq_true rfl, Nat.le_of_ble_eq_true rfl⟩) (fun r9 h1 H locs hp hH => ?_)
      obtain ⟨er9, eh⟩ := hp
      rw [eh] at hH
      clear eh
      rw [hw.sz0] at er9
      subst er9
      refine lv_icmp_ge (tgt := 61) hx hb dX10_bagsAtLeast_20 (by decide) (fun c20_3 => ?_) (fun c20_3 => ?_)
      · refine lv_iload_n hx hb dX10_bagsAtLeast_61 rfl (lv_at hl 1 rfl) ?_
        refine vx_ret ?_
        have eR : (n0 : Int32) = cBaL u x (nhN u) 0 0 := hT
        exact e_I C0 hr hH ⟨exr_1, eR, rfl⟩ (Nat.le_of_ble_eq_true rfl) (Nat.le_of_ble_eq_true rfl) dX10_bagsAtLeast_62
      · exact absurd (by rw [show h0 = nhN u by omega]; exact Int32.le_refl _) c20_3
    | succ k ih =>
      intro h0 n0 hik hT H locs hH ls hl
      refine lv_iload hx hb dX10_bagsAtLeast_11 (lv_at hl 0 rfl) ?_
      refine lv_aload_n hx hb dX10_bagsAtLeast_13 rfl (lv_at hl 2 rfl) ?_
      refine c_getR C0 hH hR ci_14 (i := 0) (j := 0) rfl rfl (by decide) rfl fl_X10_12 (v := some (b 3 0)) rfl dX10_bagsAtLeast_14 ?_
      refine k_i hH (k_runV (rest := [.int (nI h0)]) C0 hH (cL_size l G A _ b _ hR hw 0 (show 0 < 6 + npN _ by omega)) mv_Jx4a65c_size_8abf5 ml_X10_79 ci_3 (hR.kind (K := 3) (i := 0) (show 0 < 6 + npN _ by omega)) rfl ⟨Nat.le_of_ble_eq_true rfl, Nat.le_of_ble_eq_true rfl⟩ hl.1 rfl (Nat.le_of_ble_eq_true rfl) dX10_bagsAtLeast_17 ⟨Nat.le_of_ble_eq_true rfl, Nat.le_of_ble_eq_true rfl⟩) (fun r9 h1 H locs hp hH => ?_)
      obtain ⟨er9, eh⟩ := hp
      rw [eh] at hH
      clear eh
      rw [hw.sz0] at er9
      subst er9
      refine lv_icmp_ge (tgt := 61) hx hb dX10_bagsAtLeast_20 (by decide) (fun c20_4 => ?_) (fun c20_4 => ?_)
      · exact absurd c20_4 (nI_ge (show h0 < nhN u by omega) (by have := hw.nh; have := hw.nl; have := hw.np; omega))
      · refine lv_aload_n hx hb dX10_bagsAtLeast_23 rfl (lv_at hl 2 rfl) ?_
        refine lv_aload_n hx hb dX10_bagsAtLeast_24 rfl (lv_at hl 3 rfl) ?_
        refine lv_aload_n hx hb dX10_bagsAtLeast_25 rfl (lv_at hl 2 rfl) ?_
        refine c_getR C0 hH hR ci_14 (i := 0) (j := 0) rfl rfl (by decide) rfl fl_X10_12 (v := some (b 3 0)) rfl dX10_bagsAtLeast_26 ?_
        refine lv_iload hx hb dX10_bagsAtLeast_29 (lv_at hl 0 rfl) ?_
        refine k_q hH (k_runV (rest := [.ref (b 8 v_2), .ref (b 14 0)]) C0 hH (cL_get l G A _ b _ hR hw 0 h0 (show 0 < 6 + npN _ by omega) (by rw [hw.sz0]; omega) (a := b 7 h0) rfl) mv_Jx4a65c_get_915e3 ml_X10_143 ci_3 (hR.kind (K := 3) (i := 0) (show 0 < 6 + npN _ by omega)) rfl ⟨Nat.le_of_ble_eq_true rfl, Nat.le_of_ble_eq_true rfl⟩ hl.1 rfl (Nat.le_of_ble_eq_true rfl) dX10_bagsAtLeast_31 ⟨Nat.le_of_ble_eq_true rfl, Nat.le_of_ble_eq_true rfl⟩) (fun r9 h1 H locs hp hH => ?_)
        obtain ⟨er9, eh⟩ := hp
        rw [eh] at hH
        clear eh
        subst er9
        refine k_chk C0 hH ci_7 (hR.kind (K := 7) (i := h0) (show h0 < nhN u by omega)) cl_X10_88 dX10_bagsAtLeast_34 ?_
        refine k_i hH (k_runV (rest := []) C0 hH (cC_X10_volumeWaiting l G A _ b _ hR hw v_2 h0 hv_2 (show h0 < nhN u by omega)) mv_X10_volumeWaiting ml_X10_318 ci_14 (hR.kind (K := 14) (i := 0) rfl) rfl ⟨Nat.le_of_ble_eq_true rfl, Nat.le_of_ble_eq_true rfl⟩ hl.1 rfl (Nat.le_of_ble_eq_true rfl) dX10_bagsAtLeast_37 ⟨Nat.le_of_ble_eq_true rfl, Nat.le_of_ble_eq_true rfl⟩) (fun r_5 h1 H locs hp hH => ?_)
        obtain ⟨er_5, eh⟩ := hp
        rw [eh] at hH
        clear eh
        rw [← ev_2] at er_5
        subst er_5
        refine lv_istore (lv' := [(5, .int (cVw u (x) (nI h0))), (4, .int (nI h0)), (3, .int (n0)), (0, .ref (b 14 0)), (2, .ref (b 8 v_2))]) hx hb dX10_bagsAtLeast_40 hl (by decide) rfl (fun ls hl => ?_)
        refine lv_iload_n hx hb dX10_bagsAtLeast_42 rfl (lv_at hl 2 rfl) ?_
        refine lv_iload hx hb dX10_bagsAtLeast_43 (lv_at hl 0 rfl) ?_
        refine lv_bipush (v := 12) hx hb dX10_bagsAtLeast_45 (by decide) ?_
        refine lv_iadd hx hb dX10_bagsAtLeast_47 ?_
        refine lv_iconst (v := 1) hx hb dX10_bagsAtLeast_48 (by decide) ?_
        refine lv_isub hx hb dX10_bagsAtLeast_49 ?_
        refine lv_bipush (v := 12) hx hb dX10_bagsAtLeast_50 (by decide) ?_
        refine lv_idiv hx hb dX10_bagsAtLeast_52 (by decide) ?_
        refine lv_iadd hx hb dX10_bagsAtLeast_53 ?_
        refine lv_istore_n (lv' := [(3, .int (n0 + ((((cVw u (x) (nI h0)) + 12) - 1) / 12))), (5, .int (cVw u (x) (nI h0))), (4, .int (nI h0)), (0, .ref (b 14 0)), (2, .ref (b 8 v_2))]) hx hb dX10_bagsAtLeast_54 rfl hl (by decide) rfl (fun ls hl => ?_)
        refine lv_iinc (v := nI (h0 + 1)) (lv' := [(4, .int (nI (h0 + 1))), (3, .int (n0 + ((((cVw u (x) (nI h0)) + 12) - 1) / 12))), (5, .int (cVw u (x) (nI h0))), (0, .ref (b 14 0)), (2, .ref (b 8 v_2))]) hx hb dX10_bagsAtLeast_55 hl (k := 2) rfl (by rw [← nI_1]; rfl) (by decide) rfl (fun ls hl => ?_)
        refine lv_goto (tgt := 11) hx hb dX10_bagsAtLeast_58 (by decide) ?_
        exact ih (h0 + 1) (n0 + ((((cVw u (x) (nI h0)) + 12) - 1) / 12)) (by omega) (by rw [← hT]; simp [cBaL, kv_2, c20_4, Int32.not_le.mp c20_4]) _ _ hH ls (lv_sub hl [0, 1, 3, 4] rfl)
  exact K (nhN u) 0 0 (by omega) rfl _ _ hH ls (lv_sub hl [0, 1, 3, 2] rfl)
set_option maxHeartbeats 800000 in
set_option maxRecDepth 100000 in
theorem cC_X10_bagVolume (l : Launch) (hlt : l.stackTraces = false) (G : GT) (A : Nat → Prop) (h : AH) (b : BA) (u : MM) (hR : RC G.2.2.1 h b u) (hw : WFc u) (x i0 : Int32) : cxI l G A yX10_bagVolume cX10_bagVolume 4 (Option.some FieldType.int) 7 111 2 12 [.ref (b 14 0), .int (x), .int (i0)] h (fun r h' => xBv u x i0 = none ∧ r = cVol u x.toNatClampNeg 40 i0 ∧ h' = h) (fun E h' => xBv u x i0 = some E ∧ h' = h) := by
  refine cx_of "Routepost" rfl (by decide) (Nat.le_of_ble_eq_true rfl) ?_
  intro pr e s m9 below meth c C0 hxt hr hH ls hl
  obtain ⟨hx, hb, hml, hown, hts, hK, hA, -⟩ := id C0
  have hl : lv_has ls 4 [(0, .ref (b 14 0)), (1, .int (x)), (2, .int (i0))] := hl
  have hc7 := hw.cnt6 7
  have hc8 := hw.cnt6 8
  have hc9 := hw.cnt6 9
  refine lv_aload_n hx hb dX10_bagVolume_0 rfl (lv_at hl 0 rfl) ?_
  refine lv_iload_n hx hb dX10_bagVolume_1 rfl (lv_at hl 1 rfl) ?_
  refine k_xq C0 hxt hH (k_xrunV (rest := []) C0 hH (cC_X10_lineNumbered l hlt G A _ b _ hR hw x ) mv_X10_lineNumbered ml_X10_299 ci_14 (hR.kind (K := 14) (i := 0) rfl) rfl ⟨Nat.le_of_ble_eq_true rfl, Nat.le_of_ble_eq_true rfl⟩ hl.1 rfl (Nat.le_of_ble_eq_true rfl) dX10_bagVolume_2 ⟨Nat.le_of_ble_eq_true rfl, Nat.le_of_ble_eq_true rfl⟩) (fun E h9 z => ⟨by unfold xBv; exact xo_s z.1, z.2⟩) (Nat.le_of_ble_eq_true rfl) (Nat.le_of_ble_eq_true rfl) (fun r_1 h1 H locs hp hH => ?_)
  obtain ⟨exr_1, er_1, eh⟩ := hp
  rw [eh] at hH
  clear eh
  have vpv_2 : vp_in (x) (nlN u) := (xLn_n hw).mp exr_1
  obtain ⟨v_2, hv_2, ev_2⟩ := vp_ex vpv_2 (by have := hw.nh; have := hw.nl; have := hw.np; omega)
  have kv_2 : (x).toNatClampNeg = v_2 := by rw [ev_2]; exact nI_clamp (by have := hw.nh; have := hw.nl; have := hw.np; omega)
  rw [show dec b 8 (x) = some (b 8 v_2) from by rw [ev_2]; exact dec_nI (by have := hw.nh; have := hw.nl; have := hw.np; omega)] at er_1
  subst er_1
  refine c_getR C0 hH hR ci_8 (i := v_2) (j := 4) hv_2 rfl (by decide) rfl fl_X10_322 (v := some (b 4 v_2)) rfl dX10_bagVolume_5 ?_
  refine lv_astore_n (lv' := [(3, .ref (b 4 v_2)), (0, .ref (b 14 0)), (1, .int (x)), (2, .int (i0))]) hx hb dX10_bagVolume_8 rfl hl (by decide) rfl (fun ls hl => ?_)
  refine lv_aload_n hx hb dX10_bagVolume_9 rfl (lv_at hl 0 rfl) ?_
  refine lv_iload_n hx hb dX10_bagVolume_10 rfl (lv_at hl 3 rfl) ?_
  refine k_i hH (k_runV (rest := []) C0 hH (cC_X0_has l G A _ b _ hR hw v_2 40 i0 (Or.inl hv_2) (by unfold len20; rw [if_pos (show v_2 < 13 by have := hw.nl; omega)])) mv_X0_has ml_X10_325 ci_4 (hR.kind (K := 4) (i := v_2) (Or.inl hv_2)) rfl ⟨Nat.le_of_ble_eq_true rfl, Nat.le_of_ble_eq_true rfl⟩ hl.1 rfl (Nat.le_of_ble_eq_true rfl) dX10_bagVolume_11 ⟨Nat.le_of_ble_eq_true rfl, Nat.le_of_ble_eq_true rfl⟩) (fun r_3 h1 H locs hp hH => ?_)
  obtain ⟨er_3, eh⟩ := hp
  rw [eh] at hH
  clear eh
  subst er_3
  refine lv_if_ne (tgt := 28) hx hb dX10_bagVolume_14 (by decide) (fun c14_4 => ?_) (fun c14_4 => ?_)
  · refine lv_aload_n hx hb dX10_bagVolume_28 rfl (lv_at hl 0 rfl) ?_
    refine lv_iload_n hx hb dX10_bagVolume_29 rfl (lv_at hl 3 rfl) ?_
    refine k_i hH (k_runV (rest := []) C0 hH (cC_X0_volumeOf l G A _ b _ hR hw v_2 40 i0 (Or.inl hv_2) (by unfold len20; rw [if_pos (show v_2 < 13 by have := hw.nl; omega)])) mv_X0_volumeOf ml_X10_330 ci_4 (hR.kind (K := 4) (i := v_2) (Or.inl hv_2)) rfl ⟨Nat.le_of_ble_eq_true rfl, Nat.le_of_ble_eq_true rfl⟩ hl.1 rfl (Nat.le_of_ble_eq_true rfl) dX10_bagVolume_30 ⟨Nat.le_of_ble_eq_true rfl, Nat.le_of_ble_eq_true rfl⟩) (fun r_5 h1 H locs hp hH => ?_)
    obtain ⟨er_5, eh⟩ := hp
    rw [eh] at hH
    clear eh
    subst er_5
    refine vx_ret ?_
    have eR : (cVol u v_2 40 i0 : Int32) = cVol u x.toNatClampNeg 40 i0 := by rw [kv_2]
    exact e_I C0 hr hH ⟨(by unfold xBv; rw [xo_n exr_1, kv_2, if_neg c14_4]), eR, rfl⟩ (Nat.le_of_ble_eq_true rfl) (Nat.le_of_ble_eq_true rfl) dX10_bagVolume_33
  · exact k_throwSW C0 hxt hlt hH thr_IOB (is := 328) (text := "no such bag") (by decide) hl.1 dX10_bagVolume_17 dX10_bagVolume_20 dX10_bagVolume_21 dX10_bagVolume_24 dX10_bagVolume_27 (Nat.le_of_ble_eq_true rfl) (Nat.le_of_ble_eq_true rfl) (Nat.le_of_ble_eq_true rfl) (Nat.le_of_ble_eq_true rfl) ⟨by unfold xBv; rw [xo_n exr_1, kv_2, if_pos c14_4]; rfl, rfl⟩ (Nat.le_of_ble_eq_true rfl) (Nat.le_of_ble_eq_true rfl)
set_option maxHeartbeats 800000 in
set_option maxRecDepth 100000 in
theorem cC_X10_plan (l : Launch) (G : GT) (A : Nat → Prop) (h : AH) (b : BA) (u : MM) (hR : RC G.2.2.1 h b u) (hw : WFc u) (p : Nat) (hp0 : p < npN u) : cmV l G A yX10_plan cX10_plan 3 5 115 0 0 [.ref (b 14 0), .ref (b 9 p)] h (fun h' => RC G.2.2.1 h' b (cPlan u p) ∧ WFc (cPlan u p)) := by
  refine cm_of "Routepost" rfl (by decide) (Nat.le_of_ble_eq_true rfl) ?_
  intro pr e s m9 below meth c C0 hr hname hH ls hl
  obtain ⟨hx, hb, hml, hown, hts, hK, hA, -⟩ := id C0
  have hl : lv_has ls 3 [(0, .ref (b 14 0)), (1, .ref (b 9 p))] := hl
  have hc7 := hw.cnt6 7
  have hc8 := hw.cnt6 8
  have hc9 := hw.cnt6 9
  have hw00 := hw
  have hp00 := hp0
  refine lv_aload_n hx hb dX10_plan_0 rfl (lv_at hl 0 rfl) ?_
  refine c_getR C0 hH hR ci_14 (i := 0) (j := 6) rfl rfl (by decide) rfl fl_X10_38 (v := some (b 11 0)) rfl dX10_plan_1 ?_
  refine lv_aload_n hx hb dX10_plan_4 rfl (lv_at hl 0 rfl) ?_
  refine c_getR C0 hH hR ci_14 (i := 0) (j := 1) rfl rfl (by decide) rfl fl_X10_16 (v := some (b 3 1)) rfl dX10_plan_5 ?_
  refine lv_aload_n hx hb dX10_plan_8 rfl (lv_at hl 1 rfl) ?_
  refine lv_aload_n hx hb dX10_plan_9 rfl (lv_at hl 0 rfl) ?_
  refine c_getI C0 hH hR ci_14 (i := 0) (j := 9) rfl rfl (by decide) rfl fl_X10_56 (v := u 41 0) rfl dX10_plan_10 ?_
  refine k_q hH (k_runV (rest := []) C0 hH (cC_X7_bestPath l G A _ b _ hR hw p (u 41 0) hp0) mv_X7_bestPath ml_X10_273 ci_11 (hR.kind (K := 11) (i := 0) rfl) rfl ⟨Nat.le_of_ble_eq_true rfl, Nat.le_of_ble_eq_true rfl⟩ hl.1 rfl (Nat.le_of_ble_eq_true rfl) dX10_plan_13 (by simp)) (fun r_1 h H locs hp hH => ?_)
  obtain ⟨er_1, hR, hw⟩ := hp
  subst er_1
  obtain ⟨U1, hU1⟩ : ∃ z, z = ((cBp u p (u 41 0)).2) := ⟨_, rfl⟩
  rw [← hU1] at hR hw
  have hnU1 : nhN U1 = nhN u ∧ nlN U1 = nlN u ∧ npN U1 = npN u := by rw [hU1]; exact cBp_n _ _ _
  have hc7 := hw.cnt6 7
  have hc8 := hw.cnt6 8
  have hc9 := hw.cnt6 9
  replace hp0 : p < npN U1 := by rw [hnU1.2.2]; exact hp0
  refine o_astore_n_q (lv' := [(2, va_rf (dec b 10 ((cBp u p (u 41 0)).1))), (0, .ref (b 14 0)), (1, .ref (b 9 p))]) hx hb dX10_plan_16 rfl hl (by decide) rfl (fun ls hl => ?_)
  refine lv_aload_n hx hb dX10_plan_17 rfl (lv_at hl 2 rfl) ?_
  refine o_aload_n_q hx hb dX10_plan_18 rfl (lv_at hl 0 rfl) ?_
  rcases (cBp_ok hw00 hp00 _) with es_2 | ⟨s_2, hs_2, es_2⟩
  · have eds_2 : dec b 10 ((cBp u p (u 41 0)).1) = none := by rw [es_2]; exact dec_m1
    rw [eds_2]
    rw [eds_2] at hl
    refine lv_ifnonnullN hx hb dX10_plan_19 ?_
    refine lv_null hx hb dX10_plan_22 ?_
    refine lv_goto (tgt := 30) hx hb dX10_plan_23 (by decide) ?_
    refine c_putR C0 hH hR ci_9 (i := p) (j := 10) hp0 rfl (k := 19) rfl (by decide) rfl fl_X10_261 rfl ⟨_, rfl⟩ (-1) (v := none) dec_m1.symm dX10_plan_30 (fun h H locs hH hR => ?_)
    replace hw := hw.upr (k := 19) (i := p) (x := -1) (by decide) (Or.inl rfl) (fun z => absurd z (by omega)) (fun z => absurd z (by omega)) (fun z => absurd z (by omega))
    have eM : (cPlan u p) = (up U1 19 p (-1)) := by unfold cPlan; rw [← hU1, if_pos es_2]
    exact e_V C0 hr hH (by rw [eM]; exact ⟨hR, hw⟩) (Nat.le_of_ble_eq_true rfl) (Nat.le_of_ble_eq_true rfl) dX10_plan_33
  · have eds_2 : dec b 10 ((cBp u p (u 41 0)).1) = some (b 10 s_2) := by rw [es_2]; exact dec_nI (by have := hc8; omega)
    have ks_2 : ((cBp u p (u 41 0)).1).toNatClampNeg = s_2 := by rw [es_2]; exact nI_clamp (by have := hc8; omega)
    have ns_2 : ¬ ((cBp u p (u 41 0)).1) = -1 := by rw [es_2]; exact nI_nm (by have := hc8; omega)
    rw [eds_2]
    rw [eds_2] at hl
    refine lv_ifnonnull (tgt := 26) hx hb dX10_plan_19 (by decide) ?_
    refine lv_aload_n hx hb dX10_plan_26 rfl (lv_at hl 0 rfl) ?_
    refine c_getR C0 hH hR ci_10 (i := s_2) (j := 1) hs_2 rfl (by decide) rfl fl_X10_380 (v := dec b 8 (U1 131 s_2)) (show dec b 8 (U1 131 s_2) = dec b 8 (U1 131 s_2) from congrArg _ rfl) dX10_plan_27 ?_
    refine c_putR C0 hH hR ci_9 (i := p) (j := 10) hp0 rfl (k := 19) rfl (by decide) rfl fl_X10_261 rfl ⟨_, rfl⟩ (U1 131 s_2) (v := dec b 8 (U1 131 s_2)) rfl dX10_plan_30 (fun h H locs hH hR => ?_)
    replace hw := hw.upr (k := 19) (i := p) (x := U1 131 s_2) (by decide) (hw.rg (k := 131) (by decide) s_2) (fun z => absurd z (by omega)) (fun z => absurd z (by omega)) (fun z => absurd z (by omega))
    have eM : (cPlan u p) = (up U1 19 p (U1 131 s_2)) := by unfold cPlan; rw [← hU1, if_neg ns_2, ks_2]
    exact e_V C0 hr hH (by rw [eM]; exact ⟨hR, hw⟩) (Nat.le_of_ble_eq_true rfl) (Nat.le_of_ble_eq_true rfl) dX10_plan_33
set_option maxHeartbeats 800000 in
set_option maxRecDepth 100000 in
theorem cC_X10_planWithPromise (l : Launch) (G : GT) (A : Nat → Prop) (h : AH) (b : BA) (u : MM) (hR : RC G.2.2.1 h b u) (hw : WFc u) (p : Nat) (hp0 : p < npN u) : cmV l G A yX10_planWithPromise cX10_planWithPromise 3 5 115 0 0 [.ref (b 14 0), .ref (b 9 p)] h (fun h' => RC G.2.2.1 h' b (cPlanP u p) ∧ WFc (cPlanP u p)) := by
  refine cm_of "Routepost" rfl (by decide) (Nat.le_of_ble_eq_true rfl) ?_
  intro pr e s m9 below meth c C0 hr hname hH ls hl
  obtain ⟨hx, hb, hml, hown, hts, hK, hA, -⟩ := id C0
  have hl : lv_has ls 3 [(0, .ref (b 14 0)), (1, .ref (b 9 p))] := hl
  have hc7 := hw.cnt6 7
  have hc8 := hw.cnt6 8
  have hc9 := hw.cnt6 9
  have hw00 := hw
  have hp00 := hp0
  refine lv_aload_n hx hb dX10_planWithPromise_0 rfl (lv_at hl 0 rfl) ?_
  refine c_getR C0 hH hR ci_14 (i := 0) (j := 6) rfl rfl (by decide) rfl fl_X10_38 (v := some (b 11 0)) rfl dX10_planWithPromise_1 ?_
  refine lv_aload_n hx hb dX10_planWithPromise_4 rfl (lv_at hl 0 rfl) ?_
  refine c_getR C0 hH hR ci_14 (i := 0) (j := 1) rfl rfl (by decide) rfl fl_X10_16 (v := some (b 3 1)) rfl dX10_planWithPromise_5 ?_
  refine lv_aload_n hx hb dX10_planWithPromise_8 rfl (lv_at hl 1 rfl) ?_
  refine lv_aload_n hx hb dX10_planWithPromise_9 rfl (lv_at hl 0 rfl) ?_
  refine c_getI C0 hH hR ci_14 (i := 0) (j := 9) rfl rfl (by decide) rfl fl_X10_56 (v := u 41 0) rfl dX10_planWithPromise_10 ?_
  refine k_q hH (k_runV (rest := []) C0 hH (cC_X7_bestPath l G A _ b _ hR hw p (u 41 0) hp0) mv_X7_bestPath ml_X10_273 ci_11 (hR.kind (K := 11) (i := 0) rfl) rfl ⟨Nat.le_of_ble_eq_true rfl, Nat.le_of_ble_eq_true rfl⟩ hl.1 rfl (Nat.le_of_ble_eq_true rfl) dX10_planWithPromise_13 (by simp)) (fun r_1 h H locs hp hH => ?_)
  obtain ⟨er_1, hR, hw⟩ := hp
  subst er_1
  obtain ⟨U1, hU1⟩ : ∃ z, z = ((cBp u p (u 41 0)).2) := ⟨_, rfl⟩
  rw [← hU1] at hR hw
  have hnU1 : nhN U1 = nhN u ∧ nlN U1 = nlN u ∧ npN U1 = npN u := by rw [hU1]; exact cBp_n _ _ _
  have hc7 := hw.cnt6 7
  have hc8 := hw.cnt6 8
  have hc9 := hw.cnt6 9
  replace hp0 : p < npN U1 := by rw [hnU1.2.2]; exact hp0
  refine o_astore_n_q (lv' := [(2, va_rf (dec b 10 ((cBp u p (u 41 0)).1))), (0, .ref (b 14 0)), (1, .ref (b 9 p))]) hx hb dX10_planWithPromise_16 rfl hl (by decide) rfl (fun ls hl => ?_)
  refine lv_aload_n hx hb dX10_planWithPromise_17 rfl (lv_at hl 2 rfl) ?_
  refine o_aload_n_q hx hb dX10_planWithPromise_18 rfl (lv_at hl 0 rfl) ?_
  rcases (cBp_ok hw00 hp00 _) with es_2 | ⟨s_2, hs_2, es_2⟩
  · have eds_2 : dec b 10 ((cBp u p (u 41 0)).1) = none := by rw [es_2]; exact dec_m1
    rw [eds_2]
    rw [eds_2] at hl
    refine lv_ifnonnullN hx hb dX10_planWithPromise_19 ?_
    refine lv_null hx hb dX10_planWithPromise_22 ?_
    refine lv_goto (tgt := 30) hx hb dX10_planWithPromise_23 (by decide) ?_
    refine c_putR C0 hH hR ci_9 (i := p) (j := 10) hp0 rfl (k := 19) rfl (by decide) rfl fl_X10_261 rfl ⟨_, rfl⟩ (-1) (v := none) dec_m1.symm dX10_planWithPromise_30 (fun h H locs hH hR => ?_)
    replace hw := hw.upr (k := 19) (i := p) (x := -1) (by decide) (Or.inl rfl) (fun z => absurd z (by omega)) (fun z => absurd z (by omega)) (fun z => absurd z (by omega))
    refine lv_aload_n hx hb dX10_planWithPromise_33 rfl (lv_at hl 2 rfl) ?_
    refine lv_aload_nN hx hb dX10_planWithPromise_34 rfl (lv_at hl 0 rfl) ?_
    refine lv_ifnonnullN hx hb dX10_planWithPromise_35 ?_
    refine lv_iconst (v := (-1)) hx hb dX10_planWithPromise_38 (by decide) ?_
    refine lv_goto (tgt := 46) hx hb dX10_planWithPromise_39 (by decide) ?_
    refine c_putI C0 hH hR ci_9 (i := p) (j := 15) hp0 rfl (k := 20) rfl (by decide) (by decide) rfl fl_X10_230 rfl (x := (-1)) rfl rfl dX10_planWithPromise_46 (fun h H locs hH hR => ?_)
    replace hw := hw.upx (k := 20) (i := p) (x := (-1)) (by unfold kWc kSz; decide)
    have eM : (cPlanP u p) = (up (up U1 19 p (-1)) 20 p (-1)) := by unfold cPlanP cPlan; rw [← hU1, if_pos es_2, if_pos es_2]
    exact e_V C0 hr hH (by rw [eM]; exact ⟨hR, hw⟩) (Nat.le_of_ble_eq_true rfl) (Nat.le_of_ble_eq_true rfl) dX10_planWithPromise_49
  · have eds_2 : dec b 10 ((cBp u p (u 41 0)).1) = some (b 10 s_2) := by rw [es_2]; exact dec_nI (by have := hc8; omega)
    have ks_2 : ((cBp u p (u 41 0)).1).toNatClampNeg = s_2 := by rw [es_2]; exact nI_clamp (by have := hc8; omega)
    have ns_2 : ¬ ((cBp u p (u 41 0)).1) = -1 := by rw [es_2]; exact nI_nm (by have := hc8; omega)
    rw [eds_2]
    rw [eds_2] at hl
    refine lv_ifnonnull (tgt := 26) hx hb dX10_planWithPromise_19 (by decide) ?_
    refine lv_aload_n hx hb dX10_planWithPromise_26 rfl (lv_at hl 0 rfl) ?_
    refine c_getR C0 hH hR ci_10 (i := s_2) (j := 1) hs_2 rfl (by decide) rfl fl_X10_380 (v := dec b 8 (U1 131 s_2)) (show dec b 8 (U1 131 s_2) = dec b 8 (U1 131 s_2) from congrArg _ rfl) dX10_planWithPromise_27 ?_
    refine c_putR C0 hH hR ci_9 (i := p) (j := 10) hp0 rfl (k := 19) rfl (by decide) rfl fl_X10_261 rfl ⟨_, rfl⟩ (U1 131 s_2) (v := dec b 8 (U1 131 s_2)) rfl dX10_planWithPromise_30 (fun h H locs hH hR => ?_)
    replace hw := hw.upr (k := 19) (i := p) (x := U1 131 s_2) (by decide) (hw.rg (k := 131) (by decide) s_2) (fun z => absurd z (by omega)) (fun z => absurd z (by omega)) (fun z => absurd z (by omega))
    refine lv_aload_n hx hb dX10_planWithPromise_33 rfl (lv_at hl 2 rfl) ?_
    refine lv_aload_n hx hb dX10_planWithPromise_34 rfl (lv_at hl 0 rfl) ?_
    refine lv_ifnonnull (tgt := 42) hx hb dX10_planWithPromise_35 (by decide) ?_
    refine lv_aload_n hx hb dX10_planWithPromise_42 rfl (lv_at hl 0 rfl) ?_
    refine c_getI C0 hH hR ci_10 (i := s_2) (j := 2) hs_2 rfl (by decide) rfl fl_X10_289 (v := U1 132 s_2) rfl dX10_planWithPromise_43 ?_
    refine c_putI C0 hH hR ci_9 (i := p) (j := 15) hp0 rfl (k := 20) rfl (by decide) (by decide) rfl fl_X10_230 rfl (x := U1 132 s_2) rfl rfl dX10_planWithPromise_46 (fun h H locs hH hR => ?_)
    replace hw := hw.upx (k := 20) (i := p) (x := U1 132 s_2) (by unfold kWc kSz; decide)
    have eM : (cPlanP u p) = (up (up U1 19 p (U1 131 s_2)) 20 p (U1 132 s_2)) := by unfold cPlanP cPlan; rw [← hU1, if_neg ns_2, ks_2, if_neg ns_2]
    exact e_V C0 hr hH (by rw [eM]; exact ⟨hR, hw⟩) (Nat.le_of_ble_eq_true rfl) (Nat.le_of_ble_eq_true rfl) dX10_planWithPromise_49
set_option maxHeartbeats 800000 in
set_option maxRecDepth 100000 in
theorem cC_X10_planAll (l : Launch) (G : GT) (A : Nat → Prop) (h : AH) (b : BA) (u : MM) (hR : RC G.2.2.1 h b u) (hw : WFc u) : cmV l G A yX10_planAll cX10_planAll 3 6 137 0 0 [.ref (b 14 0)] h (fun h' => RC G.2.2.1 h' b (cPlA u) ∧ WFc (cPlA u)) := by
  refine cm_of "Routepost" rfl (by decide) (Nat.le_of_ble_eq_true rfl) ?_
  intro pr e s m9 below meth c C0 hr hname hH ls hl
  obtain ⟨hx, hb, hml, hown, hts, hK, hA, -⟩ := id C0
  have hl : lv_has ls 3 [(0, .ref (b 14 0))] := hl
  have hc7 := hw.cnt6 7
  have hc8 := hw.cnt6 8
  have hc9 := hw.cnt6 9
  refine lv_iconst (v := 0) hx hb dX10_planAll_0 (by decide) ?_
  refine lv_istore_n (lv' := [(1, .int (0)), (0, .ref (b 14 0))]) hx hb dX10_planAll_1 rfl hl (by decide) rfl (fun ls hl => ?_)
  have K : ∀ (k : Nat) (p : Nat) (U : MM), p + k = npN u → cPlL k p U = cPlA u → npN U = npN u → ∀ (h : AH) (H : Heap) (locs : List Loc) (hH : HS G.1 G.2.1 A s.heap h H locs) (hR : RC G.2.2.1 h b U) (hw : WFc U) (ls : Array Slot), lv_has ls 3 [(1, .int (nI p)), (0, .ref (b 14 0))] → W pr l e (rmm 6 137 0 0) s m9 ([.ref (b 14 0)] : List Value).toArray below meth c H locs 0 0 (QV below G A (fun h' => RC G.2.2.1 h' b (cPlA u) ∧ WFc (cPlA u)) ([.ref (b 14 0)] : List Value).toArray s 0 0) (F0 m9 2 ls []) := by
    intro k
    induction k with
    | zero =>
      intro p U hik hT hnU h H locs hH hR hw ls hl
      have hc7 := hw.cnt6 7
      have hc8 := hw.cnt6 8
      have hc9 := hw.cnt6 9
      refine lv_iload_n hx hb dX10_planAll_2 rfl (lv_at hl 0 rfl) ?_
      refine lv_aload_n hx hb dX10_planAll_3 rfl (lv_at hl 1 rfl) ?_
      refine c_getR C0 hH hR ci_14 (i := 0) (j := 2) rfl rfl (by decide) rfl fl_X10_19 (v := some (b 3 2)) rfl dX10_planAll_4 ?_
      refine k_i hH (k_runV (rest := [.int (nI p)]) C0 hH (cL_size l G A _ b _ hR hw 2 (show 2 < 6 + npN _ by omega)) mv_Jx4a65c_size_8abf5 ml_X10_79 ci_3 (hR.kind (K := 3) (i := 2) (show 2 < 6 + npN _ by omega)) rfl ⟨Nat.le_of_ble_eq_true rfl, Nat.le_of_ble_eq_true rfl⟩ hl.1 rfl (Nat.le_of_ble_eq_true rfl) dX10_planAll_7 (by simp)) (fun r9 h1 H locs hp hH => ?_)
      obtain ⟨er9, eh⟩ := hp
      rw [eh] at hH
      clear eh
      rw [hw.sz2] at er9
      subst er9
      refine lv_icmp_ge (tgt := 45) hx hb dX10_planAll_10 (by decide) (fun c10_1 => ?_) (fun c10_1 => ?_)
      · have eM : (cPlA u) = U := hT.symm
        exact e_V C0 hr hH (by rw [eM]; exact ⟨hR, hw⟩) (Nat.le_of_ble_eq_true rfl) (Nat.le_of_ble_eq_true rfl) dX10_planAll_45
      · exact absurd (by rw [hnU, show p = npN u by omega]; exact Int32.le_refl _) c10_1
    | succ k ih =>
      intro p U hik hT hnU h H locs hH hR hw ls hl
      have hc7 := hw.cnt6 7
      have hc8 := hw.cnt6 8
      have hc9 := hw.cnt6 9
      refine lv_iload_n hx hb dX10_planAll_2 rfl (lv_at hl 0 rfl) ?_
      refine lv_aload_n hx hb dX10_planAll_3 rfl (lv_at hl 1 rfl) ?_
      refine c_getR C0 hH hR ci_14 (i := 0) (j := 2) rfl rfl (by decide) rfl fl_X10_19 (v := some (b 3 2)) rfl dX10_planAll_4 ?_
      refine k_i hH (k_runV (rest := [.int (nI p)]) C0 hH (cL_size l G A _ b _ hR hw 2 (show 2 < 6 + npN _ by omega)) mv_Jx4a65c_size_8abf5 ml_X10_79 ci_3 (hR.kind (K := 3) (i := 2) (show 2 < 6 + npN _ by omega)) rfl ⟨Nat.le_of_ble_eq_true rfl, Nat.le_of_ble_eq_true rfl⟩ hl.1 rfl (Nat.le_of_ble_eq_true rfl) dX10_planAll_7 (by simp)) (fun r9 h1 H locs hp hH => ?_)
      obtain ⟨er9, eh⟩ := hp
      rw [eh] at hH
      clear eh
      rw [hw.sz2] at er9
      subst er9
      refine lv_icmp_ge (tgt := 45) hx hb dX10_planAll_10 (by decide) (fun c10_2 => ?_) (fun c10_2 => ?_)
      · exact absurd c10_2 (nI_ge (show p < npN U by omega) (by have := hw.np; omega))
      · refine lv_aload_n hx hb dX10_planAll_13 rfl (lv_at hl 1 rfl) ?_
        refine c_getR C0 hH hR ci_14 (i := 0) (j := 2) rfl rfl (by decide) rfl fl_X10_19 (v := some (b 3 2)) rfl dX10_planAll_14 ?_
        refine lv_iload_n hx hb dX10_planAll_17 rfl (lv_at hl 0 rfl) ?_
        refine k_q hH (k_runV (rest := []) C0 hH (cL_get l G A _ b _ hR hw 2 p (show 2 < 6 + npN _ by omega) (by rw [hw.sz2]; omega) (a := b 9 p) rfl) mv_Jx4a65c_get_915e3 ml_X10_143 ci_3 (hR.kind (K := 3) (i := 2) (show 2 < 6 + npN _ by omega)) rfl ⟨Nat.le_of_ble_eq_true rfl, Nat.le_of_ble_eq_true rfl⟩ hl.1 rfl (Nat.le_of_ble_eq_true rfl) dX10_planAll_18 (by simp)) (fun r9 h1 H locs hp hH => ?_)
        obtain ⟨er9, eh⟩ := hp
        rw [eh] at hH
        clear eh
        subst er9
        refine k_chk C0 hH ci_9 (hR.kind (K := 9) (i := p) (show p < npN U by omega)) cl_X10_162 dX10_planAll_21 ?_
        refine lv_astore_n (lv' := [(2, .ref (b 9 p)), (1, .int (nI p)), (0, .ref (b 14 0))]) hx hb dX10_planAll_24 rfl hl (by decide) rfl (fun ls hl => ?_)
        refine lv_aload_n hx hb dX10_planAll_25 rfl (lv_at hl 0 rfl) ?_
        refine c_getI C0 hH hR ci_9 (i := p) (j := 8) (show p < npN U by omega) rfl (by decide) rfl fl_X10_190 (v := U 28 p) rfl dX10_planAll_26 ?_
        refine lv_bipush (v := 115) hx hb dX10_planAll_29 (by decide) ?_
        refine lv_icmp_ne (tgt := 39) hx hb dX10_planAll_31 (by decide) (fun c31_3 => ?_) (fun c31_3 => ?_)
        · refine lv_iinc (v := nI (p + 1)) (lv' := [(1, .int (nI (p + 1))), (2, .ref (b 9 p)), (0, .ref (b 14 0))]) hx hb dX10_planAll_39 hl (k := 1) rfl (by rw [← nI_1]; rfl) (by decide) rfl (fun ls hl => ?_)
          refine lv_goto (tgt := 2) hx hb dX10_planAll_42 (by decide) ?_
          exact ih (p + 1) U (by omega) (by rw [← hT]; simp only [cPlL]; rw [if_neg c31_3]) (hnU) _ _ _ hH hR hw ls (lv_sub hl [0, 2] rfl)
        · refine lv_aload_n hx hb dX10_planAll_34 rfl (lv_at hl 2 rfl) ?_
          refine lv_aload_n hx hb dX10_planAll_35 rfl (lv_at hl 0 rfl) ?_
          refine k_v hH (k_runV (rest := []) C0 hH (cC_X10_plan l G A _ b _ hR hw p (show p < npN U by omega)) mv_X10_plan ml_X10_204 ci_14 (hR.kind (K := 14) (i := 0) rfl) rfl ⟨Nat.le_of_ble_eq_true rfl, Nat.le_of_ble_eq_true rfl⟩ hl.1 rfl (Nat.le_of_ble_eq_true rfl) dX10_planAll_36 (by simp)) (fun h H locs hp hH => ?_)
          obtain ⟨hR, hw⟩ := hp
          refine lv_iinc (v := nI (p + 1)) (lv' := [(1, .int (nI (p + 1))), (2, .ref (b 9 p)), (0, .ref (b 14 0))]) hx hb dX10_planAll_39 hl (k := 1) rfl (by rw [← nI_1]; rfl) (by decide) rfl (fun ls hl => ?_)
          refine lv_goto (tgt := 2) hx hb dX10_planAll_42 (by decide) ?_
          exact ih (p + 1) (cPlan U p) (by omega) (by rw [← hT]; simp only [cPlL]; rw [if_pos c31_3]) ((cPlan_n _ _).2.2.trans hnU) _ _ _ hH hR hw ls (lv_sub hl [0, 2] rfl)
  exact K (npN u) 0 u (by omega) rfl rfl _ _ _ hH hR hw ls (lv_sub hl [0, 1] rfl)

