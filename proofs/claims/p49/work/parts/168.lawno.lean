/-! the calls that change the state, where they throw: no room but the exception's -/
set_option maxHeartbeats 4000000 in
set_option maxRecDepth 100000 in
theorem cC_X10_scan_no (l : Launch) (hlt : l.stackTraces = false) (G : GT) (A : Nat → Prop) (h : AH) (b0 : BA) (u : MM) (hR : RC G.2.2.1 h b0 u) (hw : WFc u) (x y : Int32) (hX : ¬ xScn u x y = none) : cxI l G A yX10_scan cX10_scan 5 (Option.some FieldType.char) 11 398 (4) (24) [.ref (b0 14 0), .int (x), .int (y)] h (fun r h' => xScn u x y = none ∧ r = cScnR u x y ∧ ∃ b', BE u b0 b' ∧ RC G.2.2.1 h' b' (cScn u x y) ∧ WFc (cScn u x y)) (fun E h' => xScn u x y = some E ∧ h' = h) := by
  refine cx_of "Routepost" rfl (by decide) (Nat.le_of_ble_eq_true rfl) ?_
  intro pr e s m9 below meth c C0 hxt hr hH ls hl
  obtain ⟨hx, hb, hml, hown, hts, hK, hA, -⟩ := id C0
  have hl : lv_has ls 5 [(0, .ref (b0 14 0)), (1, .int (x)), (2, .int (y))] := hl
  obtain ⟨b, hb0⟩ : ∃ z, z = b0 := ⟨_, rfl⟩
  rw [← hb0] at hR hl
  have hbe : BE u b0 b := by rw [hb0]; exact BE.refl u b0
  have hc7 := hw.cnt6 7
  have hc8 := hw.cnt6 8
  have hc9 := hw.cnt6 9
  have hw00 := hw
  have hRc9 : ∀ c, c ≤ 4 → c ≤ 4 := fun c h9 => by omega
  have hRs9 : ∀ c, c ≤ 24 → c ≤ 24 := fun c h9 => by omega
  refine lv_aload_n hx hb dX10_scan_0 rfl (lv_at hl 0 rfl) ?_
  refine lv_iload_n hx hb dX10_scan_1 rfl (lv_at hl 1 rfl) ?_
  refine k_xq C0 hxt hH (k_xrunV (rest := []) C0 hH (cC_X10_parcelNumbered l hlt G A _ b _ hR hw x ) mv_X10_parcelNumbered ml_X10_186 ci_14 (hR.kind (K := 14) (i := 0) rfl) rfl ⟨Nat.le_of_ble_eq_true rfl, Nat.le_of_ble_eq_true rfl⟩ hl.1 rfl (Nat.le_of_ble_eq_true rfl) dX10_scan_2 ⟨by show _ ≤ 4; omega, by show _ ≤ 24; omega⟩) (fun E h9 z => ⟨by unfold xScn; exact xo_s z.1, z.2⟩) (hRc9 _ (by omega)) (hRs9 _ (by omega)) (fun r_1 h1 H locs hp hH => ?_)
  obtain ⟨exr_1, er_1, eh⟩ := hp
  rw [eh] at hH
  clear eh
  have vpv_2 : vp_in (x) (npN u) := (xPa_n hw).mp exr_1
  obtain ⟨v_2, hv_2, ev_2⟩ := vp_ex vpv_2 (by have := hw.nh; have := hw.nl; have := hw.np; omega)
  have kv_2 : (x).toNatClampNeg = v_2 := by rw [ev_2]; exact nI_clamp (by have := hw.nh; have := hw.nl; have := hw.np; omega)
  rw [show dec b 9 (x) = some (b 9 v_2) from by rw [ev_2]; exact dec_nI (by have := hw.nh; have := hw.nl; have := hw.np; omega)] at er_1
  subst er_1
  refine lv_astore_n (lv' := [(3, .ref (b 9 v_2)), (0, .ref (b 14 0)), (1, .int (x)), (2, .int (y))]) hx hb dX10_scan_5 rfl hl (by decide) rfl (fun ls hl => ?_)
  refine lv_aload_n hx hb dX10_scan_6 rfl (lv_at hl 1 rfl) ?_
  refine lv_iload_n hx hb dX10_scan_7 rfl (lv_at hl 3 rfl) ?_
  refine k_xq C0 hxt hH (k_xrunV (rest := []) C0 hH (cC_X10_hubNumbered l hlt G A _ b _ hR hw y ) mv_X10_hubNumbered ml_X10_100 ci_14 (hR.kind (K := 14) (i := 0) rfl) rfl ⟨Nat.le_of_ble_eq_true rfl, Nat.le_of_ble_eq_true rfl⟩ hl.1 rfl (Nat.le_of_ble_eq_true rfl) dX10_scan_8 ⟨by show _ ≤ 4; omega, by show _ ≤ 24; omega⟩) (fun E h9 z => ⟨by unfold xScn; rw [xo_n exr_1]; exact xo_s z.1, z.2⟩) (hRc9 _ (by omega)) (hRs9 _ (by omega)) (fun r_3 h1 H locs hp hH => ?_)
  obtain ⟨exr_3, er_3, eh⟩ := hp
  rw [eh] at hH
  clear eh
  have vpv_4 : vp_in (y) (nhN u) := (xHb_n hw).mp exr_3
  obtain ⟨v_4, hv_4, ev_4⟩ := vp_ex vpv_4 (by have := hw.nh; have := hw.nl; have := hw.np; omega)
  have kv_4 : (y).toNatClampNeg = v_4 := by rw [ev_4]; exact nI_clamp (by have := hw.nh; have := hw.nl; have := hw.np; omega)
  rw [show dec b 7 (y) = some (b 7 v_4) from by rw [ev_4]; exact dec_nI (by have := hw.nh; have := hw.nl; have := hw.np; omega)] at er_3
  subst er_3
  refine lv_astore (lv' := [(4, .ref (b 7 v_4)), (3, .ref (b 9 v_2)), (0, .ref (b 14 0)), (1, .int (x)), (2, .int (y))]) hx hb dX10_scan_11 hl (by decide) rfl (fun ls hl => ?_)
  refine lv_aload_n hx hb dX10_scan_13 rfl (lv_at hl 1 rfl) ?_
  refine c_getI C0 hH hR ci_9 (i := v_2) (j := 8) hv_2 rfl (by decide) rfl fl_X10_190 (v := u 28 v_2) rfl dX10_scan_14 ?_
  refine lv_bipush (v := 100) hx hb dX10_scan_17 (by decide) ?_
  refine lv_icmp_eq (tgt := 31) hx hb dX10_scan_19 (by decide) (fun c19_5 => ?_) (fun c19_5 => ?_)
  · exact k_throwS C0 hxt hlt hH thr_ISE (is := 194) (text := "it does not travel any more") (by decide) hl.1 dX10_scan_31 dX10_scan_34 dX10_scan_35 dX10_scan_37 dX10_scan_40 (Nat.le_of_ble_eq_true rfl) (Nat.le_of_ble_eq_true rfl) (by show _ ≤ 4; omega) (by show _ ≤ 24; omega) ⟨by unfold xScn; rw [xo_n exr_1, xo_n exr_3, kv_2, if_pos (Or.inl c19_5)]; rfl, rfl⟩ (hRc9 _ (by omega)) (hRs9 _ (by omega))
  · refine lv_aload_n hx hb dX10_scan_22 rfl (lv_at hl 1 rfl) ?_
    refine c_getI C0 hH hR ci_9 (i := v_2) (j := 8) hv_2 rfl (by decide) rfl fl_X10_190 (v := u 28 v_2) rfl dX10_scan_23 ?_
    refine lv_bipush (v := 104) hx hb dX10_scan_26 (by decide) ?_
    refine lv_icmp_ne (tgt := 41) hx hb dX10_scan_28 (by decide) (fun c28_6 => ?_) (fun c28_6 => ?_)
    · exact absurd (by unfold xScn; rw [xo_n exr_1, xo_n exr_3, kv_2, if_neg (fun z => z.elim c19_5 c28_6)]) hX
    · exact k_throwS C0 hxt hlt hH thr_ISE (is := 194) (text := "it does not travel any more") (by decide) hl.1 dX10_scan_31 dX10_scan_34 dX10_scan_35 dX10_scan_37 dX10_scan_40 (Nat.le_of_ble_eq_true rfl) (Nat.le_of_ble_eq_true rfl) (by show _ ≤ 4; omega) (by show _ ≤ 24; omega) ⟨by unfold xScn; rw [xo_n exr_1, xo_n exr_3, kv_2, if_pos (Or.inr c28_6)]; rfl, rfl⟩ (hRc9 _ (by omega)) (hRs9 _ (by omega))
set_option maxHeartbeats 4000000 in
set_option maxRecDepth 100000 in
theorem cC_X10_deliver_no (l : Launch) (hlt : l.stackTraces = false) (G : GT) (A : Nat → Prop) (h : AH) (b0 : BA) (u : MM) (hR : RC G.2.2.1 h b0 u) (hw : WFc u) (x t : Int32) (hX : ¬ xDel u x = none) : cxI l G A yX10_deliver cX10_deliver 4 (Option.some FieldType.char) 11 397 (4) (24) [.ref (b0 14 0), .int (x), .int (t)] h (fun r h' => xDel u x = none ∧ r = cDelR u x t ∧ ∃ b', BE u b0 b' ∧ RC G.2.2.1 h' b' (cDel u x t) ∧ WFc (cDel u x t)) (fun E h' => xDel u x = some E ∧ h' = h) := by
  refine cx_of "Routepost" rfl (by decide) (Nat.le_of_ble_eq_true rfl) ?_
  intro pr e s m9 below meth c C0 hxt hr hH ls hl
  obtain ⟨hx, hb, hml, hown, hts, hK, hA, -⟩ := id C0
  have hl : lv_has ls 4 [(0, .ref (b0 14 0)), (1, .int (x)), (2, .int (t))] := hl
  obtain ⟨b, hb0⟩ : ∃ z, z = b0 := ⟨_, rfl⟩
  rw [← hb0] at hR hl
  have hbe : BE u b0 b := by rw [hb0]; exact BE.refl u b0
  have hc7 := hw.cnt6 7
  have hc8 := hw.cnt6 8
  have hc9 := hw.cnt6 9
  have hw00 := hw
  have hRc9 : ∀ c, c ≤ 4 → c ≤ 4 := fun c h9 => by omega
  have hRs9 : ∀ c, c ≤ 24 → c ≤ 24 := fun c h9 => by omega
  refine lv_aload_n hx hb dX10_deliver_0 rfl (lv_at hl 0 rfl) ?_
  refine lv_iload_n hx hb dX10_deliver_1 rfl (lv_at hl 1 rfl) ?_
  refine k_xq C0 hxt hH (k_xrunV (rest := []) C0 hH (cC_X10_parcelNumbered l hlt G A _ b _ hR hw x ) mv_X10_parcelNumbered ml_X10_186 ci_14 (hR.kind (K := 14) (i := 0) rfl) rfl ⟨Nat.le_of_ble_eq_true rfl, Nat.le_of_ble_eq_true rfl⟩ hl.1 rfl (Nat.le_of_ble_eq_true rfl) dX10_deliver_2 ⟨by show _ ≤ 4; omega, by show _ ≤ 24; omega⟩) (fun E h9 z => ⟨by unfold xDel; exact xo_s z.1, z.2⟩) (hRc9 _ (by omega)) (hRs9 _ (by omega)) (fun r_1 h1 H locs hp hH => ?_)
  obtain ⟨exr_1, er_1, eh⟩ := hp
  rw [eh] at hH
  clear eh
  have vpv_2 : vp_in (x) (npN u) := (xPa_n hw).mp exr_1
  obtain ⟨v_2, hv_2, ev_2⟩ := vp_ex vpv_2 (by have := hw.nh; have := hw.nl; have := hw.np; omega)
  have kv_2 : (x).toNatClampNeg = v_2 := by rw [ev_2]; exact nI_clamp (by have := hw.nh; have := hw.nl; have := hw.np; omega)
  rw [show dec b 9 (x) = some (b 9 v_2) from by rw [ev_2]; exact dec_nI (by have := hw.nh; have := hw.nl; have := hw.np; omega)] at er_1
  subst er_1
  refine lv_astore_n (lv' := [(3, .ref (b 9 v_2)), (0, .ref (b 14 0)), (1, .int (x)), (2, .int (t))]) hx hb dX10_deliver_5 rfl hl (by decide) rfl (fun ls hl => ?_)
  refine lv_aload_n hx hb dX10_deliver_6 rfl (lv_at hl 0 rfl) ?_
  refine c_getI C0 hH hR ci_9 (i := v_2) (j := 8) hv_2 rfl (by decide) rfl fl_X10_190 (v := u 28 v_2) rfl dX10_deliver_7 ?_
  refine lv_bipush (v := 115) hx hb dX10_deliver_10 (by decide) ?_
  refine lv_icmp_ne (tgt := 26) hx hb dX10_deliver_12 (by decide) (fun c12_3 => ?_) (fun c12_3 => ?_)
  · exact k_throwS C0 hxt hlt hH thr_ISE (is := 210) (text := "it is not scanned at its destination") (by decide) hl.1 dX10_deliver_26 dX10_deliver_29 dX10_deliver_30 dX10_deliver_32 dX10_deliver_35 (Nat.le_of_ble_eq_true rfl) (Nat.le_of_ble_eq_true rfl) (by show _ ≤ 4; omega) (by show _ ≤ 24; omega) ⟨by unfold xDel; rw [xo_n exr_1, kv_2, if_neg (fun z => c12_3 z.1)]; rfl, rfl⟩ (hRc9 _ (by omega)) (hRs9 _ (by omega))
  · refine lv_aload_n hx hb dX10_deliver_15 rfl (lv_at hl 0 rfl) ?_
    obtain ⟨v_4, hv_4, ev_4⟩ := hw.exH (show vp_in (u 15 v_2) _ from (hw.pa hv_2).2.2)
    have kv_4 : (u 15 v_2).toNatClampNeg = v_4 := by rw [ev_4]; exact nI_clamp (by have := hw.nh; have := hw.np; omega)
    refine c_getR C0 hH hR ci_9 (i := v_2) (j := 7) hv_2 rfl (by decide) rfl fl_X10_196 (v := some (b 7 v_4)) (show dec b 7 (u 15 v_2) = some (b 7 v_4) from by rw [show u 15 v_2 = nI v_4 from Eq.trans rfl ev_4]; exact dec_nI (by have := hc7; have := (show v_4 < cnt u 7 from hv_4); omega)) dX10_deliver_16 ?_
    refine lv_aload_n hx hb dX10_deliver_19 rfl (lv_at hl 0 rfl) ?_
    obtain ⟨v_5, hv_5, ev_5⟩ := hw.exH (show vp_in (u 14 v_2) _ from (hw.pa hv_2).2.1)
    have kv_5 : (u 14 v_2).toNatClampNeg = v_5 := by rw [ev_5]; exact nI_clamp (by have := hw.nh; have := hw.np; omega)
    refine c_getR C0 hH hR ci_9 (i := v_2) (j := 6) hv_2 rfl (by decide) rfl fl_X10_207 (v := some (b 7 v_5)) (show dec b 7 (u 14 v_2) = some (b 7 v_5) from by rw [show u 14 v_2 = nI v_5 from Eq.trans rfl ev_5]; exact dec_nI (by have := hc7; have := (show v_5 < cnt u 7 from hv_5); omega)) dX10_deliver_20 ?_
    refine lv_acmp_eq (rx := some (b 7 v_4)) (ry := some (b 7 v_5)) (tgt := 36) hx hb dX10_deliver_23 (by decide) (fun c23_6 => ?_) (fun c23_6 => ?_)
    · rw [hR.acR hw (T := 7) (by omega) hv_4 hv_5] at c23_6
      rw [← ev_4] at c23_6
      rw [← ev_5] at c23_6
      refine lv_iload_n hx hb dX10_deliver_36 rfl (lv_at hl 3 rfl) ?_
      exact absurd (by unfold xDel; rw [xo_n exr_1, kv_2, if_pos ⟨c12_3, c23_6⟩]) hX
    · rw [hR.acR hw (T := 7) (by omega) hv_4 hv_5] at c23_6
      rw [← ev_4] at c23_6
      rw [← ev_5] at c23_6
      exact k_throwS C0 hxt hlt hH thr_ISE (is := 210) (text := "it is not scanned at its destination") (by decide) hl.1 dX10_deliver_26 dX10_deliver_29 dX10_deliver_30 dX10_deliver_32 dX10_deliver_35 (Nat.le_of_ble_eq_true rfl) (Nat.le_of_ble_eq_true rfl) (by show _ ≤ 4; omega) (by show _ ≤ 24; omega) ⟨by unfold xDel; rw [xo_n exr_1, kv_2, if_neg (fun z => c23_6 z.2)]; rfl, rfl⟩ (hRc9 _ (by omega)) (hRs9 _ (by omega))
set_option maxHeartbeats 4000000 in
set_option maxRecDepth 100000 in
theorem cC_X10_recall_no (l : Launch) (hlt : l.stackTraces = false) (G : GT) (A : Nat → Prop) (h : AH) (b0 : BA) (u : MM) (hR : RC G.2.2.1 h b0 u) (hw : WFc u) (x : Int32) (hX : ¬ xRec u x = none) : cxI l G A yX10_recall cX10_recall 3 (Option.some FieldType.int) 10 376 (4) (24) [.ref (b0 14 0), .int (x)] h (fun r h' => xRec u x = none ∧ r = cTurn u x.toNatClampNeg 20 x.toNatClampNeg ∧ ∃ b', BE u b0 b' ∧ RC G.2.2.1 h' b' (cTurn u x.toNatClampNeg) ∧ WFc (cTurn u x.toNatClampNeg)) (fun E h' => xRec u x = some E ∧ h' = h) := by
  refine cx_of "Routepost" rfl (by decide) (Nat.le_of_ble_eq_true rfl) ?_
  intro pr e s m9 below meth c C0 hxt hr hH ls hl
  obtain ⟨hx, hb, hml, hown, hts, hK, hA, -⟩ := id C0
  have hl : lv_has ls 3 [(0, .ref (b0 14 0)), (1, .int (x))] := hl
  obtain ⟨b, hb0⟩ : ∃ z, z = b0 := ⟨_, rfl⟩
  rw [← hb0] at hR hl
  have hbe : BE u b0 b := by rw [hb0]; exact BE.refl u b0
  have hc7 := hw.cnt6 7
  have hc8 := hw.cnt6 8
  have hc9 := hw.cnt6 9
  have hw00 := hw
  have hRc9 : ∀ c, c ≤ 4 → c ≤ 4 := fun c h9 => by omega
  have hRs9 : ∀ c, c ≤ 24 → c ≤ 24 := fun c h9 => by omega
  refine lv_aload_n hx hb dX10_recall_0 rfl (lv_at hl 0 rfl) ?_
  refine lv_iload_n hx hb dX10_recall_1 rfl (lv_at hl 1 rfl) ?_
  refine k_xq C0 hxt hH (k_xrunV (rest := []) C0 hH (cC_X10_scannedParcel l hlt G A _ b _ hR hw x ) mv_X10_scannedParcel ml_X10_219 ci_14 (hR.kind (K := 14) (i := 0) rfl) rfl ⟨Nat.le_of_ble_eq_true rfl, Nat.le_of_ble_eq_true rfl⟩ hl.1 rfl (Nat.le_of_ble_eq_true rfl) dX10_recall_2 ⟨by show _ ≤ 4; omega, by show _ ≤ 24; omega⟩) (fun E h9 z => ⟨by unfold xRec; exact xo_s z.1, z.2⟩) (hRc9 _ (by omega)) (hRs9 _ (by omega)) (fun r_1 h1 H locs hp hH => ?_)
  obtain ⟨exr_1, er_1, eh⟩ := hp
  rw [eh] at hH
  clear eh
  have vpv_2 : vp_in (x) (npN u) := xSc_vp hw exr_1
  obtain ⟨v_2, hv_2, ev_2⟩ := vp_ex vpv_2 (by have := hw.nh; have := hw.nl; have := hw.np; omega)
  have kv_2 : (x).toNatClampNeg = v_2 := by rw [ev_2]; exact nI_clamp (by have := hw.nh; have := hw.nl; have := hw.np; omega)
  rw [show dec b 9 (x) = some (b 9 v_2) from by rw [ev_2]; exact dec_nI (by have := hw.nh; have := hw.nl; have := hw.np; omega)] at er_1
  subst er_1
  refine lv_astore_n (lv' := [(2, .ref (b 9 v_2)), (0, .ref (b 14 0)), (1, .int (x))]) hx hb dX10_recall_5 rfl hl (by decide) rfl (fun ls hl => ?_)
  refine lv_aload_n hx hb dX10_recall_6 rfl (lv_at hl 0 rfl) ?_
  refine c_getI C0 hH hR ci_9 (i := v_2) (j := 19) hv_2 rfl (by decide) rfl fl_X10_222 (v := u 29 v_2) rfl dX10_recall_7 ?_
  refine lv_if_eq (tgt := 23) hx hb dX10_recall_10 (by decide) (fun c10_3 => ?_) (fun c10_3 => ?_)
  · exact absurd (by unfold xRec; rw [xo_n exr_1, kv_2, if_pos c10_3]) hX
  · exact k_throwS C0 hxt hlt hH thr_ISE (is := 225) (text := "it is a return already") (by decide) hl.1 dX10_recall_13 dX10_recall_16 dX10_recall_17 dX10_recall_19 dX10_recall_22 (Nat.le_of_ble_eq_true rfl) (Nat.le_of_ble_eq_true rfl) (by show _ ≤ 4; omega) (by show _ ≤ 24; omega) ⟨by unfold xRec; rw [xo_n exr_1, kv_2, if_neg c10_3]; rfl, rfl⟩ (hRc9 _ (by omega)) (hRs9 _ (by omega))
set_option maxHeartbeats 4000000 in
set_option maxRecDepth 100000 in
theorem cC_X10_pass_no (l : Launch) (hlt : l.stackTraces = false) (G : GT) (A : Nat → Prop) (h00 : AH) (b0 : BA) (u : MM) (hR : RC G.2.2.1 h00 b0 u) (hw : WFc u) (x : Int32) (hX : ¬ xPas x = none) : cxI l G A yX10_pass cX10_pass 4 (Option.some FieldType.int) 12 423 (4) (24) [.ref (b0 14 0), .int (x)] h00 (fun r h' => xPas x = none ∧ r = (cPsL x.toNatClampNeg 0 u).1 ∧ ∃ b', BE u b0 b' ∧ RC G.2.2.1 h' b' ((cPsL x.toNatClampNeg 0 u).2) ∧ WFc ((cPsL x.toNatClampNeg 0 u).2)) (fun E h' => xPas x = some E ∧ h' = h00) := by
  refine cx_of "Routepost" rfl (by decide) (Nat.le_of_ble_eq_true rfl) ?_
  intro pr e s m9 below meth c C0 hxt hr hH ls hl
  obtain ⟨hx, hb, hml, hown, hts, hK, hA, -⟩ := id C0
  obtain ⟨h, hh0⟩ : ∃ z, z = h00 := ⟨_, rfl⟩
  rw [← hh0] at hR hH
  have hl : lv_has ls 4 [(0, .ref (b0 14 0)), (1, .int (x))] := hl
  obtain ⟨b, hb0⟩ : ∃ z, z = b0 := ⟨_, rfl⟩
  rw [← hb0] at hR hl
  have hbe : BE u b0 b := by rw [hb0]; exact BE.refl u b0
  have hc7 := hw.cnt6 7
  have hc8 := hw.cnt6 8
  have hc9 := hw.cnt6 9
  have hw00 := hw
  have hRc9 : ∀ c, c ≤ 4 → c ≤ 4 := fun c h9 => by omega
  have hRs9 : ∀ c, c ≤ 24 → c ≤ 24 := fun c h9 => by omega
  refine lv_iload_n hx hb dX10_pass_0 rfl (lv_at hl 1 rfl) ?_
  refine lv_iconst (v := 1) hx hb dX10_pass_1 (by decide) ?_
  refine lv_bipush (v := 120) hx hb dX10_pass_2 (by decide) ?_
  refine k_i hH (k_runS (rest := []) C0 hH (cC_X10_isWithin l G A _ b _ hR hw x 1 120 ) mv_X10_isWithin ml_X10_64 rfl ⟨Nat.le_of_ble_eq_true rfl, Nat.le_of_ble_eq_true rfl⟩ hl.1 rfl (Nat.le_of_ble_eq_true rfl) dX10_pass_4 ⟨by show _ ≤ 4; omega, by show _ ≤ 24; omega⟩) (fun r_1 h1 H locs hp hH => ?_)
  obtain ⟨er_1, eh⟩ := hp
  rw [eh] at hH
  clear eh
  subst er_1
  refine lv_if_ne (tgt := 20) hx hb dX10_pass_7 (by decide) (fun c7_2 => ?_) (fun c7_2 => ?_)
  · replace c7_2 := bi_n0.mp c7_2
    have hXn : xPas x = none := if_pos c7_2
    exact absurd hXn hX
  · replace c7_2 := bi_0.mp c7_2
    exact k_throwS C0 hxt hlt hH thr_IAE (is := 233) (text := "not so many minutes can pass") (by decide) hl.1 dX10_pass_10 dX10_pass_13 dX10_pass_14 dX10_pass_16 dX10_pass_19 (Nat.le_of_ble_eq_true rfl) (Nat.le_of_ble_eq_true rfl) (by show _ ≤ 4; omega) (by show _ ≤ 24; omega) ⟨if_neg c7_2, hh0⟩ (hRc9 _ (by omega)) (hRs9 _ (by omega))
set_option maxHeartbeats 4000000 in
set_option maxRecDepth 100000 in
theorem cC_X10_openHub_no (l : Launch) (hlt : l.stackTraces = false) (G : GT) (A : Nat → Prop) (h : AH) (b0 : BA) (u : MM) (hR : RC G.2.2.1 h b0 u) (hw : WFc u) (x y : Int32) (hX : ¬ xOpH u x y = none) : cxI l G A yX10_openHub cX10_openHub 4 (Option.some FieldType.int) 7 191 (4) (24) [.ref (b0 14 0), .int (x), .int (y)] h (fun r h' => xOpH u x y = none ∧ r = nI (nhN u) ∧ ∃ b', BE u b0 b' ∧ RC G.2.2.1 h' b' (cHb u x y) ∧ WFc (cHb u x y)) (fun E h' => xOpH u x y = some E ∧ h' = h) := by
  refine cx_of "Routepost" rfl (by decide) (Nat.le_of_ble_eq_true rfl) ?_
  intro pr e s m9 below meth c C0 hxt hr hH ls hl
  obtain ⟨hx, hb, hml, hown, hts, hK, hA, -⟩ := id C0
  have hl : lv_has ls 4 [(0, .ref (b0 14 0)), (1, .int (x)), (2, .int (y))] := hl
  obtain ⟨b, hb0⟩ : ∃ z, z = b0 := ⟨_, rfl⟩
  rw [← hb0] at hR hl
  have hbe : BE u b0 b := by rw [hb0]; exact BE.refl u b0
  have hc7 := hw.cnt6 7
  have hc8 := hw.cnt6 8
  have hc9 := hw.cnt6 9
  have hw00 := hw
  have hRc9 : ∀ c, c ≤ 4 → c ≤ 4 := fun c h9 => by omega
  have hRs9 : ∀ c, c ≤ 24 → c ≤ 24 := fun c h9 => by omega
  refine lv_iload_n hx hb dX10_openHub_0 rfl (lv_at hl 1 rfl) ?_
  refine k_i hH (k_runS (rest := []) C0 hH (cC_X10_isCode l G A _ b _ hR hw x ) mv_X10_isCode ml_X10_60 rfl ⟨Nat.le_of_ble_eq_true rfl, Nat.le_of_ble_eq_true rfl⟩ hl.1 rfl (Nat.le_of_ble_eq_true rfl) dX10_openHub_1 ⟨by show _ ≤ 4; omega, by show _ ≤ 24; omega⟩) (fun r_1 h1 H locs hp hH => ?_)
  obtain ⟨er_1, eh⟩ := hp
  rw [eh] at hH
  clear eh
  subst er_1
  refine lv_if_eq (tgt := 17) hx hb dX10_openHub_4 (by decide) (fun c4_2 => ?_) (fun c4_2 => ?_)
  · exact k_throwS C0 hxt hlt hH thr_IAE (is := 70) (text := "no code or no cutoff") (by decide) hl.1 dX10_openHub_17 dX10_openHub_20 dX10_openHub_21 dX10_openHub_23 dX10_openHub_26 (Nat.le_of_ble_eq_true rfl) (Nat.le_of_ble_eq_true rfl) (by show _ ≤ 4; omega) (by show _ ≤ 24; omega) ⟨by unfold xOpH; rw [if_pos (Or.inl c4_2)]; rfl, rfl⟩ (hRc9 _ (by omega)) (hRs9 _ (by omega))
  · refine lv_iload_n hx hb dX10_openHub_7 rfl (lv_at hl 2 rfl) ?_
    refine lv_iconst (v := 1) hx hb dX10_openHub_8 (by decide) ?_
    refine lv_bipush (v := 20) hx hb dX10_openHub_9 (by decide) ?_
    refine k_i hH (k_runS (rest := []) C0 hH (cC_X10_isWithin l G A _ b _ hR hw y 1 20 ) mv_X10_isWithin ml_X10_64 rfl ⟨Nat.le_of_ble_eq_true rfl, Nat.le_of_ble_eq_true rfl⟩ hl.1 rfl (Nat.le_of_ble_eq_true rfl) dX10_openHub_11 ⟨by show _ ≤ 4; omega, by show _ ≤ 24; omega⟩) (fun r_3 h1 H locs hp hH => ?_)
    obtain ⟨er_3, eh⟩ := hp
    rw [eh] at hH
    clear eh
    subst er_3
    refine lv_if_ne (tgt := 27) hx hb dX10_openHub_14 (by decide) (fun c14_4 => ?_) (fun c14_4 => ?_)
    · replace c14_4 := bi_n0.mp c14_4
      refine lv_aload_n hx hb dX10_openHub_27 rfl (lv_at hl 0 rfl) ?_
      refine lv_iload_n hx hb dX10_openHub_28 rfl (lv_at hl 1 rfl) ?_
      refine k_q hH (k_runV (rest := []) C0 hH (cC_X10_hubWithCode l G A _ b _ hR hw x ) mv_X10_hubWithCode ml_X10_75 ci_14 (hR.kind (K := 14) (i := 0) rfl) rfl ⟨Nat.le_of_ble_eq_true rfl, Nat.le_of_ble_eq_true rfl⟩ hl.1 rfl (Nat.le_of_ble_eq_true rfl) dX10_openHub_29 ⟨by show _ ≤ 4; omega, by show _ ≤ 24; omega⟩) (fun r_5 h1 H locs hp hH => ?_)
      obtain ⟨er_5, eh⟩ := hp
      rw [eh] at hH
      clear eh
      subst er_5
      rcases (cHw_ok u x) with es_6 | ⟨s_6, hs_6, es_6⟩
      · have eds_6 : dec b 7 (cHw u x) = none := by rw [es_6]; exact dec_m1
        rw [eds_6]
        refine lv_ifnonnullN hx hb dX10_openHub_32 ?_
        refine lv_aload_n hx hb dX10_openHub_35 rfl (lv_at hl 0 rfl) ?_
        refine c_getR C0 hH hR ci_14 (i := 0) (j := 0) rfl rfl (by decide) rfl fl_X10_12 (v := some (b 3 0)) rfl dX10_openHub_36 ?_
        refine k_i hH (k_runV (rest := []) C0 hH (cL_size l G A _ b _ hR hw 0 (show 0 < 6 + npN _ by omega)) mv_Jx4a65c_size_8abf5 ml_X10_79 ci_3 (hR.kind (K := 3) (i := 0) (show 0 < 6 + npN _ by omega)) rfl ⟨Nat.le_of_ble_eq_true rfl, Nat.le_of_ble_eq_true rfl⟩ hl.1 rfl (Nat.le_of_ble_eq_true rfl) dX10_openHub_39 ⟨by show _ ≤ 4; omega, by show _ ≤ 24; omega⟩) (fun r9 h1 H locs hp hH => ?_)
        obtain ⟨er9, eh⟩ := hp
        rw [eh] at hH
        clear eh
        rw [hw.sz0] at er9
        subst er9
        refine lv_bipush (v := 6) hx hb dX10_openHub_42 (by decide) ?_
        refine lv_icmp_lt (tgt := 57) hx hb dX10_openHub_44 (by decide) (fun c44_7 => ?_) (fun c44_7 => ?_)
        · have hn6 : nhN u < 6 := nI_ltC (by have := hw.nh; omega) (by omega) (show nI (nhN u) < nI 6 from c44_7)
          have hXn : xOpH u x y = none := by unfold xOpH; rw [if_neg (fun z => z.elim c4_2 (fun y9 => y9 c14_4)), if_neg (fun z => z.elim (fun y9 => y9 es_6) (fun y9 => y9 c44_7))]
          exact absurd hXn hX
        · exact k_throwS C0 hxt hlt hH thr_ISE (is := 85) (text := "code taken or too many hubs") (by decide) hl.1 dX10_openHub_47 dX10_openHub_50 dX10_openHub_51 dX10_openHub_53 dX10_openHub_56 (Nat.le_of_ble_eq_true rfl) (Nat.le_of_ble_eq_true rfl) (by show _ ≤ 4; omega) (by show _ ≤ 24; omega) ⟨by unfold xOpH; rw [if_neg (fun z => z.elim c4_2 (fun y9 => y9 c14_4)), if_pos (Or.inr c44_7)]; rfl, rfl⟩ (hRc9 _ (by omega)) (hRs9 _ (by omega))
      · have eds_6 : dec b 7 (cHw u x) = some (b 7 s_6) := by rw [es_6]; exact dec_nI (by have := hc7; have h9 : s_6 < cnt u 7 := hs_6; omega)
        have ks_6 : (cHw u x).toNatClampNeg = s_6 := by rw [es_6]; exact nI_clamp (by have := hc7; have h9 : s_6 < cnt u 7 := hs_6; omega)
        have ns_6 : ¬ (cHw u x) = -1 := by rw [es_6]; exact nI_nm (by have := hc7; have h9 : s_6 < cnt u 7 := hs_6; omega)
        rw [eds_6]
        refine lv_ifnonnull (tgt := 47) hx hb dX10_openHub_32 (by decide) ?_
        exact k_throwS C0 hxt hlt hH thr_ISE (is := 85) (text := "code taken or too many hubs") (by decide) hl.1 dX10_openHub_47 dX10_openHub_50 dX10_openHub_51 dX10_openHub_53 dX10_openHub_56 (Nat.le_of_ble_eq_true rfl) (Nat.le_of_ble_eq_true rfl) (by show _ ≤ 4; omega) (by show _ ≤ 24; omega) ⟨by unfold xOpH; rw [if_neg (fun z => z.elim c4_2 (fun y9 => y9 c14_4)), if_pos (Or.inl ns_6)]; rfl, rfl⟩ (hRc9 _ (by omega)) (hRs9 _ (by omega))
    · replace c14_4 := bi_0.mp c14_4
      exact k_throwS C0 hxt hlt hH thr_IAE (is := 70) (text := "no code or no cutoff") (by decide) hl.1 dX10_openHub_17 dX10_openHub_20 dX10_openHub_21 dX10_openHub_23 dX10_openHub_26 (Nat.le_of_ble_eq_true rfl) (Nat.le_of_ble_eq_true rfl) (by show _ ≤ 4; omega) (by show _ ≤ 24; omega) ⟨by unfold xOpH; rw [if_pos (Or.inr c14_4)]; rfl, rfl⟩ (hRc9 _ (by omega)) (hRs9 _ (by omega))
set_option maxHeartbeats 4000000 in
set_option maxRecDepth 100000 in
theorem cC_X10_addLine_no (l : Launch) (hlt : l.stackTraces = false) (G : GT) (A : Nat → Prop) (h : AH) (b0 : BA) (u : MM) (hR : RC G.2.2.1 h b0 u) (hw : WFc u) (x y f per tr mb : Int32) (hX : ¬ xAdd u x y f per tr mb = none) : cxI l G A yX10_addLine cX10_addLine 10 (Option.some FieldType.int) 7 191 (4) (24) [.ref (b0 14 0), .int (x), .int (y), .int (f), .int (per), .int (tr), .int (mb)] h (fun r h' => xAdd u x y f per tr mb = none ∧ r = nI (nlN u) ∧ ∃ b', BE u b0 b' ∧ RC G.2.2.1 h' b' (cAddM u x y f per tr mb) ∧ WFc (cAddM u x y f per tr mb)) (fun E h' => xAdd u x y f per tr mb = some E ∧ h' = h) := by
  refine cx_of "Routepost" rfl (by decide) (Nat.le_of_ble_eq_true rfl) ?_
  intro pr e s m9 below meth c C0 hxt hr hH ls hl
  obtain ⟨hx, hb, hml, hown, hts, hK, hA, -⟩ := id C0
  have hl : lv_has ls 10 [(0, .ref (b0 14 0)), (1, .int (x)), (2, .int (y)), (3, .int (f)), (4, .int (per)), (5, .int (tr)), (6, .int (mb))] := hl
  obtain ⟨b, hb0⟩ : ∃ z, z = b0 := ⟨_, rfl⟩
  rw [← hb0] at hR hl
  have hbe : BE u b0 b := by rw [hb0]; exact BE.refl u b0
  have hc7 := hw.cnt6 7
  have hc8 := hw.cnt6 8
  have hc9 := hw.cnt6 9
  have hw00 := hw
  have hRc9 : ∀ c, c ≤ 4 → c ≤ 4 := fun c h9 => by omega
  have hRs9 : ∀ c, c ≤ 24 → c ≤ 24 := fun c h9 => by omega
  refine lv_aload_n hx hb dX10_addLine_0 rfl (lv_at hl 0 rfl) ?_
  refine lv_iload_n hx hb dX10_addLine_1 rfl (lv_at hl 1 rfl) ?_
  refine k_xq C0 hxt hH (k_xrunV (rest := []) C0 hH (cC_X10_hubNumbered l hlt G A _ b _ hR hw x ) mv_X10_hubNumbered ml_X10_100 ci_14 (hR.kind (K := 14) (i := 0) rfl) rfl ⟨Nat.le_of_ble_eq_true rfl, Nat.le_of_ble_eq_true rfl⟩ hl.1 rfl (Nat.le_of_ble_eq_true rfl) dX10_addLine_2 ⟨by show _ ≤ 4; omega, by show _ ≤ 24; omega⟩) (fun E h9 z => ⟨by unfold xAdd; exact xo_s z.1, z.2⟩) (hRc9 _ (by omega)) (hRs9 _ (by omega)) (fun r_1 h1 H locs hp hH => ?_)
  obtain ⟨exr_1, er_1, eh⟩ := hp
  rw [eh] at hH
  clear eh
  have vpv_2 : vp_in (x) (nhN u) := (xHb_n hw).mp exr_1
  obtain ⟨v_2, hv_2, ev_2⟩ := vp_ex vpv_2 (by have := hw.nh; have := hw.nl; have := hw.np; omega)
  have kv_2 : (x).toNatClampNeg = v_2 := by rw [ev_2]; exact nI_clamp (by have := hw.nh; have := hw.nl; have := hw.np; omega)
  rw [show dec b 7 (x) = some (b 7 v_2) from by rw [ev_2]; exact dec_nI (by have := hw.nh; have := hw.nl; have := hw.np; omega)] at er_1
  subst er_1
  refine lv_astore (lv' := [(7, .ref (b 7 v_2)), (0, .ref (b 14 0)), (1, .int (x)), (2, .int (y)), (3, .int (f)), (4, .int (per)), (5, .int (tr)), (6, .int (mb))]) hx hb dX10_addLine_5 hl (by decide) rfl (fun ls hl => ?_)
  refine lv_aload_n hx hb dX10_addLine_7 rfl (lv_at hl 1 rfl) ?_
  refine lv_iload_n hx hb dX10_addLine_8 rfl (lv_at hl 3 rfl) ?_
  refine k_xq C0 hxt hH (k_xrunV (rest := []) C0 hH (cC_X10_hubNumbered l hlt G A _ b _ hR hw y ) mv_X10_hubNumbered ml_X10_100 ci_14 (hR.kind (K := 14) (i := 0) rfl) rfl ⟨Nat.le_of_ble_eq_true rfl, Nat.le_of_ble_eq_true rfl⟩ hl.1 rfl (Nat.le_of_ble_eq_true rfl) dX10_addLine_9 ⟨by show _ ≤ 4; omega, by show _ ≤ 24; omega⟩) (fun E h9 z => ⟨by unfold xAdd; rw [xo_n exr_1]; exact xo_s z.1, z.2⟩) (hRc9 _ (by omega)) (hRs9 _ (by omega)) (fun r_3 h1 H locs hp hH => ?_)
  obtain ⟨exr_3, er_3, eh⟩ := hp
  rw [eh] at hH
  clear eh
  have vpv_4 : vp_in (y) (nhN u) := (xHb_n hw).mp exr_3
  obtain ⟨v_4, hv_4, ev_4⟩ := vp_ex vpv_4 (by have := hw.nh; have := hw.nl; have := hw.np; omega)
  have kv_4 : (y).toNatClampNeg = v_4 := by rw [ev_4]; exact nI_clamp (by have := hw.nh; have := hw.nl; have := hw.np; omega)
  rw [show dec b 7 (y) = some (b 7 v_4) from by rw [ev_4]; exact dec_nI (by have := hw.nh; have := hw.nl; have := hw.np; omega)] at er_3
  subst er_3
  refine lv_astore (lv' := [(8, .ref (b 7 v_4)), (7, .ref (b 7 v_2)), (0, .ref (b 14 0)), (1, .int (x)), (2, .int (y)), (3, .int (f)), (4, .int (per)), (5, .int (tr)), (6, .int (mb))]) hx hb dX10_addLine_12 hl (by decide) rfl (fun ls hl => ?_)
  refine lv_aload hx hb dX10_addLine_14 (lv_at hl 1 rfl) ?_
  refine lv_aload hx hb dX10_addLine_16 (lv_at hl 0 rfl) ?_
  refine lv_acmp_eq (rx := some (b 7 v_2)) (ry := some (b 7 v_4)) (tgt := 63) hx hb dX10_addLine_18 (by decide) (fun c18_5 => ?_) (fun c18_5 => ?_)
  · rw [hR.acR hw (T := 7) (by omega) hv_2 hv_4] at c18_5
    rw [← ev_2] at c18_5
    rw [← ev_4] at c18_5
    exact k_throwS C0 hxt hlt hH thr_IAE (is := 103) (text := "no such line can be") (by decide) hl.1 dX10_addLine_63 dX10_addLine_66 dX10_addLine_67 dX10_addLine_69 dX10_addLine_72 (Nat.le_of_ble_eq_true rfl) (Nat.le_of_ble_eq_true rfl) (by show _ ≤ 4; omega) (by show _ ≤ 24; omega) ⟨by unfold xAdd; rw [xo_n exr_1, xo_n exr_3, if_pos (fun z => z.1 c18_5)]; rfl, rfl⟩ (hRc9 _ (by omega)) (hRs9 _ (by omega))
  · rw [hR.acR hw (T := 7) (by omega) hv_2 hv_4] at c18_5
    rw [← ev_2] at c18_5
    rw [← ev_4] at c18_5
    refine lv_iload_n hx hb dX10_addLine_21 rfl (lv_at hl 5 rfl) ?_
    refine lv_iconst (v := 0) hx hb dX10_addLine_22 (by decide) ?_
    refine lv_bipush (v := 59) hx hb dX10_addLine_23 (by decide) ?_
    refine k_i hH (k_runS (rest := []) C0 hH (cC_X10_isWithin l G A _ b _ hR hw f 0 59 ) mv_X10_isWithin ml_X10_64 rfl ⟨Nat.le_of_ble_eq_true rfl, Nat.le_of_ble_eq_true rfl⟩ hl.1 rfl (Nat.le_of_ble_eq_true rfl) dX10_addLine_25 ⟨by show _ ≤ 4; omega, by show _ ≤ 24; omega⟩) (fun r_6 h1 H locs hp hH => ?_)
    obtain ⟨er_6, eh⟩ := hp
    rw [eh] at hH
    clear eh
    subst er_6
    refine lv_if_eq (tgt := 63) hx hb dX10_addLine_28 (by decide) (fun c28_7 => ?_) (fun c28_7 => ?_)
    · replace c28_7 := bi_0.mp c28_7
      exact k_throwS C0 hxt hlt hH thr_IAE (is := 103) (text := "no such line can be") (by decide) hl.1 dX10_addLine_63 dX10_addLine_66 dX10_addLine_67 dX10_addLine_69 dX10_addLine_72 (Nat.le_of_ble_eq_true rfl) (Nat.le_of_ble_eq_true rfl) (by show _ ≤ 4; omega) (by show _ ≤ 24; omega) ⟨by unfold xAdd; rw [xo_n exr_1, xo_n exr_3, if_pos (fun z => c28_7 z.2.1)]; rfl, rfl⟩ (hRc9 _ (by omega)) (hRs9 _ (by omega))
    · replace c28_7 := bi_n0.mp c28_7
      refine lv_iload hx hb dX10_addLine_31 (lv_at hl 6 rfl) ?_
      refine lv_iconst (v := 5) hx hb dX10_addLine_33 (by decide) ?_
      refine lv_bipush (v := 60) hx hb dX10_addLine_34 (by decide) ?_
      refine k_i hH (k_runS (rest := []) C0 hH (cC_X10_isWithin l G A _ b _ hR hw per 5 60 ) mv_X10_isWithin ml_X10_64 rfl ⟨Nat.le_of_ble_eq_true rfl, Nat.le_of_ble_eq_true rfl⟩ hl.1 rfl (Nat.le_of_ble_eq_true rfl) dX10_addLine_36 ⟨by show _ ≤ 4; omega, by show _ ≤ 24; omega⟩) (fun r_8 h1 H locs hp hH => ?_)
      obtain ⟨er_8, eh⟩ := hp
      rw [eh] at hH
      clear eh
      subst er_8
      refine lv_if_eq (tgt := 63) hx hb dX10_addLine_39 (by decide) (fun c39_9 => ?_) (fun c39_9 => ?_)
      · replace c39_9 := bi_0.mp c39_9
        exact k_throwS C0 hxt hlt hH thr_IAE (is := 103) (text := "no such line can be") (by decide) hl.1 dX10_addLine_63 dX10_addLine_66 dX10_addLine_67 dX10_addLine_69 dX10_addLine_72 (Nat.le_of_ble_eq_true rfl) (Nat.le_of_ble_eq_true rfl) (by show _ ≤ 4; omega) (by show _ ≤ 24; omega) ⟨by unfold xAdd; rw [xo_n exr_1, xo_n exr_3, if_pos (fun z => c39_9 z.2.2.1)]; rfl, rfl⟩ (hRc9 _ (by omega)) (hRs9 _ (by omega))
      · replace c39_9 := bi_n0.mp c39_9
        refine lv_iload hx hb dX10_addLine_42 (lv_at hl 7 rfl) ?_
        refine lv_iconst (v := 1) hx hb dX10_addLine_44 (by decide) ?_
        refine lv_bipush (v := 60) hx hb dX10_addLine_45 (by decide) ?_
        refine k_i hH (k_runS (rest := []) C0 hH (cC_X10_isWithin l G A _ b _ hR hw tr 1 60 ) mv_X10_isWithin ml_X10_64 rfl ⟨Nat.le_of_ble_eq_true rfl, Nat.le_of_ble_eq_true rfl⟩ hl.1 rfl (Nat.le_of_ble_eq_true rfl) dX10_addLine_47 ⟨by show _ ≤ 4; omega, by show _ ≤ 24; omega⟩) (fun r_10 h1 H locs hp hH => ?_)
        obtain ⟨er_10, eh⟩ := hp
        rw [eh] at hH
        clear eh
        subst er_10
        refine lv_if_eq (tgt := 63) hx hb dX10_addLine_50 (by decide) (fun c50_11 => ?_) (fun c50_11 => ?_)
        · replace c50_11 := bi_0.mp c50_11
          exact k_throwS C0 hxt hlt hH thr_IAE (is := 103) (text := "no such line can be") (by decide) hl.1 dX10_addLine_63 dX10_addLine_66 dX10_addLine_67 dX10_addLine_69 dX10_addLine_72 (Nat.le_of_ble_eq_true rfl) (Nat.le_of_ble_eq_true rfl) (by show _ ≤ 4; omega) (by show _ ≤ 24; omega) ⟨by unfold xAdd; rw [xo_n exr_1, xo_n exr_3, if_pos (fun z => c50_11 z.2.2.2.1)]; rfl, rfl⟩ (hRc9 _ (by omega)) (hRs9 _ (by omega))
        · replace c50_11 := bi_n0.mp c50_11
          refine lv_iload hx hb dX10_addLine_53 (lv_at hl 8 rfl) ?_
          refine lv_iconst (v := 1) hx hb dX10_addLine_55 (by decide) ?_
          refine lv_iconst (v := 4) hx hb dX10_addLine_56 (by decide) ?_
          refine k_i hH (k_runS (rest := []) C0 hH (cC_X10_isWithin l G A _ b _ hR hw mb 1 4 ) mv_X10_isWithin ml_X10_64 rfl ⟨Nat.le_of_ble_eq_true rfl, Nat.le_of_ble_eq_true rfl⟩ hl.1 rfl (Nat.le_of_ble_eq_true rfl) dX10_addLine_57 ⟨by show _ ≤ 4; omega, by show _ ≤ 24; omega⟩) (fun r_12 h1 H locs hp hH => ?_)
          obtain ⟨er_12, eh⟩ := hp
          rw [eh] at hH
          clear eh
          subst er_12
          refine lv_if_ne (tgt := 73) hx hb dX10_addLine_60 (by decide) (fun c60_13 => ?_) (fun c60_13 => ?_)
          · replace c60_13 := bi_n0.mp c60_13
            refine lv_aload_n hx hb dX10_addLine_73 rfl (lv_at hl 2 rfl) ?_
            refine c_getR C0 hH hR ci_14 (i := 0) (j := 1) rfl rfl (by decide) rfl fl_X10_16 (v := some (b 3 1)) rfl dX10_addLine_74 ?_
            refine k_i hH (k_runV (rest := []) C0 hH (cL_size l G A _ b _ hR hw 1 (show 1 < 6 + npN _ by omega)) mv_Jx4a65c_size_8abf5 ml_X10_79 ci_3 (hR.kind (K := 3) (i := 1) (show 1 < 6 + npN _ by omega)) rfl ⟨Nat.le_of_ble_eq_true rfl, Nat.le_of_ble_eq_true rfl⟩ hl.1 rfl (Nat.le_of_ble_eq_true rfl) dX10_addLine_77 ⟨by show _ ≤ 4; omega, by show _ ≤ 24; omega⟩) (fun r9 h1 H locs hp hH => ?_)
            obtain ⟨er9, eh⟩ := hp
            rw [eh] at hH
            clear eh
            rw [hw.sz1] at er9
            subst er9
            refine lv_bipush (v := 12) hx hb dX10_addLine_80 (by decide) ?_
            refine lv_icmp_lt (tgt := 95) hx hb dX10_addLine_82 (by decide) (fun c82_14 => ?_) (fun c82_14 => ?_)
            · have hn12 : nlN u < 12 := nI_ltC (by have := hw.nl; omega) (by omega) (show nI (nlN u) < nI 12 from c82_14)
              have hXn : xAdd u x y f per tr mb = none := by unfold xAdd; rw [xo_n exr_1, xo_n exr_3, if_neg (fun z => z ⟨c18_5, c28_7, c39_9, c50_11, c60_13⟩), if_neg (fun z => z c82_14)]
              exact absurd hXn hX
            · exact k_throwS C0 hxt hlt hH thr_ISE (is := 105) (text := "too many lines") (by decide) hl.1 dX10_addLine_85 dX10_addLine_88 dX10_addLine_89 dX10_addLine_91 dX10_addLine_94 (Nat.le_of_ble_eq_true rfl) (Nat.le_of_ble_eq_true rfl) (by show _ ≤ 4; omega) (by show _ ≤ 24; omega) ⟨by unfold xAdd; rw [xo_n exr_1, xo_n exr_3, if_neg (fun z => z ⟨c18_5, c28_7, c39_9, c50_11, c60_13⟩), if_pos c82_14]; rfl, rfl⟩ (hRc9 _ (by omega)) (hRs9 _ (by omega))
          · replace c60_13 := bi_0.mp c60_13
            exact k_throwS C0 hxt hlt hH thr_IAE (is := 103) (text := "no such line can be") (by decide) hl.1 dX10_addLine_63 dX10_addLine_66 dX10_addLine_67 dX10_addLine_69 dX10_addLine_72 (Nat.le_of_ble_eq_true rfl) (Nat.le_of_ble_eq_true rfl) (by show _ ≤ 4; omega) (by show _ ≤ 24; omega) ⟨by unfold xAdd; rw [xo_n exr_1, xo_n exr_3, if_pos (fun z => c60_13 z.2.2.2.2)]; rfl, rfl⟩ (hRc9 _ (by omega)) (hRs9 _ (by omega))
set_option maxHeartbeats 4000000 in
set_option maxRecDepth 100000 in
theorem cC_X10_accept_no (l : Launch) (hlt : l.stackTraces = false) (G : GT) (A : Nat → Prop) (h : AH) (b0 : BA) (u : MM) (hR : RC G.2.2.1 h b0 u) (hw : WFc u) (x ad vol ser : Int32) (hX : ¬ xAcc u x ad vol ser = none) : cxI l G A yX10_accept cX10_accept 8 (Option.some FieldType.int) 9 355 (4) (24) [.ref (b0 14 0), .int (x), .int (ad), .int (vol), .int (ser)] h (fun r h' => xAcc u x ad vol ser = none ∧ r = nI (npN u) ∧ ∃ b', BE u b0 b' ∧ RC G.2.2.1 h' b' (cAcc u x ad vol ser) ∧ WFc (cAcc u x ad vol ser)) (fun E h' => xAcc u x ad vol ser = some E ∧ h' = h) := by
  refine cx_of "Routepost" rfl (by decide) (Nat.le_of_ble_eq_true rfl) ?_
  intro pr e s m9 below meth c C0 hxt hr hH ls hl
  obtain ⟨hx, hb, hml, hown, hts, hK, hA, -⟩ := id C0
  have hl : lv_has ls 8 [(0, .ref (b0 14 0)), (1, .int (x)), (2, .int (ad)), (3, .int (vol)), (4, .int (ser))] := hl
  obtain ⟨b, hb0⟩ : ∃ z, z = b0 := ⟨_, rfl⟩
  rw [← hb0] at hR hl
  have hbe : BE u b0 b := by rw [hb0]; exact BE.refl u b0
  have hc7 := hw.cnt6 7
  have hc8 := hw.cnt6 8
  have hc9 := hw.cnt6 9
  have hw00 := hw
  have hRc9 : ∀ c, c ≤ 4 → c ≤ 4 := fun c h9 => by omega
  have hRs9 : ∀ c, c ≤ 24 → c ≤ 24 := fun c h9 => by omega
  refine lv_aload_n hx hb dX10_accept_0 rfl (lv_at hl 0 rfl) ?_
  refine lv_iload_n hx hb dX10_accept_1 rfl (lv_at hl 1 rfl) ?_
  refine k_xq C0 hxt hH (k_xrunV (rest := []) C0 hH (cC_X10_hubNumbered l hlt G A _ b _ hR hw x ) mv_X10_hubNumbered ml_X10_100 ci_14 (hR.kind (K := 14) (i := 0) rfl) rfl ⟨Nat.le_of_ble_eq_true rfl, Nat.le_of_ble_eq_true rfl⟩ hl.1 rfl (Nat.le_of_ble_eq_true rfl) dX10_accept_2 ⟨by show _ ≤ 4; omega, by show _ ≤ 24; omega⟩) (fun E h9 z => ⟨by unfold xAcc; exact xo_s z.1, z.2⟩) (hRc9 _ (by omega)) (hRs9 _ (by omega)) (fun r_1 h1 H locs hp hH => ?_)
  obtain ⟨exr_1, er_1, eh⟩ := hp
  rw [eh] at hH
  clear eh
  have vpv_2 : vp_in (x) (nhN u) := (xHb_n hw).mp exr_1
  obtain ⟨v_2, hv_2, ev_2⟩ := vp_ex vpv_2 (by have := hw.nh; have := hw.nl; have := hw.np; omega)
  have kv_2 : (x).toNatClampNeg = v_2 := by rw [ev_2]; exact nI_clamp (by have := hw.nh; have := hw.nl; have := hw.np; omega)
  rw [show dec b 7 (x) = some (b 7 v_2) from by rw [ev_2]; exact dec_nI (by have := hw.nh; have := hw.nl; have := hw.np; omega)] at er_1
  subst er_1
  refine lv_astore (lv' := [(5, .ref (b 7 v_2)), (0, .ref (b 14 0)), (1, .int (x)), (2, .int (ad)), (3, .int (vol)), (4, .int (ser))]) hx hb dX10_accept_5 hl (by decide) rfl (fun ls hl => ?_)
  refine lv_iload_n hx hb dX10_accept_7 rfl (lv_at hl 3 rfl) ?_
  refine k_i hH (k_runS (rest := []) C0 hH (cC_X10_isAddress l G A _ b _ hR hw ad ) mv_X10_isAddress ml_X10_131 rfl ⟨Nat.le_of_ble_eq_true rfl, Nat.le_of_ble_eq_true rfl⟩ hl.1 rfl (Nat.le_of_ble_eq_true rfl) dX10_accept_8 ⟨by show _ ≤ 4; omega, by show _ ≤ 24; omega⟩) (fun r_3 h1 H locs hp hH => ?_)
  obtain ⟨er_3, eh⟩ := hp
  rw [eh] at hH
  clear eh
  subst er_3
  refine lv_if_eq (tgt := 34) hx hb dX10_accept_11 (by decide) (fun c11_4 => ?_) (fun c11_4 => ?_)
  · exact k_throwS C0 hxt hlt hH thr_IAE (is := 158) (text := "no address, no volume or no service") (by decide) hl.1 dX10_accept_34 dX10_accept_37 dX10_accept_38 dX10_accept_40 dX10_accept_43 (Nat.le_of_ble_eq_true rfl) (Nat.le_of_ble_eq_true rfl) (by show _ ≤ 4; omega) (by show _ ≤ 24; omega) ⟨by unfold xAcc; rw [xo_n exr_1, if_pos (Or.inl c11_4)]; rfl, rfl⟩ (hRc9 _ (by omega)) (hRs9 _ (by omega))
  · refine lv_iload_n hx hb dX10_accept_14 rfl (lv_at hl 4 rfl) ?_
    refine lv_iconst (v := 1) hx hb dX10_accept_15 (by decide) ?_
    refine lv_bipush (v := 9) hx hb dX10_accept_16 (by decide) ?_
    refine k_i hH (k_runS (rest := []) C0 hH (cC_X10_isWithin l G A _ b _ hR hw vol 1 9 ) mv_X10_isWithin ml_X10_64 rfl ⟨Nat.le_of_ble_eq_true rfl, Nat.le_of_ble_eq_true rfl⟩ hl.1 rfl (Nat.le_of_ble_eq_true rfl) dX10_accept_18 ⟨by show _ ≤ 4; omega, by show _ ≤ 24; omega⟩) (fun r_5 h1 H locs hp hH => ?_)
    obtain ⟨er_5, eh⟩ := hp
    rw [eh] at hH
    clear eh
    subst er_5
    refine lv_if_eq (tgt := 34) hx hb dX10_accept_21 (by decide) (fun c21_6 => ?_) (fun c21_6 => ?_)
    · replace c21_6 := bi_0.mp c21_6
      exact k_throwS C0 hxt hlt hH thr_IAE (is := 158) (text := "no address, no volume or no service") (by decide) hl.1 dX10_accept_34 dX10_accept_37 dX10_accept_38 dX10_accept_40 dX10_accept_43 (Nat.le_of_ble_eq_true rfl) (Nat.le_of_ble_eq_true rfl) (by show _ ≤ 4; omega) (by show _ ≤ 24; omega) ⟨by unfold xAcc; rw [xo_n exr_1, if_pos (Or.inr (Or.inl c21_6))]; rfl, rfl⟩ (hRc9 _ (by omega)) (hRs9 _ (by omega))
    · replace c21_6 := bi_n0.mp c21_6
      refine lv_iload hx hb dX10_accept_24 (lv_at hl 5 rfl) ?_
      refine lv_iconst (v := 0) hx hb dX10_accept_26 (by decide) ?_
      refine lv_iconst (v := 2) hx hb dX10_accept_27 (by decide) ?_
      refine k_i hH (k_runS (rest := []) C0 hH (cC_X10_isWithin l G A _ b _ hR hw ser 0 2 ) mv_X10_isWithin ml_X10_64 rfl ⟨Nat.le_of_ble_eq_true rfl, Nat.le_of_ble_eq_true rfl⟩ hl.1 rfl (Nat.le_of_ble_eq_true rfl) dX10_accept_28 ⟨by show _ ≤ 4; omega, by show _ ≤ 24; omega⟩) (fun r_7 h1 H locs hp hH => ?_)
      obtain ⟨er_7, eh⟩ := hp
      rw [eh] at hH
      clear eh
      subst er_7
      refine lv_if_ne (tgt := 44) hx hb dX10_accept_31 (by decide) (fun c31_8 => ?_) (fun c31_8 => ?_)
      · replace c31_8 := bi_n0.mp c31_8
        refine lv_aload_n hx hb dX10_accept_44 rfl (lv_at hl 1 rfl) ?_
        refine lv_iload_n hx hb dX10_accept_45 rfl (lv_at hl 3 rfl) ?_
        refine k_q hH (k_runV (rest := []) C0 hH (cC_X10_hubByShortening l G A _ b _ hR hw ad ) mv_X10_hubByShortening ml_X10_136 ci_14 (hR.kind (K := 14) (i := 0) rfl) rfl ⟨Nat.le_of_ble_eq_true rfl, Nat.le_of_ble_eq_true rfl⟩ hl.1 rfl (Nat.le_of_ble_eq_true rfl) dX10_accept_46 ⟨by show _ ≤ 4; omega, by show _ ≤ 24; omega⟩) (fun r_9 h1 H locs hp hH => ?_)
        obtain ⟨er_9, eh⟩ := hp
        rw [eh] at hH
        clear eh
        subst er_9
        refine o_astore_q (lv' := [(6, va_rf (dec b 7 (cHs u ad))), (5, .ref (b 7 v_2)), (0, .ref (b 14 0)), (1, .int (x)), (2, .int (ad)), (3, .int (vol)), (4, .int (ser))]) hx hb dX10_accept_49 hl (by decide) rfl (fun ls hl => ?_)
        refine o_aload_q hx hb dX10_accept_51 (lv_at hl 0 rfl) ?_
        rcases (cHs_ok u ad) with es_10 | ⟨s_10, hs_10, es_10⟩
        · have eds_10 : dec b 7 (cHs u ad) = none := by rw [es_10]; exact dec_m1
          rw [eds_10]
          rw [eds_10] at hl
          refine lv_ifnullN (tgt := 68) hx hb dX10_accept_53 (by decide) ?_
          exact k_throwS C0 hxt hlt hH thr_ISE (is := 160) (text := "no hub for it or too many parcels") (by decide) hl.1 dX10_accept_68 dX10_accept_71 dX10_accept_72 dX10_accept_74 dX10_accept_77 (Nat.le_of_ble_eq_true rfl) (Nat.le_of_ble_eq_true rfl) (by show _ ≤ 4; omega) (by show _ ≤ 24; omega) ⟨by unfold xAcc; rw [xo_n exr_1, if_neg (fun z => z.elim c11_4 (fun y9 => y9.elim (fun y8 => y8 c21_6) (fun y8 => y8 c31_8))), if_pos (Or.inl es_10)]; rfl, rfl⟩ (hRc9 _ (by omega)) (hRs9 _ (by omega))
        · have eds_10 : dec b 7 (cHs u ad) = some (b 7 s_10) := by rw [es_10]; exact dec_nI (by have := hc7; have h9 : s_10 < cnt u 7 := hs_10; omega)
          have ks_10 : (cHs u ad).toNatClampNeg = s_10 := by rw [es_10]; exact nI_clamp (by have := hc7; have h9 : s_10 < cnt u 7 := hs_10; omega)
          have ns_10 : ¬ (cHs u ad) = -1 := by rw [es_10]; exact nI_nm (by have := hc7; have h9 : s_10 < cnt u 7 := hs_10; omega)
          rw [eds_10]
          rw [eds_10] at hl
          refine lv_ifnull hx hb dX10_accept_53 ?_
          refine lv_aload_n hx hb dX10_accept_56 rfl (lv_at hl 2 rfl) ?_
          refine c_getR C0 hH hR ci_14 (i := 0) (j := 2) rfl rfl (by decide) rfl fl_X10_19 (v := some (b 3 2)) rfl dX10_accept_57 ?_
          refine k_i hH (k_runV (rest := []) C0 hH (cL_size l G A _ b _ hR hw 2 (show 2 < 6 + npN _ by omega)) mv_Jx4a65c_size_8abf5 ml_X10_79 ci_3 (hR.kind (K := 3) (i := 2) (show 2 < 6 + npN _ by omega)) rfl ⟨Nat.le_of_ble_eq_true rfl, Nat.le_of_ble_eq_true rfl⟩ hl.1 rfl (Nat.le_of_ble_eq_true rfl) dX10_accept_60 ⟨by show _ ≤ 4; omega, by show _ ≤ 24; omega⟩) (fun r9 h1 H locs hp hH => ?_)
          obtain ⟨er9, eh⟩ := hp
          rw [eh] at hH
          clear eh
          rw [hw.sz2] at er9
          subst er9
          refine lv_bipush (v := 40) hx hb dX10_accept_63 (by decide) ?_
          refine lv_icmp_lt (tgt := 78) hx hb dX10_accept_65 (by decide) (fun c65_11 => ?_) (fun c65_11 => ?_)
          · have hn40 : npN u < 40 := nI_ltC (by have := hw.np; omega) (by omega) (show nI (npN u) < nI 40 from c65_11)
            have hXn : xAcc u x ad vol ser = none := by unfold xAcc; rw [xo_n exr_1, if_neg (fun z => z.elim c11_4 (fun y9 => y9.elim (fun y8 => y8 c21_6) (fun y8 => y8 c31_8))), if_neg (fun z => z.elim ns_10 (fun y9 => y9 c65_11))]
            exact absurd hXn hX
          · exact k_throwS C0 hxt hlt hH thr_ISE (is := 160) (text := "no hub for it or too many parcels") (by decide) hl.1 dX10_accept_68 dX10_accept_71 dX10_accept_72 dX10_accept_74 dX10_accept_77 (Nat.le_of_ble_eq_true rfl) (Nat.le_of_ble_eq_true rfl) (by show _ ≤ 4; omega) (by show _ ≤ 24; omega) ⟨by unfold xAcc; rw [xo_n exr_1, if_neg (fun z => z.elim c11_4 (fun y9 => y9.elim (fun y8 => y8 c21_6) (fun y8 => y8 c31_8))), if_pos (Or.inr c65_11)]; rfl, rfl⟩ (hRc9 _ (by omega)) (hRs9 _ (by omega))
      · replace c31_8 := bi_0.mp c31_8
        exact k_throwS C0 hxt hlt hH thr_IAE (is := 158) (text := "no address, no volume or no service") (by decide) hl.1 dX10_accept_34 dX10_accept_37 dX10_accept_38 dX10_accept_40 dX10_accept_43 (Nat.le_of_ble_eq_true rfl) (Nat.le_of_ble_eq_true rfl) (by show _ ≤ 4; omega) (by show _ ≤ 24; omega) ⟨by unfold xAcc; rw [xo_n exr_1, if_pos (Or.inr (Or.inr c31_8))]; rfl, rfl⟩ (hRc9 _ (by omega)) (hRs9 _ (by omega))

