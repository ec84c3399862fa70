set_option maxHeartbeats 800000 in
set_option maxRecDepth 100000 in
theorem cC_X10_closeLine (l : Launch) (hlt : l.stackTraces = false) (G : GT) (A : Nat → Prop) (h : AH) (b : BA) (u : MM) (hR : RC G.2.2.1 h b u) (hw : WFc u) (x : Int32) : cxI l G A yX10_closeLine cX10_closeLine 4 (Option.some FieldType.int) 8 159 2 12 [.ref (b 14 0), .int (x)] h (fun r h' => xOpn u x = none ∧ r = cCw u x ∧ RC G.2.2.1 h' b (cClo u x) ∧ WFc (cClo u x)) (fun E h' => xOpn u x = some E ∧ RC G.2.2.1 h' b (cClo u x) ∧ WFc (cClo u x)) := by
  refine cx_of "Routepost" rfl (by decide) (Nat.le_of_ble_eq_true rfl) ?_
  intro pr e s m9 below meth c C0 hxt hr hH ls hl
  obtain ⟨hx, hb, hml, hown, hts, hK, hA, -⟩ := id C0
  have hl : lv_has ls 4 [(0, .ref (b 14 0)), (1, .int (x))] := hl
  have hc7 := hw.cnt6 7
  have hc8 := hw.cnt6 8
  have hc9 := hw.cnt6 9
  have hw00 := hw
  refine lv_aload_n hx hb dX10_closeLine_0 rfl (lv_at hl 0 rfl) ?_
  refine lv_iload_n hx hb dX10_closeLine_1 rfl (lv_at hl 1 rfl) ?_
  refine k_xq C0 hxt hH (k_xrunV (rest := []) C0 hH (cC_X10_openLineNumbered l hlt G A _ b _ hR hw x ) mv_X10_openLineNumbered ml_X10_119 ci_14 (hR.kind (K := 14) (i := 0) rfl) rfl ⟨Nat.le_of_ble_eq_true rfl, Nat.le_of_ble_eq_true rfl⟩ hl.1 rfl (Nat.le_of_ble_eq_true rfl) dX10_closeLine_2 ⟨Nat.le_of_ble_eq_true rfl, Nat.le_of_ble_eq_true rfl⟩) (fun E h9 z => ⟨z.1, by rw [z.2, show cClo u x = u from if_neg (fun y => by rw [y] at z; exact nomatch z.1)]; exact ⟨hR, hw⟩⟩) (Nat.le_of_ble_eq_true rfl) (Nat.le_of_ble_eq_true rfl) (fun r_1 h1 H locs hp hH => ?_)
  obtain ⟨exr_1, er_1, eh⟩ := hp
  rw [eh] at hH
  clear eh
  have vpv_2 : vp_in (x) (nlN u) := xOpn_vp hw exr_1
  obtain ⟨v_2, hv_2, ev_2⟩ := vp_ex vpv_2 (by have := hw.nh; have := hw.nl; have := hw.np; omega)
  have kv_2 : (x).toNatClampNeg = v_2 := by rw [ev_2]; exact nI_clamp (by have := hw.nh; have := hw.nl; have := hw.np; omega)
  rw [show dec b 8 (x) = some (b 8 v_2) from by rw [ev_2]; exact dec_nI (by have := hw.nh; have := hw.nl; have := hw.np; omega)] at er_1
  subst er_1
  have hq00 := hv_2
  refine lv_astore_n (lv' := [(2, .ref (b 8 v_2)), (0, .ref (b 14 0)), (1, .int (x))]) hx hb dX10_closeLine_5 rfl hl (by decide) rfl (fun ls hl => ?_)
  refine lv_aload_n hx hb dX10_closeLine_6 rfl (lv_at hl 1 rfl) ?_
  refine lv_aload_n hx hb dX10_closeLine_7 rfl (lv_at hl 0 rfl) ?_
  refine k_i hH (k_runV (rest := []) C0 hH (cC_X10_countWaiting l G A _ b _ hR hw v_2 hv_2) mv_X10_countWaiting ml_X10_123 ci_14 (hR.kind (K := 14) (i := 0) rfl) rfl ⟨Nat.le_of_ble_eq_true rfl, Nat.le_of_ble_eq_true rfl⟩ hl.1 rfl (Nat.le_of_ble_eq_true rfl) dX10_closeLine_8 ⟨Nat.le_of_ble_eq_true rfl, Nat.le_of_ble_eq_true rfl⟩) (fun r_3 h1 H locs hp hH => ?_)
  obtain ⟨er_3, eh⟩ := hp
  rw [eh] at hH
  clear eh
  rw [← ev_2] at er_3
  subst er_3
  refine lv_istore_n (lv' := [(3, .int (cCw u (x))), (2, .ref (b 8 v_2)), (0, .ref (b 14 0)), (1, .int (x))]) hx hb dX10_closeLine_11 rfl hl (by decide) rfl (fun ls hl => ?_)
  refine lv_aload_n hx hb dX10_closeLine_12 rfl (lv_at hl 1 rfl) ?_
  refine lv_iconst (v := 0) hx hb dX10_closeLine_13 (by decide) ?_
  refine c_putI C0 hH hR ci_8 (i := v_2) (j := 8) hv_2 rfl (k := 108) rfl (by decide) (by decide) rfl fl_X10_127 rfl (x := 0) (by decide) (by decide) dX10_closeLine_14 (fun h H locs hH hR => ?_)
  replace hw := hw.upx (k := 108) (i := v_2) (x := 0) (by unfold kWc kSz; decide)
  refine lv_aload_n hx hb dX10_closeLine_17 rfl (lv_at hl 2 rfl) ?_
  refine k_v hH (k_runV (rest := []) C0 hH (cC_X10_planAll l G A _ b _ hR hw  ) mv_X10_planAll ml_X10_115 ci_14 (hR.kind (K := 14) (i := 0) rfl) rfl ⟨Nat.le_of_ble_eq_true rfl, Nat.le_of_ble_eq_true rfl⟩ hl.1 rfl (Nat.le_of_ble_eq_true rfl) dX10_closeLine_18 ⟨Nat.le_of_ble_eq_true rfl, Nat.le_of_ble_eq_true rfl⟩) (fun h H locs hp hH => ?_)
  obtain ⟨hR, hw⟩ := hp
  refine lv_iload_n hx hb dX10_closeLine_21 rfl (lv_at hl 0 rfl) ?_
  refine vx_ret ?_
  have eR : (cCw u (x) : Int32) = cCw u x := rfl
  have eM : (cClo u x) = (cPlA (up u 108 v_2 0)) := by unfold cClo; rw [if_pos exr_1, kv_2]
  exact e_I C0 hr hH ⟨exr_1, eR, by rw [eM]; exact ⟨hR, hw⟩⟩ (Nat.le_of_ble_eq_true rfl) (Nat.le_of_ble_eq_true rfl) dX10_closeLine_22

