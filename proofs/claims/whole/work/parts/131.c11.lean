set_option maxHeartbeats 800000 in
set_option maxRecDepth 100000 in
theorem cC_X10_eventOf_in (l : Launch) (hlt : l.stackTraces = false) (G : GT) (A : Nat → Prop) (h : AH) (b : BA) (u : MM) (hR : RC G.2.2.1 h b u) (hw : WFc u) (v j : Nat) (hv0 : v < npN u) (hj0 : j < szN u (6 + v)) : cxQ l G A yX10_eventOf cX10_eventOf 4 (Option.some (FieldType.object "Routepost$Event")) 7 111 2 12 [.ref (b 14 0), .int (nI v), .int (nI j)] h (fun r h' => xEv u (nI v) (nI j) = none ∧ r = some (b 5 (1024 * v + j)) ∧ h' = h) (fun E h' => xEv u (nI v) (nI j) = some E ∧ h' = h) := by
  refine cx_of "Routepost" rfl (by decide) (Nat.le_of_ble_eq_true rfl) ?_
  intro pr e s m9 below meth c C0 hxt hr hH ls hl
  obtain ⟨hx, hb, hml, hown, hts, hK, hA, -⟩ := id C0
  have hl : lv_has ls 4 [(0, .ref (b 14 0)), (1, .int (nI v)), (2, .int (nI j))] := hl
  have hc7 := hw.cnt6 7
  have hc8 := hw.cnt6 8
  have hc9 := hw.cnt6 9
  have hn40 := hw.np
  have hs6 := hw.sz6 hv0
  have hcv : (nI v).toNatClampNeg = v := nI_clamp (by omega)
  refine lv_aload_n hx hb dX10_eventOf_0 rfl (lv_at hl 0 rfl) ?_
  refine lv_iload_n hx hb dX10_eventOf_1 rfl (lv_at hl 1 rfl) ?_
  refine k_xq C0 hxt hH (k_xrunV (rest := []) C0 hH (cC_X10_parcelNumbered l hlt G A _ b _ hR hw (nI v) ) mv_X10_parcelNumbered ml_X10_186 ci_14 (hR.kind (K := 14) (i := 0) rfl) rfl ⟨Nat.le_of_ble_eq_true rfl, Nat.le_of_ble_eq_true rfl⟩ hl.1 rfl (Nat.le_of_ble_eq_true rfl) dX10_eventOf_2 ⟨Nat.le_of_ble_eq_true rfl, Nat.le_of_ble_eq_true rfl⟩) (fun E h9 z => ⟨by unfold xEv; exact xo_s z.1, z.2⟩) (Nat.le_of_ble_eq_true rfl) (Nat.le_of_ble_eq_true rfl) (fun r_1 h1 H locs hp hH => ?_)
  obtain ⟨exr_1, er_1, eh⟩ := hp
  rw [eh] at hH
  clear eh
  rw [show dec b 9 (nI v) = some (b 9 v) from dec_nI (by have := hw.nh; have := hw.nl; have := hw.np; omega)] at er_1
  subst er_1
  refine c_getR C0 hH hR ci_9 (i := v) (j := 5) hv0 rfl (by decide) rfl fl_X10_171 (v := some (b 6 v)) rfl dX10_eventOf_5 ?_
  refine c_getR C0 hH hR ci_6 (i := v) (j := 0) hv0 rfl (by decide) rfl fl_X10_333 (v := some (b 3 (6 + v))) rfl dX10_eventOf_8 ?_
  refine lv_astore_n (lv' := [(3, .ref (b 3 (6 + v))), (0, .ref (b 14 0)), (1, .int (nI v)), (2, .int (nI j))]) hx hb dX10_eventOf_11 rfl hl (by decide) rfl (fun ls hl => ?_)
  refine lv_iload_n hx hb dX10_eventOf_12 rfl (lv_at hl 3 rfl) ?_
  refine lv_if_lt (tgt := 24) hx hb dX10_eventOf_13 (by decide) (fun c13_2 => ?_) (fun c13_2 => ?_)
  · exact absurd c13_2 (nI_pos (by omega))
  · refine lv_iload_n hx hb dX10_eventOf_16 rfl (lv_at hl 3 rfl) ?_
    refine lv_aload_n hx hb dX10_eventOf_17 rfl (lv_at hl 0 rfl) ?_
    refine k_i hH (k_runV (rest := [.int (nI j)]) C0 hH (cL_size l G A _ b _ hR hw (6 + v) (show 6 + v < 6 + npN u by have := hv0; omega)) mv_Jx4a65c_size_8abf5 ml_X10_79 ci_3 (hR.kind (K := 3) (i := 6 + v) (show 6 + v < 6 + npN u by have := hv0; omega)) rfl ⟨Nat.le_of_ble_eq_true rfl, Nat.le_of_ble_eq_true rfl⟩ hl.1 rfl (Nat.le_of_ble_eq_true rfl) dX10_eventOf_18 ⟨Nat.le_of_ble_eq_true rfl, Nat.le_of_ble_eq_true rfl⟩) (fun r9 h1 H locs hp hH => ?_)
    obtain ⟨er9, eh⟩ := hp
    rw [eh] at hH
    clear eh
    subst er9
    refine lv_icmp_lt (tgt := 35) hx hb dX10_eventOf_21 (by decide) (fun c21_3 => ?_) (fun c21_3 => ?_)
    · refine lv_aload_n hx hb dX10_eventOf_35 rfl (lv_at hl 0 rfl) ?_
      refine lv_iload_n hx hb dX10_eventOf_36 rfl (lv_at hl 3 rfl) ?_
      refine k_q hH (k_runV (rest := []) C0 hH (cL_get l G A _ b _ hR hw (6 + v) j (show 6 + v < 6 + npN u by have := hv0; omega) hj0 (a := b 5 (1024 * v + j)) (by unfold elK elI; rw [if_neg (by omega), if_neg (by omega), if_neg (by omega), if_neg (by omega), if_neg (by omega), if_neg (by omega), if_neg (by omega)]; congr 1; omega)) mv_Jx4a65c_get_915e3 ml_X10_143 ci_3 (hR.kind (K := 3) (i := 6 + v) (show 6 + v < 6 + npN u by have := hv0; omega)) rfl ⟨Nat.le_of_ble_eq_true rfl, Nat.le_of_ble_eq_true rfl⟩ hl.1 rfl (Nat.le_of_ble_eq_true rfl) dX10_eventOf_37 ⟨Nat.le_of_ble_eq_true rfl, Nat.le_of_ble_eq_true rfl⟩) (fun r9 h1 H locs hp hH => ?_)
      obtain ⟨er9, eh⟩ := hp
      rw [eh] at hH
      clear eh
      subst er9
      refine k_chk C0 hH ci_5 (hR.kind (K := 5) (i := 1024 * v + j) (ev_ok hw hv0 hj0)) cl_X10_341 dX10_eventOf_40 ?_
      refine vx_ret ?_
      have eR : (some (b 5 (1024 * v + j)) : Option Nat) = some (b 5 (1024 * v + j)) := rfl
      exact e_Q (v := some (b 5 (1024 * v + j))) C0 hr (Or.inl ⟨_, rfl⟩) hH ⟨(by unfold xEv; rw [xo_n exr_1, hcv, if_neg (fun z => z.elim c13_2 (fun y => y c21_3))]), eR, rfl⟩ (Nat.le_of_ble_eq_true rfl) (Nat.le_of_ble_eq_true rfl) dX10_eventOf_43
    · exact absurd (Int32.not_le.mp (nI_ge hj0 (by omega))) c21_3
set_option maxHeartbeats 800000 in
set_option maxRecDepth 100000 in
theorem cC_X10_eventOf_no (l : Launch) (hlt : l.stackTraces = false) (G : GT) (A : Nat → Prop) (h : AH) (b : BA) (u : MM) (hR : RC G.2.2.1 h b u) (hw : WFc u) (x i0 : Int32) (hno : ¬ (vp_in x (npN u) ∧ vp_in i0 (szN u (6 + x.toNatClampNeg)))) : cxQ l G A yX10_eventOf cX10_eventOf 4 (Option.some (FieldType.object "Routepost$Event")) 7 111 2 12 [.ref (b 14 0), .int (x), .int (i0)] h (fun r h' => xEv u x i0 = none ∧ r = some (b 5 (1024 * x.toNatClampNeg + i0.toNatClampNeg)) ∧ h' = h) (fun E h' => xEv u x i0 = some E ∧ h' = h) := by
  refine cx_of "Routepost" rfl (by decide) (Nat.le_of_ble_eq_true rfl) ?_
  intro pr e s m9 below meth c C0 hxt hr hH ls hl
  obtain ⟨hx, hb, hml, hown, hts, hK, hA, -⟩ := id C0
  have hl : lv_has ls 4 [(0, .ref (b 14 0)), (1, .int (x)), (2, .int (i0))] := hl
  have hc7 := hw.cnt6 7
  have hc8 := hw.cnt6 8
  have hc9 := hw.cnt6 9
  have hn40 := hw.np
  refine lv_aload_n hx hb dX10_eventOf_0 rfl (lv_at hl 0 rfl) ?_
  refine lv_iload_n hx hb dX10_eventOf_1 rfl (lv_at hl 1 rfl) ?_
  refine k_xq C0 hxt hH (k_xrunV (rest := []) C0 hH (cC_X10_parcelNumbered l hlt G A _ b _ hR hw x ) mv_X10_parcelNumbered ml_X10_186 ci_14 (hR.kind (K := 14) (i := 0) rfl) rfl ⟨Nat.le_of_ble_eq_true rfl, Nat.le_of_ble_eq_true rfl⟩ hl.1 rfl (Nat.le_of_ble_eq_true rfl) dX10_eventOf_2 ⟨Nat.le_of_ble_eq_true rfl, Nat.le_of_ble_eq_true rfl⟩) (fun E h9 z => ⟨by unfold xEv; exact xo_s z.1, z.2⟩) (Nat.le_of_ble_eq_true rfl) (Nat.le_of_ble_eq_true rfl) (fun r_1 h1 H locs hp hH => ?_)
  obtain ⟨exr_1, er_1, eh⟩ := hp
  rw [eh] at hH
  clear eh
  have vpv_2 : vp_in (x) (npN u) := (xPa_n hw).mp exr_1
  obtain ⟨v_2, hv_2, ev_2⟩ := vp_ex vpv_2 (by have := hw.nh; have := hw.nl; have := hw.np; omega)
  have kv_2 : (x).toNatClampNeg = v_2 := by rw [ev_2]; exact nI_clamp (by have := hw.nh; have := hw.nl; have := hw.np; omega)
  rw [show dec b 9 (x) = some (b 9 v_2) from by rw [ev_2]; exact dec_nI (by have := hw.nh; have := hw.nl; have := hw.np; omega)] at er_1
  subst er_1
  refine c_getR C0 hH hR ci_9 (i := v_2) (j := 5) hv_2 rfl (by decide) rfl fl_X10_171 (v := some (b 6 v_2)) rfl dX10_eventOf_5 ?_
  refine c_getR C0 hH hR ci_6 (i := v_2) (j := 0) hv_2 rfl (by decide) rfl fl_X10_333 (v := some (b 3 (6 + v_2))) rfl dX10_eventOf_8 ?_
  refine lv_astore_n (lv' := [(3, .ref (b 3 (6 + v_2))), (0, .ref (b 14 0)), (1, .int (x)), (2, .int (i0))]) hx hb dX10_eventOf_11 rfl hl (by decide) rfl (fun ls hl => ?_)
  refine lv_iload_n hx hb dX10_eventOf_12 rfl (lv_at hl 3 rfl) ?_
  refine lv_if_lt (tgt := 24) hx hb dX10_eventOf_13 (by decide) (fun c13_3 => ?_) (fun c13_3 => ?_)
  · exact k_throwSW C0 hxt hlt hH thr_IOB (is := 375) (text := "no such event") (by decide) hl.1 dX10_eventOf_24 dX10_eventOf_27 dX10_eventOf_28 dX10_eventOf_31 dX10_eventOf_34 (Nat.le_of_ble_eq_true rfl) (Nat.le_of_ble_eq_true rfl) (Nat.le_of_ble_eq_true rfl) (Nat.le_of_ble_eq_true rfl) ⟨by unfold xEv; rw [xo_n exr_1, kv_2, if_pos (Or.inl c13_3)]; rfl, rfl⟩ (Nat.le_of_ble_eq_true rfl) (Nat.le_of_ble_eq_true rfl)
  · refine lv_iload_n hx hb dX10_eventOf_16 rfl (lv_at hl 3 rfl) ?_
    refine lv_aload_n hx hb dX10_eventOf_17 rfl (lv_at hl 0 rfl) ?_
    refine k_i hH (k_runV (rest := [.int (i0)]) C0 hH (cL_size l G A _ b _ hR hw (6 + v_2) (show 6 + v_2 < 6 + npN u by have := hv_2; omega)) mv_Jx4a65c_size_8abf5 ml_X10_79 ci_3 (hR.kind (K := 3) (i := 6 + v_2) (show 6 + v_2 < 6 + npN u by have := hv_2; omega)) rfl ⟨Nat.le_of_ble_eq_true rfl, Nat.le_of_ble_eq_true rfl⟩ hl.1 rfl (Nat.le_of_ble_eq_true rfl) dX10_eventOf_18 ⟨Nat.le_of_ble_eq_true rfl, Nat.le_of_ble_eq_true rfl⟩) (fun r9 h1 H locs hp hH => ?_)
    obtain ⟨er9, eh⟩ := hp
    rw [eh] at hH
    clear eh
    subst er9
    refine lv_icmp_lt (tgt := 35) hx hb dX10_eventOf_21 (by decide) (fun c21_4 => ?_) (fun c21_4 => ?_)
    · exact absurd ⟨by rw [ev_2]; exact vp_in_nI hv_2 (by omega), by rw [kv_2]; exact vp_of (by have := hw.sz6 hv_2; omega) c13_3 c21_4⟩ hno
    · exact k_throwSW C0 hxt hlt hH thr_IOB (is := 375) (text := "no such event") (by decide) hl.1 dX10_eventOf_24 dX10_eventOf_27 dX10_eventOf_28 dX10_eventOf_31 dX10_eventOf_34 (Nat.le_of_ble_eq_true rfl) (Nat.le_of_ble_eq_true rfl) (Nat.le_of_ble_eq_true rfl) (Nat.le_of_ble_eq_true rfl) ⟨by unfold xEv; rw [xo_n exr_1, kv_2, if_pos (Or.inr c21_4)]; rfl, rfl⟩ (Nat.le_of_ble_eq_true rfl) (Nat.le_of_ble_eq_true rfl)
theorem cC_X10_eventOf (l : Launch) (hlt : l.stackTraces = false) (G : GT) (A : Nat → Prop) (h : AH) (b : BA) (u : MM) (hR : RC G.2.2.1 h b u) (hw : WFc u) (x i0 : Int32) : cxQ l G A yX10_eventOf cX10_eventOf 4 (Option.some (FieldType.object "Routepost$Event")) 7 111 2 12 [.ref (b 14 0), .int (x), .int (i0)] h (fun r h' => xEv u x i0 = none ∧ r = some (b 5 (1024 * x.toNatClampNeg + i0.toNatClampNeg)) ∧ h' = h) (fun E h' => xEv u x i0 = some E ∧ h' = h) := by
  by_cases hx : vp_in x (npN u) ∧ vp_in i0 (szN u (6 + x.toNatClampNeg))
  · obtain ⟨v, hv, rfl⟩ := vp_ex hx.1 (by have := hw.np; omega)
    have hcv : (nI v).toNatClampNeg = v := nI_clamp (by have := hw.np; omega)
    have h2 := hx.2
    rw [hcv] at h2 ⊢
    obtain ⟨j, hj, rfl⟩ := vp_ex h2 (by have := hw.sz6 hv; omega)
    rw [nI_clamp (show j < 2 ^ 31 by have := hw.sz6 hv; omega)]
    exact cC_X10_eventOf_in l hlt G A h b u hR hw v j hv hj
  · exact cC_X10_eventOf_no l hlt G A h b u hR hw x i0 hx
set_option maxHeartbeats 800000 in
set_option maxRecDepth 100000 in
theorem cC_X10_eventKind (l : Launch) (hlt : l.stackTraces = false) (G : GT) (A : Nat → Prop) (h : AH) (b : BA) (u : MM) (hR : RC G.2.2.1 h b u) (hw : WFc u) (x i0 : Int32) (hns : narrow .char (.int (u 120 (1024 * x.toNatClampNeg + i0.toNatClampNeg))) = .int (u 120 (1024 * x.toNatClampNeg + i0.toNatClampNeg))) : cxI l G A yX10_eventKind cX10_eventKind 3 (Option.some FieldType.char) 8 134 2 12 [.ref (b 14 0), .int (x), .int (i0)] h (fun r h' => xEv u x i0 = none ∧ r = u 120 (1024 * x.toNatClampNeg + i0.toNatClampNeg) ∧ h' = h) (fun E h' => xEv u x i0 = some E ∧ h' = h) := by
  refine cx_of "Routepost" rfl (by decide) (Nat.le_of_ble_eq_true rfl) ?_
  intro pr e s m9 below meth c C0 hxt hr hH ls hl
  obtain ⟨hx, hb, hml, hown, hts, hK, hA, -⟩ := id C0
  have hl : lv_has ls 3 [(0, .ref (b 14 0)), (1, .int (x)), (2, .int (i0))] := hl
  have hc7 := hw.cnt6 7
  have hc8 := hw.cnt6 8
  have hc9 := hw.cnt6 9
  refine lv_aload_n hx hb dX10_eventKind_0 rfl (lv_at hl 0 rfl) ?_
  refine lv_iload_n hx hb dX10_eventKind_1 rfl (lv_at hl 1 rfl) ?_
  refine lv_iload_n hx hb dX10_eventKind_2 rfl (lv_at hl 2 rfl) ?_
  refine k_xq C0 hxt hH (k_xrunV (rest := []) C0 hH (cC_X10_eventOf l hlt G A _ b _ hR hw x i0 ) mv_X10_eventOf ml_X10_336 ci_14 (hR.kind (K := 14) (i := 0) rfl) rfl ⟨Nat.le_of_ble_eq_true rfl, Nat.le_of_ble_eq_true rfl⟩ hl.1 rfl (Nat.le_of_ble_eq_true rfl) dX10_eventKind_3 ⟨Nat.le_of_ble_eq_true rfl, Nat.le_of_ble_eq_true rfl⟩) (fun _ _ z => z) (Nat.le_of_ble_eq_true rfl) (Nat.le_of_ble_eq_true rfl) (fun r_1 h1 H locs hp hH => ?_)
  obtain ⟨exr_1, er_1, eh⟩ := hp
  rw [eh] at hH
  clear eh
  obtain ⟨vx5, vi5⟩ := xEv_vi hw exr_1
  obtain ⟨v5, hv5, ev5⟩ := vp_ex vx5 (by have := hw.np; omega)
  have kv5 : (x).toNatClampNeg = v5 := by rw [ev5]; exact nI_clamp (by have := hw.np; omega)
  rw [kv5] at vi5 er_1
  have hs5 := hw.sz6 hv5
  obtain ⟨j5, hj5, ej5⟩ := vp_ex vi5 (by omega)
  have kj5 : (i0).toNatClampNeg = j5 := by rw [ej5]; exact nI_clamp (by omega)
  rw [kj5] at er_1
  subst er_1
  refine c_getI C0 hH hR ci_5 (i := 1024 * v5 + j5) (j := 0) (ev_ok hw hv5 hj5) rfl (by decide) rfl fl_X10_340 (v := u 120 (1024 * v5 + j5)) rfl dX10_eventKind_6 ?_
  refine vx_ret ?_
  have eR : (u 120 (1024 * v5 + j5) : Int32) = u 120 (1024 * x.toNatClampNeg + i0.toNatClampNeg) := by rw [kv5, kj5]
  exact e_Z C0 hr (by rw [kv5, kj5] at hns; exact hns) hH ⟨exr_1, eR, rfl⟩ (Nat.le_of_ble_eq_true rfl) (Nat.le_of_ble_eq_true rfl) dX10_eventKind_9
set_option maxHeartbeats 800000 in
set_option maxRecDepth 100000 in
theorem cC_X10_eventMinute (l : Launch) (hlt : l.stackTraces = false) (G : GT) (A : Nat → Prop) (h : AH) (b : BA) (u : MM) (hR : RC G.2.2.1 h b u) (hw : WFc u) (x i0 : Int32) : cxI l G A yX10_eventMinute cX10_eventMinute 3 (Option.some FieldType.int) 8 134 2 12 [.ref (b 14 0), .int (x), .int (i0)] h (fun r h' => xEv u x i0 = none ∧ r = u 121 (1024 * x.toNatClampNeg + i0.toNatClampNeg) ∧ h' = h) (fun E h' => xEv u x i0 = some E ∧ h' = h) := by
  refine cx_of "Routepost" rfl (by decide) (Nat.le_of_ble_eq_true rfl) ?_
  intro pr e s m9 below meth c C0 hxt hr hH ls hl
  obtain ⟨hx, hb, hml, hown, hts, hK, hA, -⟩ := id C0
  have hl : lv_has ls 3 [(0, .ref (b 14 0)), (1, .int (x)), (2, .int (i0))] := hl
  have hc7 := hw.cnt6 7
  have hc8 := hw.cnt6 8
  have hc9 := hw.cnt6 9
  refine lv_aload_n hx hb dX10_eventMinute_0 rfl (lv_at hl 0 rfl) ?_
  refine lv_iload_n hx hb dX10_eventMinute_1 rfl (lv_at hl 1 rfl) ?_
  refine lv_iload_n hx hb dX10_eventMinute_2 rfl (lv_at hl 2 rfl) ?_
  refine k_xq C0 hxt hH (k_xrunV (rest := []) C0 hH (cC_X10_eventOf l hlt G A _ b _ hR hw x i0 ) mv_X10_eventOf ml_X10_336 ci_14 (hR.kind (K := 14) (i := 0) rfl) rfl ⟨Nat.le_of_ble_eq_true rfl, Nat.le_of_ble_eq_true rfl⟩ hl.1 rfl (Nat.le_of_ble_eq_true rfl) dX10_eventMinute_3 ⟨Nat.le_of_ble_eq_true rfl, Nat.le_of_ble_eq_true rfl⟩) (fun _ _ z => z) (Nat.le_of_ble_eq_true rfl) (Nat.le_of_ble_eq_true rfl) (fun r_1 h1 H locs hp hH => ?_)
  obtain ⟨exr_1, er_1, eh⟩ := hp
  rw [eh] at hH
  clear eh
  obtain ⟨vx5, vi5⟩ := xEv_vi hw exr_1
  obtain ⟨v5, hv5, ev5⟩ := vp_ex vx5 (by have := hw.np; omega)
  have kv5 : (x).toNatClampNeg = v5 := by rw [ev5]; exact nI_clamp (by have := hw.np; omega)
  rw [kv5] at vi5 er_1
  have hs5 := hw.sz6 hv5
  obtain ⟨j5, hj5, ej5⟩ := vp_ex vi5 (by omega)
  have kj5 : (i0).toNatClampNeg = j5 := by rw [ej5]; exact nI_clamp (by omega)
  rw [kj5] at er_1
  subst er_1
  refine c_getI C0 hH hR ci_5 (i := 1024 * v5 + j5) (j := 1) (ev_ok hw hv5 hj5) rfl (by decide) rfl fl_X10_345 (v := u 121 (1024 * v5 + j5)) rfl dX10_eventMinute_6 ?_
  refine vx_ret ?_
  have eR : (u 121 (1024 * v5 + j5) : Int32) = u 121 (1024 * x.toNatClampNeg + i0.toNatClampNeg) := by rw [kv5, kj5]
  exact e_I C0 hr hH ⟨exr_1, eR, rfl⟩ (Nat.le_of_ble_eq_true rfl) (Nat.le_of_ble_eq_true rfl) dX10_eventMinute_9
set_option maxHeartbeats 800000 in
set_option maxRecDepth 100000 in
theorem cC_X10_eventHub (l : Launch) (hlt : l.stackTraces = false) (G : GT) (A : Nat → Prop) (h : AH) (b : BA) (u : MM) (hR : RC G.2.2.1 h b u) (hw : WFc u) (x i0 : Int32) : cxI l G A yX10_eventHub cX10_eventHub 3 (Option.some FieldType.int) 8 134 2 12 [.ref (b 14 0), .int (x), .int (i0)] h (fun r h' => xEv u x i0 = none ∧ r = u 122 (1024 * x.toNatClampNeg + i0.toNatClampNeg) ∧ h' = h) (fun E h' => xEv u x i0 = some E ∧ h' = h) := by
  refine cx_of "Routepost" rfl (by decide) (Nat.le_of_ble_eq_true rfl) ?_
  intro pr e s m9 below meth c C0 hxt hr hH ls hl
  obtain ⟨hx, hb, hml, hown, hts, hK, hA, -⟩ := id C0
  have hl : lv_has ls 3 [(0, .ref (b 14 0)), (1, .int (x)), (2, .int (i0))] := hl
  have hc7 := hw.cnt6 7
  have hc8 := hw.cnt6 8
  have hc9 := hw.cnt6 9
  refine lv_aload_n hx hb dX10_eventHub_0 rfl (lv_at hl 0 rfl) ?_
  refine lv_iload_n hx hb dX10_eventHub_1 rfl (lv_at hl 1 rfl) ?_
  refine lv_iload_n hx hb dX10_eventHub_2 rfl (lv_at hl 2 rfl) ?_
  refine k_xq C0 hxt hH (k_xrunV (rest := []) C0 hH (cC_X10_eventOf l hlt G A _ b _ hR hw x i0 ) mv_X10_eventOf ml_X10_336 ci_14 (hR.kind (K := 14) (i := 0) rfl) rfl ⟨Nat.le_of_ble_eq_true rfl, Nat.le_of_ble_eq_true rfl⟩ hl.1 rfl (Nat.le_of_ble_eq_true rfl) dX10_eventHub_3 ⟨Nat.le_of_ble_eq_true rfl, Nat.le_of_ble_eq_true rfl⟩) (fun _ _ z => z) (Nat.le_of_ble_eq_true rfl) (Nat.le_of_ble_eq_true rfl) (fun r_1 h1 H locs hp hH => ?_)
  obtain ⟨exr_1, er_1, eh⟩ := hp
  rw [eh] at hH
  clear eh
  obtain ⟨vx5, vi5⟩ := xEv_vi hw exr_1
  obtain ⟨v5, hv5, ev5⟩ := vp_ex vx5 (by have := hw.np; omega)
  have kv5 : (x).toNatClampNeg = v5 := by rw [ev5]; exact nI_clamp (by have := hw.np; omega)
  rw [kv5] at vi5 er_1
  have hs5 := hw.sz6 hv5
  obtain ⟨j5, hj5, ej5⟩ := vp_ex vi5 (by omega)
  have kj5 : (i0).toNatClampNeg = j5 := by rw [ej5]; exact nI_clamp (by omega)
  rw [kj5] at er_1
  subst er_1
  obtain ⟨v_2, hv_2, ev_2⟩ := hw.exH (show vp_in (u 122 (1024 * v5 + j5)) _ from (hw.evh (ev_ok hw hv5 hj5)))
  have kv_2 : (u 122 (1024 * v5 + j5)).toNatClampNeg = v_2 := by rw [ev_2]; exact nI_clamp (by have := hw.nh; have := hw.np; omega)
  refine c_getR C0 hH hR ci_5 (i := 1024 * v5 + j5) (j := 2) (ev_ok hw hv5 hj5) rfl (by decide) rfl fl_X10_348 (v := some (b 7 v_2)) (show dec b 7 (u 122 (1024 * v5 + j5)) = some (b 7 v_2) from by rw [show u 122 (1024 * v5 + j5) = nI v_2 from Eq.trans rfl ev_2]; exact dec_nI (by have := hc7; have := (show v_2 < cnt u 7 from hv_2); omega)) dX10_eventHub_6 ?_
  refine c_getI C0 hH hR ci_7 (i := v_2) (j := 0) hv_2 rfl (by decide) rfl fl_X10_97 (v := u 122 (1024 * v5 + j5)) ev_2.symm dX10_eventHub_9 ?_
  refine vx_ret ?_
  have eR : (u 122 (1024 * v5 + j5) : Int32) = u 122 (1024 * x.toNatClampNeg + i0.toNatClampNeg) := by rw [kv5, kj5]
  exact e_I C0 hr hH ⟨exr_1, eR, rfl⟩ (Nat.le_of_ble_eq_true rfl) (Nat.le_of_ble_eq_true rfl) dX10_eventHub_12
set_option maxHeartbeats 800000 in
set_option maxRecDepth 100000 in
theorem cC_X10_hubByTrying (l : Launch) (hlt : l.stackTraces = false) (G : GT) (A : Nat → Prop) (h : AH) (b : BA) (u : MM) (hR : RC G.2.2.1 h b u) (hw : WFc u) (x : Int32) : cxI l G A yX10_hubByTrying cX10_hubByTrying 5 (Option.some FieldType.int) 6 90 1 6 [.ref (b 14 0), .int (x)] h (fun r h' => xAd x = none ∧ r = cHt u x ∧ h' = h) (fun E h' => xAd x = some E ∧ h' = h) := by
  refine cx_of "Routepost" rfl (by decide) (Nat.le_of_ble_eq_true rfl) ?_
  intro pr e s m9 below meth c C0 hxt hr hH ls hl
  obtain ⟨hx, hb, hml, hown, hts, hK, hA, -⟩ := id C0
  have hl : lv_has ls 5 [(0, .ref (b 14 0)), (1, .int (x))] := hl
  have hc7 := hw.cnt6 7
  have hc8 := hw.cnt6 8
  have hc9 := hw.cnt6 9
  refine lv_iload_n hx hb dX10_hubByTrying_0 rfl (lv_at hl 1 rfl) ?_
  refine k_i hH (k_runS (rest := []) C0 hH (cC_X10_isAddress l G A _ b _ hR hw x ) mv_X10_isAddress ml_X10_131 rfl ⟨Nat.le_of_ble_eq_true rfl, Nat.le_of_ble_eq_true rfl⟩ hl.1 rfl (Nat.le_of_ble_eq_true rfl) dX10_hubByTrying_1 ⟨Nat.le_of_ble_eq_true rfl, Nat.le_of_ble_eq_true rfl⟩) (fun r_1 h1 H locs hp hH => ?_)
  obtain ⟨er_1, eh⟩ := hp
  rw [eh] at hH
  clear eh
  subst er_1
  refine lv_if_ne (tgt := 17) hx hb dX10_hubByTrying_4 (by decide) (fun c4_2 => ?_) (fun c4_2 => ?_)
  · have hxa0 : xAd x = none := if_neg c4_2
    refine lv_null hx hb dX10_hubByTrying_17 ?_
    refine lv_astore_nN (lv' := [(2, .null), (0, .ref (b 14 0)), (1, .int (x))]) hx hb dX10_hubByTrying_18 rfl hl (by decide) rfl (fun ls hl => ?_)
    refine lv_iconst (v := 0) hx hb dX10_hubByTrying_19 (by decide) ?_
    refine lv_istore_n (lv' := [(3, .int (0)), (2, .null), (0, .ref (b 14 0)), (1, .int (x))]) hx hb dX10_hubByTrying_20 rfl hl (by decide) rfl (fun ls hl => ?_)
    have K : ∀ (k : Nat) (h0 : Nat) (y : Int32), h0 + k = nhN u → cHtL u x k h0 y = cHt u x → (y = -1 ∨ ∃ v, v < nhN u ∧ y = nI v) → ∀ (H : Heap) (locs : List Loc) (hH : HS G.1 G.2.1 A s.heap h H locs) (ls : Array Slot), lv_has ls 5 [(3, .int (nI h0)), (2, va_rf (dec b 7 y)), (0, .ref (b 14 0)), (1, .int (x))] → W pr l e (rmm 6 90 1 6) s m9 ([.ref (b 14 0), .int (x)] : List Value).toArray below meth c H locs 0 0 (vx_MQ below (va_Qi (fun r h' => xAd x = none ∧ r = cHt u x ∧ h' = h) (fun h' t => HW G.1 G.2.1 A h' t.heap) A) (xcP G A (fun E h' => xAd x = some E ∧ h' = h)) ([.ref (b 14 0), .int (x)] : List Value).toArray s 1 6 A) (F0 m9 21 ls []) := by
      intro k
      induction k with
      | zero =>
        intro h0 y hik hT hyo H locs hH ls hl
        refine lv_iload_n hx hb dX10_hubByTrying_21 rfl (lv_at hl 0 rfl) ?_
        refine lv_aload_n hx hb dX10_hubByTrying_22 rfl (lv_at hl 2 rfl) ?_
        refine c_getR C0 hH hR ci_14 (i := 0) (j := 0) rfl rfl (by decide) rfl fl_X10_12 (v := some (b 3 0)) rfl dX10_hubByTrying_23 ?_
        refine k_i hH (k_runV (rest := [.int (nI h0)]) C0 hH (cL_size l G A _ b _ hR hw 0 (show 0 < 6 + npN _ by omega)) mv_Jx4a65c_size_8abf5 ml_X10_79 ci_3 (hR.kind (K := 3) (i := 0) (show 0 < 6 + npN _ by omega)) rfl ⟨Nat.le_of_ble_eq_true rfl, Nat.le_of_ble_eq_true rfl⟩ hl.1 rfl (Nat.le_of_ble_eq_true rfl) dX10_hubByTrying_26 ⟨Nat.le_of_ble_eq_true rfl, Nat.le_of_ble_eq_true rfl⟩) (fun r9 h1 H locs hp hH => ?_)
        obtain ⟨er9, eh⟩ := hp
        rw [eh] at hH
        clear eh
        rw [hw.sz0] at er9
        subst er9
        refine lv_icmp_ge (tgt := 82) hx hb dX10_hubByTrying_29 (by decide) (fun c29_3 => ?_) (fun c29_3 => ?_)
        · refine o_aload_n_q hx hb dX10_hubByTrying_82 rfl (lv_at hl 1 rfl) ?_
          refine k_i hH (k_runS (rest := []) C0 hH (cC_X10_numberOf l G A _ b _ hR hw y hyo) mv_X10_numberOf ml_X10_139 rfl ⟨Nat.le_of_ble_eq_true rfl, Nat.le_of_ble_eq_true rfl⟩ hl.1 rfl (Nat.le_of_ble_eq_true rfl) dX10_hubByTrying_83 ⟨Nat.le_of_ble_eq_true rfl, Nat.le_of_ble_eq_true rfl⟩) (fun r_4 h1 H locs hp hH => ?_)
          obtain ⟨er_4, eh⟩ := hp
          rw [eh] at hH
          clear eh
          rw [er_4]
          refine vx_ret ?_
          have eR : (y : Int32) = cHt u x := by rw [← hT]; rfl
          exact e_I C0 hr hH ⟨hxa0, eR, rfl⟩ (Nat.le_of_ble_eq_true rfl) (Nat.le_of_ble_eq_true rfl) dX10_hubByTrying_86
        · exact absurd (by rw [show h0 = nhN u by omega]; exact Int32.le_refl _) c29_3
      | succ k ih =>
        intro h0 y hik hT hyo H locs hH ls hl
        refine lv_iload_n hx hb dX10_hubByTrying_21 rfl (lv_at hl 0 rfl) ?_
        refine lv_aload_n hx hb dX10_hubByTrying_22 rfl (lv_at hl 2 rfl) ?_
        refine c_getR C0 hH hR ci_14 (i := 0) (j := 0) rfl rfl (by decide) rfl fl_X10_12 (v := some (b 3 0)) rfl dX10_hubByTrying_23 ?_
        refine k_i hH (k_runV (rest := [.int (nI h0)]) C0 hH (cL_size l G A _ b _ hR hw 0 (show 0 < 6 + npN _ by omega)) mv_Jx4a65c_size_8abf5 ml_X10_79 ci_3 (hR.kind (K := 3) (i := 0) (show 0 < 6 + npN _ by omega)) rfl ⟨Nat.le_of_ble_eq_true rfl, Nat.le_of_ble_eq_true rfl⟩ hl.1 rfl (Nat.le_of_ble_eq_true rfl) dX10_hubByTrying_26 ⟨Nat.le_of_ble_eq_true rfl, Nat.le_of_ble_eq_true rfl⟩) (fun r9 h1 H locs hp hH => ?_)
        obtain ⟨er9, eh⟩ := hp
        rw [eh] at hH
        clear eh
        rw [hw.sz0] at er9
        subst er9
        refine lv_icmp_ge (tgt := 82) hx hb dX10_hubByTrying_29 (by decide) (fun c29_5 => ?_) (fun c29_5 => ?_)
        · exact absurd c29_5 (nI_ge (show h0 < nhN u by omega) (by have := hw.nh; omega))
        · refine lv_aload_n hx hb dX10_hubByTrying_32 rfl (lv_at hl 2 rfl) ?_
          refine c_getR C0 hH hR ci_14 (i := 0) (j := 0) rfl rfl (by decide) rfl fl_X10_12 (v := some (b 3 0)) rfl dX10_hubByTrying_33 ?_
          refine lv_iload_n hx hb dX10_hubByTrying_36 rfl (lv_at hl 0 rfl) ?_
          refine k_q hH (k_runV (rest := []) C0 hH (cL_get l G A _ b _ hR hw 0 h0 (show 0 < 6 + npN _ by omega) (by rw [hw.sz0]; omega) (a := b 7 h0) rfl) mv_Jx4a65c_get_915e3 ml_X10_143 ci_3 (hR.kind (K := 3) (i := 0) (show 0 < 6 + npN _ by omega)) rfl ⟨Nat.le_of_ble_eq_true rfl, Nat.le_of_ble_eq_true rfl⟩ hl.1 rfl (Nat.le_of_ble_eq_true rfl) dX10_hubByTrying_37 ⟨Nat.le_of_ble_eq_true rfl, Nat.le_of_ble_eq_true rfl⟩) (fun r9 h1 H locs hp hH => ?_)
          obtain ⟨er9, eh⟩ := hp
          rw [eh] at hH
          clear eh
          subst er9
          refine k_chk C0 hH ci_7 (hR.kind (K := 7) (i := h0) (show h0 < nhN u by omega)) cl_X10_88 dX10_hubByTrying_40 ?_
          refine lv_astore (lv' := [(4, .ref (b 7 h0)), (3, .int (nI h0)), (2, va_rf (dec b 7 y)), (0, .ref (b 14 0)), (1, .int (x))]) hx hb dX10_hubByTrying_43 hl (by decide) rfl (fun ls hl => ?_)
          refine lv_aload hx hb dX10_hubByTrying_45 (lv_at hl 0 rfl) ?_
          refine c_getI C0 hH hR ci_7 (i := h0) (j := 1) (show h0 < nhN u by omega) rfl (by decide) rfl fl_X10_147 (v := u 0 h0) rfl dX10_hubByTrying_47 ?_
          refine lv_iload_n hx hb dX10_hubByTrying_50 rfl (lv_at hl 4 rfl) ?_
          refine k_i hH (k_runS (rest := []) C0 hH (cC_X10_isPrefix l G A _ b _ hR hw (u 0 h0) x ) mv_X10_isPrefix ml_X10_150 rfl ⟨Nat.le_of_ble_eq_true rfl, Nat.le_of_ble_eq_true rfl⟩ hl.1 rfl (Nat.le_of_ble_eq_true rfl) dX10_hubByTrying_51 ⟨Nat.le_of_ble_eq_true rfl, Nat.le_of_ble_eq_true rfl⟩) (fun r_6 h1 H locs hp hH => ?_)
          obtain ⟨er_6, eh⟩ := hp
          rw [eh] at hH
          clear eh
          subst er_6
          refine lv_if_eq (tgt := 76) hx hb dX10_hubByTrying_54 (by decide) (fun c54_7 => ?_) (fun c54_7 => ?_)
          · refine lv_iinc (v := nI (h0 + 1)) (lv' := [(3, .int (nI (h0 + 1))), (4, .ref (b 7 h0)), (2, va_rf (dec b 7 y)), (0, .ref (b 14 0)), (1, .int (x))]) hx hb dX10_hubByTrying_76 hl (k := 1) rfl (by rw [← nI_1]; rfl) (by decide) (by simp [va_rf_cat]) (fun ls hl => ?_)
            refine lv_goto (tgt := 21) hx hb dX10_hubByTrying_79 (by decide) ?_
            exact ih (h0 + 1) y (by omega) (by rw [← hT]; simp only [cHtL]; congr 1; simp [c29_5, Int32.not_le.mp c29_5, eq_true c54_7]) hyo _ _ hH ls (by first | exact lv_sub hl [0, 2, 3, 4] rfl | (rw [dec_nI (show h0 < 2 ^ 31 by have := hw.nh; omega)]; exact lv_sub hl [0, 2, 3, 4] rfl))
          · refine o_aload_n_q hx hb dX10_hubByTrying_57 rfl (lv_at hl 2 rfl) ?_
            rcases (id hyo) with es_8 | ⟨s_8, hs_8, es_8⟩
            · have eds_8 : dec b 7 (y) = none := by rw [es_8]; exact dec_m1
              rw [eds_8]
              rw [eds_8] at hl
              refine lv_ifnullN (tgt := 73) hx hb dX10_hubByTrying_58 (by decide) ?_
              refine lv_aload hx hb dX10_hubByTrying_73 (lv_at hl 0 rfl) ?_
              refine lv_astore_n (lv' := [(2, .ref (b 7 h0)), (4, .ref (b 7 h0)), (3, .int (nI h0)), (0, .ref (b 14 0)), (1, .int (x))]) hx hb dX10_hubByTrying_75 rfl hl (by decide) rfl (fun ls hl => ?_)
              refine lv_iinc (v := nI (h0 + 1)) (lv' := [(3, .int (nI (h0 + 1))), (2, .ref (b 7 h0)), (4, .ref (b 7 h0)), (0, .ref (b 14 0)), (1, .int (x))]) hx hb dX10_hubByTrying_76 hl (k := 2) rfl (by rw [← nI_1]; rfl) (by decide) rfl (fun ls hl => ?_)
              refine lv_goto (tgt := 21) hx hb dX10_hubByTrying_79 (by decide) ?_
              exact ih (h0 + 1) (nI h0) (by omega) (by rw [← hT]; simp only [cHtL]; congr 1; simp [c29_5, Int32.not_le.mp c29_5, eq_false c54_7, eq_true es_8]) (Or.inr ⟨h0, by omega, rfl⟩) _ _ hH ls (by first | exact lv_sub hl [0, 1, 3, 4] rfl | (rw [dec_nI (show h0 < 2 ^ 31 by have := hw.nh; omega)]; exact lv_sub hl [0, 1, 3, 4] rfl) | (rw [eds_8]; exact lv_sub hl [0, 1, 3, 4] rfl))
            · have eds_8 : dec b 7 (y) = some (b 7 s_8) := by rw [es_8]; exact dec_nI (by have := hc7; have h9 : s_8 < cnt u 7 := hs_8; omega)
              have ks_8 : (y).toNatClampNeg = s_8 := by rw [es_8]; exact nI_clamp (by have := hc7; have h9 : s_8 < cnt u 7 := hs_8; omega)
              have ns_8 : ¬ y = -1 := by rw [es_8]; exact nI_nm (by have := hc7; have h9 : s_8 < cnt u 7 := hs_8; omega)
              rw [eds_8]
              rw [eds_8] at hl
              refine lv_ifnull hx hb dX10_hubByTrying_58 ?_
              refine lv_aload hx hb dX10_hubByTrying_61 (lv_at hl 0 rfl) ?_
              refine c_getI C0 hH hR ci_7 (i := h0) (j := 1) (show h0 < nhN u by omega) rfl (by decide) rfl fl_X10_147 (v := u 0 h0) rfl dX10_hubByTrying_63 ?_
              refine lv_aload_n hx hb dX10_hubByTrying_66 rfl (lv_at hl 2 rfl) ?_
              refine c_getI C0 hH hR ci_7 (i := s_8) (j := 1) hs_8 rfl (by decide) rfl fl_X10_147 (v := u 0 s_8) rfl dX10_hubByTrying_67 ?_
              refine lv_icmp_le (tgt := 76) hx hb dX10_hubByTrying_70 (by decide) (fun c70_9 => ?_) (fun c70_9 => ?_)
              · refine lv_iinc (v := nI (h0 + 1)) (lv' := [(3, .int (nI (h0 + 1))), (4, .ref (b 7 h0)), (2, .ref (b 7 s_8)), (0, .ref (b 14 0)), (1, .int (x))]) hx hb dX10_hubByTrying_76 hl (k := 1) rfl (by rw [← nI_1]; rfl) (by decide) rfl (fun ls hl => ?_)
                refine lv_goto (tgt := 21) hx hb dX10_hubByTrying_79 (by decide) ?_
                exact ih (h0 + 1) y (by omega) (by rw [← hT]; simp only [cHtL]; congr 1; simp [ks_8, c29_5, Int32.not_le.mp c29_5, eq_false c54_7, eq_false ns_8, c70_9, Int32.not_lt.mpr c70_9]) hyo _ _ hH ls (by first | exact lv_sub hl [0, 2, 3, 4] rfl | (rw [dec_nI (show h0 < 2 ^ 31 by have := hw.nh; omega)]; exact lv_sub hl [0, 2, 3, 4] rfl) | (rw [eds_8]; exact lv_sub hl [0, 2, 3, 4] rfl))
              · refine lv_aload hx hb dX10_hubByTrying_73 (lv_at hl 0 rfl) ?_
                refine lv_astore_n (lv' := [(2, .ref (b 7 h0)), (4, .ref (b 7 h0)), (3, .int (nI h0)), (0, .ref (b 14 0)), (1, .int (x))]) hx hb dX10_hubByTrying_75 rfl hl (by decide) rfl (fun ls hl => ?_)
                refine lv_iinc (v := nI (h0 + 1)) (lv' := [(3, .int (nI (h0 + 1))), (2, .ref (b 7 h0)), (4, .ref (b 7 h0)), (0, .ref (b 14 0)), (1, .int (x))]) hx hb dX10_hubByTrying_76 hl (k := 2) rfl (by rw [← nI_1]; rfl) (by decide) rfl (fun ls hl => ?_)
                refine lv_goto (tgt := 21) hx hb dX10_hubByTrying_79 (by decide) ?_
                exact ih (h0 + 1) (nI h0) (by omega) (by rw [← hT]; simp only [cHtL]; congr 1; simp [ks_8, c29_5, Int32.not_le.mp c29_5, eq_false c54_7, eq_false ns_8, c70_9, Int32.not_le.mp c70_9]) (Or.inr ⟨h0, by omega, rfl⟩) _ _ hH ls (by first | exact lv_sub hl [0, 1, 3, 4] rfl | (rw [dec_nI (show h0 < 2 ^ 31 by have := hw.nh; omega)]; exact lv_sub hl [0, 1, 3, 4] rfl) | (rw [eds_8]; exact lv_sub hl [0, 1, 3, 4] rfl))
    have hxa : xAd x = none := if_neg c4_2
    exact K (nhN u) 0 (-1) (by omega) rfl (Or.inl rfl) _ _ hH ls (by rw [dec_m1]; exact lv_sub hl [0, 1, 2, 3] rfl)
  · exact k_throwS C0 hxt hlt hH thr_IAE (is := 134) (text := "no address") (by decide) hl.1 dX10_hubByTrying_7 dX10_hubByTrying_10 dX10_hubByTrying_11 dX10_hubByTrying_13 dX10_hubByTrying_16 (Nat.le_of_ble_eq_true rfl) (Nat.le_of_ble_eq_true rfl) (Nat.le_of_ble_eq_true rfl) (Nat.le_of_ble_eq_true rfl) ⟨by unfold xAd; rw [if_pos c4_2]; rfl, rfl⟩ (Nat.le_of_ble_eq_true rfl) (Nat.le_of_ble_eq_true rfl)
