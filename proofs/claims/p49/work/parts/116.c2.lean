theorem cOpenB_01 (u : MM) (q n p : Nat) (most : Int32) : (cOpenB u q n p most).1 = 0 ∨ (cOpenB u q n p most).1 = 1 := by
  unfold cOpenB
  split
  · exact Or.inl rfl
  · exact Or.inr rfl
theorem cOpenB_nar (u : MM) (q n p : Nat) (most : Int32) : narrow .boolean (.int (cOpenB u q n p most).1) = .int (cOpenB u q n p most).1 := by
  rcases cOpenB_01 u q n p most with h | h <;> rw [h] <;> decide
set_option maxHeartbeats 800000 in
set_option maxRecDepth 100000 in
theorem cC_X0_clear (l : Launch) (G : GT) (A : Nat → Prop) (h : AH) (b : BA) (u : MM) (hR : RC G.2.2.1 h b u) (hw : WFc u) (q : Nat) (hq : ok u 4 q) : cmV l G A yX0_clear cX0_clear 1 0 0 0 0 [.ref (b 4 q)] h (fun h' => RC G.2.2.1 h' b (up u 8 q 0) ∧ WFc (up u 8 q 0)) := by
  refine cm_of "Routepost$Bags" rfl (by decide) (Nat.le_of_ble_eq_true rfl) ?_
  intro pr e s m9 below meth c C0 hr hname hH ls hl
  obtain ⟨hx, hb, hml, hown, hts, hK, hA, -⟩ := id C0
  have hl : lv_has ls 1 [(0, .ref (b 4 q))] := hl
  have hc7 := hw.cnt6 7
  have hc8 := hw.cnt6 8
  have hc9 := hw.cnt6 9
  refine lv_aload_n hx hb dX0_clear_0 rfl (lv_at hl 0 rfl) ?_
  refine lv_iconst (v := 0) hx hb dX0_clear_1 (by decide) ?_
  refine c_putI C0 hH hR ci_4 (i := q) (j := 2) hq rfl (k := 8) rfl (by decide) (by decide) rfl fl_X0_21 rfl (x := 0) rfl rfl dX0_clear_2 (fun h H locs hH hR => ?_)
  replace hw := hw.upx (k := 8) (i := q) (x := 0) (by unfold kWc kSz; decide)
  have eM : (up u 8 q 0) = (up u 8 q 0) := rfl
  exact e_V C0 hr hH (by rw [eM]; exact ⟨hR, hw⟩) (Nat.le_of_ble_eq_true rfl) (Nat.le_of_ble_eq_true rfl) dX0_clear_5
set_option maxHeartbeats 800000 in
set_option maxRecDepth 100000 in
theorem cC_X0_has (l : Launch) (G : GT) (A : Nat → Prop) (h : AH) (b : BA) (u : MM) (hR : RC G.2.2.1 h b u) (hw : WFc u) (q n : Nat) (x : Int32) (hq : ok u 4 q) (hn : len20 q = n) : cmI l G A yX0_has cX0_has 2 (Option.some FieldType.boolean) 0 0 0 0 [.ref (b 4 q), .int (x)] h (fun r h' => r = cHas u q n x ∧ h' = h) := by
  refine cm_of "Routepost$Bags" rfl (by decide) (Nat.le_of_ble_eq_true rfl) ?_
  intro pr e s m9 below meth c C0 hr hname hH ls hl
  obtain ⟨hx, hb, hml, hown, hts, hK, hA, -⟩ := id C0
  have hl : lv_has ls 2 [(0, .ref (b 4 q)), (1, .int (x))] := hl
  have hc7 := hw.cnt6 7
  have hc8 := hw.cnt6 8
  have hc9 := hw.cnt6 9
  refine lv_iload_n hx hb dX0_has_0 rfl (lv_at hl 1 rfl) ?_
  refine lv_if_lt (tgt := 25) hx hb dX0_has_1 (by decide) (fun c1_1 => ?_) (fun c1_1 => ?_)
  · refine lv_iconst (v := 0) hx hb dX0_has_25 (by decide) ?_
    have eR : (0 : Int32) = cHas u q n x := by simp [cHas, bi, c1_1, Int32.not_le.mpr c1_1]
    exact e_Z C0 hr (by decide) hH ⟨eR, rfl⟩ (Nat.le_of_ble_eq_true rfl) (Nat.le_of_ble_eq_true rfl) dX0_has_26
  · refine lv_iload_n hx hb dX0_has_4 rfl (lv_at hl 1 rfl) ?_
    refine lv_aload_n hx hb dX0_has_5 rfl (lv_at hl 0 rfl) ?_
    refine c_getI C0 hH hR ci_4 (i := q) (j := 2) hq rfl (by decide) rfl fl_X0_21 (v := u 8 q) rfl dX0_has_6 ?_
    refine lv_icmp_ge (tgt := 25) hx hb dX0_has_9 (by decide) (fun c9_2 => ?_) (fun c9_2 => ?_)
    · refine lv_iconst (v := 0) hx hb dX0_has_25 (by decide) ?_
      have eR : (0 : Int32) = cHas u q n x := by simp [cHas, bi, c1_1, Int32.not_lt.mp c1_1, c9_2, Int32.not_lt.mpr c9_2]
      exact e_Z C0 hr (by decide) hH ⟨eR, rfl⟩ (Nat.le_of_ble_eq_true rfl) (Nat.le_of_ble_eq_true rfl) dX0_has_26
    · refine lv_iload_n hx hb dX0_has_12 rfl (lv_at hl 1 rfl) ?_
      refine lv_aload_n hx hb dX0_has_13 rfl (lv_at hl 0 rfl) ?_
      refine c_getR C0 hH hR ci_4 (i := q) (j := 1) hq rfl (by decide) rfl fl_X0_17 (v := some (b 20 q)) rfl dX0_has_14 ?_
      refine c_len20 C0 hH hR (i := q) (hq.elim Or.inl (fun z => Or.inr (Or.inl z))) dX0_has_17 ?_
      rw [show len20 q = n from hn]
      refine lv_icmp_ge (tgt := 25) hx hb dX0_has_18 (by decide) (fun c18_3 => ?_) (fun c18_3 => ?_)
      · refine lv_iconst (v := 0) hx hb dX0_has_25 (by decide) ?_
        have eR : (0 : Int32) = cHas u q n x := by simp [cHas, bi, c1_1, Int32.not_lt.mp c1_1, c9_2, Int32.not_le.mp c9_2, c18_3, Int32.not_lt.mpr c18_3]
        exact e_Z C0 hr (by decide) hH ⟨eR, rfl⟩ (Nat.le_of_ble_eq_true rfl) (Nat.le_of_ble_eq_true rfl) dX0_has_26
      · refine lv_iconst (v := 1) hx hb dX0_has_21 (by decide) ?_
        refine lv_goto (tgt := 26) hx hb dX0_has_22 (by decide) ?_
        have eR : (1 : Int32) = cHas u q n x := by simp [cHas, bi, c1_1, Int32.not_lt.mp c1_1, c9_2, Int32.not_le.mp c9_2, c18_3, Int32.not_le.mp c18_3]
        exact e_Z C0 hr (by decide) hH ⟨eR, rfl⟩ (Nat.le_of_ble_eq_true rfl) (Nat.le_of_ble_eq_true rfl) dX0_has_26
set_option maxHeartbeats 800000 in
set_option maxRecDepth 100000 in
theorem cC_X0_volumeOf (l : Launch) (G : GT) (A : Nat → Prop) (h : AH) (b : BA) (u : MM) (hR : RC G.2.2.1 h b u) (hw : WFc u) (q n : Nat) (x : Int32) (hq : ok u 4 q) (hn : len20 q = n) : cmI l G A yX0_volumeOf cX0_volumeOf 2 (Option.some FieldType.int) 1 21 0 0 [.ref (b 4 q), .int (x)] h (fun r h' => r = cVol u q n x ∧ h' = h) := by
  refine cm_of "Routepost$Bags" rfl (by decide) (Nat.le_of_ble_eq_true rfl) ?_
  intro pr e s m9 below meth c C0 hr hname hH ls hl
  obtain ⟨hx, hb, hml, hown, hts, hK, hA, -⟩ := id C0
  have hl : lv_has ls 2 [(0, .ref (b 4 q)), (1, .int (x))] := hl
  have hc7 := hw.cnt6 7
  have hc8 := hw.cnt6 8
  have hc9 := hw.cnt6 9
  have hn40 : n ≤ 40 ∧ 4 ≤ n := by rw [← hn]; unfold len20; split <;> omega
  have hq13 : q < 13 := by have := hw.nl; rcases hq with z | z <;> omega
  refine lv_aload_n hx hb dX0_volumeOf_0 rfl (lv_at hl 0 rfl) ?_
  refine lv_iload_n hx hb dX0_volumeOf_1 rfl (lv_at hl 1 rfl) ?_
  refine k_i hH (k_runV (rest := []) C0 hH (cC_X0_has l G A _ b _ hR hw q n x hq hn) mv_X0_has ml_X0_25 ci_4 (hR.kind (K := 4) (i := q) hq) rfl ⟨Nat.le_of_ble_eq_true rfl, Nat.le_of_ble_eq_true rfl⟩ hl.1 rfl (Nat.le_of_ble_eq_true rfl) dX0_volumeOf_2 (by simp)) (fun r_1 h1 H locs hp hH => ?_)
  obtain ⟨er_1, eh⟩ := hp
  rw [eh] at hH
  clear eh
  subst er_1
  refine lv_if_eq (tgt := 17) hx hb dX0_volumeOf_5 (by decide) (fun c5_2 => ?_) (fun c5_2 => ?_)
  · refine lv_iconst (v := 0) hx hb dX0_volumeOf_17 (by decide) ?_
    have eR : (0 : Int32) = cVol u q n x := by unfold cVol; rw [if_neg (by simpa using c5_2)]
    exact e_I C0 hr hH ⟨eR, rfl⟩ (Nat.le_of_ble_eq_true rfl) (Nat.le_of_ble_eq_true rfl) dX0_volumeOf_18
  · have hh : 0 ≤ x ∧ x < u 8 q ∧ x < nI n := by have := c5_2; unfold cHas at this; exact bi_n0.mp this
    obtain ⟨k0, hk0, e0⟩ := nI_of (show ¬ x < 0 from Int32.not_lt.mpr hh.1)
    have hk1 : k0 < n := by have := hh.2.2; rw [e0] at this; exact (nI_ltI hk0 (by omega)).mp this
    rw [show (1, Value.int x) = (1, Value.int (nI k0)) from by rw [e0]] at hl
    refine lv_aload_n hx hb dX0_volumeOf_8 rfl (lv_at hl 0 rfl) ?_
    refine c_getR C0 hH hR ci_4 (i := q) (j := 1) hq rfl (by decide) rfl fl_X0_17 (v := some (b 20 q)) rfl dX0_volumeOf_9 ?_
    refine lv_iload_n hx hb dX0_volumeOf_12 rfl (lv_at hl 1 rfl) ?_
    refine c_ld20 C0 hH hR (i := q) (hq.elim Or.inl (fun z => Or.inr (Or.inl z))) (k := k0) rfl (by rw [hn]; exact hk1) (v := u 10 (40 * q + k0)) (show c20 u q k0 = _ from by unfold c20; rw [if_pos (show q < 13 by omega)]) dX0_volumeOf_13 ?_
    refine lv_goto (tgt := 18) hx hb dX0_volumeOf_14 (by decide) ?_
    have eR : (u 10 (40 * q + k0) : Int32) = cVol u q n x := by have := c5_2; rw [e0] at this ⊢; unfold cVol; rw [if_pos (by simpa using this), nI_clamp hk0]
    exact e_I C0 hr hH ⟨eR, rfl⟩ (Nat.le_of_ble_eq_true rfl) (Nat.le_of_ble_eq_true rfl) dX0_volumeOf_18
set_option maxHeartbeats 800000 in
set_option maxRecDepth 100000 in
theorem cC_X0_open (l : Launch) (G : GT) (A : Nat → Prop) (h : AH) (b : BA) (u : MM) (hR : RC G.2.2.1 h b u) (hw : WFc u) (q n p : Nat) (most : Int32) (hq : ok u 4 q) (hn : len20 q = n) (hp0 : p < npN u) : cmI l G A yX0_open cX0_open 4 (Option.some FieldType.boolean) 0 0 0 0 [.ref (b 4 q), .ref (b 9 p), .int (most)] h (fun r h' => r = (cOpenB u q n p most).1 ∧ RC G.2.2.1 h' b ((cOpenB u q n p most).2) ∧ WFc ((cOpenB u q n p most).2)) := by
  refine cm_of "Routepost$Bags" rfl (by decide) (Nat.le_of_ble_eq_true rfl) ?_
  intro pr e s m9 below meth c C0 hr hname hH ls hl
  obtain ⟨hx, hb, hml, hown, hts, hK, hA, -⟩ := id C0
  have hl : lv_has ls 4 [(0, .ref (b 4 q)), (1, .ref (b 9 p)), (2, .int (most))] := hl
  have hc7 := hw.cnt6 7
  have hc8 := hw.cnt6 8
  have hc9 := hw.cnt6 9
  have hn40 : n ≤ 40 ∧ 4 ≤ n := by rw [← hn]; unfold len20; split <;> omega
  have hq13 : q < 13 := by have := hw.nl; rcases hq with z | z <;> omega
  refine lv_aload_n hx hb dX0_open_0 rfl (lv_at hl 0 rfl) ?_
  refine c_getI C0 hH hR ci_4 (i := q) (j := 2) hq rfl (by decide) rfl fl_X0_21 (v := u 8 q) rfl dX0_open_1 ?_
  refine lv_istore_n (lv' := [(3, .int (u 8 q)), (0, .ref (b 4 q)), (1, .ref (b 9 p)), (2, .int (most))]) hx hb dX0_open_4 rfl hl (by decide) rfl (fun ls hl => ?_)
  refine lv_iload_n hx hb dX0_open_5 rfl (lv_at hl 0 rfl) ?_
  refine lv_iload_n hx hb dX0_open_6 rfl (lv_at hl 3 rfl) ?_
  refine lv_icmp_ge (tgt := 32) hx hb dX0_open_7 (by decide) (fun c7_1 => ?_) (fun c7_1 => ?_)
  · refine lv_iconst (v := 0) hx hb dX0_open_32 (by decide) ?_
    have eR : (0 : Int32) = (cOpenB u q n p most).1 := by unfold cOpenB; rw [if_pos (by first | exact Or.inl (by simpa using c7_1) | exact Or.inr (Or.inl (by simpa using c7_1)) | exact Or.inr (Or.inr (by simpa using c7_1)))]
    have eM : ((cOpenB u q n p most).2) = u := by unfold cOpenB; rw [if_pos (by first | exact Or.inl (by simpa using c7_1) | exact Or.inr (Or.inl (by simpa using c7_1)) | exact Or.inr (Or.inr (by simpa using c7_1)))]
    exact e_Z C0 hr (by decide) hH ⟨eR, by rw [eM]; exact ⟨hR, hw⟩⟩ (Nat.le_of_ble_eq_true rfl) (Nat.le_of_ble_eq_true rfl) dX0_open_33
  · refine lv_iload_n hx hb dX0_open_10 rfl (lv_at hl 0 rfl) ?_
    refine lv_if_lt (tgt := 32) hx hb dX0_open_11 (by decide) (fun c11_2 => ?_) (fun c11_2 => ?_)
    · refine lv_iconst (v := 0) hx hb dX0_open_32 (by decide) ?_
      have eR : (0 : Int32) = (cOpenB u q n p most).1 := by unfold cOpenB; rw [if_pos (by first | exact Or.inl (by simpa using c11_2) | exact Or.inr (Or.inl (by simpa using c11_2)) | exact Or.inr (Or.inr (by simpa using c11_2)))]
      have eM : ((cOpenB u q n p most).2) = u := by unfold cOpenB; rw [if_pos (by first | exact Or.inl (by simpa using c11_2) | exact Or.inr (Or.inl (by simpa using c11_2)) | exact Or.inr (Or.inr (by simpa using c11_2)))]
      exact e_Z C0 hr (by decide) hH ⟨eR, by rw [eM]; exact ⟨hR, hw⟩⟩ (Nat.le_of_ble_eq_true rfl) (Nat.le_of_ble_eq_true rfl) dX0_open_33
    · refine lv_iload_n hx hb dX0_open_14 rfl (lv_at hl 0 rfl) ?_
      refine lv_aload_n hx hb dX0_open_15 rfl (lv_at hl 1 rfl) ?_
      refine c_getR C0 hH hR ci_4 (i := q) (j := 0) hq rfl (by decide) rfl fl_X0_11 (v := some (b 30 q)) rfl dX0_open_16 ?_
      refine c_len30 C0 hH hR (i := q) hq dX0_open_19 ?_
      rw [show len20 q = n from hn]
      refine lv_icmp_ge (tgt := 32) hx hb dX0_open_20 (by decide) (fun c20_3 => ?_) (fun c20_3 => ?_)
      · refine lv_iconst (v := 0) hx hb dX0_open_32 (by decide) ?_
        have eR : (0 : Int32) = (cOpenB u q n p most).1 := by unfold cOpenB; rw [if_pos (by first | exact Or.inl (by simpa using c20_3) | exact Or.inr (Or.inl (by simpa using c20_3)) | exact Or.inr (Or.inr (by simpa using c20_3)))]
        have eM : ((cOpenB u q n p most).2) = u := by unfold cOpenB; rw [if_pos (by first | exact Or.inl (by simpa using c20_3) | exact Or.inr (Or.inl (by simpa using c20_3)) | exact Or.inr (Or.inr (by simpa using c20_3)))]
        exact e_Z C0 hr (by decide) hH ⟨eR, by rw [eM]; exact ⟨hR, hw⟩⟩ (Nat.le_of_ble_eq_true rfl) (Nat.le_of_ble_eq_true rfl) dX0_open_33
      · refine lv_iload_n hx hb dX0_open_23 rfl (lv_at hl 0 rfl) ?_
        refine lv_aload_n hx hb dX0_open_24 rfl (lv_at hl 1 rfl) ?_
        refine c_getR C0 hH hR ci_4 (i := q) (j := 1) hq rfl (by decide) rfl fl_X0_17 (v := some (b 20 q)) rfl dX0_open_25 ?_
        refine c_len20 C0 hH hR (i := q) (hq.elim Or.inl (fun z => Or.inr (Or.inl z))) dX0_open_28 ?_
        rw [show len20 q = n from hn]
        refine lv_icmp_lt (tgt := 34) hx hb dX0_open_29 (by decide) (fun c29_4 => ?_) (fun c29_4 => ?_)
        · obtain ⟨k0, hk0, e0⟩ := nI_of (show ¬ u 8 q < 0 from by have := c11_2; simpa using this)
          have hk1 : k0 < n := by have := c29_4; rw [e0] at this; exact (nI_ltI hk0 (by omega)).mp this
          have hl9 := hl
          rw [show (3, Value.int (u 8 q)) = (3, Value.int (nI k0)) from by rw [e0]] at hl
          refine lv_aload_n hx hb dX0_open_34 rfl (lv_at hl 1 rfl) ?_
          refine c_getR C0 hH hR ci_4 (i := q) (j := 0) hq rfl (by decide) rfl fl_X0_11 (v := some (b 30 q)) rfl dX0_open_35 ?_
          refine lv_iload_n hx hb dX0_open_38 rfl (lv_at hl 0 rfl) ?_
          refine lv_aload_n hx hb dX0_open_39 rfl (lv_at hl 2 rfl) ?_
          obtain ⟨v_5, hv_5, ev_5⟩ := hw.exH (show vp_in (u 14 p) _ from (hw.pa hp0).2.1)
          have kv_5 : (u 14 p).toNatClampNeg = v_5 := by rw [ev_5]; exact nI_clamp (by have := hw.nh; have := hw.np; omega)
          refine c_getR C0 hH hR ci_9 (i := p) (j := 6) hp0 rfl (by decide) rfl fl_X0_29 (v := some (b 7 v_5)) (show dec b 7 (u 14 p) = some (b 7 v_5) from by rw [show u 14 p = nI v_5 from Eq.trans rfl ev_5]; exact dec_nI (by have := hc7; have := (show v_5 < cnt u 7 from hv_5); omega)) dX0_open_40 ?_
          refine c_st30 C0 hH hR hw (i := q) hq (k := k0) (v := v_5) rfl (by rw [hn]; exact hk1) hv_5 dX0_open_43 (fun h H locs hH hR => ?_)
          replace hw := hw.upr (k := 111) (i := 40 * q + k0) (x := nI v_5) (by decide) (RG_v hv_5 (hw.cnt6 7)) (fun z => absurd z (by omega)) (fun z => absurd z (by omega)) (fun z => absurd z (by omega))
          rw [← ev_5] at hR hw
          refine lv_aload_n hx hb dX0_open_44 rfl (lv_at hl 1 rfl) ?_
          refine c_getR C0 hH hR ci_4 (i := q) (j := 1) hq rfl (by decide) rfl fl_X0_17 (v := some (b 20 q)) rfl dX0_open_45 ?_
          refine lv_iload_n hx hb dX0_open_48 rfl (lv_at hl 0 rfl) ?_
          refine lv_aload_n hx hb dX0_open_49 rfl (lv_at hl 2 rfl) ?_
          refine c_getI C0 hH hR ci_9 (i := p) (j := 1) hp0 rfl (by decide) rfl fl_X0_35 (v := u 11 p) rfl dX0_open_50 ?_
          refine c_st20 C0 hH hR hw (i := q) (hq.elim Or.inl (fun z => Or.inr (Or.inl z))) (k := k0) (k0 := 10) (i0 := 40 * q + k0) rfl (by rw [hn]; exact hk1) (by rw [if_pos (show q < 13 by omega)]) (by rw [if_pos (show q < 13 by omega)]) (v := u 11 p) dX0_open_53 (fun h H locs hH hR => ?_)
          replace hw := hw.upx (k := 10) (i := 40 * q + k0) (x := u 11 p) (by unfold kWc kSz; decide)
          refine lv_aload_n hx hb dX0_open_54 rfl (lv_at hl 1 rfl) ?_
          refine lv_iload_n hx hb dX0_open_55 rfl (lv_at hl 0 rfl) ?_
          refine lv_iconst (v := 1) hx hb dX0_open_56 (by decide) ?_
          refine lv_iadd hx hb dX0_open_57 ?_
          refine c_putI C0 hH hR ci_4 (i := q) (j := 2) hq rfl (k := 8) rfl (by decide) (by decide) rfl fl_X0_21 rfl (x := (nI k0) + 1) rfl rfl dX0_open_58 (fun h H locs hH hR => ?_)
          replace hw := hw.upx (k := 8) (i := q) (x := (nI k0) + 1) (by unfold kWc kSz; decide)
          refine lv_iconst (v := 1) hx hb dX0_open_61 (by decide) ?_
          have eR : (1 : Int32) = (cOpenB u q n p most).1 := by unfold cOpenB; rw [if_neg (fun z => z.elim (fun z => by have := c7_1; exact absurd z (by simpa using this)) (fun z => z.elim (fun z => by have := c11_2; exact absurd z (by simpa using this)) (fun z => by have := c20_3; exact absurd z (by simpa using this)))), e0, nI_clamp hk0]
          have eM : ((cOpenB u q n p most).2) = (up (up (up u 111 (40 * q + k0) (u 14 p)) 10 (40 * q + k0) (u 11 p)) 8 q ((nI k0) + 1)) := by unfold cOpenB; rw [if_neg (fun z => z.elim (fun z => by have := c7_1; exact absurd z (by simpa using this)) (fun z => z.elim (fun z => by have := c11_2; exact absurd z (by simpa using this)) (fun z => by have := c20_3; exact absurd z (by simpa using this)))), e0, nI_clamp hk0] <;> try simp [nI_1]
          exact e_Z C0 hr (by decide) hH ⟨eR, by rw [eM]; exact ⟨hR, hw⟩⟩ (Nat.le_of_ble_eq_true rfl) (Nat.le_of_ble_eq_true rfl) dX0_open_62
        · refine lv_iconst (v := 0) hx hb dX0_open_32 (by decide) ?_
          have eR : (0 : Int32) = (cOpenB u q n p most).1 := by unfold cOpenB; rw [if_pos (by first | exact Or.inl (by simpa using c29_4) | exact Or.inr (Or.inl (by simpa using c29_4)) | exact Or.inr (Or.inr (by simpa using c29_4)))]
          have eM : ((cOpenB u q n p most).2) = u := by unfold cOpenB; rw [if_pos (by first | exact Or.inl (by simpa using c29_4) | exact Or.inr (Or.inl (by simpa using c29_4)) | exact Or.inr (Or.inr (by simpa using c29_4)))]
          exact e_Z C0 hr (by decide) hH ⟨eR, by rw [eM]; exact ⟨hR, hw⟩⟩ (Nat.le_of_ble_eq_true rfl) (Nat.le_of_ble_eq_true rfl) dX0_open_33
set_option maxHeartbeats 800000 in
set_option maxRecDepth 100000 in
theorem cC_X0_put (l : Launch) (G : GT) (A : Nat → Prop) (h : AH) (b : BA) (u : MM) (hR : RC G.2.2.1 h b u) (hw : WFc u) (q n p : Nat) (most : Int32) (hq : ok u 4 q) (hn : len20 q = n) (hp0 : p < npN u) : cmI l G A yX0_put cX0_put 4 (Option.some FieldType.boolean) 1 23 0 0 [.ref (b 4 q), .ref (b 9 p), .int (most)] h (fun r h' => r = (cPut u q n p most).1 ∧ RC G.2.2.1 h' b ((cPut u q n p most).2) ∧ WFc ((cPut u q n p most).2)) := by
  refine cm_of "Routepost$Bags" rfl (by decide) (Nat.le_of_ble_eq_true rfl) ?_
  intro pr e s m9 below meth c C0 hr hname hH ls hl
  obtain ⟨hx, hb, hml, hown, hts, hK, hA, -⟩ := id C0
  have hl : lv_has ls 4 [(0, .ref (b 4 q)), (1, .ref (b 9 p)), (2, .int (most))] := hl
  have hc7 := hw.cnt6 7
  have hc8 := hw.cnt6 8
  have hc9 := hw.cnt6 9
  have hn40 : n ≤ 40 ∧ 4 ≤ n := by rw [← hn]; unfold len20; split <;> omega
  have hq13 : q < 13 := by have := hw.nl; rcases hq with z | z <;> omega
  refine lv_iconst (v := 0) hx hb dX0_put_0 (by decide) ?_
  refine lv_istore_n (lv' := [(3, .int (0)), (0, .ref (b 4 q)), (1, .ref (b 9 p)), (2, .int (most))]) hx hb dX0_put_1 rfl hl (by decide) rfl (fun ls hl => ?_)
  have K : ∀ (k : Nat) (i : Nat), i + k = n → cPutL u q n p most k i = cPut u q n p most → ∀ (ls : Array Slot), lv_has ls 4 [(3, .int (nI i)), (0, .ref (b 4 q)), (1, .ref (b 9 p)), (2, .int (most))] → W pr l e (rmm 1 23 0 0) s m9 ([.ref (b 4 q), .ref (b 9 p), .int (most)] : List Value).toArray below meth c s.heap [] 0 0 (QI below G A (fun r h' => r = (cPut u q n p most).1 ∧ RC G.2.2.1 h' b ((cPut u q n p most).2) ∧ WFc ((cPut u q n p most).2)) ([.ref (b 4 q), .ref (b 9 p), .int (most)] : List Value).toArray s 0 0) (F0 m9 2 ls []) := by
    intro k
    induction k with
    | zero =>
      intro i hik hT ls hl
      refine lv_iload_n hx hb dX0_put_2 rfl (lv_at hl 0 rfl) ?_
      refine lv_aload_n hx hb dX0_put_3 rfl (lv_at hl 1 rfl) ?_
      refine c_getI C0 hH hR ci_4 (i := q) (j := 2) hq rfl (by decide) rfl fl_X0_21 (v := u 8 q) rfl dX0_put_4 ?_
      refine lv_icmp_ge (tgt := 78) hx hb dX0_put_7 (by decide) (fun c7_1 => ?_) (fun c7_1 => ?_)
      · have hC : cPut u q n p most = cOpenB u q n p most := by rw [← hT]; rfl
        refine lv_aload_n hx hb dX0_put_78 rfl (lv_at hl 1 rfl) ?_
        refine lv_aload_n hx hb dX0_put_79 rfl (lv_at hl 2 rfl) ?_
        refine lv_iload_n hx hb dX0_put_80 rfl (lv_at hl 3 rfl) ?_
        refine k_i hH (k_runV (rest := []) C0 hH (cC_X0_open l G A _ b _ hR hw q n p most hq hn hp0) mv_X0_open ml_X0_38 ci_4 (hR.kind (K := 4) (i := q) hq) rfl ⟨Nat.le_of_ble_eq_true rfl, Nat.le_of_ble_eq_true rfl⟩ hl.1 rfl (Nat.le_of_ble_eq_true rfl) dX0_put_81 (by simp)) (fun r_2 h H locs hp hH => ?_)
        obtain ⟨er_2, hR, hw⟩ := hp
        subst er_2
        have eR : ((cOpenB u q n p most).1 : Int32) = (cPut u q n p most).1 := by rw [hC]
        have eM : ((cPut u q n p most).2) = ((cOpenB u q n p most).2) := by rw [hC]
        exact e_Z C0 hr (cOpenB_nar _ _ _ _ _) hH ⟨eR, by rw [eM]; exact ⟨hR, hw⟩⟩ (Nat.le_of_ble_eq_true rfl) (Nat.le_of_ble_eq_true rfl) dX0_put_84
      · refine lv_iload_n hx hb dX0_put_10 rfl (lv_at hl 0 rfl) ?_
        refine lv_aload_n hx hb dX0_put_11 rfl (lv_at hl 1 rfl) ?_
        refine c_getR C0 hH hR ci_4 (i := q) (j := 0) hq rfl (by decide) rfl fl_X0_11 (v := some (b 30 q)) rfl dX0_put_12 ?_
        refine c_len30 C0 hH hR (i := q) hq dX0_put_15 ?_
        rw [show len20 q = n from hn]
        refine lv_icmp_ge (tgt := 78) hx hb dX0_put_16 (by decide) (fun c16_3 => ?_) (fun c16_3 => ?_)
        · have hC : cPut u q n p most = cOpenB u q n p most := by rw [← hT]; rfl
          refine lv_aload_n hx hb dX0_put_78 rfl (lv_at hl 1 rfl) ?_
          refine lv_aload_n hx hb dX0_put_79 rfl (lv_at hl 2 rfl) ?_
          refine lv_iload_n hx hb dX0_put_80 rfl (lv_at hl 3 rfl) ?_
          refine k_i hH (k_runV (rest := []) C0 hH (cC_X0_open l G A _ b _ hR hw q n p most hq hn hp0) mv_X0_open ml_X0_38 ci_4 (hR.kind (K := 4) (i := q) hq) rfl ⟨Nat.le_of_ble_eq_true rfl, Nat.le_of_ble_eq_true rfl⟩ hl.1 rfl (Nat.le_of_ble_eq_true rfl) dX0_put_81 (by simp)) (fun r_4 h H locs hp hH => ?_)
          obtain ⟨er_4, hR, hw⟩ := hp
          subst er_4
          have eR : ((cOpenB u q n p most).1 : Int32) = (cPut u q n p most).1 := by rw [hC]
          have eM : ((cPut u q n p most).2) = ((cOpenB u q n p most).2) := by rw [hC]
          exact e_Z C0 hr (cOpenB_nar _ _ _ _ _) hH ⟨eR, by rw [eM]; exact ⟨hR, hw⟩⟩ (Nat.le_of_ble_eq_true rfl) (Nat.le_of_ble_eq_true rfl) dX0_put_84
        · exact absurd (nI_le (show n ≤ i by omega) (by omega)) c16_3
    | succ k ih =>
      intro i hik hT ls hl
      refine lv_iload_n hx hb dX0_put_2 rfl (lv_at hl 0 rfl) ?_
      refine lv_aload_n hx hb dX0_put_3 rfl (lv_at hl 1 rfl) ?_
      refine c_getI C0 hH hR ci_4 (i := q) (j := 2) hq rfl (by decide) rfl fl_X0_21 (v := u 8 q) rfl dX0_put_4 ?_
      refine lv_icmp_ge (tgt := 78) hx hb dX0_put_7 (by decide) (fun c7_5 => ?_) (fun c7_5 => ?_)
      · have hC : cPut u q n p most = cOpenB u q n p most := by rw [← hT]; simp only [cPutL]; rw [if_pos c7_5]
        refine lv_aload_n hx hb dX0_put_78 rfl (lv_at hl 1 rfl) ?_
        refine lv_aload_n hx hb dX0_put_79 rfl (lv_at hl 2 rfl) ?_
        refine lv_iload_n hx hb dX0_put_80 rfl (lv_at hl 3 rfl) ?_
        refine k_i hH (k_runV (rest := []) C0 hH (cC_X0_open l G A _ b _ hR hw q n p most hq hn hp0) mv_X0_open ml_X0_38 ci_4 (hR.kind (K := 4) (i := q) hq) rfl ⟨Nat.le_of_ble_eq_true rfl, Nat.le_of_ble_eq_true rfl⟩ hl.1 rfl (Nat.le_of_ble_eq_true rfl) dX0_put_81 (by simp)) (fun r_6 h H locs hp hH => ?_)
        obtain ⟨er_6, hR, hw⟩ := hp
        subst er_6
        have eR : ((cOpenB u q n p most).1 : Int32) = (cPut u q n p most).1 := by rw [hC]
        have eM : ((cPut u q n p most).2) = ((cOpenB u q n p most).2) := by rw [hC]
        exact e_Z C0 hr (cOpenB_nar _ _ _ _ _) hH ⟨eR, by rw [eM]; exact ⟨hR, hw⟩⟩ (Nat.le_of_ble_eq_true rfl) (Nat.le_of_ble_eq_true rfl) dX0_put_84
      · refine lv_iload_n hx hb dX0_put_10 rfl (lv_at hl 0 rfl) ?_
        refine lv_aload_n hx hb dX0_put_11 rfl (lv_at hl 1 rfl) ?_
        refine c_getR C0 hH hR ci_4 (i := q) (j := 0) hq rfl (by decide) rfl fl_X0_11 (v := some (b 30 q)) rfl dX0_put_12 ?_
        refine c_len30 C0 hH hR (i := q) hq dX0_put_15 ?_
        rw [show len20 q = n from hn]
        refine lv_icmp_ge (tgt := 78) hx hb dX0_put_16 (by decide) (fun c16_7 => ?_) (fun c16_7 => ?_)
        · exact absurd c16_7 (nI_ge (by omega) (by omega))
        · refine lv_iload_n hx hb dX0_put_19 rfl (lv_at hl 0 rfl) ?_
          refine lv_aload_n hx hb dX0_put_20 rfl (lv_at hl 1 rfl) ?_
          refine c_getR C0 hH hR ci_4 (i := q) (j := 1) hq rfl (by decide) rfl fl_X0_17 (v := some (b 20 q)) rfl dX0_put_21 ?_
          refine c_len20 C0 hH hR (i := q) (hq.elim Or.inl (fun z => Or.inr (Or.inl z))) dX0_put_24 ?_
          rw [show len20 q = n from hn]
          refine lv_icmp_ge (tgt := 78) hx hb dX0_put_25 (by decide) (fun c25_8 => ?_) (fun c25_8 => ?_)
          · exact absurd c25_8 (nI_ge (by omega) (by omega))
          · refine lv_aload_n hx hb dX0_put_28 rfl (lv_at hl 1 rfl) ?_
            refine c_getR C0 hH hR ci_4 (i := q) (j := 0) hq rfl (by decide) rfl fl_X0_11 (v := some (b 30 q)) rfl dX0_put_29 ?_
            refine lv_iload_n hx hb dX0_put_32 rfl (lv_at hl 0 rfl) ?_
            refine c_ld30 C0 hH hR (i := q) hq (k := i) rfl (by rw [hn]; omega) (v := dec b 7 (u 111 (40 * q + i))) (congrArg _ rfl) dX0_put_33 ?_
            refine lv_aload_n hx hb dX0_put_34 rfl (lv_at hl 2 rfl) ?_
            obtain ⟨v_9, hv_9, ev_9⟩ := hw.exH (show vp_in (u 14 p) _ from (hw.pa hp0).2.1)
            have kv_9 : (u 14 p).toNatClampNeg = v_9 := by rw [ev_9]; exact nI_clamp (by have := hw.nh; have := hw.np; omega)
            refine c_getR C0 hH hR ci_9 (i := p) (j := 6) hp0 rfl (by decide) rfl fl_X0_29 (v := some (b 7 v_9)) (show dec b 7 (u 14 p) = some (b 7 v_9) from by rw [show u 14 p = nI v_9 from Eq.trans rfl ev_9]; exact dec_nI (by have := hc7; have := (show v_9 < cnt u 7 from hv_9); omega)) dX0_put_35 ?_
            refine lv_acmp_ne (rx := dec b 7 (u 111 (40 * q + i))) (ry := some (b 7 v_9)) (tgt := 72) hx hb dX0_put_38 (by decide) (fun c38_10 => ?_) (fun c38_10 => ?_)
            · rw [hR.acQ hw (T := 7) (by omega) (hw.rg (k := 111) (by decide) (40 * q + i)) hv_9] at c38_10
              rw [← ev_9] at c38_10
              refine lv_iinc (v := nI (i + 1)) (lv' := [(3, .int (nI (i + 1))), (0, .ref (b 4 q)), (1, .ref (b 9 p)), (2, .int (most))]) hx hb dX0_put_72 hl (k := 0) rfl (by rw [← nI_1]; rfl) (by decide) rfl (fun ls hl => ?_)
              refine lv_goto (tgt := 2) hx hb dX0_put_75 (by decide) ?_
              exact ih (i + 1) (by omega) (by rw [← hT]; simp only [cPutL]; rw [if_neg c7_5, if_neg (fun z => by have := c38_10; first | exact absurd z.1 this | exact absurd z.2 (by simpa using this))]) ls (lv_sub hl [0, 1, 2, 3] rfl)
            · rw [hR.acQ hw (T := 7) (by omega) (hw.rg (k := 111) (by decide) (40 * q + i)) hv_9] at c38_10
              rw [← ev_9] at c38_10
              refine lv_aload_n hx hb dX0_put_41 rfl (lv_at hl 1 rfl) ?_
              refine c_getR C0 hH hR ci_4 (i := q) (j := 1) hq rfl (by decide) rfl fl_X0_17 (v := some (b 20 q)) rfl dX0_put_42 ?_
              refine lv_iload_n hx hb dX0_put_45 rfl (lv_at hl 0 rfl) ?_
              refine c_ld20 C0 hH hR (i := q) (hq.elim Or.inl (fun z => Or.inr (Or.inl z))) (k := i) rfl (by rw [hn]; omega) (v := u 10 (40 * q + i)) (show c20 u q i = _ from by unfold c20; rw [if_pos (show q < 13 by omega)]) dX0_put_46 ?_
              refine lv_aload_n hx hb dX0_put_47 rfl (lv_at hl 2 rfl) ?_
              refine c_getI C0 hH hR ci_9 (i := p) (j := 1) hp0 rfl (by decide) rfl fl_X0_35 (v := u 11 p) rfl dX0_put_48 ?_
              refine lv_iadd hx hb dX0_put_51 ?_
              refine lv_bipush (v := 12) hx hb dX0_put_52 (by decide) ?_
              refine lv_icmp_gt (tgt := 72) hx hb dX0_put_54 (by decide) (fun c54_11 => ?_) (fun c54_11 => ?_)
              · refine lv_iinc (v := nI (i + 1)) (lv' := [(3, .int (nI (i + 1))), (0, .ref (b 4 q)), (1, .ref (b 9 p)), (2, .int (most))]) hx hb dX0_put_72 hl (k := 0) rfl (by rw [← nI_1]; rfl) (by decide) rfl (fun ls hl => ?_)
                refine lv_goto (tgt := 2) hx hb dX0_put_75 (by decide) ?_
                exact ih (i + 1) (by omega) (by rw [← hT]; simp only [cPutL]; rw [if_neg c7_5, if_neg (fun z => by have := c54_11; first | exact absurd z.1 this | exact absurd z.2 (by simpa using this))]) ls (lv_sub hl [0, 1, 2, 3] rfl)
              · refine lv_aload_n hx hb dX0_put_57 rfl (lv_at hl 1 rfl) ?_
                refine c_getR C0 hH hR ci_4 (i := q) (j := 1) hq rfl (by decide) rfl fl_X0_17 (v := some (b 20 q)) rfl dX0_put_58 ?_
                refine lv_iload_n hx hb dX0_put_61 rfl (lv_at hl 0 rfl) ?_
                refine lv_dup2_11 hx hb dX0_put_62 rfl rfl ?_
                refine c_ld20 C0 hH hR (i := q) (hq.elim Or.inl (fun z => Or.inr (Or.inl z))) (k := i) rfl (by rw [hn]; omega) (v := u 10 (40 * q + i)) (show c20 u q i = _ from by unfold c20; rw [if_pos (show q < 13 by omega)]) dX0_put_63 ?_
                refine lv_aload_n hx hb dX0_put_64 rfl (lv_at hl 2 rfl) ?_
                refine c_getI C0 hH hR ci_9 (i := p) (j := 1) hp0 rfl (by decide) rfl fl_X0_35 (v := u 11 p) rfl dX0_put_65 ?_
                refine lv_iadd hx hb dX0_put_68 ?_
                refine c_st20 C0 hH hR hw (i := q) (hq.elim Or.inl (fun z => Or.inr (Or.inl z))) (k := i) (k0 := 10) (i0 := 40 * q + i) rfl (by rw [hn]; omega) (by rw [if_pos (show q < 13 by omega)]) (by rw [if_pos (show q < 13 by omega)]) (v := (u 10 (40 * q + i)) + (u 11 p)) dX0_put_69 (fun h H locs hH hR => ?_)
                replace hw := hw.upx (k := 10) (i := 40 * q + i) (x := (u 10 (40 * q + i)) + (u 11 p)) (by unfold kWc kSz; decide)
                refine lv_iconst (v := 1) hx hb dX0_put_70 (by decide) ?_
                have eR : (1 : Int32) = (cPut u q n p most).1 := by rw [← hT]; simp only [cPutL]; rw [if_neg c7_5, if_pos ⟨c38_10, by simpa using c54_11⟩]
                have eM : ((cPut u q n p most).2) = (up u 10 (40 * q + i) ((u 10 (40 * q + i)) + (u 11 p))) := by rw [← hT]; simp only [cPutL]; rw [if_neg c7_5, if_pos ⟨c38_10, by simpa using c54_11⟩]
                exact e_Z C0 hr (by decide) hH ⟨eR, by rw [eM]; exact ⟨hR, hw⟩⟩ (Nat.le_of_ble_eq_true rfl) (Nat.le_of_ble_eq_true rfl) dX0_put_71
  exact K n 0 (by omega) rfl ls (lv_sub hl [0, 1, 2, 3] rfl)

