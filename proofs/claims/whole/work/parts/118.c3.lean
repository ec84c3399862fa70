set_option maxHeartbeats 800000 in
set_option maxRecDepth 100000 in
theorem cC_X9_copyAt_13 (l : Launch) (G : GT) (A : Nat → Prop) (h : AH) (b : BA) (u : MM) (hR : RC G.2.2.1 h b u) (hw : WFc u) (x : Nat) (hx0 : x < nhN u) : cmI l G A yX9_copyAt cX9_copyAt 3 (Option.some FieldType.int) 0 0 0 0 [.ref (b 20 13), .ref (b 7 x)] h (fun r h' => r = u 160 x ∧ h' = h) := by
  refine cm_of "Routepost$Simulation" rfl (by decide) (Nat.le_of_ble_eq_true rfl) ?_
  intro pr e s m9 below meth c C0 hr hname hH ls hl
  obtain ⟨hx, hb, hml, hown, hts, hK, hA, -⟩ := id C0
  have hl : lv_has ls 3 [(0, .ref (b 20 13)), (1, .ref (b 7 x))] := hl
  have hc7 := hw.cnt6 7
  have hc8 := hw.cnt6 8
  have hc9 := hw.cnt6 9
  refine lv_aload_n hx hb dX9_copyAt_0 rfl (lv_at hl 1 rfl) ?_
  refine c_getI C0 hH hR ci_7 (i := x) (j := 0) hx0 rfl (by decide) rfl fl_X9_83 (v := nI x) rfl dX9_copyAt_1 ?_
  refine lv_istore_n (lv' := [(2, .int (nI x)), (0, .ref (b 20 13)), (1, .ref (b 7 x))]) hx hb dX9_copyAt_4 rfl hl (by decide) rfl (fun ls hl => ?_)
  refine lv_iload_n hx hb dX9_copyAt_5 rfl (lv_at hl 0 rfl) ?_
  refine lv_if_lt (tgt := 21) hx hb dX9_copyAt_6 (by decide) (fun c6_1 => ?_) (fun c6_1 => ?_)
  · exact absurd c6_1 (nI_pos (by have := hc7; have : x < cnt u 7 := hx0; omega))
  · refine lv_iload_n hx hb dX9_copyAt_9 rfl (lv_at hl 0 rfl) ?_
    refine lv_aload_n hx hb dX9_copyAt_10 rfl (lv_at hl 1 rfl) ?_
    refine c_len20 C0 hH hR (i := 13) (Or.inr (Or.inr (Or.inl rfl))) dX9_copyAt_11 ?_
    rw [show len20 13 = 6 from rfl]
    refine lv_icmp_ge (tgt := 21) hx hb dX9_copyAt_12 (by decide) (fun c12_2 => ?_) (fun c12_2 => ?_)
    · exact absurd c12_2 (nI_ge (show x < 6 by have := hw.nh; have := hx0; omega) (by omega))
    · refine lv_aload_n hx hb dX9_copyAt_15 rfl (lv_at hl 1 rfl) ?_
      refine lv_iload_n hx hb dX9_copyAt_16 rfl (lv_at hl 0 rfl) ?_
      refine c_ld20 C0 hH hR (i := 13) (Or.inr (Or.inr (Or.inl rfl))) (k := x) rfl (show x < 6 by have := hw.nh; have := hx0; omega) (v := u 160 x) (show c20 u 13 x = _ from by unfold c20; rw [if_neg (by omega), if_pos rfl]) dX9_copyAt_17 ?_
      refine lv_goto (tgt := 22) hx hb dX9_copyAt_18 (by decide) ?_
      have eR : (u 160 x : Int32) = u 160 x := rfl
      exact e_I C0 hr hH ⟨eR, rfl⟩ (Nat.le_of_ble_eq_true rfl) (Nat.le_of_ble_eq_true rfl) dX9_copyAt_22
set_option maxHeartbeats 800000 in
set_option maxRecDepth 100000 in
theorem cC_X9_copyAt_14 (l : Launch) (G : GT) (A : Nat → Prop) (h : AH) (b : BA) (u : MM) (hR : RC G.2.2.1 h b u) (hw : WFc u) (x : Nat) (hx0 : x < nhN u) : cmI l G A yX9_copyAt cX9_copyAt 3 (Option.some FieldType.int) 0 0 0 0 [.ref (b 20 14), .ref (b 7 x)] h (fun r h' => r = u 161 x ∧ h' = h) := by
  refine cm_of "Routepost$Simulation" rfl (by decide) (Nat.le_of_ble_eq_true rfl) ?_
  intro pr e s m9 below meth c C0 hr hname hH ls hl
  obtain ⟨hx, hb, hml, hown, hts, hK, hA, -⟩ := id C0
  have hl : lv_has ls 3 [(0, .ref (b 20 14)), (1, .ref (b 7 x))] := hl
  have hc7 := hw.cnt6 7
  have hc8 := hw.cnt6 8
  have hc9 := hw.cnt6 9
  refine lv_aload_n hx hb dX9_copyAt_0 rfl (lv_at hl 1 rfl) ?_
  refine c_getI C0 hH hR ci_7 (i := x) (j := 0) hx0 rfl (by decide) rfl fl_X9_83 (v := nI x) rfl dX9_copyAt_1 ?_
  refine lv_istore_n (lv' := [(2, .int (nI x)), (0, .ref (b 20 14)), (1, .ref (b 7 x))]) hx hb dX9_copyAt_4 rfl hl (by decide) rfl (fun ls hl => ?_)
  refine lv_iload_n hx hb dX9_copyAt_5 rfl (lv_at hl 0 rfl) ?_
  refine lv_if_lt (tgt := 21) hx hb dX9_copyAt_6 (by decide) (fun c6_1 => ?_) (fun c6_1 => ?_)
  · exact absurd c6_1 (nI_pos (by have := hc7; have : x < cnt u 7 := hx0; omega))
  · refine lv_iload_n hx hb dX9_copyAt_9 rfl (lv_at hl 0 rfl) ?_
    refine lv_aload_n hx hb dX9_copyAt_10 rfl (lv_at hl 1 rfl) ?_
    refine c_len20 C0 hH hR (i := 14) (Or.inr (Or.inr (Or.inr rfl))) dX9_copyAt_11 ?_
    rw [show len20 14 = 6 from rfl]
    refine lv_icmp_ge (tgt := 21) hx hb dX9_copyAt_12 (by decide) (fun c12_2 => ?_) (fun c12_2 => ?_)
    · exact absurd c12_2 (nI_ge (show x < 6 by have := hw.nh; have := hx0; omega) (by omega))
    · refine lv_aload_n hx hb dX9_copyAt_15 rfl (lv_at hl 1 rfl) ?_
      refine lv_iload_n hx hb dX9_copyAt_16 rfl (lv_at hl 0 rfl) ?_
      refine c_ld20 C0 hH hR (i := 14) (Or.inr (Or.inr (Or.inr rfl))) (k := x) rfl (show x < 6 by have := hw.nh; have := hx0; omega) (v := u 161 x) (show c20 u 14 x = _ from by unfold c20; rw [if_neg (by omega), if_neg (by omega)]) dX9_copyAt_17 ?_
      refine lv_goto (tgt := 22) hx hb dX9_copyAt_18 (by decide) ?_
      have eR : (u 161 x : Int32) = u 161 x := rfl
      exact e_I C0 hr hH ⟨eR, rfl⟩ (Nat.le_of_ble_eq_true rfl) (Nat.le_of_ble_eq_true rfl) dX9_copyAt_22
set_option maxHeartbeats 800000 in
set_option maxRecDepth 100000 in
theorem cC_X9_putCopy_13 (l : Launch) (G : GT) (A : Nat → Prop) (h : AH) (b : BA) (u : MM) (hR : RC G.2.2.1 h b u) (hw : WFc u) (x : Nat) (t0 : Int32) (hx0 : x < nhN u) : cmV l G A yX9_putCopy cX9_putCopy 4 0 0 0 0 [.ref (b 20 13), .ref (b 7 x), .int (t0)] h (fun h' => RC G.2.2.1 h' b (up u 160 x t0) ∧ WFc (up u 160 x t0)) := by
  refine cm_of "Routepost$Simulation" rfl (by decide) (Nat.le_of_ble_eq_true rfl) ?_
  intro pr e s m9 below meth c C0 hr hname hH ls hl
  obtain ⟨hx, hb, hml, hown, hts, hK, hA, -⟩ := id C0
  have hl : lv_has ls 4 [(0, .ref (b 20 13)), (1, .ref (b 7 x)), (2, .int (t0))] := hl
  have hc7 := hw.cnt6 7
  have hc8 := hw.cnt6 8
  have hc9 := hw.cnt6 9
  refine lv_aload_n hx hb dX9_putCopy_0 rfl (lv_at hl 1 rfl) ?_
  refine c_getI C0 hH hR ci_7 (i := x) (j := 0) hx0 rfl (by decide) rfl fl_X9_83 (v := nI x) rfl dX9_putCopy_1 ?_
  refine lv_istore_n (lv' := [(3, .int (nI x)), (0, .ref (b 20 13)), (1, .ref (b 7 x)), (2, .int (t0))]) hx hb dX9_putCopy_4 rfl hl (by decide) rfl (fun ls hl => ?_)
  refine lv_iload_n hx hb dX9_putCopy_5 rfl (lv_at hl 0 rfl) ?_
  refine lv_if_lt (tgt := 19) hx hb dX9_putCopy_6 (by decide) (fun c6_1 => ?_) (fun c6_1 => ?_)
  · exact absurd c6_1 (nI_pos (by have := hc7; have : x < cnt u 7 := hx0; omega))
  · refine lv_iload_n hx hb dX9_putCopy_9 rfl (lv_at hl 0 rfl) ?_
    refine lv_aload_n hx hb dX9_putCopy_10 rfl (lv_at hl 1 rfl) ?_
    refine c_len20 C0 hH hR (i := 13) (Or.inr (Or.inr (Or.inl rfl))) dX9_putCopy_11 ?_
    rw [show len20 13 = 6 from rfl]
    refine lv_icmp_ge (tgt := 19) hx hb dX9_putCopy_12 (by decide) (fun c12_2 => ?_) (fun c12_2 => ?_)
    · exact absurd c12_2 (nI_ge (show x < 6 by have := hw.nh; have := hx0; omega) (by omega))
    · refine lv_aload_n hx hb dX9_putCopy_15 rfl (lv_at hl 1 rfl) ?_
      refine lv_iload_n hx hb dX9_putCopy_16 rfl (lv_at hl 0 rfl) ?_
      refine lv_iload_n hx hb dX9_putCopy_17 rfl (lv_at hl 3 rfl) ?_
      refine c_st20 C0 hH hR hw (i := 13) (Or.inr (Or.inr (Or.inl rfl))) (k := x) (k0 := 160) (i0 := x) rfl (show x < 6 by have := hw.nh; have := hx0; omega) rfl rfl (v := t0) dX9_putCopy_18 (fun h H locs hH hR => ?_)
      replace hw := hw.upx (k := 160) (i := x) (x := t0) (by unfold kWc kSz; decide)
      have eM : (up u 160 x t0) = (up u 160 x t0) := rfl
      exact e_V C0 hr hH (by rw [eM]; exact ⟨hR, hw⟩) (Nat.le_of_ble_eq_true rfl) (Nat.le_of_ble_eq_true rfl) dX9_putCopy_19
set_option maxHeartbeats 800000 in
set_option maxRecDepth 100000 in
theorem cC_X9_putCopy_14 (l : Launch) (G : GT) (A : Nat → Prop) (h : AH) (b : BA) (u : MM) (hR : RC G.2.2.1 h b u) (hw : WFc u) (x : Nat) (t0 : Int32) (hx0 : x < nhN u) : cmV l G A yX9_putCopy cX9_putCopy 4 0 0 0 0 [.ref (b 20 14), .ref (b 7 x), .int (t0)] h (fun h' => RC G.2.2.1 h' b (up u 161 x t0) ∧ WFc (up u 161 x t0)) := by
  refine cm_of "Routepost$Simulation" rfl (by decide) (Nat.le_of_ble_eq_true rfl) ?_
  intro pr e s m9 below meth c C0 hr hname hH ls hl
  obtain ⟨hx, hb, hml, hown, hts, hK, hA, -⟩ := id C0
  have hl : lv_has ls 4 [(0, .ref (b 20 14)), (1, .ref (b 7 x)), (2, .int (t0))] := hl
  have hc7 := hw.cnt6 7
  have hc8 := hw.cnt6 8
  have hc9 := hw.cnt6 9
  refine lv_aload_n hx hb dX9_putCopy_0 rfl (lv_at hl 1 rfl) ?_
  refine c_getI C0 hH hR ci_7 (i := x) (j := 0) hx0 rfl (by decide) rfl fl_X9_83 (v := nI x) rfl dX9_putCopy_1 ?_
  refine lv_istore_n (lv' := [(3, .int (nI x)), (0, .ref (b 20 14)), (1, .ref (b 7 x)), (2, .int (t0))]) hx hb dX9_putCopy_4 rfl hl (by decide) rfl (fun ls hl => ?_)
  refine lv_iload_n hx hb dX9_putCopy_5 rfl (lv_at hl 0 rfl) ?_
  refine lv_if_lt (tgt := 19) hx hb dX9_putCopy_6 (by decide) (fun c6_1 => ?_) (fun c6_1 => ?_)
  · exact absurd c6_1 (nI_pos (by have := hc7; have : x < cnt u 7 := hx0; omega))
  · refine lv_iload_n hx hb dX9_putCopy_9 rfl (lv_at hl 0 rfl) ?_
    refine lv_aload_n hx hb dX9_putCopy_10 rfl (lv_at hl 1 rfl) ?_
    refine c_len20 C0 hH hR (i := 14) (Or.inr (Or.inr (Or.inr rfl))) dX9_putCopy_11 ?_
    rw [show len20 14 = 6 from rfl]
    refine lv_icmp_ge (tgt := 19) hx hb dX9_putCopy_12 (by decide) (fun c12_2 => ?_) (fun c12_2 => ?_)
    · exact absurd c12_2 (nI_ge (show x < 6 by have := hw.nh; have := hx0; omega) (by omega))
    · refine lv_aload_n hx hb dX9_putCopy_15 rfl (lv_at hl 1 rfl) ?_
      refine lv_iload_n hx hb dX9_putCopy_16 rfl (lv_at hl 0 rfl) ?_
      refine lv_iload_n hx hb dX9_putCopy_17 rfl (lv_at hl 3 rfl) ?_
      refine c_st20 C0 hH hR hw (i := 14) (Or.inr (Or.inr (Or.inr rfl))) (k := x) (k0 := 161) (i0 := x) rfl (show x < 6 by have := hw.nh; have := hx0; omega) rfl rfl (v := t0) dX9_putCopy_18 (fun h H locs hH hR => ?_)
      replace hw := hw.upx (k := 161) (i := x) (x := t0) (by unfold kWc kSz; decide)
      have eM : (up u 161 x t0) = (up u 161 x t0) := rfl
      exact e_V C0 hr hH (by rw [eM]; exact ⟨hR, hw⟩) (Nat.le_of_ble_eq_true rfl) (Nat.le_of_ble_eq_true rfl) dX9_putCopy_19
set_option maxHeartbeats 800000 in
set_option maxRecDepth 100000 in
theorem cC_X9_unloadCopies (l : Launch) (G : GT) (A : Nat → Prop) (h : AH) (b : BA) (u : MM) (hR : RC G.2.2.1 h b u) (hw : WFc u) (now : Int32) : cmV l G A yX9_unloadCopies cX9_unloadCopies 3 0 0 0 0 [.ref (b 13 0), .int (now)] h (fun h' => RC G.2.2.1 h' b (cUnl now 6 0 u) ∧ WFc (cUnl now 6 0 u)) := by
  refine cm_of "Routepost$Simulation" rfl (by decide) (Nat.le_of_ble_eq_true rfl) ?_
  intro pr e s m9 below meth c C0 hr hname hH ls hl
  obtain ⟨hx, hb, hml, hown, hts, hK, hA, -⟩ := id C0
  have hl : lv_has ls 3 [(0, .ref (b 13 0)), (1, .int (now))] := hl
  have hc7 := hw.cnt6 7
  have hc8 := hw.cnt6 8
  have hc9 := hw.cnt6 9
  refine lv_iconst (v := 0) hx hb dX9_unloadCopies_0 (by decide) ?_
  refine lv_istore_n (lv' := [(2, .int (0)), (0, .ref (b 13 0)), (1, .int (now))]) hx hb dX9_unloadCopies_1 rfl hl (by decide) rfl (fun ls hl => ?_)
  have K : ∀ (k : Nat) (i : Nat) (U : MM), i + k = 6 → cUnl now k i U = cUnl now 6 0 u → ∀ (h : AH) (H : Heap) (locs : List Loc) (hH : HS G.1 G.2.1 A s.heap h H locs) (hR : RC G.2.2.1 h b U) (hw : WFc U) (ls : Array Slot), lv_has ls 3 [(2, .int (nI i)), (0, .ref (b 13 0)), (1, .int (now))] → W pr l e (rmm 0 0 0 0) s m9 ([.ref (b 13 0), .int (now)] : List Value).toArray below meth c H locs 0 0 (QV below G A (fun h' => RC G.2.2.1 h' b (cUnl now 6 0 u) ∧ WFc (cUnl now 6 0 u)) ([.ref (b 13 0), .int (now)] : List Value).toArray s 0 0) (F0 m9 2 ls []) := by
    intro k
    induction k with
    | zero =>
      intro i U hik hT h H locs hH hR hw ls hl
      refine lv_iload_n hx hb dX9_unloadCopies_2 rfl (lv_at hl 0 rfl) ?_
      refine lv_aload_n hx hb dX9_unloadCopies_3 rfl (lv_at hl 1 rfl) ?_
      refine c_getR C0 hH hR ci_13 (i := 0) (j := 1) rfl rfl (by decide) rfl fl_X9_15 (v := some (b 20 14)) rfl dX9_unloadCopies_4 ?_
      refine c_len20 C0 hH hR (i := 14) (Or.inr (Or.inr (Or.inr rfl))) dX9_unloadCopies_7 ?_
      rw [show len20 14 = 6 from rfl]
      refine lv_icmp_ge (tgt := 53) hx hb dX9_unloadCopies_8 (by decide) (fun c8_1 => ?_) (fun c8_1 => ?_)
      · have eM : (cUnl now 6 0 u) = U := hT.symm
        exact e_V C0 hr hH (by rw [eM]; exact ⟨hR, hw⟩) (Nat.le_of_ble_eq_true rfl) (Nat.le_of_ble_eq_true rfl) dX9_unloadCopies_53
      · exact absurd (by rw [show i = 6 by omega]; exact Int32.le_refl _) c8_1
    | succ k ih =>
      intro i U hik hT h H locs hH hR hw ls hl
      refine lv_iload_n hx hb dX9_unloadCopies_2 rfl (lv_at hl 0 rfl) ?_
      refine lv_aload_n hx hb dX9_unloadCopies_3 rfl (lv_at hl 1 rfl) ?_
      refine c_getR C0 hH hR ci_13 (i := 0) (j := 1) rfl rfl (by decide) rfl fl_X9_15 (v := some (b 20 14)) rfl dX9_unloadCopies_4 ?_
      refine c_len20 C0 hH hR (i := 14) (Or.inr (Or.inr (Or.inr rfl))) dX9_unloadCopies_7 ?_
      rw [show len20 14 = 6 from rfl]
      refine lv_icmp_ge (tgt := 53) hx hb dX9_unloadCopies_8 (by decide) (fun c8_2 => ?_) (fun c8_2 => ?_)
      · exact absurd c8_2 (nI_ge (show i < 6 by omega) (by omega))
      · refine lv_iload_n hx hb dX9_unloadCopies_11 rfl (lv_at hl 0 rfl) ?_
        refine lv_aload_n hx hb dX9_unloadCopies_12 rfl (lv_at hl 1 rfl) ?_
        refine c_getR C0 hH hR ci_13 (i := 0) (j := 0) rfl rfl (by decide) rfl fl_X9_9 (v := some (b 20 13)) rfl dX9_unloadCopies_13 ?_
        refine c_len20 C0 hH hR (i := 13) (Or.inr (Or.inr (Or.inl rfl))) dX9_unloadCopies_16 ?_
        rw [show len20 13 = 6 from rfl]
        refine lv_icmp_ge (tgt := 53) hx hb dX9_unloadCopies_17 (by decide) (fun c17_3 => ?_) (fun c17_3 => ?_)
        · exact absurd c17_3 (nI_ge (show i < 6 by omega) (by omega))
        · refine lv_aload_n hx hb dX9_unloadCopies_20 rfl (lv_at hl 1 rfl) ?_
          refine c_getR C0 hH hR ci_13 (i := 0) (j := 1) rfl rfl (by decide) rfl fl_X9_15 (v := some (b 20 14)) rfl dX9_unloadCopies_21 ?_
          refine lv_iload_n hx hb dX9_unloadCopies_24 rfl (lv_at hl 0 rfl) ?_
          refine c_ld20 C0 hH hR (i := 14) (Or.inr (Or.inr (Or.inr rfl))) (k := i) rfl (show i < 6 by omega) (v := U 161 i) (show c20 U 14 i = _ from by unfold c20; rw [if_neg (by omega), if_neg (by omega)]) dX9_unloadCopies_25 ?_
          refine lv_iload_n hx hb dX9_unloadCopies_26 rfl (lv_at hl 2 rfl) ?_
          refine lv_icmp_ne (tgt := 47) hx hb dX9_unloadCopies_27 (by decide) (fun c27_4 => ?_) (fun c27_4 => ?_)
          · refine lv_iinc (v := nI (i + 1)) (lv' := [(2, .int (nI (i + 1))), (0, .ref (b 13 0)), (1, .int (now))]) hx hb dX9_unloadCopies_47 hl (k := 0) rfl (by rw [← nI_1]; rfl) (by decide) rfl (fun ls hl => ?_)
            refine lv_goto (tgt := 2) hx hb dX9_unloadCopies_50 (by decide) ?_
            exact ih (i + 1) _ (by omega) (by rw [← hT]; simp only [cUnl]; rw [if_neg (by simpa using (fun (z : _ ∧ _) => c27_4 z.1))]) _ _ _ hH hR hw ls (lv_sub hl [0, 1, 2] rfl)
          · refine lv_aload_n hx hb dX9_unloadCopies_30 rfl (lv_at hl 1 rfl) ?_
            refine c_getR C0 hH hR ci_13 (i := 0) (j := 0) rfl rfl (by decide) rfl fl_X9_9 (v := some (b 20 13)) rfl dX9_unloadCopies_31 ?_
            refine lv_iload_n hx hb dX9_unloadCopies_34 rfl (lv_at hl 0 rfl) ?_
            refine c_ld20 C0 hH hR (i := 13) (Or.inr (Or.inr (Or.inl rfl))) (k := i) rfl (show i < 6 by omega) (v := U 160 i) (show c20 U 13 i = _ from by unfold c20; rw [if_neg (by omega), if_pos rfl]) dX9_unloadCopies_35 ?_
            refine lv_iconst (v := (-1)) hx hb dX9_unloadCopies_36 (by decide) ?_
            refine lv_icmp_ne (tgt := 47) hx hb dX9_unloadCopies_37 (by decide) (fun c37_5 => ?_) (fun c37_5 => ?_)
            · refine lv_iinc (v := nI (i + 1)) (lv' := [(2, .int (nI (i + 1))), (0, .ref (b 13 0)), (1, .int (now))]) hx hb dX9_unloadCopies_47 hl (k := 0) rfl (by rw [← nI_1]; rfl) (by decide) rfl (fun ls hl => ?_)
              refine lv_goto (tgt := 2) hx hb dX9_unloadCopies_50 (by decide) ?_
              exact ih (i + 1) _ (by omega) (by rw [← hT]; simp only [cUnl]; rw [if_neg (by simpa using (fun (z : _ ∧ _) => c37_5 z.2))]) _ _ _ hH hR hw ls (lv_sub hl [0, 1, 2] rfl)
            · refine lv_aload_n hx hb dX9_unloadCopies_40 rfl (lv_at hl 1 rfl) ?_
              refine c_getR C0 hH hR ci_13 (i := 0) (j := 0) rfl rfl (by decide) rfl fl_X9_9 (v := some (b 20 13)) rfl dX9_unloadCopies_41 ?_
              refine lv_iload_n hx hb dX9_unloadCopies_44 rfl (lv_at hl 0 rfl) ?_
              refine lv_iload_n hx hb dX9_unloadCopies_45 rfl (lv_at hl 2 rfl) ?_
              refine c_st20 C0 hH hR hw (i := 13) (Or.inr (Or.inr (Or.inl rfl))) (k := i) (k0 := 160) (i0 := i) rfl (show i < 6 by omega) rfl rfl (v := now) dX9_unloadCopies_46 (fun h H locs hH hR => ?_)
              replace hw := hw.upx (k := 160) (i := i) (x := now) (by unfold kWc kSz; decide)
              refine lv_iinc (v := nI (i + 1)) (lv' := [(2, .int (nI (i + 1))), (0, .ref (b 13 0)), (1, .int (now))]) hx hb dX9_unloadCopies_47 hl (k := 0) rfl (by rw [← nI_1]; rfl) (by decide) rfl (fun ls hl => ?_)
              refine lv_goto (tgt := 2) hx hb dX9_unloadCopies_50 (by decide) ?_
              exact ih (i + 1) _ (by omega) (by rw [← hT]; simp only [cUnl]; rw [if_pos (by simpa using (⟨c27_4, c37_5⟩ : _ ∧ _))]) _ _ _ hH hR hw ls (lv_sub hl [0, 1, 2] rfl)
  exact K 6 0 u (by omega) rfl _ _ _ hH hR hw ls (lv_sub hl [0, 1, 2] rfl)
set_option maxHeartbeats 800000 in
set_option maxRecDepth 100000 in
theorem cC_X9_loadCopies (l : Launch) (G : GT) (A : Nat → Prop) (h : AH) (b : BA) (u : MM) (hR : RC G.2.2.1 h b u) (hw : WFc u) (now : Int32) : cmV l G A yX9_loadCopies cX9_loadCopies 8 3 64 0 0 [.ref (b 13 0), .ref (b 3 1), .int (now)] h (fun h' => RC G.2.2.1 h' b (cLdL now (nlN u) 0 u) ∧ WFc (cLdL now (nlN u) 0 u)) := by
  refine cm_of "Routepost$Simulation" rfl (by decide) (Nat.le_of_ble_eq_true rfl) ?_
  intro pr e s m9 below meth c C0 hr hname hH ls hl
  obtain ⟨hx, hb, hml, hown, hts, hK, hA, -⟩ := id C0
  have hl : lv_has ls 8 [(0, .ref (b 13 0)), (1, .ref (b 3 1)), (2, .int (now))] := hl
  have hc7 := hw.cnt6 7
  have hc8 := hw.cnt6 8
  have hc9 := hw.cnt6 9
  refine lv_iconst (v := 0) hx hb dX9_loadCopies_0 (by decide) ?_
  refine lv_istore_n (lv' := [(3, .int (0)), (0, .ref (b 13 0)), (1, .ref (b 3 1)), (2, .int (now))]) hx hb dX9_loadCopies_1 rfl hl (by decide) rfl (fun ls hl => ?_)
  have K : ∀ (k : Nat) (i : Nat) (U : MM), i + k = nlN u → cLdL now k i U = cLdL now (nlN u) 0 u → nlN U = nlN u → ∀ (h : AH) (H : Heap) (locs : List Loc) (hH : HS G.1 G.2.1 A s.heap h H locs) (hR : RC G.2.2.1 h b U) (hw : WFc U) (ls : Array Slot), lv_has ls 8 [(3, .int (nI i)), (0, .ref (b 13 0)), (1, .ref (b 3 1)), (2, .int (now))] → W pr l e (rmm 3 64 0 0) s m9 ([.ref (b 13 0), .ref (b 3 1), .int (now)] : List Value).toArray below meth c H locs 0 0 (QV below G A (fun h' => RC G.2.2.1 h' b (cLdL now (nlN u) 0 u) ∧ WFc (cLdL now (nlN u) 0 u)) ([.ref (b 13 0), .ref (b 3 1), .int (now)] : List Value).toArray s 0 0) (F0 m9 2 ls []) := by
    intro k
    induction k with
    | zero =>
      intro i U hik hT hnU h H locs hH hR hw ls hl
      have hc7 := hw.cnt6 7
      have hc8 := hw.cnt6 8
      refine lv_iload_n hx hb dX9_loadCopies_2 rfl (lv_at hl 0 rfl) ?_
      refine lv_aload_n hx hb dX9_loadCopies_3 rfl (lv_at hl 2 rfl) ?_
      refine k_i hH (k_runV (rest := [.int (nI i)]) C0 hH (cL_size l G A _ b _ hR hw 1 (show 1 < 6 + npN _ by omega)) mv_Jx4a65c_size_8abf5 ml_X9_53 ci_3 (hR.kind (K := 3) (i := 1) (show 1 < 6 + npN _ by omega)) rfl ⟨Nat.le_of_ble_eq_true rfl, Nat.le_of_ble_eq_true rfl⟩ hl.1 rfl (Nat.le_of_ble_eq_true rfl) dX9_loadCopies_4 (by simp)) (fun r9 h1 H locs hp hH => ?_)
      obtain ⟨er9, eh⟩ := hp
      rw [eh] at hH
      clear eh
      rw [hw.sz1] at er9
      subst er9
      refine lv_icmp_ge (tgt := 120) hx hb dX9_loadCopies_7 (by decide) (fun c7_1 => ?_) (fun c7_1 => ?_)
      · have eM : (cLdL now (nlN u) 0 u) = U := hT.symm
        exact e_V C0 hr hH (by rw [eM]; exact ⟨hR, hw⟩) (Nat.le_of_ble_eq_true rfl) (Nat.le_of_ble_eq_true rfl) dX9_loadCopies_120
      · exact absurd (by rw [hnU, show i = nlN u by omega]; exact Int32.le_refl _) c7_1
    | succ k ih =>
      intro i U hik hT hnU h H locs hH hR hw ls hl
      have hc7 := hw.cnt6 7
      have hc8 := hw.cnt6 8
      refine lv_iload_n hx hb dX9_loadCopies_2 rfl (lv_at hl 0 rfl) ?_
      refine lv_aload_n hx hb dX9_loadCopies_3 rfl (lv_at hl 2 rfl) ?_
      refine k_i hH (k_runV (rest := [.int (nI i)]) C0 hH (cL_size l G A _ b _ hR hw 1 (show 1 < 6 + npN _ by omega)) mv_Jx4a65c_size_8abf5 ml_X9_53 ci_3 (hR.kind (K := 3) (i := 1) (show 1 < 6 + npN _ by omega)) rfl ⟨Nat.le_of_ble_eq_true rfl, Nat.le_of_ble_eq_true rfl⟩ hl.1 rfl (Nat.le_of_ble_eq_true rfl) dX9_loadCopies_4 (by simp)) (fun r9 h1 H locs hp hH => ?_)
      obtain ⟨er9, eh⟩ := hp
      rw [eh] at hH
      clear eh
      rw [hw.sz1] at er9
      subst er9
      refine lv_icmp_ge (tgt := 120) hx hb dX9_loadCopies_7 (by decide) (fun c7_2 => ?_) (fun c7_2 => ?_)
      · exact absurd c7_2 (nI_ge (show i < nlN U by omega) (by have := hw.nl; omega))
      · refine lv_aload_n hx hb dX9_loadCopies_10 rfl (lv_at hl 2 rfl) ?_
        refine lv_iload_n hx hb dX9_loadCopies_11 rfl (lv_at hl 0 rfl) ?_
        refine k_q hH (k_runV (rest := []) C0 hH (cL_get l G A _ b _ hR hw 1 i (show 1 < 6 + npN _ by omega) (by rw [hw.sz1]; omega) (a := b 8 i) rfl) mv_Jx4a65c_get_915e3 ml_X9_59 ci_3 (hR.kind (K := 3) (i := 1) (show 1 < 6 + npN _ by omega)) rfl ⟨Nat.le_of_ble_eq_true rfl, Nat.le_of_ble_eq_true rfl⟩ hl.1 rfl (Nat.le_of_ble_eq_true rfl) dX9_loadCopies_12 (by simp)) (fun r9 h1 H locs hp hH => ?_)
        obtain ⟨er9, eh⟩ := hp
        rw [eh] at hH
        clear eh
        subst er9
        refine k_chk C0 hH ci_8 (hR.kind (K := 8) (i := i) (show i < nlN U by omega)) cl_X9_63 dX9_loadCopies_15 ?_
        refine lv_astore (lv' := [(4, .ref (b 8 i)), (3, .int (nI i)), (0, .ref (b 13 0)), (1, .ref (b 3 1)), (2, .int (now))]) hx hb dX9_loadCopies_18 hl (by decide) rfl (fun ls hl => ?_)
        refine lv_aload_n hx hb dX9_loadCopies_20 rfl (lv_at hl 2 rfl) ?_
        refine c_getR C0 hH hR ci_13 (i := 0) (j := 0) rfl rfl (by decide) rfl fl_X9_9 (v := some (b 20 13)) rfl dX9_loadCopies_21 ?_
        refine lv_aload hx hb dX9_loadCopies_24 (lv_at hl 0 rfl) ?_
        obtain ⟨v_3, hv_3, ev_3⟩ := hw.exH (show vp_in (U 2 i) _ from (hw.ln (show i < nlN U by omega)).1)
        have kv_3 : (U 2 i).toNatClampNeg = v_3 := by rw [ev_3]; exact nI_clamp (by have := hw.nh; have := hw.np; omega)
        refine c_getR C0 hH hR ci_8 (i := i) (j := 1) (show i < nlN U by omega) rfl (by decide) rfl fl_X9_65 (v := some (b 7 v_3)) (show dec b 7 (U 2 i) = some (b 7 v_3) from by rw [show U 2 i = nI v_3 from Eq.trans rfl ev_3]; exact dec_nI (by have := hc7; have := (show v_3 < cnt U 7 from hv_3); omega)) dX9_loadCopies_26 ?_
        refine k_i hH (k_runS (rest := []) C0 hH (cC_X9_copyAt_13 l G A _ b _ hR hw v_3 hv_3) mv_X9_copyAt ml_X9_45 rfl ⟨Nat.le_of_ble_eq_true rfl, Nat.le_of_ble_eq_true rfl⟩ hl.1 rfl (Nat.le_of_ble_eq_true rfl) dX9_loadCopies_29 (by simp)) (fun r_4 h1 H locs hp hH => ?_)
        obtain ⟨er_4, eh⟩ := hp
        rw [eh] at hH
        clear eh
        subst er_4
        refine lv_istore (lv' := [(5, .int (U 160 v_3)), (4, .ref (b 8 i)), (3, .int (nI i)), (0, .ref (b 13 0)), (1, .ref (b 3 1)), (2, .int (now))]) hx hb dX9_loadCopies_32 hl (by decide) rfl (fun ls hl => ?_)
        refine lv_iload hx hb dX9_loadCopies_34 (lv_at hl 0 rfl) ?_
        refine lv_iconst (v := (-1)) hx hb dX9_loadCopies_36 (by decide) ?_
        refine lv_icmp_eq (tgt := 114) hx hb dX9_loadCopies_37 (by decide) (fun c37_5 => ?_) (fun c37_5 => ?_)
        · refine lv_iinc (v := nI (i + 1)) (lv' := [(3, .int (nI (i + 1))), (5, .int (U 160 v_3)), (4, .ref (b 8 i)), (0, .ref (b 13 0)), (1, .ref (b 3 1)), (2, .int (now))]) hx hb dX9_loadCopies_114 hl (k := 2) rfl (by rw [← nI_1]; rfl) (by decide) rfl (fun ls hl => ?_)
          refine lv_goto (tgt := 2) hx hb dX9_loadCopies_117 (by decide) ?_
          exact ih (i + 1) U (by omega) (by rw [← hT]; simp only [cLdL]; congr 1; unfold cLd1; simp [kv_3, c7_2, Int32.not_le.mp c7_2, eq_true c37_5]) hnU _ _ _ hH hR hw ls (lv_sub hl [0, 3, 4, 5] rfl)
        · refine lv_aload hx hb dX9_loadCopies_40 (lv_at hl 1 rfl) ?_
          refine lv_iload_n hx hb dX9_loadCopies_42 rfl (lv_at hl 5 rfl) ?_
          refine k_i hH (k_runV (rest := []) C0 hH (cC_X4_leavesIn l G A _ b _ hR hw i now (show i < nlN U by omega)) mv_X4_leavesIn ml_X9_68 ci_8 (hR.kind (K := 8) (i := i) (show i < nlN U by omega)) rfl ⟨Nat.le_of_ble_eq_true rfl, Nat.le_of_ble_eq_true rfl⟩ hl.1 rfl (Nat.le_of_ble_eq_true rfl) dX9_loadCopies_43 (by simp)) (fun r_6 h1 H locs hp hH => ?_)
          obtain ⟨er_6, eh⟩ := hp
          rw [eh] at hH
          clear eh
          subst er_6
          refine lv_if_eq (tgt := 114) hx hb dX9_loadCopies_46 (by decide) (fun c46_7 => ?_) (fun c46_7 => ?_)
          · refine lv_iinc (v := nI (i + 1)) (lv' := [(3, .int (nI (i + 1))), (5, .int (U 160 v_3)), (4, .ref (b 8 i)), (0, .ref (b 13 0)), (1, .ref (b 3 1)), (2, .int (now))]) hx hb dX9_loadCopies_114 hl (k := 2) rfl (by rw [← nI_1]; rfl) (by decide) rfl (fun ls hl => ?_)
            refine lv_goto (tgt := 2) hx hb dX9_loadCopies_117 (by decide) ?_
            exact ih (i + 1) U (by omega) (by rw [← hT]; simp only [cLdL]; congr 1; unfold cLd1; simp [kv_3, c7_2, Int32.not_le.mp c7_2, eq_false c37_5, eq_true c46_7]) hnU _ _ _ hH hR hw ls (lv_sub hl [0, 3, 4, 5] rfl)
          · refine lv_iload_n hx hb dX9_loadCopies_49 rfl (lv_at hl 5 rfl) ?_
            refine lv_iload hx hb dX9_loadCopies_50 (lv_at hl 0 rfl) ?_
            refine lv_isub hx hb dX9_loadCopies_52 ?_
            refine lv_aload hx hb dX9_loadCopies_53 (lv_at hl 1 rfl) ?_
            refine c_getR C0 hH hR ci_8 (i := i) (j := 1) (show i < nlN U by omega) rfl (by decide) rfl fl_X9_65 (v := some (b 7 v_3)) (show dec b 7 (U 2 i) = some (b 7 v_3) from by rw [show U 2 i = nI v_3 from Eq.trans rfl ev_3]; exact dec_nI (by have := hc7; have := (show v_3 < cnt U 7 from hv_3); omega)) dX9_loadCopies_55 ?_
            refine c_getI C0 hH hR ci_7 (i := v_3) (j := 2) hv_3 rfl (by decide) rfl fl_X9_72 (v := U 1 v_3) rfl dX9_loadCopies_58 ?_
            refine lv_icmp_lt (tgt := 114) hx hb dX9_loadCopies_61 (by decide) (fun c61_8 => ?_) (fun c61_8 => ?_)
            · refine lv_iinc (v := nI (i + 1)) (lv' := [(3, .int (nI (i + 1))), (5, .int (U 160 v_3)), (4, .ref (b 8 i)), (0, .ref (b 13 0)), (1, .ref (b 3 1)), (2, .int (now))]) hx hb dX9_loadCopies_114 hl (k := 2) rfl (by rw [← nI_1]; rfl) (by decide) rfl (fun ls hl => ?_)
              refine lv_goto (tgt := 2) hx hb dX9_loadCopies_117 (by decide) ?_
              exact ih (i + 1) U (by omega) (by rw [← hT]; simp only [cLdL]; congr 1; unfold cLd1; simp [kv_3, c7_2, Int32.not_le.mp c7_2, eq_false c37_5, eq_false c46_7, c61_8, Int32.not_le.mpr c61_8]) hnU _ _ _ hH hR hw ls (lv_sub hl [0, 3, 4, 5] rfl)
            · refine lv_aload_n hx hb dX9_loadCopies_64 rfl (lv_at hl 3 rfl) ?_
              refine c_getR C0 hH hR ci_13 (i := 0) (j := 1) rfl rfl (by decide) rfl fl_X9_15 (v := some (b 20 14)) rfl dX9_loadCopies_65 ?_
              refine lv_aload hx hb dX9_loadCopies_68 (lv_at hl 1 rfl) ?_
              obtain ⟨v_9, hv_9, ev_9⟩ := hw.exH (show vp_in (U 3 i) _ from (hw.ln (show i < nlN U by omega)).2)
              have kv_9 : (U 3 i).toNatClampNeg = v_9 := by rw [ev_9]; exact nI_clamp (by have := hw.nh; have := hw.np; omega)
              refine c_getR C0 hH hR ci_8 (i := i) (j := 2) (show i < nlN U by omega) rfl (by decide) rfl fl_X9_77 (v := some (b 7 v_9)) (show dec b 7 (U 3 i) = some (b 7 v_9) from by rw [show U 3 i = nI v_9 from Eq.trans rfl ev_9]; exact dec_nI (by have := hc7; have := (show v_9 < cnt U 7 from hv_9); omega)) dX9_loadCopies_70 ?_
              refine k_i hH (k_runS (rest := []) C0 hH (cC_X9_copyAt_14 l G A _ b _ hR hw v_9 hv_9) mv_X9_copyAt ml_X9_45 rfl ⟨Nat.le_of_ble_eq_true rfl, Nat.le_of_ble_eq_true rfl⟩ hl.1 rfl (Nat.le_of_ble_eq_true rfl) dX9_loadCopies_73 (by simp)) (fun r_10 h1 H locs hp hH => ?_)
              obtain ⟨er_10, eh⟩ := hp
              rw [eh] at hH
              clear eh
              subst er_10
              refine lv_istore (lv' := [(6, .int (U 161 v_9)), (5, .int (U 160 v_3)), (4, .ref (b 8 i)), (3, .int (nI i)), (0, .ref (b 13 0)), (1, .ref (b 3 1)), (2, .int (now))]) hx hb dX9_loadCopies_76 hl (by decide) rfl (fun ls hl => ?_)
              refine lv_iload_n hx hb dX9_loadCopies_78 rfl (lv_at hl 6 rfl) ?_
              refine lv_aload hx hb dX9_loadCopies_79 (lv_at hl 2 rfl) ?_
              refine c_getI C0 hH hR ci_8 (i := i) (j := 7) (show i < nlN U by omega) rfl (by decide) rfl fl_X9_80 (v := U 6 i) rfl dX9_loadCopies_81 ?_
              refine lv_iadd hx hb dX9_loadCopies_84 ?_
              refine lv_istore (lv' := [(7, .int (now + (U 6 i))), (6, .int (U 161 v_9)), (5, .int (U 160 v_3)), (4, .ref (b 8 i)), (3, .int (nI i)), (0, .ref (b 13 0)), (1, .ref (b 3 1)), (2, .int (now))]) hx hb dX9_loadCopies_85 hl (by decide) rfl (fun ls hl => ?_)
              refine lv_iload hx hb dX9_loadCopies_87 (lv_at hl 1 rfl) ?_
              refine lv_iconst (v := (-1)) hx hb dX9_loadCopies_89 (by decide) ?_
              refine lv_icmp_eq (tgt := 100) hx hb dX9_loadCopies_90 (by decide) (fun c90_11 => ?_) (fun c90_11 => ?_)
              · refine lv_aload_n hx hb dX9_loadCopies_100 rfl (lv_at hl 5 rfl) ?_
                refine c_getR C0 hH hR ci_13 (i := 0) (j := 1) rfl rfl (by decide) rfl fl_X9_15 (v := some (b 20 14)) rfl dX9_loadCopies_101 ?_
                refine lv_aload hx hb dX9_loadCopies_104 (lv_at hl 3 rfl) ?_
                refine c_getR C0 hH hR ci_8 (i := i) (j := 2) (show i < nlN U by omega) rfl (by decide) rfl fl_X9_77 (v := some (b 7 v_9)) (show dec b 7 (U 3 i) = some (b 7 v_9) from by rw [show U 3 i = nI v_9 from Eq.trans rfl ev_9]; exact dec_nI (by have := hc7; have := (show v_9 < cnt U 7 from hv_9); omega)) dX9_loadCopies_106 ?_
                refine lv_iload hx hb dX9_loadCopies_109 (lv_at hl 0 rfl) ?_
                refine k_v hH (k_runS (rest := []) C0 hH (cC_X9_putCopy_14 l G A _ b _ hR hw v_9 (now + (U 6 i)) hv_9) mv_X9_putCopy ml_X9_37 rfl ⟨Nat.le_of_ble_eq_true rfl, Nat.le_of_ble_eq_true rfl⟩ hl.1 rfl (Nat.le_of_ble_eq_true rfl) dX9_loadCopies_111 (by simp)) (fun h H locs hp hH => ?_)
                obtain ⟨hR, hw⟩ := hp
                refine lv_iinc (v := nI (i + 1)) (lv' := [(3, .int (nI (i + 1))), (7, .int (now + (U 6 i))), (6, .int (U 161 v_9)), (5, .int (U 160 v_3)), (4, .ref (b 8 i)), (0, .ref (b 13 0)), (1, .ref (b 3 1)), (2, .int (now))]) hx hb dX9_loadCopies_114 hl (k := 4) rfl (by rw [← nI_1]; rfl) (by decide) rfl (fun ls hl => ?_)
                refine lv_goto (tgt := 2) hx hb dX9_loadCopies_117 (by decide) ?_
                exact ih (i + 1) (up U 161 v_9 (now + (U 6 i))) (by omega) (by rw [← hT]; simp only [cLdL]; congr 1; unfold cLd1; simp [kv_3, kv_9, c7_2, Int32.not_le.mp c7_2, eq_false c37_5, eq_false c46_7, c61_8, Int32.not_lt.mp c61_8, eq_true c90_11]) hnU _ _ _ hH hR hw ls (lv_sub hl [0, 5, 6, 7] rfl)
              · refine lv_iload hx hb dX9_loadCopies_93 (lv_at hl 0 rfl) ?_
                refine lv_iload hx hb dX9_loadCopies_95 (lv_at hl 1 rfl) ?_
                refine lv_icmp_ge (tgt := 114) hx hb dX9_loadCopies_97 (by decide) (fun c97_13 => ?_) (fun c97_13 => ?_)
                · refine lv_iinc (v := nI (i + 1)) (lv' := [(3, .int (nI (i + 1))), (7, .int (now + (U 6 i))), (6, .int (U 161 v_9)), (5, .int (U 160 v_3)), (4, .ref (b 8 i)), (0, .ref (b 13 0)), (1, .ref (b 3 1)), (2, .int (now))]) hx hb dX9_loadCopies_114 hl (k := 4) rfl (by rw [← nI_1]; rfl) (by decide) rfl (fun ls hl => ?_)
                  refine lv_goto (tgt := 2) hx hb dX9_loadCopies_117 (by decide) ?_
                  exact ih (i + 1) U (by omega) (by rw [← hT]; simp only [cLdL]; congr 1; unfold cLd1; simp [kv_3, kv_9, c7_2, Int32.not_le.mp c7_2, eq_false c37_5, eq_false c46_7, c61_8, Int32.not_lt.mp c61_8, eq_false c90_11, c97_13, Int32.not_lt.mpr c97_13]) hnU _ _ _ hH hR hw ls (lv_sub hl [0, 5, 6, 7] rfl)
                · refine lv_aload_n hx hb dX9_loadCopies_100 rfl (lv_at hl 5 rfl) ?_
                  refine c_getR C0 hH hR ci_13 (i := 0) (j := 1) rfl rfl (by decide) rfl fl_X9_15 (v := some (b 20 14)) rfl dX9_loadCopies_101 ?_
                  refine lv_aload hx hb dX9_loadCopies_104 (lv_at hl 3 rfl) ?_
                  refine c_getR C0 hH hR ci_8 (i := i) (j := 2) (show i < nlN U by omega) rfl (by decide) rfl fl_X9_77 (v := some (b 7 v_9)) (show dec b 7 (U 3 i) = some (b 7 v_9) from by rw [show U 3 i = nI v_9 from Eq.trans rfl ev_9]; exact dec_nI (by have := hc7; have := (show v_9 < cnt U 7 from hv_9); omega)) dX9_loadCopies_106 ?_
                  refine lv_iload hx hb dX9_loadCopies_109 (lv_at hl 0 rfl) ?_
                  refine k_v hH (k_runS (rest := []) C0 hH (cC_X9_putCopy_14 l G A _ b _ hR hw v_9 (now + (U 6 i)) hv_9) mv_X9_putCopy ml_X9_37 rfl ⟨Nat.le_of_ble_eq_true rfl, Nat.le_of_ble_eq_true rfl⟩ hl.1 rfl (Nat.le_of_ble_eq_true rfl) dX9_loadCopies_111 (by simp)) (fun h H locs hp hH => ?_)
                  obtain ⟨hR, hw⟩ := hp
                  refine lv_iinc (v := nI (i + 1)) (lv' := [(3, .int (nI (i + 1))), (7, .int (now + (U 6 i))), (6, .int (U 161 v_9)), (5, .int (U 160 v_3)), (4, .ref (b 8 i)), (0, .ref (b 13 0)), (1, .ref (b 3 1)), (2, .int (now))]) hx hb dX9_loadCopies_114 hl (k := 4) rfl (by rw [← nI_1]; rfl) (by decide) rfl (fun ls hl => ?_)
                  refine lv_goto (tgt := 2) hx hb dX9_loadCopies_117 (by decide) ?_
                  exact ih (i + 1) (up U 161 v_9 (now + (U 6 i))) (by omega) (by rw [← hT]; simp only [cLdL]; congr 1; unfold cLd1; simp [kv_3, kv_9, c7_2, Int32.not_le.mp c7_2, eq_false c37_5, eq_false c46_7, c61_8, Int32.not_lt.mp c61_8, eq_false c90_11, c97_13, Int32.not_le.mp c97_13]) hnU _ _ _ hH hR hw ls (lv_sub hl [0, 5, 6, 7] rfl)
  exact K (nlN u) 0 u (by omega) rfl rfl _ _ _ hH hR hw ls (lv_sub hl [0, 1, 2, 3] rfl)
theorem cUnl_key (now : Int32) : ∀ (n i : Nat) (u : MM) {k : Nat}, k ≠ 160 → cUnl now n i u k = u k := by
  intro n
  induction n with
  | zero => intro i u k _; rfl
  | succ n ih =>
    intro i u k hk
    show cUnl now n (i + 1) _ k = _
    rw [ih _ _ hk]
    split
    · exact up_key hk
    · rfl
theorem cUnl_n (now : Int32) (n i : Nat) (u : MM) : nlN (cUnl now n i u) = nlN u ∧ nhN (cUnl now n i u) = nhN u ∧ npN (cUnl now n i u) = npN u := ⟨nlN_ext (cUnl_key now n i u (by omega)), nhN_ext (cUnl_key now n i u (by omega)), npN_ext (cUnl_key now n i u (by omega))⟩
theorem cLd1_key (u : MM) (now : Int32) (l : Nat) {k : Nat} (hk : k ≠ 161) : cLd1 u now l k = u k := by
  unfold cLd1
  split
  · split
    · exact up_key hk
    · rfl
  · rfl
theorem cLdL_key (now : Int32) : ∀ (n i : Nat) (u : MM) {k : Nat}, k ≠ 161 → cLdL now n i u k = u k := by
  intro n
  induction n with
  | zero => intro i u k _; rfl
  | succ n ih =>
    intro i u k hk
    show cLdL now n (i + 1) _ k = _
    rw [ih _ _ hk, cLd1_key _ _ _ hk]
set_option maxHeartbeats 800000 in
set_option maxRecDepth 100000 in
theorem cC_X9_firstArrival (l : Launch) (G : GT) (A : Nat → Prop) (h : AH) (b : BA) (u : MM) (hR : RC G.2.2.1 h b u) (hw : WFc u) (p : Nat) (now : Int32) (hp0 : p < npN u) : cmI l G A yX9_firstArrival cX9_firstArrival 5 (Option.some FieldType.int) 4 91 0 0 [.ref (b 13 0), .ref (b 3 1), .ref (b 9 p), .int (now)] h (fun r h' => r = (cFa u p now).1 ∧ RC G.2.2.1 h' b ((cFa u p now).2) ∧ WFc ((cFa u p now).2)) := by
  refine cm_of "Routepost$Simulation" rfl (by decide) (Nat.le_of_ble_eq_true rfl) ?_
  intro pr e s m9 below meth c C0 hr hname hH ls hl
  obtain ⟨hx, hb, hml, hown, hts, hK, hA, -⟩ := id C0
  have hl : lv_has ls 5 [(0, .ref (b 13 0)), (1, .ref (b 3 1)), (2, .ref (b 9 p)), (3, .int (now))] := hl
  have hc7 := hw.cnt6 7
  have hc8 := hw.cnt6 8
  have hc9 := hw.cnt6 9
  obtain ⟨n7, hn7⟩ : ∃ z, z = (700 : Nat) := ⟨_, rfl⟩
  have hp00 := hp0
  refine lv_aload_n hx hb dX9_firstArrival_0 rfl (lv_at hl 2 rfl) ?_
  obtain ⟨v_1, hv_1, ev_1⟩ := hw.exH (show vp_in (u 15 p) _ from (hw.pa hp0).2.2)
  have kv_1 : (u 15 p).toNatClampNeg = v_1 := by rw [ev_1]; exact nI_clamp (by have := hw.nh; have := hw.np; omega)
  refine c_getR C0 hH hR ci_9 (i := p) (j := 7) hp0 rfl (by decide) rfl fl_X9_18 (v := some (b 7 v_1)) (show dec b 7 (u 15 p) = some (b 7 v_1) from by rw [show u 15 p = nI v_1 from Eq.trans rfl ev_1]; exact dec_nI (by have := hc7; have := (show v_1 < cnt u 7 from hv_1); omega)) dX9_firstArrival_1 ?_
  refine lv_aload_n hx hb dX9_firstArrival_4 rfl (lv_at hl 2 rfl) ?_
  obtain ⟨v_2, hv_2, ev_2⟩ := hw.exH (show vp_in (u 14 p) _ from (hw.pa hp0).2.1)
  have kv_2 : (u 14 p).toNatClampNeg = v_2 := by rw [ev_2]; exact nI_clamp (by have := hw.nh; have := hw.np; omega)
  refine c_getR C0 hH hR ci_9 (i := p) (j := 6) hp0 rfl (by decide) rfl fl_X9_24 (v := some (b 7 v_2)) (show dec b 7 (u 14 p) = some (b 7 v_2) from by rw [show u 14 p = nI v_2 from Eq.trans rfl ev_2]; exact dec_nI (by have := hc7; have := (show v_2 < cnt u 7 from hv_2); omega)) dX9_firstArrival_5 ?_
  refine lv_acmp_ne (rx := some (b 7 v_1)) (ry := some (b 7 v_2)) (tgt := 13) hx hb dX9_firstArrival_8 (by decide) (fun c8_3 => ?_) (fun c8_3 => ?_)
  · rw [hR.acR hw (T := 7) (by omega) hv_1 hv_2] at c8_3
    rw [← ev_1] at c8_3
    rw [← ev_2] at c8_3
    have c8 := c8_3
    refine lv_aload_n hx hb dX9_firstArrival_13 rfl (lv_at hl 0 rfl) ?_
    refine c_getR C0 hH hR ci_13 (i := 0) (j := 0) rfl rfl (by decide) rfl fl_X9_9 (v := some (b 20 13)) rfl dX9_firstArrival_14 ?_
    refine lv_iconst (v := (-1)) hx hb dX9_firstArrival_17 (by decide) ?_
    refine k_v hH (k_runS (rest := []) C0 hH (cJ_J7_fill_53178 l G A _ (b 20 13) 6 (-1) (hR.kind (K := 20) (i := 13) (Or.inr (Or.inr (Or.inl rfl)))) (hR.a20 (i := 13) (Or.inr (Or.inr (Or.inl rfl)))).1 (by omega)) mv_J7_fill_53178 ml_X9_27 rfl ⟨Nat.le_of_ble_eq_true rfl, Nat.le_of_ble_eq_true rfl⟩ hl.1 rfl (Nat.le_of_ble_eq_true rfl) dX9_firstArrival_18 (by simp)) (fun h H locs hp hH => ?_)
    obtain ⟨hR, hw⟩ := RC.fill hR hw (Or.inl ⟨rfl, rfl⟩) hp
    refine lv_aload_n hx hb dX9_firstArrival_21 rfl (lv_at hl 0 rfl) ?_
    refine c_getR C0 hH hR ci_13 (i := 0) (j := 1) rfl rfl (by decide) rfl fl_X9_15 (v := some (b 20 14)) rfl dX9_firstArrival_22 ?_
    refine lv_iconst (v := (-1)) hx hb dX9_firstArrival_25 (by decide) ?_
    refine k_v hH (k_runS (rest := []) C0 hH (cJ_J7_fill_53178 l G A _ (b 20 14) 6 (-1) (hR.kind (K := 20) (i := 14) (Or.inr (Or.inr (Or.inr rfl)))) (hR.a20 (i := 14) (Or.inr (Or.inr (Or.inr rfl)))).1 (by omega)) mv_J7_fill_53178 ml_X9_27 rfl ⟨Nat.le_of_ble_eq_true rfl, Nat.le_of_ble_eq_true rfl⟩ hl.1 rfl (Nat.le_of_ble_eq_true rfl) dX9_firstArrival_26 (by simp)) (fun h H locs hp hH => ?_)
    obtain ⟨hR, hw⟩ := RC.fill hR hw (Or.inr ⟨rfl, rfl⟩) hp
    obtain ⟨U1, hU1⟩ : ∃ z, z = (cFill (cFill u 160) 161) := ⟨_, rfl⟩
    rw [← hU1] at hR hw
    have hnU1 : nhN U1 = nhN u ∧ nlN U1 = nlN u ∧ npN U1 = npN u := by rw [hU1]; exact ⟨rfl, rfl, rfl⟩
    have hc7 := hw.cnt6 7
    have hc8 := hw.cnt6 8
    have hc9 := hw.cnt6 9
    replace hp0 : p < npN U1 := by rw [hnU1.2.2]; exact hp0
    replace hv_1 : v_1 < nhN U1 := by rw [hnU1.1]; exact hv_1
    replace hv_2 : v_2 < nhN U1 := by rw [hnU1.1]; exact hv_2
    refine lv_aload_n hx hb dX9_firstArrival_29 rfl (lv_at hl 0 rfl) ?_
    refine c_getR C0 hH hR ci_13 (i := 0) (j := 0) rfl rfl (by decide) rfl fl_X9_9 (v := some (b 20 13)) rfl dX9_firstArrival_30 ?_
    refine lv_aload_n hx hb dX9_firstArrival_33 rfl (lv_at hl 2 rfl) ?_
    obtain ⟨v_4, hv_4, ev_4⟩ := hw.exH (show vp_in (U1 15 p) _ from (hw.pa hp0).2.2)
    have kv_4 : (U1 15 p).toNatClampNeg = v_4 := by rw [ev_4]; exact nI_clamp (by have := hw.nh; have := hw.np; omega)
    refine c_getR C0 hH hR ci_9 (i := p) (j := 7) hp0 rfl (by decide) rfl fl_X9_18 (v := some (b 7 v_4)) (show dec b 7 (U1 15 p) = some (b 7 v_4) from by rw [show U1 15 p = nI v_4 from Eq.trans rfl ev_4]; exact dec_nI (by have := hc7; have := (show v_4 < cnt U1 7 from hv_4); omega)) dX9_firstArrival_34 ?_
    refine lv_aload_n hx hb dX9_firstArrival_37 rfl (lv_at hl 2 rfl) ?_
    refine c_getI C0 hH hR ci_9 (i := p) (j := 12) hp0 rfl (by decide) rfl fl_X9_33 (v := U1 18 p) rfl dX9_firstArrival_38 ?_
    refine k_v hH (k_runS (rest := []) C0 hH (cC_X9_putCopy_13 l G A _ b _ hR hw v_4 (U1 18 p) hv_4) mv_X9_putCopy ml_X9_37 rfl ⟨Nat.le_of_ble_eq_true rfl, Nat.le_of_ble_eq_true rfl⟩ hl.1 rfl (Nat.le_of_ble_eq_true rfl) dX9_firstArrival_41 (by simp)) (fun h H locs hp hH => ?_)
    obtain ⟨hR, hw⟩ := hp
    refine lv_iconst (v := 1) hx hb dX9_firstArrival_44 (by decide) ?_
    refine lv_istore (lv' := [(4, .int (1)), (0, .ref (b 13 0)), (1, .ref (b 3 1)), (2, .ref (b 9 p)), (3, .int (now))]) hx hb dX9_firstArrival_45 hl (by decide) rfl (fun ls hl => ?_)
    have K : ∀ (k : Nat) (i : Nat) (U : MM), i + k = 701 → cFaL p now k i U = cFaL p now n7 1 (cFa0 u p) → nlN U = nlN u → npN U = npN u → ∀ (h : AH) (H : Heap) (locs : List Loc) (hH : HS G.1 G.2.1 A s.heap h H locs) (hR : RC G.2.2.1 h b U) (hw : WFc U) (ls : Array Slot), lv_has ls 5 [(4, .int (nI i)), (0, .ref (b 13 0)), (1, .ref (b 3 1)), (2, .ref (b 9 p)), (3, .int (now))] → W pr l e (rmm 4 91 0 0) s m9 ([.ref (b 13 0), .ref (b 3 1), .ref (b 9 p), .int (now)] : List Value).toArray below meth c H locs 0 0 (QI below G A (fun r h' => r = (cFa u p now).1 ∧ RC G.2.2.1 h' b ((cFa u p now).2) ∧ WFc ((cFa u p now).2)) ([.ref (b 13 0), .ref (b 3 1), .ref (b 9 p), .int (now)] : List Value).toArray s 0 0) (F0 m9 47 ls []) := by
      intro k
      induction k with
      | zero =>
        intro i U hik hT hnU hnP h H locs hH hR hw ls hl
        have hc7 := hw.cnt6 7
        have hc8 := hw.cnt6 8
        have hc9 := hw.cnt6 9
        have hp0 : p < npN U := by rw [hnP]; exact hp00
        refine lv_iload hx hb dX9_firstArrival_47 (lv_at hl 0 rfl) ?_
        refine lv_sipush (v := 700) hx hb dX9_firstArrival_49 (by decide) ?_
        refine lv_icmp_gt (tgt := 98) hx hb dX9_firstArrival_52 (by decide) (fun c52_6 => ?_) (fun c52_6 => ?_)
        · refine lv_iconst (v := (-1)) hx hb dX9_firstArrival_98 (by decide) ?_
          have eR : ((-1) : Int32) = (cFa u p now).1 := by unfold cFa; rw [if_neg c8, ← hn7, ← hT]; rfl
          have eM : ((cFa u p now).2) = U := by unfold cFa; rw [if_neg c8, ← hn7, ← hT]; rfl
          exact e_I C0 hr hH ⟨eR, by rw [eM]; exact ⟨hR, hw⟩⟩ (Nat.le_of_ble_eq_true rfl) (Nat.le_of_ble_eq_true rfl) dX9_firstArrival_99
        · exact absurd (by rw [show i = 701 by omega]; decide) c52_6
      | succ k ih =>
        intro i U hik hT hnU hnP h H locs hH hR hw ls hl
        have hc7 := hw.cnt6 7
        have hc8 := hw.cnt6 8
        have hc9 := hw.cnt6 9
        have hp0 : p < npN U := by rw [hnP]; exact hp00
        refine lv_iload hx hb dX9_firstArrival_47 (lv_at hl 0 rfl) ?_
        refine lv_sipush (v := 700) hx hb dX9_firstArrival_49 (by decide) ?_
        refine lv_icmp_gt (tgt := 98) hx hb dX9_firstArrival_52 (by decide) (fun c52_7 => ?_) (fun c52_7 => ?_)
        · exact absurd c52_7 (by rw [show (700 : Int32) = nI 700 from rfl]; exact Int32.not_lt.mpr (nI_le (by omega) (by omega)))
        · refine lv_aload_n hx hb dX9_firstArrival_55 rfl (lv_at hl 1 rfl) ?_
          refine lv_iload_n hx hb dX9_firstArrival_56 rfl (lv_at hl 4 rfl) ?_
          refine lv_iload hx hb dX9_firstArrival_57 (lv_at hl 0 rfl) ?_
          refine lv_iadd hx hb dX9_firstArrival_59 ?_
          refine k_v hH (k_runV (rest := []) C0 hH (cC_X9_unloadCopies l G A _ b _ hR hw (now + (nI i)) ) mv_X9_unloadCopies ml_X9_41 ci_13 (hR.kind (K := 13) (i := 0) rfl) rfl ⟨Nat.le_of_ble_eq_true rfl, Nat.le_of_ble_eq_true rfl⟩ hl.1 rfl (Nat.le_of_ble_eq_true rfl) dX9_firstArrival_60 (by simp)) (fun h H locs hp hH => ?_)
          obtain ⟨hR, hw⟩ := hp
          obtain ⟨V1, hV1⟩ : ∃ z, z = (cUnl (now + (nI i)) 6 0 U) := ⟨_, rfl⟩
          rw [← hV1] at hR hw
          have hnV1 : nhN V1 = nhN U ∧ nlN V1 = nlN U ∧ npN V1 = npN U := by rw [hV1]; exact (let z := cUnl_n (now + nI i) 6 0 U; ⟨z.2.1, z.1, z.2.2⟩)
          have hc7 := hw.cnt6 7
          have hc8 := hw.cnt6 8
          have hc9 := hw.cnt6 9
          replace hp0 : p < npN V1 := by rw [hnV1.2.2]; exact hp0
          have e14 : V1 14 = U 14 := by rw [hV1]; exact cUnl_key _ _ _ _ (by omega)
          refine lv_aload_n hx hb dX9_firstArrival_63 rfl (lv_at hl 1 rfl) ?_
          refine c_getR C0 hH hR ci_13 (i := 0) (j := 0) rfl rfl (by decide) rfl fl_X9_9 (v := some (b 20 13)) rfl dX9_firstArrival_64 ?_
          refine lv_aload_n hx hb dX9_firstArrival_67 rfl (lv_at hl 3 rfl) ?_
          obtain ⟨v_9, hv_9, ev_9⟩ := hw.exH (show vp_in (V1 14 p) _ from (hw.pa hp0).2.1)
          have kv_9 : (V1 14 p).toNatClampNeg = v_9 := by rw [ev_9]; exact nI_clamp (by have := hw.nh; have := hw.np; omega)
          refine c_getR C0 hH hR ci_9 (i := p) (j := 6) hp0 rfl (by decide) rfl fl_X9_24 (v := some (b 7 v_9)) (show dec b 7 (V1 14 p) = some (b 7 v_9) from by rw [show V1 14 p = nI v_9 from Eq.trans rfl ev_9]; exact dec_nI (by have := hc7; have := (show v_9 < cnt V1 7 from hv_9); omega)) dX9_firstArrival_68 ?_
          refine k_i hH (k_runS (rest := []) C0 hH (cC_X9_copyAt_13 l G A _ b _ hR hw v_9 hv_9) mv_X9_copyAt ml_X9_45 rfl ⟨Nat.le_of_ble_eq_true rfl, Nat.le_of_ble_eq_true rfl⟩ hl.1 rfl (Nat.le_of_ble_eq_true rfl) dX9_firstArrival_71 (by simp)) (fun r_10 h1 H locs hp hH => ?_)
          obtain ⟨er_10, eh⟩ := hp
          rw [eh] at hH
          clear eh
          subst er_10
          refine lv_iconst (v := (-1)) hx hb dX9_firstArrival_74 (by decide) ?_
          refine lv_icmp_eq (tgt := 83) hx hb dX9_firstArrival_75 (by decide) (fun c75_11 => ?_) (fun c75_11 => ?_)
          · refine lv_aload_n hx hb dX9_firstArrival_83 rfl (lv_at hl 1 rfl) ?_
            refine lv_aload_n hx hb dX9_firstArrival_84 rfl (lv_at hl 2 rfl) ?_
            refine lv_iload_n hx hb dX9_firstArrival_85 rfl (lv_at hl 4 rfl) ?_
            refine lv_iload hx hb dX9_firstArrival_86 (lv_at hl 0 rfl) ?_
            refine lv_iadd hx hb dX9_firstArrival_88 ?_
            refine k_v hH (k_runV (rest := []) C0 hH (cC_X9_loadCopies l G A _ b _ hR hw (now + (nI i)) ) mv_X9_loadCopies ml_X9_49 ci_13 (hR.kind (K := 13) (i := 0) rfl) rfl ⟨Nat.le_of_ble_eq_true rfl, Nat.le_of_ble_eq_true rfl⟩ hl.1 rfl (Nat.le_of_ble_eq_true rfl) dX9_firstArrival_89 (by simp)) (fun h H locs hp hH => ?_)
            obtain ⟨hR, hw⟩ := hp
            refine lv_iinc (v := nI (i + 1)) (lv' := [(4, .int (nI (i + 1))), (0, .ref (b 13 0)), (1, .ref (b 3 1)), (2, .ref (b 9 p)), (3, .int (now))]) hx hb dX9_firstArrival_92 hl (k := 0) rfl (by rw [← nI_1]; rfl) (by decide) rfl (fun ls hl => ?_)
            refine lv_goto (tgt := 47) hx hb dX9_firstArrival_95 (by decide) ?_
            have eX : cLdL (now + nI i) (nlN V1) 0 V1 = (cLdL (now + nI i) (nlN U) 0 (cUnl (now + nI i) 6 0 U)) := by rw [hnV1.2.1, hV1]
            rw [eX] at hR hw
            exact ih (i + 1) (cLdL (now + nI i) (nlN U) 0 (cUnl (now + nI i) 6 0 U)) (by omega) (by rw [← hT]; simp only [cFaL]; rw [if_neg (fun z => z (by rw [← hV1, ← e14, kv_9]; exact c75_11))]) (by rw [nlN_ext (cLdL_key _ _ _ _ (by omega)), (cUnl_n _ _ _ _).1]; exact hnU) (by rw [npN_ext (cLdL_key _ _ _ _ (by omega)), (cUnl_n _ _ _ _).2.2]; exact hnP) _ _ _ hH hR hw ls (lv_sub hl [0, 1, 2, 3, 4] rfl)
          · refine lv_iload_n hx hb dX9_firstArrival_78 rfl (lv_at hl 4 rfl) ?_
            refine lv_iload hx hb dX9_firstArrival_79 (lv_at hl 0 rfl) ?_
            refine lv_iadd hx hb dX9_firstArrival_81 ?_
            have eR : (now + (nI i) : Int32) = (cFa u p now).1 := by unfold cFa; rw [if_neg c8, ← hn7, ← hT]; simp only [cFaL]; rw [if_pos (by rw [← hV1, ← e14, kv_9]; exact c75_11)]
            have eM : ((cFa u p now).2) = V1 := by unfold cFa; rw [if_neg c8, ← hn7, ← hT]; simp only [cFaL]; rw [if_pos (by rw [← hV1, ← e14, kv_9]; exact c75_11), ← hV1]
            exact e_I C0 hr hH ⟨eR, by rw [eM]; exact ⟨hR, hw⟩⟩ (Nat.le_of_ble_eq_true rfl) (Nat.le_of_ble_eq_true rfl) dX9_firstArrival_82
    exact K n7 1 (up U1 160 v_4 (U1 18 p)) (by omega) (by rw [show cFa0 u p = (up U1 160 v_4 (U1 18 p)) from by unfold cFa0; rw [← hU1, ← kv_4, hU1]; rfl]) (by have := hnU1.2.1; exact this) (by have := hnU1.2.2; exact this) _ _ _ hH hR hw ls (lv_sub hl [0, 1, 2, 3, 4] rfl)
  · rw [hR.acR hw (T := 7) (by omega) hv_1 hv_2] at c8_3
    rw [← ev_1] at c8_3
    rw [← ev_2] at c8_3
    have c8 := c8_3
    refine lv_iload_n hx hb dX9_firstArrival_11 rfl (lv_at hl 3 rfl) ?_
    have eR : (now : Int32) = (cFa u p now).1 := by unfold cFa; rw [if_pos c8]
    have eM : ((cFa u p now).2) = u := by unfold cFa; rw [if_pos c8]
    exact e_I C0 hr hH ⟨eR, by rw [eM]; exact ⟨hR, hw⟩⟩ (Nat.le_of_ble_eq_true rfl) (Nat.le_of_ble_eq_true rfl) dX9_firstArrival_12
