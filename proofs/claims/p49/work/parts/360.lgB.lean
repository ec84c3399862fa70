set_option maxHeartbeats 1600000 in
set_option maxRecDepth 100000 in
theorem lL_scanned (l : Launch) (hlt : l.stackTraces = false) (Sc : SCR) (G : GT) (A : Nat → Prop) (h : AH) (b : BA) (c m : MM) (n : Nat) (L : LNum) (M : LRef) (o : Nat) (hJ : JW G.2.2.1 h b c L M) (ho : b 14 0 = o) (hwc : WFc c) (hS : Sim n c m) (hw : WFa m) (an : Nat) (f : Nat → Int32) (hL : L an = some (700, f)) (p y : Nat) (hp : p < npN m) (h8 : f (140 + 12 * p + 8) = m 21 p) : lcV l Sc G A yL_scanned cL_scanned 5 8 132 0 0 [.ref (o), .ref (an), .int (nI p), .int (nI y)] h (fun h' => ∃ b', JW G.2.2.1 h' b' c (setL L an 700 (upF (upF f (140 + 12 * p + 3) (m 41 0)) (140 + 12 * p + 8) (if m 21 p < 0 ∧ m 14 p = nI y then m 41 0 else m 21 p))) M ∧ b' 14 0 = o ∧ WFc c) := by
  refine lm_of rfl (Nat.le_of_ble_eq_true rfl) ?_
  intro pr e s m9 below meth c9 C0 hN hr hH ls hl
  obtain ⟨hx, hb, hml, hown, hts, hK, hA, -⟩ := id C0
  have hl : lv_has ls 5 [(0, .ref (o)), (1, .ref (an)), (2, .int (nI p)), (3, .int (nI y))] := hl
  have n40 := hw.np.2
  refine lv_sipush (v := nI 140) hx hb dL_scanned_0 (by decide) ?_
  refine lv_bipush (v := nI 12) hx hb dL_scanned_3 (by decide) ?_
  refine lv_iload_n hx hb dL_scanned_5 rfl (lv_at hl 2 rfl) ?_
  refine lv_imul hx hb dL_scanned_6 ?_
  rw [show nI 12 * nI p = nI (12 * p) from nI_mul]
  refine lv_iadd hx hb dL_scanned_7 ?_
  rw [show nI 140 + nI (12 * p) = nI (140 + 12 * p) from nI_add _ _]
  refine lv_istore (lv' := [(4, .int (nI (140 + 12 * p))), (0, .ref (o)), (1, .ref (an)), (2, .int (nI p)), (3, .int (nI y))]) hx hb dL_scanned_8 hl (by decide) rfl (fun ls hl => ?_)
  refine lv_aload_n hx hb dL_scanned_10 rfl (lv_at hl 2 rfl) ?_
  refine lv_iload hx hb dL_scanned_11 (lv_at hl 0 rfl) ?_
  refine lv_iconst (v := nI 3) hx hb dL_scanned_13 (by decide) ?_
  refine lv_iadd hx hb dL_scanned_14 ?_
  rw [show nI (140 + 12 * p) + nI 3 = nI (140 + 12 * p + 3) from nI_add _ _]
  refine lv_aload_n hx hb dL_scanned_15 rfl (lv_at hl 1 rfl) ?_
  refine j_q0m (rest := [.int (nI (140 + 12 * p + 3)), .ref (an)]) C0 hH hJ ho (cC_X10_minute l G _ _ b c hJ.rest hwc) (v := m 41 0) (v_min hS) mv_X10_minute ml_L_124 rfl ⟨Nat.le_of_ble_eq_true rfl, Nat.le_of_ble_eq_true rfl⟩ hl.1 rfl (Nat.le_of_ble_eq_true rfl) dL_scanned_16 ⟨by show _ ≤ 0; omega, by show _ ≤ 0; omega⟩ (fun H locs hH => ?_)
  refine j_st C0 hH hJ hL (ix := 140 + 12 * p + 3) (by omega) (by decide) dL_scanned_19 (fun h H locs hH hJ => ?_)
  obtain ⟨f_1, hf_1⟩ : ∃ z, z = upF f (140 + 12 * p + 3) (m 41 0) := ⟨_, rfl⟩
  obtain ⟨L_2, hL_2⟩ : ∃ z, z = setL L an 700 f_1 := ⟨_, rfl⟩
  rw [← hf_1, ← hL_2] at hJ
  have hL_L_2 : L_2 an = some (700, f_1) := by rw [hL_2]; exact setL_s _ _ _ _
  refine lv_aload_n hx hb dL_scanned_20 rfl (lv_at hl 2 rfl) ?_
  refine lv_iload hx hb dL_scanned_21 (lv_at hl 0 rfl) ?_
  refine lv_bipush (v := nI 8) hx hb dL_scanned_23 (by decide) ?_
  refine lv_iadd hx hb dL_scanned_25 ?_
  rw [show nI (140 + 12 * p) + nI 8 = nI (140 + 12 * p + 8) from nI_add _ _]
  refine lv_aload_n hx hb dL_scanned_26 rfl (lv_at hl 2 rfl) ?_
  refine lv_iload hx hb dL_scanned_27 (lv_at hl 0 rfl) ?_
  refine lv_bipush (v := nI 8) hx hb dL_scanned_29 (by decide) ?_
  refine lv_iadd hx hb dL_scanned_31 ?_
  rw [show nI (140 + 12 * p) + nI 8 = nI (140 + 12 * p + 8) from nI_add _ _]
  refine j_ld C0 hH hJ hL_L_2 (ix := 140 + 12 * p + 8) (by omega) (by decide) (v := m 21 p) (by rw [hf_1]; unfold upF; rw [if_neg (by omega)]; exact h8) dL_scanned_32 ?_
  refine lv_if_ge (tgt := 52) hx hb dL_scanned_33 (by decide) (fun c33_3 => ?_) (fun c33_3 => ?_)
  · refine lv_aload_n hx hb dL_scanned_52 rfl (lv_at hl 2 rfl) ?_
    refine lv_iload hx hb dL_scanned_53 (lv_at hl 0 rfl) ?_
    refine lv_bipush (v := nI 8) hx hb dL_scanned_55 (by decide) ?_
    refine lv_iadd hx hb dL_scanned_57 ?_
    rw [show nI (140 + 12 * p) + nI 8 = nI (140 + 12 * p + 8) from nI_add _ _]
    refine j_ld C0 hH hJ hL_L_2 (ix := 140 + 12 * p + 8) (by omega) (by decide) (v := m 21 p) (by rw [hf_1]; unfold upF; rw [if_neg (by omega)]; exact h8) dL_scanned_58 ?_
    refine j_st C0 hH hJ hL_L_2 (ix := 140 + 12 * p + 8) (by omega) (by decide) dL_scanned_59 (fun h H locs hH hJ => ?_)
    obtain ⟨f_4, hf_4⟩ : ∃ z, z = upF f_1 (140 + 12 * p + 8) (m 21 p) := ⟨_, rfl⟩
    obtain ⟨L_5, hL_5⟩ : ∃ z, z = setL L_2 an 700 f_4 := ⟨_, rfl⟩
    rw [← hf_4, ← hL_5] at hJ
    have hL_L_2_L_5 : L_5 an = some (700, f_4) := by rw [hL_5]; exact setL_s _ _ _ _
    rw [hL_5, hL_2, setL_2] at hJ
    exact e_V C0 hr hH ⟨b, by rw [if_neg (fun z => (Int32.not_lt.mpr c33_3) z.1)]; rw [hf_4, hf_1] at hJ; exact hJ, ho, hwc⟩ (by omega) (by omega) dL_scanned_60
  · refine lv_aload_n hx hb dL_scanned_36 rfl (lv_at hl 1 rfl) ?_
    refine lv_iload_n hx hb dL_scanned_37 rfl (lv_at hl 3 rfl) ?_
    refine j_q0 (rest := [.int (nI (140 + 12 * p + 8)), .ref (an)]) C0 hH hJ ho (cN_X10_destination l hlt G _ _ b c hJ.rest hwc (nI p) (v_pX hS hw hwc hp)) (v_pX hS hw hwc hp) (v := m 14 p) (v_pk hS hw hp (k := 14) rfl) mv_X10_destination ml_L_128 rfl ⟨Nat.le_of_ble_eq_true rfl, Nat.le_of_ble_eq_true rfl⟩ hl.1 rfl (Nat.le_of_ble_eq_true rfl) dL_scanned_38 ⟨by show _ ≤ 0; omega, by show _ ≤ 0; omega⟩ (fun H locs hH => ?_)
    refine lv_iload_n hx hb dL_scanned_41 rfl (lv_at hl 4 rfl) ?_
    refine lv_icmp_ne (tgt := 52) hx hb dL_scanned_42 (by decide) (fun c42_6 => ?_) (fun c42_6 => ?_)
    · refine lv_aload_n hx hb dL_scanned_52 rfl (lv_at hl 2 rfl) ?_
      refine lv_iload hx hb dL_scanned_53 (lv_at hl 0 rfl) ?_
      refine lv_bipush (v := nI 8) hx hb dL_scanned_55 (by decide) ?_
      refine lv_iadd hx hb dL_scanned_57 ?_
      rw [show nI (140 + 12 * p) + nI 8 = nI (140 + 12 * p + 8) from nI_add _ _]
      refine j_ld C0 hH hJ hL_L_2 (ix := 140 + 12 * p + 8) (by omega) (by decide) (v := m 21 p) (by rw [hf_1]; unfold upF; rw [if_neg (by omega)]; exact h8) dL_scanned_58 ?_
      refine j_st C0 hH hJ hL_L_2 (ix := 140 + 12 * p + 8) (by omega) (by decide) dL_scanned_59 (fun h H locs hH hJ => ?_)
      obtain ⟨f_7, hf_7⟩ : ∃ z, z = upF f_1 (140 + 12 * p + 8) (m 21 p) := ⟨_, rfl⟩
      obtain ⟨L_8, hL_8⟩ : ∃ z, z = setL L_2 an 700 f_7 := ⟨_, rfl⟩
      rw [← hf_7, ← hL_8] at hJ
      have hL_L_2_L_8 : L_8 an = some (700, f_7) := by rw [hL_8]; exact setL_s _ _ _ _
      rw [hL_8, hL_2, setL_2] at hJ
      exact e_V C0 hr hH ⟨b, by rw [if_neg (fun z => c42_6 z.2)]; rw [hf_7, hf_1] at hJ; exact hJ, ho, hwc⟩ (by omega) (by omega) dL_scanned_60
    · refine lv_aload_n hx hb dL_scanned_45 rfl (lv_at hl 1 rfl) ?_
      refine j_q0m (rest := [.int (nI (140 + 12 * p + 8)), .ref (an)]) C0 hH hJ ho (cC_X10_minute l G _ _ b c hJ.rest hwc) (v := m 41 0) (v_min hS) mv_X10_minute ml_L_124 rfl ⟨Nat.le_of_ble_eq_true rfl, Nat.le_of_ble_eq_true rfl⟩ hl.1 rfl (Nat.le_of_ble_eq_true rfl) dL_scanned_46 ⟨by show _ ≤ 0; omega, by show _ ≤ 0; omega⟩ (fun H locs hH => ?_)
      refine lv_goto (tgt := 59) hx hb dL_scanned_49 (by decide) ?_
      refine j_st C0 hH hJ hL_L_2 (ix := 140 + 12 * p + 8) (by omega) (by decide) dL_scanned_59 (fun h H locs hH hJ => ?_)
      obtain ⟨f_9, hf_9⟩ : ∃ z, z = upF f_1 (140 + 12 * p + 8) (m 41 0) := ⟨_, rfl⟩
      obtain ⟨L_10, hL_10⟩ : ∃ z, z = setL L_2 an 700 f_9 := ⟨_, rfl⟩
      rw [← hf_9, ← hL_10] at hJ
      have hL_L_2_L_10 : L_10 an = some (700, f_9) := by rw [hL_10]; exact setL_s _ _ _ _
      rw [hL_10, hL_2, setL_2] at hJ
      exact e_V C0 hr hH ⟨b, by rw [if_pos ⟨Int32.not_le.mp c33_3, c42_6⟩]; rw [hf_9, hf_1] at hJ; exact hJ, ho, hwc⟩ (by omega) (by omega) dL_scanned_60
set_option maxHeartbeats 1600000 in
set_option maxRecDepth 100000 in
theorem lL_isTurned (l : Launch) (hlt : l.stackTraces = false) (Sc : SCR) (G : GT) (A : Nat → Prop) (h : AH) (b : BA) (c m : MM) (n : Nat) (L : LNum) (M : LRef) (o : Nat) (hJ : JW G.2.2.1 h b c L M) (ho : b 14 0 = o) (hwc : WFc c) (hS : Sim n c m) (hw : WFa m) (an : Nat) (f : Nat → Int32) (hL : L an = some (700, f)) (p : Nat) (hp : p < npN m) (h2c : f (140 + 12 * p + 2) = m 13 p) (h28 : m 28 p = 115) (h29 : m 29 p = 1) (h14 : m 14 p = m 13 p) (h23 : m 23 p = 0) (h20 : m 20 p = bAr (plR m p)) : lcI l Sc G A yL_isTurned cL_isTurned 5 (Option.some FieldType.boolean) 10 177 0 0 [.ref (o), .ref (an), .int (nI p)] h (fun r h' => r = nI 1 ∧ ∃ b', JW G.2.2.1 h' b' (cSr c (nI p)) (setL L an 700 (upF (upF f (140 + 12 * p + 3) (m 41 0)) (140 + 12 * p + 8) (if m 15 p = m 13 p then m 41 0 else -1))) M ∧ b' 14 0 = o ∧ WFc (cSr c (nI p))) := by
  refine lm_of rfl (Nat.le_of_ble_eq_true rfl) ?_
  intro pr e s m9 below meth c9 C0 hN hr hH ls hl
  obtain ⟨hx, hb, hml, hown, hts, hK, hA, -⟩ := id C0
  have hl : lv_has ls 5 [(0, .ref (o)), (1, .ref (an)), (2, .int (nI p))] := hl
  have n40 := hw.np.2
  have hn116 : ¬ m 28 p = 116 := by rw [h28]; decide
  refine lv_sipush (v := nI 140) hx hb dL_isTurned_0 (by decide) ?_
  refine lv_bipush (v := nI 12) hx hb dL_isTurned_3 (by decide) ?_
  refine lv_iload_n hx hb dL_isTurned_5 rfl (lv_at hl 2 rfl) ?_
  refine lv_imul hx hb dL_isTurned_6 ?_
  rw [show nI 12 * nI p = nI (12 * p) from nI_mul]
  refine lv_iadd hx hb dL_isTurned_7 ?_
  rw [show nI 140 + nI (12 * p) = nI (140 + 12 * p) from nI_add _ _]
  refine lv_istore_n (lv' := [(3, .int (nI (140 + 12 * p))), (0, .ref (o)), (1, .ref (an)), (2, .int (nI p))]) hx hb dL_isTurned_8 rfl hl (by decide) rfl (fun ls hl => ?_)
  refine lv_aload_n hx hb dL_isTurned_9 rfl (lv_at hl 1 rfl) ?_
  refine j_q0m (rest := []) C0 hH hJ ho (cC_X10_minute l G _ _ b c hJ.rest hwc) (v := m 41 0) (v_min hS) mv_X10_minute ml_L_124 rfl ⟨Nat.le_of_ble_eq_true rfl, Nat.le_of_ble_eq_true rfl⟩ hl.1 rfl (Nat.le_of_ble_eq_true rfl) dL_isTurned_10 ⟨by show _ ≤ 0; omega, by show _ ≤ 0; omega⟩ (fun H locs hH => ?_)
  refine lv_istore (lv' := [(4, .int (m 41 0)), (3, .int (nI (140 + 12 * p))), (0, .ref (o)), (1, .ref (an)), (2, .int (nI p))]) hx hb dL_isTurned_13 hl (by decide) rfl (fun ls hl => ?_)
  refine lv_aload_n hx hb dL_isTurned_15 rfl (lv_at hl 3 rfl) ?_
  refine lv_iload_n hx hb dL_isTurned_16 rfl (lv_at hl 1 rfl) ?_
  refine lv_iconst (v := nI 3) hx hb dL_isTurned_17 (by decide) ?_
  refine lv_iadd hx hb dL_isTurned_18 ?_
  rw [show nI (140 + 12 * p) + nI 3 = nI (140 + 12 * p + 3) from nI_add _ _]
  refine lv_iload hx hb dL_isTurned_19 (lv_at hl 0 rfl) ?_
  refine j_st C0 hH hJ hL (ix := 140 + 12 * p + 3) (by omega) (by decide) dL_isTurned_21 (fun h H locs hH hJ => ?_)
  obtain ⟨f_1, hf_1⟩ : ∃ z, z = upF f (140 + 12 * p + 3) (m 41 0) := ⟨_, rfl⟩
  obtain ⟨L_2, hL_2⟩ : ∃ z, z = setL L an 700 f_1 := ⟨_, rfl⟩
  rw [← hf_1, ← hL_2] at hJ
  have hL_L_2 : L_2 an = some (700, f_1) := by rw [hL_2]; exact setL_s _ _ _ _
  refine lv_aload_n hx hb dL_isTurned_22 rfl (lv_at hl 3 rfl) ?_
  refine lv_iload_n hx hb dL_isTurned_23 rfl (lv_at hl 1 rfl) ?_
  refine lv_bipush (v := nI 8) hx hb dL_isTurned_24 (by decide) ?_
  refine lv_iadd hx hb dL_isTurned_26 ?_
  rw [show nI (140 + 12 * p) + nI 8 = nI (140 + 12 * p + 8) from nI_add _ _]
  refine lv_aload_n hx hb dL_isTurned_27 rfl (lv_at hl 2 rfl) ?_
  refine lv_iload_n hx hb dL_isTurned_28 rfl (lv_at hl 4 rfl) ?_
  refine j_w0 (As := [.int (nI p)]) (rest := [.int (nI (140 + 12 * p + 8)), .ref (an)]) (v := m 15 p) C0 hN hH ho (lW_at (nI p) hJ.own hJ.obj (cN_X10_at l hlt G _ _ b c hJ.rest hwc (nI p) (v_at hS hw hwc hp hn116)) (fun E h9 z => absurd ((v_at hS hw hwc hp hn116).symm.trans z.1) (fun y => nomatch y))) (fun r h9 z => z.elim (fun y => ⟨y.2.1.trans (v_pk hS hw hp (k := 15) rfl), y.2.2⟩) (fun ⟨E, y, _⟩ => absurd ((v_at hS hw hwc hp hn116).symm.trans y.1) (fun q => nomatch q))) ms_L_at ml_L_149 rfl ⟨Nat.le_of_ble_eq_true rfl, Nat.le_of_ble_eq_true rfl⟩ hl.1 rfl (Nat.le_of_ble_eq_true rfl) dL_isTurned_29 ⟨by show _ ≤ 0; omega, by show _ ≤ 0; omega⟩ (fun H locs hH => ?_)
  refine lv_aload_n hx hb dL_isTurned_32 rfl (lv_at hl 3 rfl) ?_
  refine lv_iload_n hx hb dL_isTurned_33 rfl (lv_at hl 1 rfl) ?_
  refine lv_iconst (v := nI 2) hx hb dL_isTurned_34 (by decide) ?_
  refine lv_iadd hx hb dL_isTurned_35 ?_
  rw [show nI (140 + 12 * p) + nI 2 = nI (140 + 12 * p + 2) from nI_add _ _]
  refine j_ld C0 hH hJ hL_L_2 (ix := 140 + 12 * p + 2) (by omega) (by decide) (v := m 13 p) (by rw [hf_1]; unfold upF; rw [if_neg (by omega)]; exact h2c) dL_isTurned_36 ?_
  refine lv_icmp_ne (tgt := 45) hx hb dL_isTurned_37 (by decide) (fun c37_3 => ?_) (fun c37_3 => ?_)
  · refine lv_iconst (v := (-1)) hx hb dL_isTurned_45 (by decide) ?_
    refine j_st C0 hH hJ hL_L_2 (ix := 140 + 12 * p + 8) (by omega) (by decide) dL_isTurned_46 (fun h H locs hH hJ => ?_)
    obtain ⟨f_4, hf_4⟩ : ∃ z, z = upF f_1 (140 + 12 * p + 8) (-1) := ⟨_, rfl⟩
    obtain ⟨L_5, hL_5⟩ : ∃ z, z = setL L_2 an 700 f_4 := ⟨_, rfl⟩
    rw [← hf_4, ← hL_5] at hJ
    have hL_L_2_L_5 : L_5 an = some (700, f_4) := by rw [hL_5]; exact setL_s _ _ _ _
    refine lv_aload_n hx hb dL_isTurned_47 rfl (lv_at hl 2 rfl) ?_
    refine lv_iload_n hx hb dL_isTurned_48 rfl (lv_at hl 4 rfl) ?_
    refine j_q0 (rest := []) C0 hH hJ ho (cN_X10_isReturn l hlt G _ _ b c hJ.rest hwc (nI p) (v_nar29 hS hw hp) (v_pX hS hw hwc hp)) (v_pX hS hw hwc hp) (v := m 29 p) (v_pk hS hw hp (k := 29) rfl) mv_X10_isReturn ml_L_151 rfl ⟨Nat.le_of_ble_eq_true rfl, Nat.le_of_ble_eq_true rfl⟩ hl.1 rfl (Nat.le_of_ble_eq_true rfl) dL_isTurned_49 ⟨by show _ ≤ 0; omega, by show _ ≤ 0; omega⟩ (fun H locs hH => ?_)
    refine lv_if_eq (tgt := 103) hx hb dL_isTurned_52 (by decide) (fun c52_6 => ?_) (fun c52_6 => ?_)
    · exact absurd c52_6 (by rw [h29]; decide)
    · refine lv_aload_n hx hb dL_isTurned_55 rfl (lv_at hl 2 rfl) ?_
      refine lv_iload_n hx hb dL_isTurned_56 rfl (lv_at hl 4 rfl) ?_
      refine j_q0 (rest := []) C0 hH hJ ho (cN_X10_destination l hlt G _ _ b c hJ.rest hwc (nI p) (v_pX hS hw hwc hp)) (v_pX hS hw hwc hp) (v := m 14 p) (v_pk hS hw hp (k := 14) rfl) mv_X10_destination ml_L_128 rfl ⟨Nat.le_of_ble_eq_true rfl, Nat.le_of_ble_eq_true rfl⟩ hl.1 rfl (Nat.le_of_ble_eq_true rfl) dL_isTurned_57 ⟨by show _ ≤ 0; omega, by show _ ≤ 0; omega⟩ (fun H locs hH => ?_)
      refine lv_aload_n hx hb dL_isTurned_60 rfl (lv_at hl 3 rfl) ?_
      refine lv_iload_n hx hb dL_isTurned_61 rfl (lv_at hl 1 rfl) ?_
      refine lv_iconst (v := nI 2) hx hb dL_isTurned_62 (by decide) ?_
      refine lv_iadd hx hb dL_isTurned_63 ?_
      rw [show nI (140 + 12 * p) + nI 2 = nI (140 + 12 * p + 2) from nI_add _ _]
      refine j_ld C0 hH hJ hL_L_2_L_5 (ix := 140 + 12 * p + 2) (by omega) (by decide) (v := m 13 p) (by rw [hf_4, hf_1]; unfold upF; rw [if_neg (by omega), if_neg (by omega)]; exact h2c) dL_isTurned_64 ?_
      refine lv_icmp_ne (tgt := 103) hx hb dL_isTurned_65 (by decide) (fun c65_7 => ?_) (fun c65_7 => ?_)
      · exact absurd (h14) c65_7
      · refine lv_aload_n hx hb dL_isTurned_68 rfl (lv_at hl 2 rfl) ?_
        refine lv_iload_n hx hb dL_isTurned_69 rfl (lv_at hl 4 rfl) ?_
        refine j_q0 (rest := []) C0 hH hJ ho (cN_X10_attempts l hlt G _ _ b c hJ.rest hwc (nI p) (v_pX hS hw hwc hp)) (v_pX hS hw hwc hp) (v := m 23 p) (v_pk hS hw hp (k := 23) rfl) mv_X10_attempts ml_L_166 rfl ⟨Nat.le_of_ble_eq_true rfl, Nat.le_of_ble_eq_true rfl⟩ hl.1 rfl (Nat.le_of_ble_eq_true rfl) dL_isTurned_70 ⟨by show _ ≤ 0; omega, by show _ ≤ 0; omega⟩ (fun H locs hH => ?_)
        refine lv_if_ne (tgt := 103) hx hb dL_isTurned_73 (by decide) (fun c73_8 => ?_) (fun c73_8 => ?_)
        · exact absurd (h23) c73_8
        · refine lv_aload_n hx hb dL_isTurned_76 rfl (lv_at hl 2 rfl) ?_
          refine lv_iload_n hx hb dL_isTurned_77 rfl (lv_at hl 4 rfl) ?_
          refine j_q0 (rest := []) C0 hH hJ ho (cN_X10_promise l hlt G _ _ b c hJ.rest hwc (nI p) (v_pX hS hw hwc hp)) (v_pX hS hw hwc hp) (v := m 20 p) (v_pk hS hw hp (k := 20) rfl) mv_X10_promise ml_L_142 rfl ⟨Nat.le_of_ble_eq_true rfl, Nat.le_of_ble_eq_true rfl⟩ hl.1 rfl (Nat.le_of_ble_eq_true rfl) dL_isTurned_78 ⟨by show _ ≤ 0; omega, by show _ ≤ 0; omega⟩ (fun H locs hH => ?_)
          refine lv_aload_n hx hb dL_isTurned_81 rfl (lv_at hl 2 rfl) ?_
          refine lv_iload_n hx hb dL_isTurned_82 rfl (lv_at hl 4 rfl) ?_
          have hwc0 := hwc
          refine j_w1 (As := [.int (nI p)]) (rest := [.int (m 20 p)]) (v := bAr (plR m p)) (c' := cSr c (nI p)) C0 hN hH hJ ho (lW_arrival (nI p) hJ.own hJ.obj (cN_X10_arrival l hlt G _ _ b c hJ.rest hwc (nI p) (v_sc hS hw hwc hp h28)) (hin_n (v_sc hS hw hwc hp h28) (fun E h9 z => z.1))) (hv_in0 (v_sc hS hw hwc hp h28) (v_arv hS hw hwc hp h28).1 (fun E h9 z => z.1)) ms_L_arrival ml_L_145 rfl ⟨Nat.le_of_ble_eq_true rfl, Nat.le_of_ble_eq_true rfl⟩ hl.1 rfl (Nat.le_of_ble_eq_true rfl) dL_isTurned_83 ⟨by show _ ≤ 0; omega, by show _ ≤ 0; omega⟩ (fun h b H locs hH hJ ho hwc => ?_)
          have hS := (v_arv hS hw hwc0 hp h28).2
          refine lv_icmp_ne (tgt := 103) hx hb dL_isTurned_86 (by decide) (fun c86_9 => ?_) (fun c86_9 => ?_)
          · exact absurd (h20) c86_9
          · refine lv_aload_n hx hb dL_isTurned_89 rfl (lv_at hl 2 rfl) ?_
            refine lv_iload_n hx hb dL_isTurned_90 rfl (lv_at hl 4 rfl) ?_
            refine j_w0 (As := [.int (nI p)]) (rest := []) (v := m 28 p) C0 hN hH ho (lW_state (nI p) hJ.own hJ.obj (cN_X10_state l hlt G _ _ b (cSr c (nI p)) hJ.rest hwc (nI p) (v_nar28 hS hw hp) (v_pX hS hw hwc hp)) (fun E h9 z => absurd ((v_pX hS hw hwc hp).symm.trans z.1) (fun y => nomatch y))) (fun r h9 z => z.elim (fun y => ⟨y.2.1.trans (v_pk hS hw hp (k := 28) rfl), y.2.2⟩) (fun ⟨E, y, _⟩ => absurd ((v_pX hS hw hwc hp).symm.trans y.1) (fun q => nomatch q))) ms_L_state ml_L_147 rfl ⟨Nat.le_of_ble_eq_true rfl, Nat.le_of_ble_eq_true rfl⟩ hl.1 rfl (Nat.le_of_ble_eq_true rfl) dL_isTurned_91 ⟨by show _ ≤ 0; omega, by show _ ≤ 0; omega⟩ (fun H locs hH => ?_)
            refine lv_bipush (v := nI 115) hx hb dL_isTurned_94 (by decide) ?_
            refine lv_icmp_ne (tgt := 103) hx hb dL_isTurned_96 (by decide) (fun c96_10 => ?_) (fun c96_10 => ?_)
            · exact absurd (by rw [h28]; rfl) c96_10
            · refine lv_iconst (v := nI 1) hx hb dL_isTurned_99 (by decide) ?_
              refine lv_goto (tgt := 104) hx hb dL_isTurned_100 (by decide) ?_
              rw [hL_5, hL_2, setL_2] at hJ
              exact e_Z C0 hr (by decide) hH ⟨rfl, b, by rw [if_neg c37_3]; rw [hf_4, hf_1] at hJ; exact hJ, ho, hwc⟩ (by omega) (by omega) dL_isTurned_104
  · refine lv_iload hx hb dL_isTurned_40 (lv_at hl 0 rfl) ?_
    refine lv_goto (tgt := 46) hx hb dL_isTurned_42 (by decide) ?_
    refine j_st C0 hH hJ hL_L_2 (ix := 140 + 12 * p + 8) (by omega) (by decide) dL_isTurned_46 (fun h H locs hH hJ => ?_)
    obtain ⟨f_11, hf_11⟩ : ∃ z, z = upF f_1 (140 + 12 * p + 8) (m 41 0) := ⟨_, rfl⟩
    obtain ⟨L_12, hL_12⟩ : ∃ z, z = setL L_2 an 700 f_11 := ⟨_, rfl⟩
    rw [← hf_11, ← hL_12] at hJ
    have hL_L_2_L_12 : L_12 an = some (700, f_11) := by rw [hL_12]; exact setL_s _ _ _ _
    refine lv_aload_n hx hb dL_isTurned_47 rfl (lv_at hl 2 rfl) ?_
    refine lv_iload_n hx hb dL_isTurned_48 rfl (lv_at hl 4 rfl) ?_
    refine j_q0 (rest := []) C0 hH hJ ho (cN_X10_isReturn l hlt G _ _ b c hJ.rest hwc (nI p) (v_nar29 hS hw hp) (v_pX hS hw hwc hp)) (v_pX hS hw hwc hp) (v := m 29 p) (v_pk hS hw hp (k := 29) rfl) mv_X10_isReturn ml_L_151 rfl ⟨Nat.le_of_ble_eq_true rfl, Nat.le_of_ble_eq_true rfl⟩ hl.1 rfl (Nat.le_of_ble_eq_true rfl) dL_isTurned_49 ⟨by show _ ≤ 0; omega, by show _ ≤ 0; omega⟩ (fun H locs hH => ?_)
    refine lv_if_eq (tgt := 103) hx hb dL_isTurned_52 (by decide) (fun c52_13 => ?_) (fun c52_13 => ?_)
    · exact absurd c52_13 (by rw [h29]; decide)
    · refine lv_aload_n hx hb dL_isTurned_55 rfl (lv_at hl 2 rfl) ?_
      refine lv_iload_n hx hb dL_isTurned_56 rfl (lv_at hl 4 rfl) ?_
      refine j_q0 (rest := []) C0 hH hJ ho (cN_X10_destination l hlt G _ _ b c hJ.rest hwc (nI p) (v_pX hS hw hwc hp)) (v_pX hS hw hwc hp) (v := m 14 p) (v_pk hS hw hp (k := 14) rfl) mv_X10_destination ml_L_128 rfl ⟨Nat.le_of_ble_eq_true rfl, Nat.le_of_ble_eq_true rfl⟩ hl.1 rfl (Nat.le_of_ble_eq_true rfl) dL_isTurned_57 ⟨by show _ ≤ 0; omega, by show _ ≤ 0; omega⟩ (fun H locs hH => ?_)
      refine lv_aload_n hx hb dL_isTurned_60 rfl (lv_at hl 3 rfl) ?_
      refine lv_iload_n hx hb dL_isTurned_61 rfl (lv_at hl 1 rfl) ?_
      refine lv_iconst (v := nI 2) hx hb dL_isTurned_62 (by decide) ?_
      refine lv_iadd hx hb dL_isTurned_63 ?_
      rw [show nI (140 + 12 * p) + nI 2 = nI (140 + 12 * p + 2) from nI_add _ _]
      refine j_ld C0 hH hJ hL_L_2_L_12 (ix := 140 + 12 * p + 2) (by omega) (by decide) (v := m 13 p) (by rw [hf_11, hf_1]; unfold upF; rw [if_neg (by omega), if_neg (by omega)]; exact h2c) dL_isTurned_64 ?_
      refine lv_icmp_ne (tgt := 103) hx hb dL_isTurned_65 (by decide) (fun c65_14 => ?_) (fun c65_14 => ?_)
      · exact absurd (h14) c65_14
      · refine lv_aload_n hx hb dL_isTurned_68 rfl (lv_at hl 2 rfl) ?_
        refine lv_iload_n hx hb dL_isTurned_69 rfl (lv_at hl 4 rfl) ?_
        refine j_q0 (rest := []) C0 hH hJ ho (cN_X10_attempts l hlt G _ _ b c hJ.rest hwc (nI p) (v_pX hS hw hwc hp)) (v_pX hS hw hwc hp) (v := m 23 p) (v_pk hS hw hp (k := 23) rfl) mv_X10_attempts ml_L_166 rfl ⟨Nat.le_of_ble_eq_true rfl, Nat.le_of_ble_eq_true rfl⟩ hl.1 rfl (Nat.le_of_ble_eq_true rfl) dL_isTurned_70 ⟨by show _ ≤ 0; omega, by show _ ≤ 0; omega⟩ (fun H locs hH => ?_)
        refine lv_if_ne (tgt := 103) hx hb dL_isTurned_73 (by decide) (fun c73_15 => ?_) (fun c73_15 => ?_)
        · exact absurd (h23) c73_15
        · refine lv_aload_n hx hb dL_isTurned_76 rfl (lv_at hl 2 rfl) ?_
          refine lv_iload_n hx hb dL_isTurned_77 rfl (lv_at hl 4 rfl) ?_
          refine j_q0 (rest := []) C0 hH hJ ho (cN_X10_promise l hlt G _ _ b c hJ.rest hwc (nI p) (v_pX hS hw hwc hp)) (v_pX hS hw hwc hp) (v := m 20 p) (v_pk hS hw hp (k := 20) rfl) mv_X10_promise ml_L_142 rfl ⟨Nat.le_of_ble_eq_true rfl, Nat.le_of_ble_eq_true rfl⟩ hl.1 rfl (Nat.le_of_ble_eq_true rfl) dL_isTurned_78 ⟨by show _ ≤ 0; omega, by show _ ≤ 0; omega⟩ (fun H locs hH => ?_)
          refine lv_aload_n hx hb dL_isTurned_81 rfl (lv_at hl 2 rfl) ?_
          refine lv_iload_n hx hb dL_isTurned_82 rfl (lv_at hl 4 rfl) ?_
          have hwc0 := hwc
          refine j_w1 (As := [.int (nI p)]) (rest := [.int (m 20 p)]) (v := bAr (plR m p)) (c' := cSr c (nI p)) C0 hN hH hJ ho (lW_arrival (nI p) hJ.own hJ.obj (cN_X10_arrival l hlt G _ _ b c hJ.rest hwc (nI p) (v_sc hS hw hwc hp h28)) (hin_n (v_sc hS hw hwc hp h28) (fun E h9 z => z.1))) (hv_in0 (v_sc hS hw hwc hp h28) (v_arv hS hw hwc hp h28).1 (fun E h9 z => z.1)) ms_L_arrival ml_L_145 rfl ⟨Nat.le_of_ble_eq_true rfl, Nat.le_of_ble_eq_true rfl⟩ hl.1 rfl (Nat.le_of_ble_eq_true rfl) dL_isTurned_83 ⟨by show _ ≤ 0; omega, by show _ ≤ 0; omega⟩ (fun h b H locs hH hJ ho hwc => ?_)
          have hS := (v_arv hS hw hwc0 hp h28).2
          refine lv_icmp_ne (tgt := 103) hx hb dL_isTurned_86 (by decide) (fun c86_16 => ?_) (fun c86_16 => ?_)
          · exact absurd (h20) c86_16
          · refine lv_aload_n hx hb dL_isTurned_89 rfl (lv_at hl 2 rfl) ?_
            refine lv_iload_n hx hb dL_isTurned_90 rfl (lv_at hl 4 rfl) ?_
            refine j_w0 (As := [.int (nI p)]) (rest := []) (v := m 28 p) C0 hN hH ho (lW_state (nI p) hJ.own hJ.obj (cN_X10_state l hlt G _ _ b (cSr c (nI p)) hJ.rest hwc (nI p) (v_nar28 hS hw hp) (v_pX hS hw hwc hp)) (fun E h9 z => absurd ((v_pX hS hw hwc hp).symm.trans z.1) (fun y => nomatch y))) (fun r h9 z => z.elim (fun y => ⟨y.2.1.trans (v_pk hS hw hp (k := 28) rfl), y.2.2⟩) (fun ⟨E, y, _⟩ => absurd ((v_pX hS hw hwc hp).symm.trans y.1) (fun q => nomatch q))) ms_L_state ml_L_147 rfl ⟨Nat.le_of_ble_eq_true rfl, Nat.le_of_ble_eq_true rfl⟩ hl.1 rfl (Nat.le_of_ble_eq_true rfl) dL_isTurned_91 ⟨by show _ ≤ 0; omega, by show _ ≤ 0; omega⟩ (fun H locs hH => ?_)
            refine lv_bipush (v := nI 115) hx hb dL_isTurned_94 (by decide) ?_
            refine lv_icmp_ne (tgt := 103) hx hb dL_isTurned_96 (by decide) (fun c96_17 => ?_) (fun c96_17 => ?_)
            · exact absurd (by rw [h28]; rfl) c96_17
            · refine lv_iconst (v := nI 1) hx hb dL_isTurned_99 (by decide) ?_
              refine lv_goto (tgt := 104) hx hb dL_isTurned_100 (by decide) ?_
              rw [hL_12, hL_2, setL_2] at hJ
              exact e_Z C0 hr (by decide) hH ⟨rfl, b, by rw [if_pos c37_3]; rw [hf_11, hf_1] at hJ; exact hJ, ho, hwc⟩ (by omega) (by omega) dL_isTurned_104
set_option maxHeartbeats 1600000 in
set_option maxRecDepth 100000 in
theorem lL_isAhead (l : Launch) (hlt : l.stackTraces = false) (Sc : SCR) (G : GT) (A : Nat → Prop) (h : AH) (b : BA) (c m : MM) (n : Nat) (L : LNum) (M : LRef) (o : Nat) (hJ : JW G.2.2.1 h b c L M) (ho : b 14 0 = o) (hwc : WFc c) (hS : Sim n c m) (hw : WFa m) (an : Nat) (f : Nat → Int32) (hL : L an = some (700, f)) (hT : NT f m) (p q : Nat) (hp : p < npN m) (hq : q < npN m) : lcI l Sc G A yL_isAhead cL_isAhead 6 (Option.some FieldType.boolean) 8 132 0 0 [.ref (o), .ref (an), .int (nI p), .int (nI q)] h (fun r h' => r = ahL m p q ∧ h' = h) := by
  refine lm_of rfl (Nat.le_of_ble_eq_true rfl) ?_
  intro pr e s m9 below meth c9 C0 hN hr hH ls hl
  obtain ⟨hx, hb, hml, hown, hts, hK, hA, -⟩ := id C0
  have hl : lv_has ls 6 [(0, .ref (o)), (1, .ref (an)), (2, .int (nI p)), (3, .int (nI q))] := hl
  have n40 := hw.np.2
  refine lv_aload_n hx hb dL_isAhead_0 rfl (lv_at hl 1 rfl) ?_
  refine lv_sipush (v := nI 141) hx hb dL_isAhead_1 (by decide) ?_
  refine lv_bipush (v := nI 12) hx hb dL_isAhead_4 (by decide) ?_
  refine lv_iload_n hx hb dL_isAhead_6 rfl (lv_at hl 2 rfl) ?_
  refine lv_imul hx hb dL_isAhead_7 ?_
  rw [show nI 12 * nI p = nI (12 * p) from nI_mul]
  refine lv_iadd hx hb dL_isAhead_8 ?_
  rw [show nI 141 + nI (12 * p) = nI (141 + 12 * p) from nI_add _ _]
  refine j_ld C0 hH hJ hL (ix := 141 + 12 * p) (by omega) (by decide) (v := m 12 p) ((congrArg f (by omega)).trans (hT.pa hp).g1) dL_isAhead_9 ?_
  refine lv_aload_n hx hb dL_isAhead_10 rfl (lv_at hl 1 rfl) ?_
  refine lv_sipush (v := nI 141) hx hb dL_isAhead_11 (by decide) ?_
  refine lv_bipush (v := nI 12) hx hb dL_isAhead_14 (by decide) ?_
  refine lv_iload_n hx hb dL_isAhead_16 rfl (lv_at hl 3 rfl) ?_
  refine lv_imul hx hb dL_isAhead_17 ?_
  rw [show nI 12 * nI q = nI (12 * q) from nI_mul]
  refine lv_iadd hx hb dL_isAhead_18 ?_
  rw [show nI 141 + nI (12 * q) = nI (141 + 12 * q) from nI_add _ _]
  refine j_ld C0 hH hJ hL (ix := 141 + 12 * q) (by omega) (by decide) (v := m 12 q) ((congrArg f (by omega)).trans (hT.pa hq).g1) dL_isAhead_19 ?_
  refine lv_isub hx hb dL_isAhead_20 ?_
  refine lv_istore (lv' := [(4, .int ((m 12 p) - (m 12 q))), (0, .ref (o)), (1, .ref (an)), (2, .int (nI p)), (3, .int (nI q))]) hx hb dL_isAhead_21 hl (by decide) rfl (fun ls hl => ?_)
  refine lv_aload_n hx hb dL_isAhead_23 rfl (lv_at hl 1 rfl) ?_
  refine lv_iload_n hx hb dL_isAhead_24 rfl (lv_at hl 3 rfl) ?_
  refine j_q0 (rest := []) C0 hH hJ ho (cN_X10_promise l hlt G _ _ b c hJ.rest hwc (nI p) (v_pX hS hw hwc hp)) (v_pX hS hw hwc hp) (v := m 20 p) (v_pk hS hw hp (k := 20) rfl) mv_X10_promise ml_L_142 rfl ⟨Nat.le_of_ble_eq_true rfl, Nat.le_of_ble_eq_true rfl⟩ hl.1 rfl (Nat.le_of_ble_eq_true rfl) dL_isAhead_25 ⟨by show _ ≤ 0; omega, by show _ ≤ 0; omega⟩ (fun H locs hH => ?_)
  refine lv_if_ge (tgt := 36) hx hb dL_isAhead_28 (by decide) (fun c28_1 => ?_) (fun c28_1 => ?_)
  · refine lv_aload_n hx hb dL_isAhead_36 rfl (lv_at hl 1 rfl) ?_
    refine lv_iload_n hx hb dL_isAhead_37 rfl (lv_at hl 3 rfl) ?_
    refine j_q0 (rest := []) C0 hH hJ ho (cN_X10_promise l hlt G _ _ b c hJ.rest hwc (nI p) (v_pX hS hw hwc hp)) (v_pX hS hw hwc hp) (v := m 20 p) (v_pk hS hw hp (k := 20) rfl) mv_X10_promise ml_L_142 rfl ⟨Nat.le_of_ble_eq_true rfl, Nat.le_of_ble_eq_true rfl⟩ hl.1 rfl (Nat.le_of_ble_eq_true rfl) dL_isAhead_38 ⟨by show _ ≤ 0; omega, by show _ ≤ 0; omega⟩ (fun H locs hH => ?_)
    refine lv_aload_n hx hb dL_isAhead_41 rfl (lv_at hl 1 rfl) ?_
    refine lv_iload_n hx hb dL_isAhead_42 rfl (lv_at hl 4 rfl) ?_
    refine j_q0 (rest := [.int (m 20 p)]) C0 hH hJ ho (cN_X10_promise l hlt G _ _ b c hJ.rest hwc (nI q) (v_pX hS hw hwc hq)) (v_pX hS hw hwc hq) (v := m 20 q) (v_pk hS hw hq (k := 20) rfl) mv_X10_promise ml_L_142 rfl ⟨Nat.le_of_ble_eq_true rfl, Nat.le_of_ble_eq_true rfl⟩ hl.1 rfl (Nat.le_of_ble_eq_true rfl) dL_isAhead_43 ⟨by show _ ≤ 0; omega, by show _ ≤ 0; omega⟩ (fun H locs hH => ?_)
    refine lv_if_ge (tgt := 54) hx hb dL_isAhead_46 (by decide) (fun c46_2 => ?_) (fun c46_2 => ?_)
    · refine lv_aload_n hx hb dL_isAhead_54 rfl (lv_at hl 1 rfl) ?_
      refine lv_iload_n hx hb dL_isAhead_55 rfl (lv_at hl 4 rfl) ?_
      refine j_q0 (rest := [.int (m 20 p)]) C0 hH hJ ho (cN_X10_promise l hlt G _ _ b c hJ.rest hwc (nI q) (v_pX hS hw hwc hq)) (v_pX hS hw hwc hq) (v := m 20 q) (v_pk hS hw hq (k := 20) rfl) mv_X10_promise ml_L_142 rfl ⟨Nat.le_of_ble_eq_true rfl, Nat.le_of_ble_eq_true rfl⟩ hl.1 rfl (Nat.le_of_ble_eq_true rfl) dL_isAhead_56 ⟨by show _ ≤ 0; omega, by show _ ≤ 0; omega⟩ (fun H locs hH => ?_)
      refine lv_isub hx hb dL_isAhead_59 ?_
      refine lv_istore (lv' := [(5, .int ((m 20 p) - (m 20 q))), (4, .int ((m 12 p) - (m 12 q))), (0, .ref (o)), (1, .ref (an)), (2, .int (nI p)), (3, .int (nI q))]) hx hb dL_isAhead_60 hl (by decide) rfl (fun ls hl => ?_)
      refine lv_iload hx hb dL_isAhead_62 (lv_at hl 1 rfl) ?_
      refine lv_if_eq (tgt := 80) hx hb dL_isAhead_64 (by decide) (fun c64_3 => ?_) (fun c64_3 => ?_)
      · refine lv_iload hx hb dL_isAhead_80 (lv_at hl 0 rfl) ?_
        refine lv_if_eq (tgt := 98) hx hb dL_isAhead_82 (by decide) (fun c82_4 => ?_) (fun c82_4 => ?_)
        · refine lv_iload_n hx hb dL_isAhead_98 rfl (lv_at hl 4 rfl) ?_
          refine lv_iload_n hx hb dL_isAhead_99 rfl (lv_at hl 5 rfl) ?_
          refine lv_icmp_ge (tgt := 107) hx hb dL_isAhead_100 (by decide) (fun c100_5 => ?_) (fun c100_5 => ?_)
          · replace c100_5 : q ≤ p := (nI_leI (a := q) (b := p) (by omega) (by omega)).mp c100_5
            refine lv_iconst (v := nI 0) hx hb dL_isAhead_107 (by decide) ?_
            have Pp : prL m p = m 20 p := if_neg (Int32.not_lt.mpr c28_1)
            have Pq : prL m q = m 20 q := if_neg (Int32.not_lt.mpr c46_2)
            exact e_Z C0 hr (by decide) hH ⟨by unfold ahL; rw [if_neg (fun z => z c64_3), Pp, Pq, if_neg (fun z => z c82_4), bi_f (Nat.not_lt.mpr c100_5)]; rfl, rfl⟩ (by omega) (by omega) dL_isAhead_108
          · replace c100_5 : ¬ (q ≤ p) := fun z => c100_5 ((nI_leI (a := q) (b := p) (by omega) (by omega)).mpr z)
            refine lv_iconst (v := nI 1) hx hb dL_isAhead_103 (by decide) ?_
            refine lv_goto (tgt := 108) hx hb dL_isAhead_104 (by decide) ?_
            have Pp : prL m p = m 20 p := if_neg (Int32.not_lt.mpr c28_1)
            have Pq : prL m q = m 20 q := if_neg (Int32.not_lt.mpr c46_2)
            exact e_Z C0 hr (by decide) hH ⟨by unfold ahL; rw [if_neg (fun z => z c64_3), Pp, Pq, if_neg (fun z => z c82_4), bi_t (Nat.not_le.mp c100_5)]; rfl, rfl⟩ (by omega) (by omega) dL_isAhead_108
        · refine lv_iload hx hb dL_isAhead_85 (lv_at hl 0 rfl) ?_
          refine lv_if_ge (tgt := 94) hx hb dL_isAhead_87 (by decide) (fun c87_6 => ?_) (fun c87_6 => ?_)
          · refine lv_iconst (v := nI 0) hx hb dL_isAhead_94 (by decide) ?_
            refine lv_goto (tgt := 108) hx hb dL_isAhead_95 (by decide) ?_
            have Pp : prL m p = m 20 p := if_neg (Int32.not_lt.mpr c28_1)
            have Pq : prL m q = m 20 q := if_neg (Int32.not_lt.mpr c46_2)
            exact e_Z C0 hr (by decide) hH ⟨by unfold ahL; rw [if_neg (fun z => z c64_3), Pp, Pq, if_pos c82_4, bi_f (Int32.not_lt.mpr c87_6)]; rfl, rfl⟩ (by omega) (by omega) dL_isAhead_108
          · refine lv_iconst (v := nI 1) hx hb dL_isAhead_90 (by decide) ?_
            refine lv_goto (tgt := 108) hx hb dL_isAhead_91 (by decide) ?_
            have Pp : prL m p = m 20 p := if_neg (Int32.not_lt.mpr c28_1)
            have Pq : prL m q = m 20 q := if_neg (Int32.not_lt.mpr c46_2)
            exact e_Z C0 hr (by decide) hH ⟨by unfold ahL; rw [if_neg (fun z => z c64_3), Pp, Pq, if_pos c82_4, bi_t (Int32.not_le.mp c87_6)]; rfl, rfl⟩ (by omega) (by omega) dL_isAhead_108
      · refine lv_iload hx hb dL_isAhead_67 (lv_at hl 1 rfl) ?_
        refine lv_if_ge (tgt := 76) hx hb dL_isAhead_69 (by decide) (fun c69_7 => ?_) (fun c69_7 => ?_)
        · refine lv_iconst (v := nI 0) hx hb dL_isAhead_76 (by decide) ?_
          refine lv_goto (tgt := 108) hx hb dL_isAhead_77 (by decide) ?_
          have Pp : prL m p = m 20 p := if_neg (Int32.not_lt.mpr c28_1)
          have Pq : prL m q = m 20 q := if_neg (Int32.not_lt.mpr c46_2)
          exact e_Z C0 hr (by decide) hH ⟨by unfold ahL; rw [if_pos c64_3, bi_f (Int32.not_lt.mpr c69_7)]; rfl, rfl⟩ (by omega) (by omega) dL_isAhead_108
        · refine lv_iconst (v := nI 1) hx hb dL_isAhead_72 (by decide) ?_
          refine lv_goto (tgt := 108) hx hb dL_isAhead_73 (by decide) ?_
          have Pp : prL m p = m 20 p := if_neg (Int32.not_lt.mpr c28_1)
          have Pq : prL m q = m 20 q := if_neg (Int32.not_lt.mpr c46_2)
          exact e_Z C0 hr (by decide) hH ⟨by unfold ahL; rw [if_pos c64_3, bi_t (Int32.not_le.mp c69_7)]; rfl, rfl⟩ (by omega) (by omega) dL_isAhead_108
    · refine lv_ldc hx hb hown (hts _ kl_L_200) dL_isAhead_49 ?_
      refine lv_goto (tgt := 59) hx hb dL_isAhead_51 (by decide) ?_
      refine lv_isub hx hb dL_isAhead_59 ?_
      refine lv_istore (lv' := [(5, .int ((m 20 p) - 1000000)), (4, .int ((m 12 p) - (m 12 q))), (0, .ref (o)), (1, .ref (an)), (2, .int (nI p)), (3, .int (nI q))]) hx hb dL_isAhead_60 hl (by decide) rfl (fun ls hl => ?_)
      refine lv_iload hx hb dL_isAhead_62 (lv_at hl 1 rfl) ?_
      refine lv_if_eq (tgt := 80) hx hb dL_isAhead_64 (by decide) (fun c64_8 => ?_) (fun c64_8 => ?_)
      · refine lv_iload hx hb dL_isAhead_80 (lv_at hl 0 rfl) ?_
        refine lv_if_eq (tgt := 98) hx hb dL_isAhead_82 (by decide) (fun c82_9 => ?_) (fun c82_9 => ?_)
        · refine lv_iload_n hx hb dL_isAhead_98 rfl (lv_at hl 4 rfl) ?_
          refine lv_iload_n hx hb dL_isAhead_99 rfl (lv_at hl 5 rfl) ?_
          refine lv_icmp_ge (tgt := 107) hx hb dL_isAhead_100 (by decide) (fun c100_10 => ?_) (fun c100_10 => ?_)
          · replace c100_10 : q ≤ p := (nI_leI (a := q) (b := p) (by omega) (by omega)).mp c100_10
            refine lv_iconst (v := nI 0) hx hb dL_isAhead_107 (by decide) ?_
            have Pp : prL m p = m 20 p := if_neg (Int32.not_lt.mpr c28_1)
            have Pq : prL m q = 1000000 := if_pos (Int32.not_le.mp c46_2)
            exact e_Z C0 hr (by decide) hH ⟨by unfold ahL; rw [if_neg (fun z => z c64_8), Pp, Pq, if_neg (fun z => z c82_9), bi_f (Nat.not_lt.mpr c100_10)]; rfl, rfl⟩ (by omega) (by omega) dL_isAhead_108
          · replace c100_10 : ¬ (q ≤ p) := fun z => c100_10 ((nI_leI (a := q) (b := p) (by omega) (by omega)).mpr z)
            refine lv_iconst (v := nI 1) hx hb dL_isAhead_103 (by decide) ?_
            refine lv_goto (tgt := 108) hx hb dL_isAhead_104 (by decide) ?_
            have Pp : prL m p = m 20 p := if_neg (Int32.not_lt.mpr c28_1)
            have Pq : prL m q = 1000000 := if_pos (Int32.not_le.mp c46_2)
            exact e_Z C0 hr (by decide) hH ⟨by unfold ahL; rw [if_neg (fun z => z c64_8), Pp, Pq, if_neg (fun z => z c82_9), bi_t (Nat.not_le.mp c100_10)]; rfl, rfl⟩ (by omega) (by omega) dL_isAhead_108
        · refine lv_iload hx hb dL_isAhead_85 (lv_at hl 0 rfl) ?_
          refine lv_if_ge (tgt := 94) hx hb dL_isAhead_87 (by decide) (fun c87_11 => ?_) (fun c87_11 => ?_)
          · refine lv_iconst (v := nI 0) hx hb dL_isAhead_94 (by decide) ?_
            refine lv_goto (tgt := 108) hx hb dL_isAhead_95 (by decide) ?_
            have Pp : prL m p = m 20 p := if_neg (Int32.not_lt.mpr c28_1)
            have Pq : prL m q = 1000000 := if_pos (Int32.not_le.mp c46_2)
            exact e_Z C0 hr (by decide) hH ⟨by unfold ahL; rw [if_neg (fun z => z c64_8), Pp, Pq, if_pos c82_9, bi_f (Int32.not_lt.mpr c87_11)]; rfl, rfl⟩ (by omega) (by omega) dL_isAhead_108
          · refine lv_iconst (v := nI 1) hx hb dL_isAhead_90 (by decide) ?_
            refine lv_goto (tgt := 108) hx hb dL_isAhead_91 (by decide) ?_
            have Pp : prL m p = m 20 p := if_neg (Int32.not_lt.mpr c28_1)
            have Pq : prL m q = 1000000 := if_pos (Int32.not_le.mp c46_2)
            exact e_Z C0 hr (by decide) hH ⟨by unfold ahL; rw [if_neg (fun z => z c64_8), Pp, Pq, if_pos c82_9, bi_t (Int32.not_le.mp c87_11)]; rfl, rfl⟩ (by omega) (by omega) dL_isAhead_108
      · refine lv_iload hx hb dL_isAhead_67 (lv_at hl 1 rfl) ?_
        refine lv_if_ge (tgt := 76) hx hb dL_isAhead_69 (by decide) (fun c69_12 => ?_) (fun c69_12 => ?_)
        · refine lv_iconst (v := nI 0) hx hb dL_isAhead_76 (by decide) ?_
          refine lv_goto (tgt := 108) hx hb dL_isAhead_77 (by decide) ?_
          have Pp : prL m p = m 20 p := if_neg (Int32.not_lt.mpr c28_1)
          have Pq : prL m q = 1000000 := if_pos (Int32.not_le.mp c46_2)
          exact e_Z C0 hr (by decide) hH ⟨by unfold ahL; rw [if_pos c64_8, bi_f (Int32.not_lt.mpr c69_12)]; rfl, rfl⟩ (by omega) (by omega) dL_isAhead_108
        · refine lv_iconst (v := nI 1) hx hb dL_isAhead_72 (by decide) ?_
          refine lv_goto (tgt := 108) hx hb dL_isAhead_73 (by decide) ?_
          have Pp : prL m p = m 20 p := if_neg (Int32.not_lt.mpr c28_1)
          have Pq : prL m q = 1000000 := if_pos (Int32.not_le.mp c46_2)
          exact e_Z C0 hr (by decide) hH ⟨by unfold ahL; rw [if_pos c64_8, bi_t (Int32.not_le.mp c69_12)]; rfl, rfl⟩ (by omega) (by omega) dL_isAhead_108
  · refine lv_ldc hx hb hown (hts _ kl_L_200) dL_isAhead_31 ?_
    refine lv_goto (tgt := 41) hx hb dL_isAhead_33 (by decide) ?_
    refine lv_aload_n hx hb dL_isAhead_41 rfl (lv_at hl 1 rfl) ?_
    refine lv_iload_n hx hb dL_isAhead_42 rfl (lv_at hl 4 rfl) ?_
    refine j_q0 (rest := [.int (1000000)]) C0 hH hJ ho (cN_X10_promise l hlt G _ _ b c hJ.rest hwc (nI q) (v_pX hS hw hwc hq)) (v_pX hS hw hwc hq) (v := m 20 q) (v_pk hS hw hq (k := 20) rfl) mv_X10_promise ml_L_142 rfl ⟨Nat.le_of_ble_eq_true rfl, Nat.le_of_ble_eq_true rfl⟩ hl.1 rfl (Nat.le_of_ble_eq_true rfl) dL_isAhead_43 ⟨by show _ ≤ 0; omega, by show _ ≤ 0; omega⟩ (fun H locs hH => ?_)
    refine lv_if_ge (tgt := 54) hx hb dL_isAhead_46 (by decide) (fun c46_13 => ?_) (fun c46_13 => ?_)
    · refine lv_aload_n hx hb dL_isAhead_54 rfl (lv_at hl 1 rfl) ?_
      refine lv_iload_n hx hb dL_isAhead_55 rfl (lv_at hl 4 rfl) ?_
      refine j_q0 (rest := [.int (1000000)]) C0 hH hJ ho (cN_X10_promise l hlt G _ _ b c hJ.rest hwc (nI q) (v_pX hS hw hwc hq)) (v_pX hS hw hwc hq) (v := m 20 q) (v_pk hS hw hq (k := 20) rfl) mv_X10_promise ml_L_142 rfl ⟨Nat.le_of_ble_eq_true rfl, Nat.le_of_ble_eq_true rfl⟩ hl.1 rfl (Nat.le_of_ble_eq_true rfl) dL_isAhead_56 ⟨by show _ ≤ 0; omega, by show _ ≤ 0; omega⟩ (fun H locs hH => ?_)
      refine lv_isub hx hb dL_isAhead_59 ?_
      refine lv_istore (lv' := [(5, .int (1000000 - (m 20 q))), (4, .int ((m 12 p) - (m 12 q))), (0, .ref (o)), (1, .ref (an)), (2, .int (nI p)), (3, .int (nI q))]) hx hb dL_isAhead_60 hl (by decide) rfl (fun ls hl => ?_)
      refine lv_iload hx hb dL_isAhead_62 (lv_at hl 1 rfl) ?_
      refine lv_if_eq (tgt := 80) hx hb dL_isAhead_64 (by decide) (fun c64_14 => ?_) (fun c64_14 => ?_)
      · refine lv_iload hx hb dL_isAhead_80 (lv_at hl 0 rfl) ?_
        refine lv_if_eq (tgt := 98) hx hb dL_isAhead_82 (by decide) (fun c82_15 => ?_) (fun c82_15 => ?_)
        · refine lv_iload_n hx hb dL_isAhead_98 rfl (lv_at hl 4 rfl) ?_
          refine lv_iload_n hx hb dL_isAhead_99 rfl (lv_at hl 5 rfl) ?_
          refine lv_icmp_ge (tgt := 107) hx hb dL_isAhead_100 (by decide) (fun c100_16 => ?_) (fun c100_16 => ?_)
          · replace c100_16 : q ≤ p := (nI_leI (a := q) (b := p) (by omega) (by omega)).mp c100_16
            refine lv_iconst (v := nI 0) hx hb dL_isAhead_107 (by decide) ?_
            have Pp : prL m p = 1000000 := if_pos (Int32.not_le.mp c28_1)
            have Pq : prL m q = m 20 q := if_neg (Int32.not_lt.mpr c46_13)
            exact e_Z C0 hr (by decide) hH ⟨by unfold ahL; rw [if_neg (fun z => z c64_14), Pp, Pq, if_neg (fun z => z c82_15), bi_f (Nat.not_lt.mpr c100_16)]; rfl, rfl⟩ (by omega) (by omega) dL_isAhead_108
          · replace c100_16 : ¬ (q ≤ p) := fun z => c100_16 ((nI_leI (a := q) (b := p) (by omega) (by omega)).mpr z)
            refine lv_iconst (v := nI 1) hx hb dL_isAhead_103 (by decide) ?_
            refine lv_goto (tgt := 108) hx hb dL_isAhead_104 (by decide) ?_
            have Pp : prL m p = 1000000 := if_pos (Int32.not_le.mp c28_1)
            have Pq : prL m q = m 20 q := if_neg (Int32.not_lt.mpr c46_13)
            exact e_Z C0 hr (by decide) hH ⟨by unfold ahL; rw [if_neg (fun z => z c64_14), Pp, Pq, if_neg (fun z => z c82_15), bi_t (Nat.not_le.mp c100_16)]; rfl, rfl⟩ (by omega) (by omega) dL_isAhead_108
        · refine lv_iload hx hb dL_isAhead_85 (lv_at hl 0 rfl) ?_
          refine lv_if_ge (tgt := 94) hx hb dL_isAhead_87 (by decide) (fun c87_17 => ?_) (fun c87_17 => ?_)
          · refine lv_iconst (v := nI 0) hx hb dL_isAhead_94 (by decide) ?_
            refine lv_goto (tgt := 108) hx hb dL_isAhead_95 (by decide) ?_
            have Pp : prL m p = 1000000 := if_pos (Int32.not_le.mp c28_1)
            have Pq : prL m q = m 20 q := if_neg (Int32.not_lt.mpr c46_13)
            exact e_Z C0 hr (by decide) hH ⟨by unfold ahL; rw [if_neg (fun z => z c64_14), Pp, Pq, if_pos c82_15, bi_f (Int32.not_lt.mpr c87_17)]; rfl, rfl⟩ (by omega) (by omega) dL_isAhead_108
          · refine lv_iconst (v := nI 1) hx hb dL_isAhead_90 (by decide) ?_
            refine lv_goto (tgt := 108) hx hb dL_isAhead_91 (by decide) ?_
            have Pp : prL m p = 1000000 := if_pos (Int32.not_le.mp c28_1)
            have Pq : prL m q = m 20 q := if_neg (Int32.not_lt.mpr c46_13)
            exact e_Z C0 hr (by decide) hH ⟨by unfold ahL; rw [if_neg (fun z => z c64_14), Pp, Pq, if_pos c82_15, bi_t (Int32.not_le.mp c87_17)]; rfl, rfl⟩ (by omega) (by omega) dL_isAhead_108
      · refine lv_iload hx hb dL_isAhead_67 (lv_at hl 1 rfl) ?_
        refine lv_if_ge (tgt := 76) hx hb dL_isAhead_69 (by decide) (fun c69_18 => ?_) (fun c69_18 => ?_)
        · refine lv_iconst (v := nI 0) hx hb dL_isAhead_76 (by decide) ?_
          refine lv_goto (tgt := 108) hx hb dL_isAhead_77 (by decide) ?_
          have Pp : prL m p = 1000000 := if_pos (Int32.not_le.mp c28_1)
          have Pq : prL m q = m 20 q := if_neg (Int32.not_lt.mpr c46_13)
          exact e_Z C0 hr (by decide) hH ⟨by unfold ahL; rw [if_pos c64_14, bi_f (Int32.not_lt.mpr c69_18)]; rfl, rfl⟩ (by omega) (by omega) dL_isAhead_108
        · refine lv_iconst (v := nI 1) hx hb dL_isAhead_72 (by decide) ?_
          refine lv_goto (tgt := 108) hx hb dL_isAhead_73 (by decide) ?_
          have Pp : prL m p = 1000000 := if_pos (Int32.not_le.mp c28_1)
          have Pq : prL m q = m 20 q := if_neg (Int32.not_lt.mpr c46_13)
          exact e_Z C0 hr (by decide) hH ⟨by unfold ahL; rw [if_pos c64_14, bi_t (Int32.not_le.mp c69_18)]; rfl, rfl⟩ (by omega) (by omega) dL_isAhead_108
    · refine lv_ldc hx hb hown (hts _ kl_L_200) dL_isAhead_49 ?_
      refine lv_goto (tgt := 59) hx hb dL_isAhead_51 (by decide) ?_
      refine lv_isub hx hb dL_isAhead_59 ?_
      refine lv_istore (lv' := [(5, .int (1000000 - 1000000)), (4, .int ((m 12 p) - (m 12 q))), (0, .ref (o)), (1, .ref (an)), (2, .int (nI p)), (3, .int (nI q))]) hx hb dL_isAhead_60 hl (by decide) rfl (fun ls hl => ?_)
      refine lv_iload hx hb dL_isAhead_62 (lv_at hl 1 rfl) ?_
      refine lv_if_eq (tgt := 80) hx hb dL_isAhead_64 (by decide) (fun c64_19 => ?_) (fun c64_19 => ?_)
      · refine lv_iload hx hb dL_isAhead_80 (lv_at hl 0 rfl) ?_
        refine lv_if_eq (tgt := 98) hx hb dL_isAhead_82 (by decide) (fun c82_20 => ?_) (fun c82_20 => ?_)
        · refine lv_iload_n hx hb dL_isAhead_98 rfl (lv_at hl 4 rfl) ?_
          refine lv_iload_n hx hb dL_isAhead_99 rfl (lv_at hl 5 rfl) ?_
          refine lv_icmp_ge (tgt := 107) hx hb dL_isAhead_100 (by decide) (fun c100_21 => ?_) (fun c100_21 => ?_)
          · replace c100_21 : q ≤ p := (nI_leI (a := q) (b := p) (by omega) (by omega)).mp c100_21
            refine lv_iconst (v := nI 0) hx hb dL_isAhead_107 (by decide) ?_
            have Pp : prL m p = 1000000 := if_pos (Int32.not_le.mp c28_1)
            have Pq : prL m q = 1000000 := if_pos (Int32.not_le.mp c46_13)
            exact e_Z C0 hr (by decide) hH ⟨by unfold ahL; rw [if_neg (fun z => z c64_19), Pp, Pq, if_neg (fun z => z c82_20), bi_f (Nat.not_lt.mpr c100_21)]; rfl, rfl⟩ (by omega) (by omega) dL_isAhead_108
          · replace c100_21 : ¬ (q ≤ p) := fun z => c100_21 ((nI_leI (a := q) (b := p) (by omega) (by omega)).mpr z)
            refine lv_iconst (v := nI 1) hx hb dL_isAhead_103 (by decide) ?_
            refine lv_goto (tgt := 108) hx hb dL_isAhead_104 (by decide) ?_
            have Pp : prL m p = 1000000 := if_pos (Int32.not_le.mp c28_1)
            have Pq : prL m q = 1000000 := if_pos (Int32.not_le.mp c46_13)
            exact e_Z C0 hr (by decide) hH ⟨by unfold ahL; rw [if_neg (fun z => z c64_19), Pp, Pq, if_neg (fun z => z c82_20), bi_t (Nat.not_le.mp c100_21)]; rfl, rfl⟩ (by omega) (by omega) dL_isAhead_108
        · refine lv_iload hx hb dL_isAhead_85 (lv_at hl 0 rfl) ?_
          refine lv_if_ge (tgt := 94) hx hb dL_isAhead_87 (by decide) (fun c87_22 => ?_) (fun c87_22 => ?_)
          · refine lv_iconst (v := nI 0) hx hb dL_isAhead_94 (by decide) ?_
            refine lv_goto (tgt := 108) hx hb dL_isAhead_95 (by decide) ?_
            have Pp : prL m p = 1000000 := if_pos (Int32.not_le.mp c28_1)
            have Pq : prL m q = 1000000 := if_pos (Int32.not_le.mp c46_13)
            exact e_Z C0 hr (by decide) hH ⟨by unfold ahL; rw [if_neg (fun z => z c64_19), Pp, Pq, if_pos c82_20, bi_f (Int32.not_lt.mpr c87_22)]; rfl, rfl⟩ (by omega) (by omega) dL_isAhead_108
          · refine lv_iconst (v := nI 1) hx hb dL_isAhead_90 (by decide) ?_
            refine lv_goto (tgt := 108) hx hb dL_isAhead_91 (by decide) ?_
            have Pp : prL m p = 1000000 := if_pos (Int32.not_le.mp c28_1)
            have Pq : prL m q = 1000000 := if_pos (Int32.not_le.mp c46_13)
            exact e_Z C0 hr (by decide) hH ⟨by unfold ahL; rw [if_neg (fun z => z c64_19), Pp, Pq, if_pos c82_20, bi_t (Int32.not_le.mp c87_22)]; rfl, rfl⟩ (by omega) (by omega) dL_isAhead_108
      · refine lv_iload hx hb dL_isAhead_67 (lv_at hl 1 rfl) ?_
        refine lv_if_ge (tgt := 76) hx hb dL_isAhead_69 (by decide) (fun c69_23 => ?_) (fun c69_23 => ?_)
        · refine lv_iconst (v := nI 0) hx hb dL_isAhead_76 (by decide) ?_
          refine lv_goto (tgt := 108) hx hb dL_isAhead_77 (by decide) ?_
          have Pp : prL m p = 1000000 := if_pos (Int32.not_le.mp c28_1)
          have Pq : prL m q = 1000000 := if_pos (Int32.not_le.mp c46_13)
          exact e_Z C0 hr (by decide) hH ⟨by unfold ahL; rw [if_pos c64_19, bi_f (Int32.not_lt.mpr c69_23)]; rfl, rfl⟩ (by omega) (by omega) dL_isAhead_108
        · refine lv_iconst (v := nI 1) hx hb dL_isAhead_72 (by decide) ?_
          refine lv_goto (tgt := 108) hx hb dL_isAhead_73 (by decide) ?_
          have Pp : prL m p = 1000000 := if_pos (Int32.not_le.mp c28_1)
          have Pq : prL m q = 1000000 := if_pos (Int32.not_le.mp c46_13)
          exact e_Z C0 hr (by decide) hH ⟨by unfold ahL; rw [if_pos c64_19, bi_t (Int32.not_le.mp c69_23)]; rfl, rfl⟩ (by omega) (by omega) dL_isAhead_108
