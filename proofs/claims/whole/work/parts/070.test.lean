set_option maxHeartbeats 4000000 in
set_option maxRecDepth 100000 in
theorem cM_isIn (l : Launch) (G : GT) (A : Nat → Prop) (h : AH) (v lo hi : Int32) : cmI l G A yX11_isIn cX11_isIn 3 (Option.some FieldType.boolean) 0 0 0 0 [.int (v), .int (lo), .int (hi)] h (fun r h' => r = bi (inn v lo hi) ∧ h' = h) := by
  refine cm_of "RoutepostModel" rfl (by decide) (Nat.le_of_ble_eq_true rfl) ?_
  intro p e s m9 below meth c C0 hr hname hH ls hl
  obtain ⟨hx, hb, hml, hown, hts, -⟩ := id C0
  have hl : lv_has ls 3 [(0, .int (v)), (1, .int (lo)), (2, .int (hi))] := hl
  refine lv_iload_n hx hb dX11_isIn_0 rfl (lv_at hl 0 rfl) ?_
  refine lv_iload_n hx hb dX11_isIn_1 rfl (lv_at hl 1 rfl) ?_
  refine lv_icmp_lt (tgt := 14) hx hb dX11_isIn_2 (by decide) (fun c2_1 => ?_) (fun c2_1 => ?_)
  · refine lv_iconst (v := 0) hx hb dX11_isIn_14 (by decide) ?_
    have eR : 0 = bi (inn v lo hi) := by simp [bi, inn, c2_1]
    exact e_Z C0 hr (by decide) hH ⟨eR, rfl⟩ (Nat.le_refl _) (Nat.le_refl _) dX11_isIn_15
  · refine lv_iload_n hx hb dX11_isIn_5 rfl (lv_at hl 0 rfl) ?_
    refine lv_iload_n hx hb dX11_isIn_6 rfl (lv_at hl 2 rfl) ?_
    refine lv_icmp_gt (tgt := 14) hx hb dX11_isIn_7 (by decide) (fun c7_2 => ?_) (fun c7_2 => ?_)
    · refine lv_iconst (v := 0) hx hb dX11_isIn_14 (by decide) ?_
      have eR : 0 = bi (inn v lo hi) := by simp [bi, inn, c2_1, c7_2]
      exact e_Z C0 hr (by decide) hH ⟨eR, rfl⟩ (Nat.le_refl _) (Nat.le_refl _) dX11_isIn_15
    · refine lv_iconst (v := 1) hx hb dX11_isIn_10 (by decide) ?_
      refine lv_goto (tgt := 15) hx hb dX11_isIn_11 (by decide) ?_
      have eR : 1 = bi (inn v lo hi) := by simp [bi, inn, c2_1, c7_2]
      exact e_Z C0 hr (by decide) hH ⟨eR, rfl⟩ (Nat.le_refl _) (Nat.le_refl _) dX11_isIn_15
set_option maxHeartbeats 4000000 in
set_option maxRecDepth 100000 in
theorem cM_isThrown (l : Launch) (G : GT) (A : Nat → Prop) (h : AH) (o : Nat) (ad : Nat → Nat) (m : MM) (hM : RM h o ad m) (b a : Int32) (hbn : narrow .boolean (.int b) = .int b) : cmI l G A yX11_isThrown cX11_isThrown 3 (Option.some FieldType.boolean) 0 0 0 0 [.ref (o), .int (b), .int (a)] h (fun r h' => r = b ∧ RM h' o ad (thr m b a)) := by
  refine cm_of "RoutepostModel" rfl (by decide) (Nat.le_of_ble_eq_true rfl) ?_
  intro p e s m9 below meth c C0 hr hname hH ls hl
  obtain ⟨hx, hb, hml, hown, hts, -⟩ := id C0
  have hl : lv_has ls 3 [(0, .ref (o)), (1, .int (b)), (2, .int (a))] := hl
  refine lv_aload_n hx hb dX11_isThrown_0 rfl (lv_at hl 0 rfl) ?_
  refine lv_iload_n hx hb dX11_isThrown_1 rfl (lv_at hl 1 rfl) ?_
  refine lv_if_eq (tgt := 9) hx hb dX11_isThrown_2 (by decide) (fun c2_1 => ?_) (fun c2_1 => ?_)
  · refine lv_iconst (v := 0) hx hb dX11_isThrown_9 (by decide) ?_
    refine m_put C0 hH hM 45 (by decide) (by decide) fl_X11_123 dX11_isThrown_10 (fun h H locs hH hM => ?_)
    refine lv_iload_n hx hb dX11_isThrown_13 rfl (lv_at hl 1 rfl) ?_
    have eR : b = b := by simp [thr, c2_1]
    have eM : thr m b a = (up m 45 0 0) := by simp [thr, c2_1]
    exact e_Z C0 hr hbn hH ⟨eR, by rw [eM]; exact hM⟩ (Nat.le_refl _) (Nat.le_refl _) dX11_isThrown_14
  · refine lv_iload_n hx hb dX11_isThrown_5 rfl (lv_at hl 2 rfl) ?_
    refine lv_goto (tgt := 10) hx hb dX11_isThrown_6 (by decide) ?_
    refine m_put C0 hH hM 45 (by decide) (by decide) fl_X11_123 dX11_isThrown_10 (fun h H locs hH hM => ?_)
    refine lv_iload_n hx hb dX11_isThrown_13 rfl (lv_at hl 1 rfl) ?_
    have eR : b = b := by simp [thr, c2_1]
    have eM : thr m b a = (up m 45 0 a) := by simp [thr, c2_1]
    exact e_Z C0 hr hbn hH ⟨eR, by rw [eM]; exact hM⟩ (Nat.le_refl _) (Nat.le_refl _) dX11_isThrown_14
set_option maxHeartbeats 4000000 in
set_option maxRecDepth 100000 in
theorem cM_tells (l : Launch) (G : GT) (A : Nat → Prop) (h : AH) (o : Nat) (ad : Nat → Nat) (m : MM) (hM : RM h o ad m) (v : Int32) : cmI l G A yX11_tells cX11_tells 2 (Option.some FieldType.int) 0 0 0 0 [.ref (o), .int (v)] h (fun r h' => r = v ∧ RM h' o ad (up m 45 0 0)) := by
  refine cm_of "RoutepostModel" rfl (by decide) (Nat.le_of_ble_eq_true rfl) ?_
  intro p e s m9 below meth c C0 hr hname hH ls hl
  obtain ⟨hx, hb, hml, hown, hts, -⟩ := id C0
  have hl : lv_has ls 2 [(0, .ref (o)), (1, .int (v))] := hl
  refine lv_aload_n hx hb dX11_tells_0 rfl (lv_at hl 0 rfl) ?_
  refine lv_iconst (v := 0) hx hb dX11_tells_1 (by decide) ?_
  refine m_put C0 hH hM 45 (by decide) (by decide) fl_X11_123 dX11_tells_2 (fun h H locs hH hM => ?_)
  refine lv_iload_n hx hb dX11_tells_5 rfl (lv_at hl 1 rfl) ?_
  have eR : v = v := by simp []
  have eM : up m 45 0 0 = (up m 45 0 0) := by simp []
  exact e_I C0 hr hH ⟨eR, by rw [eM]; exact hM⟩ (Nat.le_refl _) (Nat.le_refl _) dX11_tells_6
