set_option maxHeartbeats 4000000 in
set_option maxRecDepth 100000 in
theorem cM_isIn (l : Launch) (G : GT) (A : Nat → Prop) (h : AH) (v lo hi : Int32) : cmI l G A yX11_isIn cX11_isIn 3 (Option.some FieldType.boolean) 0 0 0 0 [.int (v), .int (lo), .int (hi)] h (fun r h' => r = bi (inn v lo hi) ∧ h' = h) := by
  refine cm_of "RoutepostModel" rfl (by decide) (Nat.le_of_ble_eq_true rfl) ?_
  intro pr e s m9 below meth c C0 hr hname hH ls hl
  obtain ⟨hx, hb, hml, hown, hts, hK, hA, -⟩ := id C0
  have hl : lv_has ls 3 [(0, .int (v)), (1, .int (lo)), (2, .int (hi))] := hl
  refine lv_iload_n hx hb dX11_isIn_0 rfl (lv_at hl 0 rfl) ?_
  refine lv_iload_n hx hb dX11_isIn_1 rfl (lv_at hl 1 rfl) ?_
  refine lv_icmp_lt (tgt := 14) hx hb dX11_isIn_2 (by decide) (fun c2_1 => ?_) (fun c2_1 => ?_)
  · refine lv_iconst (v := 0) hx hb dX11_isIn_14 (by decide) ?_
    have eR : 0 = bi (inn v lo hi) := by simp [bi, inn, c2_1, Int32.not_le.mpr c2_1]
    exact e_Z C0 hr (by decide) hH ⟨eR, rfl⟩ (Nat.le_refl _) (Nat.le_refl _) dX11_isIn_15
  · refine lv_iload_n hx hb dX11_isIn_5 rfl (lv_at hl 0 rfl) ?_
    refine lv_iload_n hx hb dX11_isIn_6 rfl (lv_at hl 2 rfl) ?_
    refine lv_icmp_gt (tgt := 14) hx hb dX11_isIn_7 (by decide) (fun c7_2 => ?_) (fun c7_2 => ?_)
    · refine lv_iconst (v := 0) hx hb dX11_isIn_14 (by decide) ?_
      have eR : 0 = bi (inn v lo hi) := by simp [bi, inn, c2_1, Int32.not_lt.mp c2_1, c7_2, Int32.not_le.mpr c7_2]
      exact e_Z C0 hr (by decide) hH ⟨eR, rfl⟩ (Nat.le_refl _) (Nat.le_refl _) dX11_isIn_15
    · refine lv_iconst (v := 1) hx hb dX11_isIn_10 (by decide) ?_
      refine lv_goto (tgt := 15) hx hb dX11_isIn_11 (by decide) ?_
      have eR : 1 = bi (inn v lo hi) := by simp [bi, inn, c2_1, Int32.not_lt.mp c2_1, c7_2, Int32.not_lt.mp c7_2]
      exact e_Z C0 hr (by decide) hH ⟨eR, rfl⟩ (Nat.le_refl _) (Nat.le_refl _) dX11_isIn_15
set_option maxHeartbeats 4000000 in
set_option maxRecDepth 100000 in
theorem cM_isThrown (l : Launch) (G : GT) (A : Nat → Prop) (h : AH) (o : Nat) (ad : Nat → Nat) (m : MM) (hM : RM h o ad m) (b a : Int32) (hbn : narrow .boolean (.int b) = .int b) : cmI l G A yX11_isThrown cX11_isThrown 3 (Option.some FieldType.boolean) 0 0 0 0 [.ref (o), .int (b), .int (a)] h (fun r h' => r = b ∧ RM h' o ad (thr m b a)) := by
  refine cm_of "RoutepostModel" rfl (by decide) (Nat.le_of_ble_eq_true rfl) ?_
  intro pr e s m9 below meth c C0 hr hname hH ls hl
  obtain ⟨hx, hb, hml, hown, hts, hK, hA, -⟩ := id C0
  have hl : lv_has ls 3 [(0, .ref (o)), (1, .int (b)), (2, .int (a))] := hl
  refine lv_aload_n hx hb dX11_isThrown_0 rfl (lv_at hl 0 rfl) ?_
  refine lv_iload_n hx hb dX11_isThrown_1 rfl (lv_at hl 1 rfl) ?_
  refine lv_if_eq (tgt := 9) hx hb dX11_isThrown_2 (by decide) (fun c2_1 => ?_) (fun c2_1 => ?_)
  · refine lv_iconst (v := 0) hx hb dX11_isThrown_9 (by decide) ?_
    refine m_put C0 hH hM 45 (by decide) (by decide) fl_X11_123 dX11_isThrown_10 (fun h H locs hH hM => ?_)
    refine lv_iload_n hx hb dX11_isThrown_13 rfl (lv_at hl 1 rfl) ?_
    have eR : b = b := by simp [thr, eq_true c2_1]
    have eM : thr m b a = (up m 45 0 0) := by simp [thr, eq_true c2_1]
    exact e_Z C0 hr hbn hH ⟨eR, by rw [eM]; exact hM⟩ (Nat.le_refl _) (Nat.le_refl _) dX11_isThrown_14
  · refine lv_iload_n hx hb dX11_isThrown_5 rfl (lv_at hl 2 rfl) ?_
    refine lv_goto (tgt := 10) hx hb dX11_isThrown_6 (by decide) ?_
    refine m_put C0 hH hM 45 (by decide) (by decide) fl_X11_123 dX11_isThrown_10 (fun h H locs hH hM => ?_)
    refine lv_iload_n hx hb dX11_isThrown_13 rfl (lv_at hl 1 rfl) ?_
    have eR : b = b := by simp [thr, eq_false c2_1]
    have eM : thr m b a = (up m 45 0 a) := by simp [thr, eq_false c2_1]
    exact e_Z C0 hr hbn hH ⟨eR, by rw [eM]; exact hM⟩ (Nat.le_refl _) (Nat.le_refl _) dX11_isThrown_14
set_option maxHeartbeats 4000000 in
set_option maxRecDepth 100000 in
theorem cM_tells (l : Launch) (G : GT) (A : Nat → Prop) (h : AH) (o : Nat) (ad : Nat → Nat) (m : MM) (hM : RM h o ad m) (v : Int32) : cmI l G A yX11_tells cX11_tells 2 (Option.some FieldType.int) 0 0 0 0 [.ref (o), .int (v)] h (fun r h' => r = v ∧ RM h' o ad (up m 45 0 0)) := by
  refine cm_of "RoutepostModel" rfl (by decide) (Nat.le_of_ble_eq_true rfl) ?_
  intro pr e s m9 below meth c C0 hr hname hH ls hl
  obtain ⟨hx, hb, hml, hown, hts, hK, hA, -⟩ := id C0
  have hl : lv_has ls 2 [(0, .ref (o)), (1, .int (v))] := hl
  refine lv_aload_n hx hb dX11_tells_0 rfl (lv_at hl 0 rfl) ?_
  refine lv_iconst (v := 0) hx hb dX11_tells_1 (by decide) ?_
  refine m_put C0 hH hM 45 (by decide) (by decide) fl_X11_123 dX11_tells_2 (fun h H locs hH hM => ?_)
  refine lv_iload_n hx hb dX11_tells_5 rfl (lv_at hl 1 rfl) ?_
  have eR : v = v := by simp []
  have eM : up m 45 0 0 = (up m 45 0 0) := by simp []
  exact e_I C0 hr hH ⟨eR, by rw [eM]; exact hM⟩ (Nat.le_refl _) (Nat.le_refl _) dX11_tells_6
set_option maxHeartbeats 4000000 in
set_option maxRecDepth 100000 in
theorem cM_isDigits (l : Launch) (G : GT) (A : Nat → Prop) (h : AH) (v lo hi : Int32) : cmI l G A yX11_isDigits cX11_isDigits 5 (Option.some FieldType.boolean) 1 22 0 0 [.int (v), .int (lo), .int (hi)] h (fun r h' => r = isDg v lo hi ∧ h' = h) := by
  refine cm_of "RoutepostModel" rfl (by decide) (Nat.le_of_ble_eq_true rfl) ?_
  intro pr e s m9 below meth c C0 hr hname hH ls hl
  obtain ⟨hx, hb, hml, hown, hts, hK, hA, -⟩ := id C0
  have hl : lv_has ls 5 [(0, .int (v)), (1, .int (lo)), (2, .int (hi))] := hl
  refine lv_iload_n hx hb dX11_isDigits_0 rfl (lv_at hl 0 rfl) ?_
  refine lv_iload_n hx hb dX11_isDigits_1 rfl (lv_at hl 1 rfl) ?_
  refine lv_iload_n hx hb dX11_isDigits_2 rfl (lv_at hl 2 rfl) ?_
  refine k_i hH (k_runS (rest := []) C0 hH (cM_isIn l G A _ v lo hi) mv_X11_isIn ml_X11_127 rfl ⟨by decide, by decide⟩ hl.1 rfl (Nat.le_of_ble_eq_true rfl) dX11_isDigits_3 (by simp)) (fun r_1 h1 H locs hp hH => ?_)
  obtain ⟨er_1, eh⟩ := hp
  rw [eh] at hH
  clear eh
  subst er_1
  refine lv_istore_n (lv' := [(3, .int (bi (inn v lo hi))), (0, .int (v)), (1, .int (lo)), (2, .int (hi))]) hx hb dX11_isDigits_6 rfl hl (by decide) rfl (fun ls hl => ?_)
  refine lv_iload_n hx hb dX11_isDigits_7 rfl (lv_at hl 1 rfl) ?_
  refine lv_istore (lv' := [(4, .int (v)), (3, .int (bi (inn v lo hi))), (0, .int (v)), (1, .int (lo)), (2, .int (hi))]) hx hb dX11_isDigits_8 hl (by decide) rfl (fun ls hl => ?_)
  have K : ∀ (n : Nat) (k is : Int32), k.toInt < 10 ^ n → digs n k is = isDg v lo hi → ∀ (ls : Array Slot), lv_has ls 5 [(4, .int (k)), (3, .int (is)), (0, .int (v)), (1, .int (lo)), (2, .int (hi))] → W pr l e (rmm 1 22 0 0) s m9 ([.int (v), .int (lo), .int (hi)] : List Value).toArray below meth c H locs 0 0 (QI below G A (fun r h' => r = isDg v lo hi ∧ h' = h) ([.int (v), .int (lo), .int (hi)] : List Value).toArray s 0 0) (F0 m9 10 ls []) := by
    intro n
    induction n with
    | zero =>
      intro k is hk hT ls hl
      refine lv_iload hx hb dX11_isDigits_10 (lv_at hl 0 rfl) ?_
      refine lv_if_le (tgt := 41) hx hb dX11_isDigits_12 (by decide) (fun c12_2 => ?_) (fun c12_2 => ?_)
      · refine lv_iload_n hx hb dX11_isDigits_41 rfl (lv_at hl 1 rfl) ?_
        have eR : is = isDg v lo hi := by rw [← hT]; simp [digs, c12_2, Int32.not_lt.mpr c12_2]
        exact e_Z C0 hr (by rw [eR]; exact isDg_nar v lo hi) hH ⟨eR, rfl⟩ (Nat.le_refl _) (Nat.le_refl _) dX11_isDigits_42
      · exact absurd (dig_z hk) c12_2
    | succ n ih =>
      intro k is hk hT ls hl
      refine lv_iload hx hb dX11_isDigits_10 (lv_at hl 0 rfl) ?_
      refine lv_if_le (tgt := 41) hx hb dX11_isDigits_12 (by decide) (fun c12_3 => ?_) (fun c12_3 => ?_)
      · refine lv_iload_n hx hb dX11_isDigits_41 rfl (lv_at hl 1 rfl) ?_
        have eR : is = isDg v lo hi := by rw [← hT]; simp [digs, c12_3, Int32.not_lt.mpr c12_3]
        exact e_Z C0 hr (by rw [eR]; exact isDg_nar v lo hi) hH ⟨eR, rfl⟩ (Nat.le_refl _) (Nat.le_refl _) dX11_isDigits_42
      · refine lv_iload_n hx hb dX11_isDigits_15 rfl (lv_at hl 1 rfl) ?_
        refine lv_iload hx hb dX11_isDigits_16 (lv_at hl 0 rfl) ?_
        refine lv_bipush (v := 10) hx hb dX11_isDigits_18 (by decide) ?_
        refine lv_irem hx hb dX11_isDigits_20 (by decide) ?_
        refine lv_if_eq (tgt := 28) hx hb dX11_isDigits_21 (by decide) (fun c21_4 => ?_) (fun c21_4 => ?_)
        · refine lv_iconst (v := 0) hx hb dX11_isDigits_28 (by decide) ?_
          refine lv_iand hx hb dX11_isDigits_29 ?_
          refine lv_istore_n (lv' := [(3, .int (is &&& 0)), (4, .int (k)), (0, .int (v)), (1, .int (lo)), (2, .int (hi))]) hx hb dX11_isDigits_30 rfl hl (by decide) rfl (fun ls hl => ?_)
          refine lv_iload hx hb dX11_isDigits_31 (lv_at hl 1 rfl) ?_
          refine lv_bipush (v := 10) hx hb dX11_isDigits_33 (by decide) ?_
          refine lv_idiv hx hb dX11_isDigits_35 (by decide) ?_
          refine lv_istore (lv' := [(4, .int (k / 10)), (3, .int (is &&& 0)), (0, .int (v)), (1, .int (lo)), (2, .int (hi))]) hx hb dX11_isDigits_36 hl (by decide) rfl (fun ls hl => ?_)
          refine lv_goto (tgt := 10) hx hb dX11_isDigits_38 (by decide) ?_
          exact ih (k / 10) (is &&& 0) (dig_s c12_3 hk) (by rw [← hT]; simp [digs, c12_3, Int32.not_le.mp c12_3, eq_true c21_4]) ls (lv_sub hl [0, 1, 2, 3, 4] rfl)
        · refine lv_iconst (v := 1) hx hb dX11_isDigits_24 (by decide) ?_
          refine lv_goto (tgt := 29) hx hb dX11_isDigits_25 (by decide) ?_
          refine lv_iand hx hb dX11_isDigits_29 ?_
          refine lv_istore_n (lv' := [(3, .int (is &&& 1)), (4, .int (k)), (0, .int (v)), (1, .int (lo)), (2, .int (hi))]) hx hb dX11_isDigits_30 rfl hl (by decide) rfl (fun ls hl => ?_)
          refine lv_iload hx hb dX11_isDigits_31 (lv_at hl 1 rfl) ?_
          refine lv_bipush (v := 10) hx hb dX11_isDigits_33 (by decide) ?_
          refine lv_idiv hx hb dX11_isDigits_35 (by decide) ?_
          refine lv_istore (lv' := [(4, .int (k / 10)), (3, .int (is &&& 1)), (0, .int (v)), (1, .int (lo)), (2, .int (hi))]) hx hb dX11_isDigits_36 hl (by decide) rfl (fun ls hl => ?_)
          refine lv_goto (tgt := 10) hx hb dX11_isDigits_38 (by decide) ?_
          exact ih (k / 10) (is &&& 1) (dig_s c12_3 hk) (by rw [← hT]; simp [digs, c12_3, Int32.not_le.mp c12_3, eq_false c21_4]) ls (lv_sub hl [0, 1, 2, 3, 4] rfl)
  exact K 11 v (bi (inn v lo hi)) (dig_b v) rfl ls (lv_sub hl [0, 1, 2, 3, 4] rfl)
set_option maxHeartbeats 4000000 in
set_option maxRecDepth 100000 in
theorem cM_isAddress (l : Launch) (G : GT) (A : Nat → Prop) (h : AH) (a : Int32) : cmI l G A yX11_isAddress cX11_isAddress 1 (Option.some FieldType.boolean) 2 46 0 0 [.int (a)] h (fun r h' => r = isAd a ∧ h' = h) := by
  refine cm_of "RoutepostModel" rfl (by decide) (Nat.le_of_ble_eq_true rfl) ?_
  intro pr e s m9 below meth c C0 hr hname hH ls hl
  obtain ⟨hx, hb, hml, hown, hts, hK, hA, -⟩ := id C0
  have hl : lv_has ls 1 [(0, .int (a))] := hl
  refine lv_iload_n hx hb dX11_isAddress_0 rfl (lv_at hl 0 rfl) ?_
  refine lv_sipush (v := 1000) hx hb dX11_isAddress_1 (by decide) ?_
  refine lv_sipush (v := 9999) hx hb dX11_isAddress_4 (by decide) ?_
  refine k_i hH (k_runS (rest := []) C0 hH (cM_isDigits l G A _ a 1000 9999) mv_X11_isDigits ml_X11_131 rfl ⟨by decide, by decide⟩ hl.1 rfl (Nat.le_of_ble_eq_true rfl) dX11_isAddress_7 (by simp)) (fun r_1 h1 H locs hp hH => ?_)
  obtain ⟨er_1, eh⟩ := hp
  rw [eh] at hH
  clear eh
  subst er_1
  have eR : isDg a 1000 9999 = isAd a := by simp [isAd]
  exact e_Z C0 hr (isDg_nar _ _ _) hH ⟨eR, rfl⟩ (Nat.le_refl _) (Nat.le_refl _) dX11_isAddress_10
set_option maxHeartbeats 4000000 in
set_option maxRecDepth 100000 in
theorem cM_isHub (l : Launch) (G : GT) (A : Nat → Prop) (h : AH) (o : Nat) (ad : Nat → Nat) (m : MM) (hM : RM h o ad m) (x : Int32) : cmI l G A yX11_isHub cX11_isHub 2 (Option.some FieldType.boolean) 1 22 0 0 [.ref (o), .int (x)] h (fun r h' => r = bi (isHb m x) ∧ h' = h) := by
  refine cm_of "RoutepostModel" rfl (by decide) (Nat.le_of_ble_eq_true rfl) ?_
  intro pr e s m9 below meth c C0 hr hname hH ls hl
  obtain ⟨hx, hb, hml, hown, hts, hK, hA, -⟩ := id C0
  have hl : lv_has ls 2 [(0, .ref (o)), (1, .int (x))] := hl
  refine lv_iload_n hx hb dX11_isHub_0 rfl (lv_at hl 1 rfl) ?_
  refine lv_iconst (v := 0) hx hb dX11_isHub_1 (by decide) ?_
  refine lv_aload_n hx hb dX11_isHub_2 rfl (lv_at hl 0 rfl) ?_
  refine m_int C0 hH hM 37 (by decide) (by decide) fl_X11_134 (v := m 37 0) rfl dX11_isHub_3 ?_
  refine lv_iconst (v := 1) hx hb dX11_isHub_6 (by decide) ?_
  refine lv_isub hx hb dX11_isHub_7 ?_
  refine k_i hH (k_runS (rest := []) C0 hH (cM_isIn l G A _ x 0 ((m 37 0) - 1)) mv_X11_isIn ml_X11_127 rfl ⟨by decide, by decide⟩ hl.1 rfl (Nat.le_of_ble_eq_true rfl) dX11_isHub_8 (by simp)) (fun r_1 h1 H locs hp hH => ?_)
  obtain ⟨er_1, eh⟩ := hp
  rw [eh] at hH
  clear eh
  subst er_1
  have eR : bi (inn x 0 ((m 37 0) - 1)) = bi (isHb m x) := rfl
  exact e_Z C0 hr bi_nar hH ⟨eR, rfl⟩ (Nat.le_refl _) (Nat.le_refl _) dX11_isHub_11
set_option maxHeartbeats 4000000 in
set_option maxRecDepth 100000 in
theorem cM_isNoLine (l : Launch) (G : GT) (A : Nat → Prop) (h : AH) (o : Nat) (ad : Nat → Nat) (m : MM) (hM : RM h o ad m) (x : Int32) : cmI l G A yX11_isNoLine cX11_isNoLine 2 (Option.some FieldType.boolean) 1 22 0 0 [.ref (o), .int (x)] h (fun r h' => r = bi (¬ isLn m x) ∧ RM h' o ad (thr m (bi (¬ isLn m x)) 1)) := by
  refine cm_of "RoutepostModel" rfl (by decide) (Nat.le_of_ble_eq_true rfl) ?_
  intro pr e s m9 below meth c C0 hr hname hH ls hl
  obtain ⟨hx, hb, hml, hown, hts, hK, hA, -⟩ := id C0
  have hl : lv_has ls 2 [(0, .ref (o)), (1, .int (x))] := hl
  refine lv_aload_n hx hb dX11_isNoLine_0 rfl (lv_at hl 0 rfl) ?_
  refine lv_iload_n hx hb dX11_isNoLine_1 rfl (lv_at hl 1 rfl) ?_
  refine lv_iconst (v := 0) hx hb dX11_isNoLine_2 (by decide) ?_
  refine lv_aload_n hx hb dX11_isNoLine_3 rfl (lv_at hl 0 rfl) ?_
  refine m_int C0 hH hM 38 (by decide) (by decide) fl_X11_137 (v := m 38 0) rfl dX11_isNoLine_4 ?_
  refine lv_iconst (v := 1) hx hb dX11_isNoLine_7 (by decide) ?_
  refine lv_isub hx hb dX11_isNoLine_8 ?_
  refine k_i hH (k_runS (rest := [.ref (o)]) C0 hH (cM_isIn l G A _ x 0 ((m 38 0) - 1)) mv_X11_isIn ml_X11_127 rfl ⟨by decide, by decide⟩ hl.1 rfl (Nat.le_of_ble_eq_true rfl) dX11_isNoLine_9 (by simp)) (fun r_1 h1 H locs hp hH => ?_)
  obtain ⟨er_1, eh⟩ := hp
  rw [eh] at hH
  clear eh
  subst er_1
  refine lv_if_ne (tgt := 19) hx hb dX11_isNoLine_12 (by decide) (fun c12_2 => ?_) (fun c12_2 => ?_)
  · replace c12_2 := bi_n0.mp c12_2
    refine lv_iconst (v := 0) hx hb dX11_isNoLine_19 (by decide) ?_
    refine lv_iconst (v := 1) hx hb dX11_isNoLine_20 (by decide) ?_
    refine k_i hH (k_runV (rest := []) C0 hH (cM_isThrown l G A _ o ad m hM 0 1 rfl) mv_X11_isThrown ml_X11_140 ci_15 hM.1 rfl ⟨by decide, by decide⟩ hl.1 rfl (Nat.le_of_ble_eq_true rfl) dX11_isNoLine_21 (by simp)) (fun r_3 h H locs hp hH => ?_)
    obtain ⟨er_3, hM⟩ := hp
    subst er_3
    have eR : 0 = bi (¬ isLn m x) := by simp [bi, thr, isLn, c12_2]
    have eM : thr m (bi (¬ isLn m x)) 1 = (up m 45 0 (if 0 = 0 then 0 else 1)) := by simp [bi, thr, isLn, c12_2]
    exact e_Z C0 hr (by decide) hH ⟨eR, by rw [eM]; exact hM⟩ (Nat.le_refl _) (Nat.le_refl _) dX11_isNoLine_24
  · replace c12_2 := bi_0.mp c12_2
    refine lv_iconst (v := 1) hx hb dX11_isNoLine_15 (by decide) ?_
    refine lv_goto (tgt := 20) hx hb dX11_isNoLine_16 (by decide) ?_
    refine lv_iconst (v := 1) hx hb dX11_isNoLine_20 (by decide) ?_
    refine k_i hH (k_runV (rest := []) C0 hH (cM_isThrown l G A _ o ad m hM 1 1 rfl) mv_X11_isThrown ml_X11_140 ci_15 hM.1 rfl ⟨by decide, by decide⟩ hl.1 rfl (Nat.le_of_ble_eq_true rfl) dX11_isNoLine_21 (by simp)) (fun r_4 h H locs hp hH => ?_)
    obtain ⟨er_4, hM⟩ := hp
    subst er_4
    have eR : 1 = bi (¬ isLn m x) := by simp [bi, thr, isLn, c12_2]
    have eM : thr m (bi (¬ isLn m x)) 1 = (up m 45 0 (if 1 = 0 then 0 else 1)) := by simp [bi, thr, isLn, c12_2]
    exact e_Z C0 hr (by decide) hH ⟨eR, by rw [eM]; exact hM⟩ (Nat.le_refl _) (Nat.le_refl _) dX11_isNoLine_24
set_option maxHeartbeats 4000000 in
set_option maxRecDepth 100000 in
theorem cM_isNone (l : Launch) (G : GT) (A : Nat → Prop) (h : AH) (o : Nat) (ad : Nat → Nat) (m : MM) (hM : RM h o ad m) (x : Int32) : cmI l G A yX11_isNone cX11_isNone 2 (Option.some FieldType.boolean) 1 22 0 0 [.ref (o), .int (x)] h (fun r h' => r = bi (¬ isPa m x) ∧ RM h' o ad (thr m (bi (¬ isPa m x)) 1)) := by
  refine cm_of "RoutepostModel" rfl (by decide) (Nat.le_of_ble_eq_true rfl) ?_
  intro pr e s m9 below meth c C0 hr hname hH ls hl
  obtain ⟨hx, hb, hml, hown, hts, hK, hA, -⟩ := id C0
  have hl : lv_has ls 2 [(0, .ref (o)), (1, .int (x))] := hl
  refine lv_aload_n hx hb dX11_isNone_0 rfl (lv_at hl 0 rfl) ?_
  refine lv_iload_n hx hb dX11_isNone_1 rfl (lv_at hl 1 rfl) ?_
  refine lv_iconst (v := 0) hx hb dX11_isNone_2 (by decide) ?_
  refine lv_aload_n hx hb dX11_isNone_3 rfl (lv_at hl 0 rfl) ?_
  refine m_int C0 hH hM 39 (by decide) (by decide) fl_X11_144 (v := m 39 0) rfl dX11_isNone_4 ?_
  refine lv_iconst (v := 1) hx hb dX11_isNone_7 (by decide) ?_
  refine lv_isub hx hb dX11_isNone_8 ?_
  refine k_i hH (k_runS (rest := [.ref (o)]) C0 hH (cM_isIn l G A _ x 0 ((m 39 0) - 1)) mv_X11_isIn ml_X11_127 rfl ⟨by decide, by decide⟩ hl.1 rfl (Nat.le_of_ble_eq_true rfl) dX11_isNone_9 (by simp)) (fun r_1 h1 H locs hp hH => ?_)
  obtain ⟨er_1, eh⟩ := hp
  rw [eh] at hH
  clear eh
  subst er_1
  refine lv_if_ne (tgt := 19) hx hb dX11_isNone_12 (by decide) (fun c12_2 => ?_) (fun c12_2 => ?_)
  · replace c12_2 := bi_n0.mp c12_2
    refine lv_iconst (v := 0) hx hb dX11_isNone_19 (by decide) ?_
    refine lv_iconst (v := 1) hx hb dX11_isNone_20 (by decide) ?_
    refine k_i hH (k_runV (rest := []) C0 hH (cM_isThrown l G A _ o ad m hM 0 1 rfl) mv_X11_isThrown ml_X11_140 ci_15 hM.1 rfl ⟨by decide, by decide⟩ hl.1 rfl (Nat.le_of_ble_eq_true rfl) dX11_isNone_21 (by simp)) (fun r_3 h H locs hp hH => ?_)
    obtain ⟨er_3, hM⟩ := hp
    subst er_3
    have eR : 0 = bi (¬ isPa m x) := by simp [bi, thr, isPa, c12_2]
    have eM : thr m (bi (¬ isPa m x)) 1 = (up m 45 0 (if 0 = 0 then 0 else 1)) := by simp [bi, thr, isPa, c12_2]
    exact e_Z C0 hr (by decide) hH ⟨eR, by rw [eM]; exact hM⟩ (Nat.le_refl _) (Nat.le_refl _) dX11_isNone_24
  · replace c12_2 := bi_0.mp c12_2
    refine lv_iconst (v := 1) hx hb dX11_isNone_15 (by decide) ?_
    refine lv_goto (tgt := 20) hx hb dX11_isNone_16 (by decide) ?_
    refine lv_iconst (v := 1) hx hb dX11_isNone_20 (by decide) ?_
    refine k_i hH (k_runV (rest := []) C0 hH (cM_isThrown l G A _ o ad m hM 1 1 rfl) mv_X11_isThrown ml_X11_140 ci_15 hM.1 rfl ⟨by decide, by decide⟩ hl.1 rfl (Nat.le_of_ble_eq_true rfl) dX11_isNone_21 (by simp)) (fun r_4 h H locs hp hH => ?_)
    obtain ⟨er_4, hM⟩ := hp
    subst er_4
    have eR : 1 = bi (¬ isPa m x) := by simp [bi, thr, isPa, c12_2]
    have eM : thr m (bi (¬ isPa m x)) 1 = (up m 45 0 (if 1 = 0 then 0 else 1)) := by simp [bi, thr, isPa, c12_2]
    exact e_Z C0 hr (by decide) hH ⟨eR, by rw [eM]; exact hM⟩ (Nat.le_refl _) (Nat.le_refl _) dX11_isNone_24
set_option maxHeartbeats 4000000 in
set_option maxRecDepth 100000 in
theorem cM_leaves (l : Launch) (G : GT) (A : Nat → Prop) (h : AH) (o : Nat) (ad : Nat → Nat) (m : MM) (hM : RM h o ad m) (i : Nat) (f : Int32) (hw : WFa m) (hi : i < nlN m) : cmI l G A yX11_leaves cX11_leaves 4 (Option.some FieldType.int) 0 0 0 0 [.ref (o), .int (nI i), .int (f)] h (fun r h' => r = lvs m i f ∧ h' = h) := by
  refine cm_of "RoutepostModel" rfl (by decide) (Nat.le_of_ble_eq_true rfl) ?_
  intro pr e s m9 below meth c C0 hr hname hH ls hl
  obtain ⟨hx, hb, hml, hown, hts, hK, hA, -⟩ := id C0
  have hl : lv_has ls 4 [(0, .ref (o)), (1, .int (nI i)), (2, .int (f))] := hl
  have hnl := hw.nl
  have h5 := (hw.ln hi).2.2.1
  refine lv_iload_n hx hb dX11_leaves_0 rfl (lv_at hl 2 rfl) ?_
  refine lv_aload_n hx hb dX11_leaves_1 rfl (lv_at hl 0 rfl) ?_
  refine m_arr C0 hH hM 4 (by decide) fl_X11_22 dX11_leaves_2 ?_
  refine lv_iload_n hx hb dX11_leaves_5 rfl (lv_at hl 1 rfl) ?_
  refine m_ldI C0 hH hM 4 (by decide) rfl (n := 12) rfl (ix := i) (nI_clamp (by omega)) (by first | assumption | exact vp_in_nI (by omega) (by omega)) (v := m 4 i) rfl dX11_leaves_6 ?_
  refine lv_isub hx hb dX11_leaves_7 ?_
  refine lv_istore_n (lv' := [(3, .int (f - (m 4 i))), (0, .ref (o)), (1, .int (nI i)), (2, .int (f))]) hx hb dX11_leaves_8 rfl hl (by decide) rfl (fun ls hl => ?_)
  refine lv_iload_n hx hb dX11_leaves_9 rfl (lv_at hl 0 rfl) ?_
  refine lv_if_gt (tgt := 22) hx hb dX11_leaves_10 (by decide) (fun c10_1 => ?_) (fun c10_1 => ?_)
  · refine lv_aload_n hx hb dX11_leaves_22 rfl (lv_at hl 1 rfl) ?_
    refine m_arr C0 hH hM 4 (by decide) fl_X11_22 dX11_leaves_23 ?_
    refine lv_iload_n hx hb dX11_leaves_26 rfl (lv_at hl 2 rfl) ?_
    refine m_ldI C0 hH hM 4 (by decide) rfl (n := 12) rfl (ix := i) (nI_clamp (by omega)) (by first | assumption | exact vp_in_nI (by omega) (by omega)) (v := m 4 i) rfl dX11_leaves_27 ?_
    refine lv_iload_n hx hb dX11_leaves_28 rfl (lv_at hl 0 rfl) ?_
    refine lv_aload_n hx hb dX11_leaves_29 rfl (lv_at hl 1 rfl) ?_
    refine m_arr C0 hH hM 5 (by decide) fl_X11_25 dX11_leaves_30 ?_
    refine lv_iload_n hx hb dX11_leaves_33 rfl (lv_at hl 2 rfl) ?_
    refine m_ldI C0 hH hM 5 (by decide) rfl (n := 12) rfl (ix := i) (nI_clamp (by omega)) (by first | assumption | exact vp_in_nI (by omega) (by omega)) (v := m 5 i) rfl dX11_leaves_34 ?_
    refine lv_iadd hx hb dX11_leaves_35 ?_
    refine lv_iconst (v := 1) hx hb dX11_leaves_36 (by decide) ?_
    refine lv_isub hx hb dX11_leaves_37 ?_
    refine lv_aload_n hx hb dX11_leaves_38 rfl (lv_at hl 1 rfl) ?_
    refine m_arr C0 hH hM 5 (by decide) fl_X11_25 dX11_leaves_39 ?_
    refine lv_iload_n hx hb dX11_leaves_42 rfl (lv_at hl 2 rfl) ?_
    refine m_ldI C0 hH hM 5 (by decide) rfl (n := 12) rfl (ix := i) (nI_clamp (by omega)) (by first | assumption | exact vp_in_nI (by omega) (by omega)) (v := m 5 i) rfl dX11_leaves_43 ?_
    refine lv_idiv hx hb dX11_leaves_44 h5 ?_
    refine lv_aload_n hx hb dX11_leaves_45 rfl (lv_at hl 1 rfl) ?_
    refine m_arr C0 hH hM 5 (by decide) fl_X11_25 dX11_leaves_46 ?_
    refine lv_iload_n hx hb dX11_leaves_49 rfl (lv_at hl 2 rfl) ?_
    refine m_ldI C0 hH hM 5 (by decide) rfl (n := 12) rfl (ix := i) (nI_clamp (by omega)) (by first | assumption | exact vp_in_nI (by omega) (by omega)) (v := m 5 i) rfl dX11_leaves_50 ?_
    refine lv_imul hx hb dX11_leaves_51 ?_
    refine lv_iadd hx hb dX11_leaves_52 ?_
    have eR : (m 4 i) + (((((f - (m 4 i)) + (m 5 i)) - 1) / (m 5 i)) * (m 5 i)) = lvs m i f := by simp [lvs, c10_1, Int32.not_le.mpr c10_1]
    exact e_I C0 hr hH ⟨eR, rfl⟩ (Nat.le_refl _) (Nat.le_refl _) dX11_leaves_53
  · refine lv_aload_n hx hb dX11_leaves_13 rfl (lv_at hl 1 rfl) ?_
    refine m_arr C0 hH hM 4 (by decide) fl_X11_22 dX11_leaves_14 ?_
    refine lv_iload_n hx hb dX11_leaves_17 rfl (lv_at hl 2 rfl) ?_
    refine m_ldI C0 hH hM 4 (by decide) rfl (n := 12) rfl (ix := i) (nI_clamp (by omega)) (by first | assumption | exact vp_in_nI (by omega) (by omega)) (v := m 4 i) rfl dX11_leaves_18 ?_
    refine lv_goto (tgt := 53) hx hb dX11_leaves_19 (by decide) ?_
    have eR : m 4 i = lvs m i f := by simp [lvs, c10_1, Int32.not_lt.mp c10_1]
    exact e_I C0 hr hH ⟨eR, rfl⟩ (Nat.le_refl _) (Nat.le_refl _) dX11_leaves_53
set_option maxHeartbeats 4000000 in
set_option maxRecDepth 100000 in
theorem cM_waits (l : Launch) (G : GT) (A : Nat → Prop) (h : AH) (o : Nat) (ad : Nat → Nat) (m : MM) (hM : RM h o ad m) (x : Int32) (hw : WFa m) : cmI l G A yX11_waits cX11_waits 4 (Option.some FieldType.int) 0 0 0 0 [.ref (o), .int (x)] h (fun r h' => r = waits m x ∧ h' = h) := by
  refine cm_of "RoutepostModel" rfl (by decide) (Nat.le_of_ble_eq_true rfl) ?_
  intro pr e s m9 below meth c C0 hr hname hH ls hl
  obtain ⟨hx, hb, hml, hown, hts, hK, hA, -⟩ := id C0
  have hl : lv_has ls 4 [(0, .ref (o)), (1, .int (x))] := hl
  have hnp := hw.np
  have hB := hnp.1
  refine lv_iconst (v := 0) hx hb dX11_waits_0 (by decide) ?_
  refine lv_istore_n (lv' := [(2, .int (0)), (0, .ref (o)), (1, .int (x))]) hx hb dX11_waits_1 rfl hl (by decide) rfl (fun ls hl => ?_)
  refine lv_iconst (v := 0) hx hb dX11_waits_2 (by decide) ?_
  refine lv_istore_n (lv' := [(3, .int (0)), (2, .int (0)), (0, .ref (o)), (1, .int (x))]) hx hb dX11_waits_3 rfl hl (by decide) rfl (fun ls hl => ?_)
  have K : ∀ (k i : Nat) (n : Int32), i + k = npN m → cntW m x k i n = waits m x → ∀ (ls : Array Slot), lv_has ls 4 [(3, .int (nI i)), (2, .int (n)), (0, .ref (o)), (1, .int (x))] → W pr l e (rmm 0 0 0 0) s m9 ([.ref (o), .int (x)] : List Value).toArray below meth c s.heap [] 0 0 (QI below G A (fun r h' => r = waits m x ∧ h' = h) ([.ref (o), .int (x)] : List Value).toArray s 0 0) (F0 m9 4 ls []) := by
    intro k
    induction k with
    | zero =>
      intro i n hik hT  ls hl
      refine lv_iload_n hx hb dX11_waits_4 rfl (lv_at hl 0 rfl) ?_
      refine lv_aload_n hx hb dX11_waits_5 rfl (lv_at hl 2 rfl) ?_
      refine m_int C0 hH hM 39 (by decide) (by decide) fl_X11_144 (v := m 39 0) rfl dX11_waits_6 ?_
      refine lv_icmp_ge (tgt := 47) hx hb dX11_waits_9 (by decide) (fun c9_1 => ?_) (fun c9_1 => ?_)
      · refine lv_iload_n hx hb dX11_waits_47 rfl (lv_at hl 1 rfl) ?_
        have eR : n = waits m x := hT
        exact e_I C0 hr hH ⟨eR, rfl⟩ (Nat.le_refl _) (Nat.le_refl _) dX11_waits_48
      · exact absurd (by rw [hB]; exact nI_le (by omega) (by omega)) c9_1
    | succ k ih =>
      intro i n hik hT  ls hl
      refine lv_iload_n hx hb dX11_waits_4 rfl (lv_at hl 0 rfl) ?_
      refine lv_aload_n hx hb dX11_waits_5 rfl (lv_at hl 2 rfl) ?_
      refine m_int C0 hH hM 39 (by decide) (by decide) fl_X11_144 (v := m 39 0) rfl dX11_waits_6 ?_
      refine lv_icmp_ge (tgt := 47) hx hb dX11_waits_9 (by decide) (fun c9_2 => ?_) (fun c9_2 => ?_)
      · exact absurd c9_2 (by rw [hB]; exact nI_ge (by omega) (by omega))
      · refine lv_iload_n hx hb dX11_waits_12 rfl (lv_at hl 1 rfl) ?_
        refine lv_aload_n hx hb dX11_waits_13 rfl (lv_at hl 2 rfl) ?_
        refine m_arr C0 hH hM 28 (by decide) fl_X11_95 dX11_waits_14 ?_
        refine lv_iload_n hx hb dX11_waits_17 rfl (lv_at hl 0 rfl) ?_
        refine m_ldC C0 hH hM 28 (by decide) rfl (n := 40) rfl (ix := i) (nI_clamp (by omega)) (by first | assumption | exact vp_in_nI (by omega) (by omega)) (v := m 28 i) rfl dX11_waits_18 ?_
        refine lv_bipush (v := 115) hx hb dX11_waits_19 (by decide) ?_
        refine lv_icmp_ne (tgt := 38) hx hb dX11_waits_21 (by decide) (fun c21_3 => ?_) (fun c21_3 => ?_)
        · refine lv_iconst (v := 0) hx hb dX11_waits_38 (by decide) ?_
          refine lv_iadd hx hb dX11_waits_39 ?_
          refine lv_istore_n (lv' := [(2, .int (n + 0)), (3, .int (nI i)), (0, .ref (o)), (1, .int (x))]) hx hb dX11_waits_40 rfl hl (by decide) rfl (fun ls hl => ?_)
          refine lv_iinc (v := nI (i + 1)) (lv' := [(3, .int (nI (i + 1))), (2, .int (n + 0)), (0, .ref (o)), (1, .int (x))]) hx hb dX11_waits_41 hl (k := 1) rfl (by rw [← nI_1]; rfl) (by decide) rfl (fun ls hl => ?_)
          refine lv_goto (tgt := 4) hx hb dX11_waits_44 (by decide) ?_
          exact ih (i + 1) (n + 0) (by omega) (by rw [← hT]; simp [cntW, c9_2, Int32.not_le.mp c9_2, eq_false c21_3])  ls (lv_sub hl [0, 1, 2, 3] rfl)
        · refine lv_aload_n hx hb dX11_waits_24 rfl (lv_at hl 2 rfl) ?_
          refine m_arr C0 hH hM 19 (by decide) fl_X11_68 dX11_waits_25 ?_
          refine lv_iload_n hx hb dX11_waits_28 rfl (lv_at hl 0 rfl) ?_
          refine m_ldI C0 hH hM 19 (by decide) rfl (n := 40) rfl (ix := i) (nI_clamp (by omega)) (by first | assumption | exact vp_in_nI (by omega) (by omega)) (v := m 19 i) rfl dX11_waits_29 ?_
          refine lv_iload_n hx hb dX11_waits_30 rfl (lv_at hl 3 rfl) ?_
          refine lv_icmp_ne (tgt := 38) hx hb dX11_waits_31 (by decide) (fun c31_4 => ?_) (fun c31_4 => ?_)
          · refine lv_iconst (v := 0) hx hb dX11_waits_38 (by decide) ?_
            refine lv_iadd hx hb dX11_waits_39 ?_
            refine lv_istore_n (lv' := [(2, .int (n + 0)), (3, .int (nI i)), (0, .ref (o)), (1, .int (x))]) hx hb dX11_waits_40 rfl hl (by decide) rfl (fun ls hl => ?_)
            refine lv_iinc (v := nI (i + 1)) (lv' := [(3, .int (nI (i + 1))), (2, .int (n + 0)), (0, .ref (o)), (1, .int (x))]) hx hb dX11_waits_41 hl (k := 1) rfl (by rw [← nI_1]; rfl) (by decide) rfl (fun ls hl => ?_)
            refine lv_goto (tgt := 4) hx hb dX11_waits_44 (by decide) ?_
            exact ih (i + 1) (n + 0) (by omega) (by rw [← hT]; simp [cntW, c9_2, Int32.not_le.mp c9_2, eq_true c21_3, eq_false c31_4])  ls (lv_sub hl [0, 1, 2, 3] rfl)
          · refine lv_iconst (v := 1) hx hb dX11_waits_34 (by decide) ?_
            refine lv_goto (tgt := 39) hx hb dX11_waits_35 (by decide) ?_
            refine lv_iadd hx hb dX11_waits_39 ?_
            refine lv_istore_n (lv' := [(2, .int (n + 1)), (3, .int (nI i)), (0, .ref (o)), (1, .int (x))]) hx hb dX11_waits_40 rfl hl (by decide) rfl (fun ls hl => ?_)
            refine lv_iinc (v := nI (i + 1)) (lv' := [(3, .int (nI (i + 1))), (2, .int (n + 1)), (0, .ref (o)), (1, .int (x))]) hx hb dX11_waits_41 hl (k := 1) rfl (by rw [← nI_1]; rfl) (by decide) rfl (fun ls hl => ?_)
            refine lv_goto (tgt := 4) hx hb dX11_waits_44 (by decide) ?_
            exact ih (i + 1) (n + 1) (by omega) (by rw [← hT]; simp [cntW, c9_2, Int32.not_le.mp c9_2, eq_true c21_3, eq_true c31_4])  ls (lv_sub hl [0, 1, 2, 3] rfl)
  exact K (npN m) 0 0 (by omega) (rfl)  ls (lv_sub hl [0, 1, 2, 3] rfl)
