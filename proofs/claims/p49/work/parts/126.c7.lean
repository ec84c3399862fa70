set_option maxHeartbeats 800000 in
set_option maxRecDepth 100000 in
theorem cC_X10_isWithin (l : Launch) (G : GT) (A : Nat → Prop) (h : AH) (b : BA) (u : MM) (hR : RC G.2.2.1 h b u) (hw : WFc u) (x lo hi : Int32) : cmI l G A yX10_isWithin cX10_isWithin 3 (Option.some FieldType.boolean) 0 0 0 0 [.int (x), .int (lo), .int (hi)] h (fun r h' => r = bi (inn x lo hi) ∧ h' = h) := by
  refine cm_of "Routepost" rfl (by decide) (Nat.le_of_ble_eq_true rfl) ?_
  intro pr e s m9 below meth c C0 hr hname hH ls hl
  obtain ⟨hx, hb, hml, hown, hts, hK, hA, -⟩ := id C0
  have hl : lv_has ls 3 [(0, .int (x)), (1, .int (lo)), (2, .int (hi))] := hl
  have hc7 := hw.cnt6 7
  have hc8 := hw.cnt6 8
  have hc9 := hw.cnt6 9
  refine lv_iload_n hx hb dX10_isWithin_0 rfl (lv_at hl 0 rfl) ?_
  refine lv_iload_n hx hb dX10_isWithin_1 rfl (lv_at hl 1 rfl) ?_
  refine lv_icmp_lt (tgt := 14) hx hb dX10_isWithin_2 (by decide) (fun c2_1 => ?_) (fun c2_1 => ?_)
  · refine lv_iconst (v := 0) hx hb dX10_isWithin_14 (by decide) ?_
    have eR : (0 : Int32) = bi (inn x lo hi) := by simp [bi, inn, c2_1, Int32.not_le.mpr c2_1]
    exact e_Z C0 hr (by decide) hH ⟨eR, rfl⟩ (Nat.le_of_ble_eq_true rfl) (Nat.le_of_ble_eq_true rfl) dX10_isWithin_15
  · refine lv_iload_n hx hb dX10_isWithin_5 rfl (lv_at hl 0 rfl) ?_
    refine lv_iload_n hx hb dX10_isWithin_6 rfl (lv_at hl 2 rfl) ?_
    refine lv_icmp_gt (tgt := 14) hx hb dX10_isWithin_7 (by decide) (fun c7_2 => ?_) (fun c7_2 => ?_)
    · refine lv_iconst (v := 0) hx hb dX10_isWithin_14 (by decide) ?_
      have eR : (0 : Int32) = bi (inn x lo hi) := by simp [bi, inn, c2_1, Int32.not_lt.mp c2_1, c7_2, Int32.not_le.mpr c7_2]
      exact e_Z C0 hr (by decide) hH ⟨eR, rfl⟩ (Nat.le_of_ble_eq_true rfl) (Nat.le_of_ble_eq_true rfl) dX10_isWithin_15
    · refine lv_iconst (v := 1) hx hb dX10_isWithin_10 (by decide) ?_
      refine lv_goto (tgt := 15) hx hb dX10_isWithin_11 (by decide) ?_
      have eR : (1 : Int32) = bi (inn x lo hi) := by simp [bi, inn, c2_1, Int32.not_lt.mp c2_1, c7_2, Int32.not_lt.mp c7_2]
      exact e_Z C0 hr (by decide) hH ⟨eR, rfl⟩ (Nat.le_of_ble_eq_true rfl) (Nat.le_of_ble_eq_true rfl) dX10_isWithin_15
set_option maxHeartbeats 800000 in
set_option maxRecDepth 100000 in
theorem cC_X10_isWithoutZeros (l : Launch) (G : GT) (A : Nat → Prop) (h : AH) (b : BA) (u : MM) (hR : RC G.2.2.1 h b u) (hw : WFc u) (x : Int32) : cmI l G A yX10_isWithoutZeros cX10_isWithoutZeros 2 (Option.some FieldType.boolean) 0 0 0 0 [.int (x)] h (fun r h' => r = cWz x ∧ h' = h) := by
  refine cm_of "Routepost" rfl (by decide) (Nat.le_of_ble_eq_true rfl) ?_
  intro pr e s m9 below meth c C0 hr hname hH ls hl
  obtain ⟨hx, hb, hml, hown, hts, hK, hA, -⟩ := id C0
  have hl : lv_has ls 2 [(0, .int (x))] := hl
  have hc7 := hw.cnt6 7
  have hc8 := hw.cnt6 8
  have hc9 := hw.cnt6 9
  refine lv_iload_n hx hb dX10_isWithoutZeros_0 rfl (lv_at hl 0 rfl) ?_
  refine lv_istore_n (lv' := [(1, .int (x)), (0, .int (x))]) hx hb dX10_isWithoutZeros_1 rfl hl (by decide) rfl (fun ls hl => ?_)
  have K : ∀ (n : Nat) (k0 : Int32), k0.toInt < 10 ^ n → wz n k0 = wz 11 x → ∀ (ls : Array Slot), lv_has ls 2 [(1, .int (k0)), (0, .int (x))] → W pr l e (rmm 0 0 0 0) s m9 ([.int (x)] : List Value).toArray below meth c s.heap [] 0 0 (QI below G A (fun r h' => r = cWz x ∧ h' = h) ([.int (x)] : List Value).toArray s 0 0) (F0 m9 2 ls []) := by
    intro n
    induction n with
    | zero =>
      intro k0 hk hT ls hl
      refine lv_iload_n hx hb dX10_isWithoutZeros_2 rfl (lv_at hl 0 rfl) ?_
      refine lv_if_le (tgt := 23) hx hb dX10_isWithoutZeros_3 (by decide) (fun c3_1 => ?_) (fun c3_1 => ?_)
      · refine lv_iconst (v := 1) hx hb dX10_isWithoutZeros_23 (by decide) ?_
        have eR : (1 : Int32) = cWz x := by unfold cWz; rw [← hT]; simp [wz, c3_1, Int32.not_lt.mpr c3_1]
        exact e_Z C0 hr (by decide) hH ⟨eR, rfl⟩ (Nat.le_of_ble_eq_true rfl) (Nat.le_of_ble_eq_true rfl) dX10_isWithoutZeros_24
      · exact absurd (dig_z hk) c3_1
    | succ n ih =>
      intro k0 hk hT ls hl
      refine lv_iload_n hx hb dX10_isWithoutZeros_2 rfl (lv_at hl 0 rfl) ?_
      refine lv_if_le (tgt := 23) hx hb dX10_isWithoutZeros_3 (by decide) (fun c3_2 => ?_) (fun c3_2 => ?_)
      · refine lv_iconst (v := 1) hx hb dX10_isWithoutZeros_23 (by decide) ?_
        have eR : (1 : Int32) = cWz x := by unfold cWz; rw [← hT]; simp [wz, c3_2, Int32.not_lt.mpr c3_2]
        exact e_Z C0 hr (by decide) hH ⟨eR, rfl⟩ (Nat.le_of_ble_eq_true rfl) (Nat.le_of_ble_eq_true rfl) dX10_isWithoutZeros_24
      · refine lv_iload_n hx hb dX10_isWithoutZeros_6 rfl (lv_at hl 0 rfl) ?_
        refine lv_bipush (v := 10) hx hb dX10_isWithoutZeros_7 (by decide) ?_
        refine lv_irem hx hb dX10_isWithoutZeros_9 (by decide) ?_
        refine lv_if_ne (tgt := 15) hx hb dX10_isWithoutZeros_10 (by decide) (fun c10_3 => ?_) (fun c10_3 => ?_)
        · refine lv_iload_n hx hb dX10_isWithoutZeros_15 rfl (lv_at hl 0 rfl) ?_
          refine lv_bipush (v := 10) hx hb dX10_isWithoutZeros_16 (by decide) ?_
          refine lv_idiv hx hb dX10_isWithoutZeros_18 (by decide) ?_
          refine lv_istore_n (lv' := [(1, .int (k0 / 10)), (0, .int (x))]) hx hb dX10_isWithoutZeros_19 rfl hl (by decide) rfl (fun ls hl => ?_)
          refine lv_goto (tgt := 2) hx hb dX10_isWithoutZeros_20 (by decide) ?_
          exact ih (k0 / 10) (dig_s c3_2 hk) (by rw [← hT]; simp [wz, c3_2, Int32.not_le.mp c3_2, eq_false c10_3]) ls (lv_sub hl [0, 1] rfl)
        · refine lv_iconst (v := 0) hx hb dX10_isWithoutZeros_13 (by decide) ?_
          have eR : (0 : Int32) = cWz x := by unfold cWz; rw [← hT]; simp [wz, c3_2, Int32.not_le.mp c3_2, eq_true c10_3]
          exact e_Z C0 hr (by decide) hH ⟨eR, rfl⟩ (Nat.le_of_ble_eq_true rfl) (Nat.le_of_ble_eq_true rfl) dX10_isWithoutZeros_14
  exact K 11 x (dig_b x) rfl ls (lv_sub hl [0, 1] rfl)
set_option maxHeartbeats 800000 in
set_option maxRecDepth 100000 in
theorem cC_X10_isPrefix (l : Launch) (G : GT) (A : Nat → Prop) (h : AH) (b : BA) (u : MM) (hR : RC G.2.2.1 h b u) (hw : WFc u) (c0 x : Int32) : cmI l G A yX10_isPrefix cX10_isPrefix 3 (Option.some FieldType.boolean) 0 0 0 0 [.int (c0), .int (x)] h (fun r h' => r = cPre c0 x ∧ h' = h) := by
  refine cm_of "Routepost" rfl (by decide) (Nat.le_of_ble_eq_true rfl) ?_
  intro pr e s m9 below meth c C0 hr hname hH ls hl
  obtain ⟨hx, hb, hml, hown, hts, hK, hA, -⟩ := id C0
  have hl : lv_has ls 3 [(0, .int (c0)), (1, .int (x))] := hl
  have hc7 := hw.cnt6 7
  have hc8 := hw.cnt6 8
  have hc9 := hw.cnt6 9
  refine lv_iload_n hx hb dX10_isPrefix_0 rfl (lv_at hl 1 rfl) ?_
  refine lv_istore_n (lv' := [(2, .int (x)), (0, .int (c0)), (1, .int (x))]) hx hb dX10_isPrefix_1 rfl hl (by decide) rfl (fun ls hl => ?_)
  have K : ∀ (n : Nat) (k0 : Int32), k0.toInt < 10 ^ n → cPrL c0 n k0 = cPrL c0 11 x → ∀ (ls : Array Slot), lv_has ls 3 [(2, .int (k0)), (0, .int (c0)), (1, .int (x))] → W pr l e (rmm 0 0 0 0) s m9 ([.int (c0), .int (x)] : List Value).toArray below meth c s.heap [] 0 0 (QI below G A (fun r h' => r = cPre c0 x ∧ h' = h) ([.int (c0), .int (x)] : List Value).toArray s 0 0) (F0 m9 2 ls []) := by
    intro n
    induction n with
    | zero =>
      intro k0 hk hT ls hl
      refine lv_iload_n hx hb dX10_isPrefix_2 rfl (lv_at hl 0 rfl) ?_
      refine lv_if_le (tgt := 21) hx hb dX10_isPrefix_3 (by decide) (fun c3_1 => ?_) (fun c3_1 => ?_)
      · refine lv_iconst (v := 0) hx hb dX10_isPrefix_21 (by decide) ?_
        have eR : (0 : Int32) = cPre c0 x := by unfold cPre; rw [← hT]; simp [cPrL, c3_1, Int32.not_lt.mpr c3_1]
        exact e_Z C0 hr (by decide) hH ⟨eR, rfl⟩ (Nat.le_of_ble_eq_true rfl) (Nat.le_of_ble_eq_true rfl) dX10_isPrefix_22
      · exact absurd (dig_z hk) c3_1
    | succ n ih =>
      intro k0 hk hT ls hl
      refine lv_iload_n hx hb dX10_isPrefix_2 rfl (lv_at hl 0 rfl) ?_
      refine lv_if_le (tgt := 21) hx hb dX10_isPrefix_3 (by decide) (fun c3_2 => ?_) (fun c3_2 => ?_)
      · refine lv_iconst (v := 0) hx hb dX10_isPrefix_21 (by decide) ?_
        have eR : (0 : Int32) = cPre c0 x := by unfold cPre; rw [← hT]; simp [cPrL, c3_2, Int32.not_lt.mpr c3_2]
        exact e_Z C0 hr (by decide) hH ⟨eR, rfl⟩ (Nat.le_of_ble_eq_true rfl) (Nat.le_of_ble_eq_true rfl) dX10_isPrefix_22
      · refine lv_iload_n hx hb dX10_isPrefix_6 rfl (lv_at hl 0 rfl) ?_
        refine lv_iload_n hx hb dX10_isPrefix_7 rfl (lv_at hl 1 rfl) ?_
        refine lv_icmp_ne (tgt := 13) hx hb dX10_isPrefix_8 (by decide) (fun c8_3 => ?_) (fun c8_3 => ?_)
        · refine lv_iload_n hx hb dX10_isPrefix_13 rfl (lv_at hl 0 rfl) ?_
          refine lv_bipush (v := 10) hx hb dX10_isPrefix_14 (by decide) ?_
          refine lv_idiv hx hb dX10_isPrefix_16 (by decide) ?_
          refine lv_istore_n (lv' := [(2, .int (k0 / 10)), (0, .int (c0)), (1, .int (x))]) hx hb dX10_isPrefix_17 rfl hl (by decide) rfl (fun ls hl => ?_)
          refine lv_goto (tgt := 2) hx hb dX10_isPrefix_18 (by decide) ?_
          exact ih (k0 / 10) (dig_s c3_2 hk) (by rw [← hT]; simp [cPrL, c3_2, Int32.not_le.mp c3_2, eq_false c8_3]) ls (lv_sub hl [0, 1, 2] rfl)
        · refine lv_iconst (v := 1) hx hb dX10_isPrefix_11 (by decide) ?_
          have eR : (1 : Int32) = cPre c0 x := by unfold cPre; rw [← hT]; simp [cPrL, c3_2, Int32.not_le.mp c3_2, eq_true c8_3]
          exact e_Z C0 hr (by decide) hH ⟨eR, rfl⟩ (Nat.le_of_ble_eq_true rfl) (Nat.le_of_ble_eq_true rfl) dX10_isPrefix_12
  exact K 11 x (dig_b x) rfl ls (lv_sub hl [0, 1, 2] rfl)
set_option maxHeartbeats 800000 in
set_option maxRecDepth 100000 in
theorem cC_X10_isCode (l : Launch) (G : GT) (A : Nat → Prop) (h : AH) (b : BA) (u : MM) (hR : RC G.2.2.1 h b u) (hw : WFc u) (x : Int32) : cmI l G A yX10_isCode cX10_isCode 1 (Option.some FieldType.boolean) 1 22 0 0 [.int (x)] h (fun r h' => r = cCod x ∧ h' = h) := by
  refine cm_of "Routepost" rfl (by decide) (Nat.le_of_ble_eq_true rfl) ?_
  intro pr e s m9 below meth c C0 hr hname hH ls hl
  obtain ⟨hx, hb, hml, hown, hts, hK, hA, -⟩ := id C0
  have hl : lv_has ls 1 [(0, .int (x))] := hl
  have hc7 := hw.cnt6 7
  have hc8 := hw.cnt6 8
  have hc9 := hw.cnt6 9
  refine lv_iload_n hx hb dX10_isCode_0 rfl (lv_at hl 0 rfl) ?_
  refine lv_iconst (v := 1) hx hb dX10_isCode_1 (by decide) ?_
  refine lv_sipush (v := 999) hx hb dX10_isCode_2 (by decide) ?_
  refine k_i hH (k_runS (rest := []) C0 hH (cC_X10_isWithin l G A _ b _ hR hw x 1 999 ) mv_X10_isWithin ml_X10_64 rfl ⟨Nat.le_of_ble_eq_true rfl, Nat.le_of_ble_eq_true rfl⟩ hl.1 rfl (Nat.le_of_ble_eq_true rfl) dX10_isCode_5 (by simp)) (fun r_1 h1 H locs hp hH => ?_)
  obtain ⟨er_1, eh⟩ := hp
  rw [eh] at hH
  clear eh
  subst er_1
  refine lv_if_eq (tgt := 22) hx hb dX10_isCode_8 (by decide) (fun c8_2 => ?_) (fun c8_2 => ?_)
  · replace c8_2 := bi_0.mp c8_2
    refine lv_iconst (v := 0) hx hb dX10_isCode_22 (by decide) ?_
    have eR : (0 : Int32) = cCod x := by simp [cCod, c8_2]
    exact e_Z C0 hr (by decide) hH ⟨eR, rfl⟩ (Nat.le_of_ble_eq_true rfl) (Nat.le_of_ble_eq_true rfl) dX10_isCode_23
  · replace c8_2 := bi_n0.mp c8_2
    refine lv_iload_n hx hb dX10_isCode_11 rfl (lv_at hl 0 rfl) ?_
    refine k_i hH (k_runS (rest := []) C0 hH (cC_X10_isWithoutZeros l G A _ b _ hR hw x ) mv_X10_isWithoutZeros ml_X10_377 rfl ⟨Nat.le_of_ble_eq_true rfl, Nat.le_of_ble_eq_true rfl⟩ hl.1 rfl (Nat.le_of_ble_eq_true rfl) dX10_isCode_12 (by simp)) (fun r_3 h1 H locs hp hH => ?_)
    obtain ⟨er_3, eh⟩ := hp
    rw [eh] at hH
    clear eh
    subst er_3
    refine lv_if_eq (tgt := 22) hx hb dX10_isCode_15 (by decide) (fun c15_4 => ?_) (fun c15_4 => ?_)
    · refine lv_iconst (v := 0) hx hb dX10_isCode_22 (by decide) ?_
      have eR : (0 : Int32) = cCod x := by simp [cCod, c8_2, eq_true c15_4]
      exact e_Z C0 hr (by decide) hH ⟨eR, rfl⟩ (Nat.le_of_ble_eq_true rfl) (Nat.le_of_ble_eq_true rfl) dX10_isCode_23
    · refine lv_iconst (v := 1) hx hb dX10_isCode_18 (by decide) ?_
      refine lv_goto (tgt := 23) hx hb dX10_isCode_19 (by decide) ?_
      have eR : (1 : Int32) = cCod x := by simp [cCod, c8_2, eq_false c15_4]
      exact e_Z C0 hr (by decide) hH ⟨eR, rfl⟩ (Nat.le_of_ble_eq_true rfl) (Nat.le_of_ble_eq_true rfl) dX10_isCode_23
set_option maxHeartbeats 800000 in
set_option maxRecDepth 100000 in
theorem cC_X10_isAddress (l : Launch) (G : GT) (A : Nat → Prop) (h : AH) (b : BA) (u : MM) (hR : RC G.2.2.1 h b u) (hw : WFc u) (x : Int32) : cmI l G A yX10_isAddress cX10_isAddress 1 (Option.some FieldType.boolean) 1 22 0 0 [.int (x)] h (fun r h' => r = cAdr x ∧ h' = h) := by
  refine cm_of "Routepost" rfl (by decide) (Nat.le_of_ble_eq_true rfl) ?_
  intro pr e s m9 below meth c C0 hr hname hH ls hl
  obtain ⟨hx, hb, hml, hown, hts, hK, hA, -⟩ := id C0
  have hl : lv_has ls 1 [(0, .int (x))] := hl
  have hc7 := hw.cnt6 7
  have hc8 := hw.cnt6 8
  have hc9 := hw.cnt6 9
  refine lv_iload_n hx hb dX10_isAddress_0 rfl (lv_at hl 0 rfl) ?_
  refine lv_sipush (v := 1000) hx hb dX10_isAddress_1 (by decide) ?_
  refine lv_sipush (v := 9999) hx hb dX10_isAddress_4 (by decide) ?_
  refine k_i hH (k_runS (rest := []) C0 hH (cC_X10_isWithin l G A _ b _ hR hw x 1000 9999 ) mv_X10_isWithin ml_X10_64 rfl ⟨Nat.le_of_ble_eq_true rfl, Nat.le_of_ble_eq_true rfl⟩ hl.1 rfl (Nat.le_of_ble_eq_true rfl) dX10_isAddress_7 (by simp)) (fun r_1 h1 H locs hp hH => ?_)
  obtain ⟨er_1, eh⟩ := hp
  rw [eh] at hH
  clear eh
  subst er_1
  refine lv_if_eq (tgt := 24) hx hb dX10_isAddress_10 (by decide) (fun c10_2 => ?_) (fun c10_2 => ?_)
  · replace c10_2 := bi_0.mp c10_2
    refine lv_iconst (v := 0) hx hb dX10_isAddress_24 (by decide) ?_
    have eR : (0 : Int32) = cAdr x := by simp [cAdr, c10_2]
    exact e_Z C0 hr (by decide) hH ⟨eR, rfl⟩ (Nat.le_of_ble_eq_true rfl) (Nat.le_of_ble_eq_true rfl) dX10_isAddress_25
  · replace c10_2 := bi_n0.mp c10_2
    refine lv_iload_n hx hb dX10_isAddress_13 rfl (lv_at hl 0 rfl) ?_
    refine k_i hH (k_runS (rest := []) C0 hH (cC_X10_isWithoutZeros l G A _ b _ hR hw x ) mv_X10_isWithoutZeros ml_X10_377 rfl ⟨Nat.le_of_ble_eq_true rfl, Nat.le_of_ble_eq_true rfl⟩ hl.1 rfl (Nat.le_of_ble_eq_true rfl) dX10_isAddress_14 (by simp)) (fun r_3 h1 H locs hp hH => ?_)
    obtain ⟨er_3, eh⟩ := hp
    rw [eh] at hH
    clear eh
    subst er_3
    refine lv_if_eq (tgt := 24) hx hb dX10_isAddress_17 (by decide) (fun c17_4 => ?_) (fun c17_4 => ?_)
    · refine lv_iconst (v := 0) hx hb dX10_isAddress_24 (by decide) ?_
      have eR : (0 : Int32) = cAdr x := by simp [cAdr, c10_2, eq_true c17_4]
      exact e_Z C0 hr (by decide) hH ⟨eR, rfl⟩ (Nat.le_of_ble_eq_true rfl) (Nat.le_of_ble_eq_true rfl) dX10_isAddress_25
    · refine lv_iconst (v := 1) hx hb dX10_isAddress_20 (by decide) ?_
      refine lv_goto (tgt := 25) hx hb dX10_isAddress_21 (by decide) ?_
      have eR : (1 : Int32) = cAdr x := by simp [cAdr, c10_2, eq_false c17_4]
      exact e_Z C0 hr (by decide) hH ⟨eR, rfl⟩ (Nat.le_of_ble_eq_true rfl) (Nat.le_of_ble_eq_true rfl) dX10_isAddress_25
set_option maxHeartbeats 800000 in
set_option maxRecDepth 100000 in
theorem cC_X10_numberOf__n (l : Launch) (G : GT) (A : Nat → Prop) (h : AH) (b : BA) (u : MM) (hR : RC G.2.2.1 h b u) (hw : WFc u) : cmI l G A yX10_numberOf_ cX10_numberOf_ 1 (Option.some FieldType.int) 0 0 0 0 [.null] h (fun r h' => r = (-1) ∧ h' = h) := by
  refine cm_of "Routepost" rfl (by decide) (Nat.le_of_ble_eq_true rfl) ?_
  intro pr e s m9 below meth c C0 hr hname hH ls hl
  obtain ⟨hx, hb, hml, hown, hts, hK, hA, -⟩ := id C0
  have hl : lv_has ls 1 [(0, .null)] := hl
  have hc7 := hw.cnt6 7
  have hc8 := hw.cnt6 8
  have hc9 := hw.cnt6 9
  refine lv_aload_nN hx hb dX10_numberOf__0 rfl (lv_at hl 0 rfl) ?_
  refine lv_ifnonnullN hx hb dX10_numberOf__1 ?_
  refine lv_iconst (v := (-1)) hx hb dX10_numberOf__4 (by decide) ?_
  refine lv_goto (tgt := 12) hx hb dX10_numberOf__5 (by decide) ?_
  have eR : ((-1) : Int32) = (-1) := rfl
  exact e_I C0 hr hH ⟨eR, rfl⟩ (Nat.le_of_ble_eq_true rfl) (Nat.le_of_ble_eq_true rfl) dX10_numberOf__12
set_option maxHeartbeats 800000 in
set_option maxRecDepth 100000 in
theorem cC_X10_numberOf__s (l : Launch) (G : GT) (A : Nat → Prop) (h : AH) (b : BA) (u : MM) (hR : RC G.2.2.1 h b u) (hw : WFc u) (v : Nat) (hv0 : v < nlN u) : cmI l G A yX10_numberOf_ cX10_numberOf_ 1 (Option.some FieldType.int) 0 0 0 0 [.ref (b 8 v)] h (fun r h' => r = nI v ∧ h' = h) := by
  refine cm_of "Routepost" rfl (by decide) (Nat.le_of_ble_eq_true rfl) ?_
  intro pr e s m9 below meth c C0 hr hname hH ls hl
  obtain ⟨hx, hb, hml, hown, hts, hK, hA, -⟩ := id C0
  have hl : lv_has ls 1 [(0, .ref (b 8 v))] := hl
  have hc7 := hw.cnt6 7
  have hc8 := hw.cnt6 8
  have hc9 := hw.cnt6 9
  refine lv_aload_n hx hb dX10_numberOf__0 rfl (lv_at hl 0 rfl) ?_
  refine lv_ifnonnull (tgt := 8) hx hb dX10_numberOf__1 (by decide) ?_
  refine lv_aload_n hx hb dX10_numberOf__8 rfl (lv_at hl 0 rfl) ?_
  refine c_getI C0 hH hR ci_8 (i := v) (j := 0) hv0 rfl (by decide) rfl fl_X10_118 (v := nI v) rfl dX10_numberOf__9 ?_
  have eR : (nI v : Int32) = nI v := rfl
  exact e_I C0 hr hH ⟨eR, rfl⟩ (Nat.le_of_ble_eq_true rfl) (Nat.le_of_ble_eq_true rfl) dX10_numberOf__12
theorem cC_X10_numberOf_ (l : Launch) (G : GT) (A : Nat → Prop) (h : AH) (b : BA) (u : MM) (hR : RC G.2.2.1 h b u) (hw : WFc u) (y : Int32) (hy : y = -1 ∨ ∃ v, v < nlN u ∧ y = nI v) : cmI l G A yX10_numberOf_ cX10_numberOf_ 1 (Option.some FieldType.int) 0 0 0 0 [va_rf (dec b 8 y)] h (fun r h' => r = y ∧ h' = h) := by
  rcases hy with rfl | ⟨v, hv, rfl⟩
  · rw [dec_m1]; exact cC_X10_numberOf__n l G A h b u hR hw
  · rw [dec_nI (by have := hw.nh; have := hw.nl; omega)]; exact cC_X10_numberOf__s l G A h b u hR hw v hv
set_option maxHeartbeats 800000 in
set_option maxRecDepth 100000 in
theorem cC_X10_numberOf_n (l : Launch) (G : GT) (A : Nat → Prop) (h : AH) (b : BA) (u : MM) (hR : RC G.2.2.1 h b u) (hw : WFc u) : cmI l G A yX10_numberOf cX10_numberOf 1 (Option.some FieldType.int) 0 0 0 0 [.null] h (fun r h' => r = (-1) ∧ h' = h) := by
  refine cm_of "Routepost" rfl (by decide) (Nat.le_of_ble_eq_true rfl) ?_
  intro pr e s m9 below meth c C0 hr hname hH ls hl
  obtain ⟨hx, hb, hml, hown, hts, hK, hA, -⟩ := id C0
  have hl : lv_has ls 1 [(0, .null)] := hl
  have hc7 := hw.cnt6 7
  have hc8 := hw.cnt6 8
  have hc9 := hw.cnt6 9
  refine lv_aload_nN hx hb dX10_numberOf_0 rfl (lv_at hl 0 rfl) ?_
  refine lv_ifnonnullN hx hb dX10_numberOf_1 ?_
  refine lv_iconst (v := (-1)) hx hb dX10_numberOf_4 (by decide) ?_
  refine lv_goto (tgt := 12) hx hb dX10_numberOf_5 (by decide) ?_
  have eR : ((-1) : Int32) = (-1) := rfl
  exact e_I C0 hr hH ⟨eR, rfl⟩ (Nat.le_of_ble_eq_true rfl) (Nat.le_of_ble_eq_true rfl) dX10_numberOf_12
set_option maxHeartbeats 800000 in
set_option maxRecDepth 100000 in
theorem cC_X10_numberOf_s (l : Launch) (G : GT) (A : Nat → Prop) (h : AH) (b : BA) (u : MM) (hR : RC G.2.2.1 h b u) (hw : WFc u) (v : Nat) (hv0 : v < nhN u) : cmI l G A yX10_numberOf cX10_numberOf 1 (Option.some FieldType.int) 0 0 0 0 [.ref (b 7 v)] h (fun r h' => r = nI v ∧ h' = h) := by
  refine cm_of "Routepost" rfl (by decide) (Nat.le_of_ble_eq_true rfl) ?_
  intro pr e s m9 below meth c C0 hr hname hH ls hl
  obtain ⟨hx, hb, hml, hown, hts, hK, hA, -⟩ := id C0
  have hl : lv_has ls 1 [(0, .ref (b 7 v))] := hl
  have hc7 := hw.cnt6 7
  have hc8 := hw.cnt6 8
  have hc9 := hw.cnt6 9
  refine lv_aload_n hx hb dX10_numberOf_0 rfl (lv_at hl 0 rfl) ?_
  refine lv_ifnonnull (tgt := 8) hx hb dX10_numberOf_1 (by decide) ?_
  refine lv_aload_n hx hb dX10_numberOf_8 rfl (lv_at hl 0 rfl) ?_
  refine c_getI C0 hH hR ci_7 (i := v) (j := 0) hv0 rfl (by decide) rfl fl_X10_97 (v := nI v) rfl dX10_numberOf_9 ?_
  have eR : (nI v : Int32) = nI v := rfl
  exact e_I C0 hr hH ⟨eR, rfl⟩ (Nat.le_of_ble_eq_true rfl) (Nat.le_of_ble_eq_true rfl) dX10_numberOf_12
theorem cC_X10_numberOf (l : Launch) (G : GT) (A : Nat → Prop) (h : AH) (b : BA) (u : MM) (hR : RC G.2.2.1 h b u) (hw : WFc u) (y : Int32) (hy : y = -1 ∨ ∃ v, v < nhN u ∧ y = nI v) : cmI l G A yX10_numberOf cX10_numberOf 1 (Option.some FieldType.int) 0 0 0 0 [va_rf (dec b 7 y)] h (fun r h' => r = y ∧ h' = h) := by
  rcases hy with rfl | ⟨v, hv, rfl⟩
  · rw [dec_m1]; exact cC_X10_numberOf_n l G A h b u hR hw
  · rw [dec_nI (by have := hw.nh; have := hw.nl; omega)]; exact cC_X10_numberOf_s l G A h b u hR hw v hv
set_option maxHeartbeats 800000 in
set_option maxRecDepth 100000 in
theorem cC_X10_hubWithCode (l : Launch) (G : GT) (A : Nat → Prop) (h : AH) (b : BA) (u : MM) (hR : RC G.2.2.1 h b u) (hw : WFc u) (x : Int32) : cmQ l G A yX10_hubWithCode cX10_hubWithCode 4 (Option.some (FieldType.object "Routepost$Hub")) 3 64 0 0 [.ref (b 14 0), .int (x)] h (fun r h' => r = dec b 7 (cHw u x) ∧ h' = h) := by
  refine cm_of "Routepost" rfl (by decide) (Nat.le_of_ble_eq_true rfl) ?_
  intro pr e s m9 below meth c C0 hr hname hH ls hl
  obtain ⟨hx, hb, hml, hown, hts, hK, hA, -⟩ := id C0
  have hl : lv_has ls 4 [(0, .ref (b 14 0)), (1, .int (x))] := hl
  have hc7 := hw.cnt6 7
  have hc8 := hw.cnt6 8
  have hc9 := hw.cnt6 9
  refine lv_iconst (v := 0) hx hb dX10_hubWithCode_0 (by decide) ?_
  refine lv_istore_n (lv' := [(2, .int (0)), (0, .ref (b 14 0)), (1, .int (x))]) hx hb dX10_hubWithCode_1 rfl hl (by decide) rfl (fun ls hl => ?_)
  have K : ∀ (k : Nat) (h0 : Nat), h0 + k = nhN u → cHwL u x k h0 = cHw u x → ∀ (H : Heap) (locs : List Loc) (hH : HS G.1 G.2.1 A s.heap h H locs) (ls : Array Slot), lv_has ls 4 [(2, .int (nI h0)), (0, .ref (b 14 0)), (1, .int (x))] → W pr l e (rmm 3 64 0 0) s m9 ([.ref (b 14 0), .int (x)] : List Value).toArray below meth c H locs 0 0 (QQ below G A (fun r h' => r = dec b 7 (cHw u x) ∧ h' = h) ([.ref (b 14 0), .int (x)] : List Value).toArray s 0 0) (F0 m9 2 ls []) := by
    intro k
    induction k with
    | zero =>
      intro h0 hik hT H locs hH ls hl
      refine lv_iload_n hx hb dX10_hubWithCode_2 rfl (lv_at hl 0 rfl) ?_
      refine lv_aload_n hx hb dX10_hubWithCode_3 rfl (lv_at hl 1 rfl) ?_
      refine c_getR C0 hH hR ci_14 (i := 0) (j := 0) rfl rfl (by decide) rfl fl_X10_12 (v := some (b 3 0)) rfl dX10_hubWithCode_4 ?_
      refine k_i hH (k_runV (rest := [.int (nI h0)]) C0 hH (cL_size l G A _ b _ hR hw 0 (show 0 < 6 + npN _ by omega)) mv_Jx4a65c_size_8abf5 ml_X10_79 ci_3 (hR.kind (K := 3) (i := 0) (show 0 < 6 + npN _ by omega)) rfl ⟨Nat.le_of_ble_eq_true rfl, Nat.le_of_ble_eq_true rfl⟩ hl.1 rfl (Nat.le_of_ble_eq_true rfl) dX10_hubWithCode_7 (by simp)) (fun r9 h1 H locs hp hH => ?_)
      obtain ⟨er9, eh⟩ := hp
      rw [eh] at hH
      clear eh
      rw [hw.sz0] at er9
      subst er9
      refine lv_icmp_ge (tgt := 41) hx hb dX10_hubWithCode_10 (by decide) (fun c10_1 => ?_) (fun c10_1 => ?_)
      · refine lv_null hx hb dX10_hubWithCode_41 ?_
        have eR : (none : Option Nat) = dec b 7 (cHw u x) := by rw [← hT]; exact dec_m1.symm
        exact e_Q (v := none) C0 hr (Or.inl ⟨_, rfl⟩) hH ⟨eR, rfl⟩ (Nat.le_of_ble_eq_true rfl) (Nat.le_of_ble_eq_true rfl) dX10_hubWithCode_42
      · exact absurd (by rw [show h0 = nhN u by omega]; exact Int32.le_refl _) c10_1
    | succ k ih =>
      intro h0 hik hT H locs hH ls hl
      refine lv_iload_n hx hb dX10_hubWithCode_2 rfl (lv_at hl 0 rfl) ?_
      refine lv_aload_n hx hb dX10_hubWithCode_3 rfl (lv_at hl 1 rfl) ?_
      refine c_getR C0 hH hR ci_14 (i := 0) (j := 0) rfl rfl (by decide) rfl fl_X10_12 (v := some (b 3 0)) rfl dX10_hubWithCode_4 ?_
      refine k_i hH (k_runV (rest := [.int (nI h0)]) C0 hH (cL_size l G A _ b _ hR hw 0 (show 0 < 6 + npN _ by omega)) mv_Jx4a65c_size_8abf5 ml_X10_79 ci_3 (hR.kind (K := 3) (i := 0) (show 0 < 6 + npN _ by omega)) rfl ⟨Nat.le_of_ble_eq_true rfl, Nat.le_of_ble_eq_true rfl⟩ hl.1 rfl (Nat.le_of_ble_eq_true rfl) dX10_hubWithCode_7 (by simp)) (fun r9 h1 H locs hp hH => ?_)
      obtain ⟨er9, eh⟩ := hp
      rw [eh] at hH
      clear eh
      rw [hw.sz0] at er9
      subst er9
      refine lv_icmp_ge (tgt := 41) hx hb dX10_hubWithCode_10 (by decide) (fun c10_2 => ?_) (fun c10_2 => ?_)
      · exact absurd c10_2 (nI_ge (show h0 < nhN u by omega) (by have := hw.nh; omega))
      · refine lv_aload_n hx hb dX10_hubWithCode_13 rfl (lv_at hl 1 rfl) ?_
        refine c_getR C0 hH hR ci_14 (i := 0) (j := 0) rfl rfl (by decide) rfl fl_X10_12 (v := some (b 3 0)) rfl dX10_hubWithCode_14 ?_
        refine lv_iload_n hx hb dX10_hubWithCode_17 rfl (lv_at hl 0 rfl) ?_
        refine k_q hH (k_runV (rest := []) C0 hH (cL_get l G A _ b _ hR hw 0 h0 (show 0 < 6 + npN _ by omega) (by rw [hw.sz0]; omega) (a := b 7 h0) rfl) mv_Jx4a65c_get_915e3 ml_X10_143 ci_3 (hR.kind (K := 3) (i := 0) (show 0 < 6 + npN _ by omega)) rfl ⟨Nat.le_of_ble_eq_true rfl, Nat.le_of_ble_eq_true rfl⟩ hl.1 rfl (Nat.le_of_ble_eq_true rfl) dX10_hubWithCode_18 (by simp)) (fun r9 h1 H locs hp hH => ?_)
        obtain ⟨er9, eh⟩ := hp
        rw [eh] at hH
        clear eh
        subst er9
        refine k_chk C0 hH ci_7 (hR.kind (K := 7) (i := h0) (show h0 < nhN u by omega)) cl_X10_88 dX10_hubWithCode_21 ?_
        refine lv_astore_n (lv' := [(3, .ref (b 7 h0)), (2, .int (nI h0)), (0, .ref (b 14 0)), (1, .int (x))]) hx hb dX10_hubWithCode_24 rfl hl (by decide) rfl (fun ls hl => ?_)
        refine lv_aload_n hx hb dX10_hubWithCode_25 rfl (lv_at hl 0 rfl) ?_
        refine c_getI C0 hH hR ci_7 (i := h0) (j := 1) (show h0 < nhN u by omega) rfl (by decide) rfl fl_X10_147 (v := u 0 h0) rfl dX10_hubWithCode_26 ?_
        refine lv_iload_n hx hb dX10_hubWithCode_29 rfl (lv_at hl 3 rfl) ?_
        refine lv_icmp_ne (tgt := 35) hx hb dX10_hubWithCode_30 (by decide) (fun c30_3 => ?_) (fun c30_3 => ?_)
        · refine lv_iinc (v := nI (h0 + 1)) (lv' := [(2, .int (nI (h0 + 1))), (3, .ref (b 7 h0)), (0, .ref (b 14 0)), (1, .int (x))]) hx hb dX10_hubWithCode_35 hl (k := 1) rfl (by rw [← nI_1]; rfl) (by decide) rfl (fun ls hl => ?_)
          refine lv_goto (tgt := 2) hx hb dX10_hubWithCode_38 (by decide) ?_
          exact ih (h0 + 1) (by omega) (by rw [← hT]; simp [cHwL, c10_2, Int32.not_le.mp c10_2, eq_false c30_3]) _ _ hH ls (lv_sub hl [0, 2, 3] rfl)
        · refine lv_aload_n hx hb dX10_hubWithCode_33 rfl (lv_at hl 0 rfl) ?_
          have eR : (some (b 7 h0) : Option Nat) = dec b 7 (cHw u x) := by rw [← hT]; simp only [cHwL]; rw [if_pos c30_3]; exact (dec_nI (by have := hw.nh; omega)).symm
          exact e_Q (v := some (b 7 h0)) C0 hr (Or.inl ⟨_, rfl⟩) hH ⟨eR, rfl⟩ (Nat.le_of_ble_eq_true rfl) (Nat.le_of_ble_eq_true rfl) dX10_hubWithCode_34
  exact K (nhN u) 0 (by omega) rfl _ _ hH ls (lv_sub hl [0, 1, 2] rfl)
set_option maxHeartbeats 800000 in
set_option maxRecDepth 100000 in
theorem cC_X10_hubByShortening (l : Launch) (G : GT) (A : Nat → Prop) (h : AH) (b : BA) (u : MM) (hR : RC G.2.2.1 h b u) (hw : WFc u) (x : Int32) : cmQ l G A yX10_hubByShortening cX10_hubByShortening 4 (Option.some (FieldType.object "Routepost$Hub")) 4 87 0 0 [.ref (b 14 0), .int (x)] h (fun r h' => r = dec b 7 (cHs u x) ∧ h' = h) := by
  refine cm_of "Routepost" rfl (by decide) (Nat.le_of_ble_eq_true rfl) ?_
  intro pr e s m9 below meth c C0 hr hname hH ls hl
  obtain ⟨hx, hb, hml, hown, hts, hK, hA, -⟩ := id C0
  have hl : lv_has ls 4 [(0, .ref (b 14 0)), (1, .int (x))] := hl
  have hc7 := hw.cnt6 7
  have hc8 := hw.cnt6 8
  have hc9 := hw.cnt6 9
  refine lv_iload_n hx hb dX10_hubByShortening_0 rfl (lv_at hl 1 rfl) ?_
  refine lv_istore_n (lv' := [(2, .int (x)), (0, .ref (b 14 0)), (1, .int (x))]) hx hb dX10_hubByShortening_1 rfl hl (by decide) rfl (fun ls hl => ?_)
  have K : ∀ (n : Nat) (k0 : Int32), k0.toInt < 10 ^ n → cHsL u n k0 = cHs u x → ∀ (H : Heap) (locs : List Loc) (hH : HS G.1 G.2.1 A s.heap h H locs) (ls : Array Slot), lv_has ls 4 [(2, .int (k0)), (0, .ref (b 14 0)), (1, .int (x))] → W pr l e (rmm 4 87 0 0) s m9 ([.ref (b 14 0), .int (x)] : List Value).toArray below meth c H locs 0 0 (QQ below G A (fun r h' => r = dec b 7 (cHs u x) ∧ h' = h) ([.ref (b 14 0), .int (x)] : List Value).toArray s 0 0) (F0 m9 2 ls []) := by
    intro n
    induction n with
    | zero =>
      intro k0 hk hT H locs hH ls hl
      refine lv_iload_n hx hb dX10_hubByShortening_2 rfl (lv_at hl 0 rfl) ?_
      refine lv_if_le (tgt := 26) hx hb dX10_hubByShortening_3 (by decide) (fun c3_1 => ?_) (fun c3_1 => ?_)
      · refine lv_null hx hb dX10_hubByShortening_26 ?_
        have eR : (none : Option Nat) = dec b 7 (cHs u x) := by rw [← hT]; first | exact dec_m1.symm | (simp only [cHsL]; rw [if_pos c3_1]; exact dec_m1.symm)
        exact e_Q (v := none) C0 hr (Or.inl ⟨_, rfl⟩) hH ⟨eR, rfl⟩ (Nat.le_of_ble_eq_true rfl) (Nat.le_of_ble_eq_true rfl) dX10_hubByShortening_27
      · exact absurd (dig_z hk) c3_1
    | succ n ih =>
      intro k0 hk hT H locs hH ls hl
      refine lv_iload_n hx hb dX10_hubByShortening_2 rfl (lv_at hl 0 rfl) ?_
      refine lv_if_le (tgt := 26) hx hb dX10_hubByShortening_3 (by decide) (fun c3_2 => ?_) (fun c3_2 => ?_)
      · refine lv_null hx hb dX10_hubByShortening_26 ?_
        have eR : (none : Option Nat) = dec b 7 (cHs u x) := by rw [← hT]; first | exact dec_m1.symm | (simp only [cHsL]; rw [if_pos c3_2]; exact dec_m1.symm)
        exact e_Q (v := none) C0 hr (Or.inl ⟨_, rfl⟩) hH ⟨eR, rfl⟩ (Nat.le_of_ble_eq_true rfl) (Nat.le_of_ble_eq_true rfl) dX10_hubByShortening_27
      · refine lv_aload_n hx hb dX10_hubByShortening_6 rfl (lv_at hl 1 rfl) ?_
        refine lv_iload_n hx hb dX10_hubByShortening_7 rfl (lv_at hl 0 rfl) ?_
        refine k_q hH (k_runV (rest := []) C0 hH (cC_X10_hubWithCode l G A _ b _ hR hw k0 ) mv_X10_hubWithCode ml_X10_75 ci_14 (hR.kind (K := 14) (i := 0) rfl) rfl ⟨Nat.le_of_ble_eq_true rfl, Nat.le_of_ble_eq_true rfl⟩ hl.1 rfl (Nat.le_of_ble_eq_true rfl) dX10_hubByShortening_8 (by simp)) (fun r_3 h1 H locs hp hH => ?_)
        obtain ⟨er_3, eh⟩ := hp
        rw [eh] at hH
        clear eh
        subst er_3
        refine o_astore_n_q (lv' := [(3, va_rf (dec b 7 (cHw u k0))), (2, .int (k0)), (0, .ref (b 14 0)), (1, .int (x))]) hx hb dX10_hubByShortening_11 rfl hl (by decide) rfl (fun ls hl => ?_)
        refine o_aload_n_q hx hb dX10_hubByShortening_12 rfl (lv_at hl 0 rfl) ?_
        rcases (cHw_ok _ _) with es_4 | ⟨s_4, hs_4, es_4⟩
        · have eds_4 : dec b 7 (cHw u k0) = none := by rw [es_4]; exact dec_m1
          rw [eds_4]
          rw [eds_4] at hl
          refine lv_ifnullN (tgt := 18) hx hb dX10_hubByShortening_13 (by decide) ?_
          refine lv_iload_n hx hb dX10_hubByShortening_18 rfl (lv_at hl 1 rfl) ?_
          refine lv_bipush (v := 10) hx hb dX10_hubByShortening_19 (by decide) ?_
          refine lv_idiv hx hb dX10_hubByShortening_21 (by decide) ?_
          refine lv_istore_n (lv' := [(2, .int (k0 / 10)), (3, .null), (0, .ref (b 14 0)), (1, .int (x))]) hx hb dX10_hubByShortening_22 rfl hl (by decide) rfl (fun ls hl => ?_)
          refine lv_goto (tgt := 2) hx hb dX10_hubByShortening_23 (by decide) ?_
          exact ih (k0 / 10) (dig_s c3_2 hk) (by rw [← hT]; simp only [cHsL]; rw [if_neg c3_2, if_pos es_4]) _ _ hH ls (lv_sub hl [0, 2, 3] rfl)
        · have eds_4 : dec b 7 (cHw u k0) = some (b 7 s_4) := by rw [es_4]; exact dec_nI (by have := hc7; have h9 : s_4 < cnt u 7 := hs_4; omega)
          have ks_4 : (cHw u k0).toNatClampNeg = s_4 := by rw [es_4]; exact nI_clamp (by have := hc7; have h9 : s_4 < cnt u 7 := hs_4; omega)
          have ns_4 : ¬ (cHw u k0) = -1 := by rw [es_4]; exact nI_nm (by have := hc7; have h9 : s_4 < cnt u 7 := hs_4; omega)
          rw [eds_4]
          rw [eds_4] at hl
          refine lv_ifnull hx hb dX10_hubByShortening_13 ?_
          refine lv_aload_n hx hb dX10_hubByShortening_16 rfl (lv_at hl 0 rfl) ?_
          have eR : (some (b 7 s_4) : Option Nat) = dec b 7 (cHs u x) := by rw [← hT]; simp only [cHsL]; rw [if_neg c3_2, if_neg ns_4, eds_4]
          exact e_Q (v := some (b 7 s_4)) C0 hr (Or.inl ⟨_, rfl⟩) hH ⟨eR, rfl⟩ (Nat.le_of_ble_eq_true rfl) (Nat.le_of_ble_eq_true rfl) dX10_hubByShortening_17
  exact K 11 x (dig_b x) rfl _ _ hH ls (lv_sub hl [0, 1, 2] rfl)

