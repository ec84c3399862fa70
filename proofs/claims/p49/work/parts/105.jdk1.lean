set_option maxHeartbeats 4000000 in
set_option maxRecDepth 100000 in
theorem cJ_Jxa1e45_init_da8c8 (l : Launch) (G : GT) (A : Nat → Prop) (h : AH) (a : Nat) : cmV l G A yJxa1e45_init_da8c8 cJxa1e45_init_da8c8 1 1 12 0 0 [.ref (a)] h (fun h' => h' = h) := by
  refine cm_of "java/util/AbstractCollection" rfl (by decide) (Nat.le_of_ble_eq_true rfl) ?_
  intro pr e s m9 below meth c C0 hr hname hH ls hl
  obtain ⟨hx, hb, hml, hown, hts, hK, hA, -⟩ := id C0
  have hl : lv_has ls 1 [(0, .ref (a))] := hl
  refine lv_aload_n hx hb dJxa1e45_init_da8c8_0 rfl (lv_at hl 0 rfl) ?_
  refine o_objI C0 ml_Jxa1e45_1 hl.1 dJxa1e45_init_da8c8_1 (by decide) (by decide) ?_
  exact e_V C0 hr hH rfl (by omega) (by omega) dJxa1e45_init_da8c8_4
set_option maxHeartbeats 4000000 in
set_option maxRecDepth 100000 in
theorem cJ_Jxc12de_init_da8c8 (l : Launch) (G : GT) (A : Nat → Prop) (h : AH) (a : Nat) (hk : aK h a = 3) : cmV l G A yJxc12de_init_da8c8 cJxc12de_init_da8c8 1 2 32 0 0 [.ref (a)] h (fun h' => h' = pI h 0 a 0) := by
  refine cm_of "java/util/AbstractList" rfl (by decide) (Nat.le_of_ble_eq_true rfl) ?_
  intro pr e s m9 below meth c C0 hr hname hH ls hl
  obtain ⟨hx, hb, hml, hown, hts, hK, hA, -⟩ := id C0
  have hl : lv_has ls 1 [(0, .ref (a))] := hl
  refine lv_aload_n hx hb dJxc12de_init_da8c8_0 rfl (lv_at hl 0 rfl) ?_
  refine k_v hH (k_runI (rest := []) C0 hH (cJ_Jxa1e45_init_da8c8 l G A h a) mv_Jxa1e45_init_da8c8 ml_Jxc12de_1 rfl ⟨Nat.le_of_ble_eq_true rfl, Nat.le_of_ble_eq_true rfl⟩ hl.1 rfl (Nat.le_of_ble_eq_true rfl) dJxc12de_init_da8c8_1 (by simp)) (fun h1 H locs hp hH => ?_)
  rw [hp] at hH
  clear hp h1
  refine lv_aload_n hx hb dJxc12de_init_da8c8_4 rfl (lv_at hl 0 rfl) ?_
  refine lv_iconst (v := 0) hx hb dJxc12de_init_da8c8_5 (by decide) ?_
  refine j_putI C0 hH hk 0 rfl rfl "java/util/AbstractList" (Or.inl rfl) fl_Jxc12de_7 dJxc12de_init_da8c8_6 (fun H locs hH => ?_)
  exact e_V C0 hr hH rfl (by omega) (by omega) dJxc12de_init_da8c8_9
set_option maxHeartbeats 4000000 in
set_option maxRecDepth 100000 in
theorem cJ_Jx4a65c_init_da8c8 (l : Launch) (G : GT) (A : Nat → Prop) (h : AH) (a : Nat) (hk : aK h a = 3) : cmV l G A yJx4a65c_init_da8c8 cJx4a65c_init_da8c8 1 3 52 0 0 [.ref (a)] h (fun h' => h' = pR (pI h 0 a 0) 1 a (some G.2.2.1)) := by
  refine cm_of "java/util/ArrayList" rfl (by decide) (Nat.le_of_ble_eq_true rfl) ?_
  intro pr e s m9 below meth c C0 hr hname hH ls hl
  obtain ⟨hx, hb, hml, hown, hts, hK, hA, -⟩ := id C0
  have hl : lv_has ls 1 [(0, .ref (a))] := hl
  refine lv_aload_n hx hb dJx4a65c_init_da8c8_0 rfl (lv_at hl 0 rfl) ?_
  refine k_v hH (k_runI (rest := []) C0 hH (cJ_Jxc12de_init_da8c8 l G A h a hk) mv_Jxc12de_init_da8c8 ml_Jx4a65c_1 rfl ⟨Nat.le_of_ble_eq_true rfl, Nat.le_of_ble_eq_true rfl⟩ hl.1 rfl (Nat.le_of_ble_eq_true rfl) dJx4a65c_init_da8c8_1 (by simp)) (fun h1 H locs hp hH => ?_)
  rw [hp] at hH
  clear hp h1
  refine lv_aload_n hx hb dJx4a65c_init_da8c8_4 rfl (lv_at hl 0 rfl) ?_
  refine k_gets0 C0 hH fl_Jx4a65c_39 dJx4a65c_init_da8c8_5 ?_
  refine j_putR C0 hH hk fl_Jx4a65c_9 dJx4a65c_init_da8c8_8 (fun H locs hH => ?_)
  exact e_V C0 hr hH rfl (by omega) (by omega) dJx4a65c_init_da8c8_11
set_option maxHeartbeats 4000000 in
set_option maxRecDepth 100000 in
theorem cJ_Jx4a65c_size_8abf5 (l : Launch) (G : GT) (A : Nat → Prop) (h : AH) (a n : Nat) (hk : aK h a = 3) (hs : aI h 2 a = nI n) : cmI l G A yJx4a65c_size_8abf5 cJx4a65c_size_8abf5 1 (Option.some FieldType.int) 0 0 0 0 [.ref (a)] h (fun r h' => r = nI n ∧ h' = h) := by
  refine cm_of "java/util/ArrayList" rfl (by decide) (Nat.le_of_ble_eq_true rfl) ?_
  intro pr e s m9 below meth c C0 hr hname hH ls hl
  obtain ⟨hx, hb, hml, hown, hts, hK, hA, -⟩ := id C0
  have hl : lv_has ls 1 [(0, .ref (a))] := hl
  refine lv_aload_n hx hb dJx4a65c_size_8abf5_0 rfl (lv_at hl 0 rfl) ?_
  refine j_getI C0 hH hk 2 rfl "java/util/ArrayList" (Or.inl rfl) fl_Jx4a65c_48 (v := nI n) hs dJx4a65c_size_8abf5_1 ?_
  exact e_I C0 hr hH ⟨rfl, rfl⟩ (by omega) (by omega) dJx4a65c_size_8abf5_4
set_option maxHeartbeats 4000000 in
set_option maxRecDepth 100000 in
theorem cJ_J3_checkIndex_8e157 (l : Launch) (G : GT) (A : Nat → Prop) (h : AH) (i n : Nat) (hi : i < n) (hn : n < 2 ^ 31) : cmI l G A yJ3_checkIndex_8e157 cJ3_checkIndex_8e157 3 (Option.some FieldType.int) 0 0 0 0 [.int (nI i), .int (nI n), .null] h (fun r h' => r = nI i ∧ h' = h) := by
  refine cm_of "jdk/internal/util/Preconditions" rfl (by decide) (Nat.le_of_ble_eq_true rfl) ?_
  intro pr e s m9 below meth c C0 hr hname hH ls hl
  obtain ⟨hx, hb, hml, hown, hts, hK, hA, -⟩ := id C0
  have hl : lv_has ls 3 [(0, .int (nI i)), (1, .int (nI n)), (2, .null)] := hl
  refine lv_iload_n hx hb dJ3_checkIndex_8e157_0 rfl (lv_at hl 0 rfl) ?_
  refine lv_if_lt (tgt := 9) hx hb dJ3_checkIndex_8e157_1 (by decide) (fun c1_1 => ?_) (fun c1_1 => ?_)
  · exact absurd c1_1 (nI_pos (by omega))
  · refine lv_iload_n hx hb dJ3_checkIndex_8e157_4 rfl (lv_at hl 0 rfl) ?_
    refine lv_iload_n hx hb dJ3_checkIndex_8e157_5 rfl (lv_at hl 1 rfl) ?_
    refine lv_icmp_lt (tgt := 16) hx hb dJ3_checkIndex_8e157_6 (by decide) (fun c6_2 => ?_) (fun c6_2 => ?_)
    · refine lv_iload_n hx hb dJ3_checkIndex_8e157_16 rfl (lv_at hl 0 rfl) ?_
      exact e_I C0 hr hH ⟨rfl, rfl⟩ (by omega) (by omega) dJ3_checkIndex_8e157_17
    · exact absurd (nI_lt hi hn) c6_2
set_option maxHeartbeats 4000000 in
set_option maxRecDepth 100000 in
theorem cJ_J15_checkIndex_7cf53 (l : Launch) (G : GT) (A : Nat → Prop) (h : AH) (i n : Nat) (hi : i < n) (hn : n < 2 ^ 31) : cmI l G A yJ15_checkIndex_7cf53 cJ15_checkIndex_7cf53 2 (Option.some FieldType.int) 1 22 0 0 [.int (nI i), .int (nI n)] h (fun r h' => r = nI i ∧ h' = h) := by
  refine cm_of "java/util/Objects" rfl (by decide) (Nat.le_of_ble_eq_true rfl) ?_
  intro pr e s m9 below meth c C0 hr hname hH ls hl
  obtain ⟨hx, hb, hml, hown, hts, hK, hA, -⟩ := id C0
  have hl : lv_has ls 2 [(0, .int (nI i)), (1, .int (nI n))] := hl
  refine lv_iload_n hx hb dJ15_checkIndex_7cf53_0 rfl (lv_at hl 0 rfl) ?_
  refine lv_iload_n hx hb dJ15_checkIndex_7cf53_1 rfl (lv_at hl 1 rfl) ?_
  refine lv_null hx hb dJ15_checkIndex_7cf53_2 ?_
  refine k_i hH (k_runS (rest := []) C0 hH (cJ_J3_checkIndex_8e157 l G A h i n hi hn) mv_J3_checkIndex_8e157 ml_J15_105 rfl ⟨Nat.le_of_ble_eq_true rfl, Nat.le_of_ble_eq_true rfl⟩ hl.1 rfl (Nat.le_of_ble_eq_true rfl) dJ15_checkIndex_7cf53_3 (by simp)) (fun r_1 h1 H locs hp hH => ?_)
  obtain ⟨er_1, eh⟩ := hp
  rw [eh] at hH
  clear eh
  subst er_1
  exact e_I C0 hr hH ⟨rfl, rfl⟩ (by omega) (by omega) dJ15_checkIndex_7cf53_6
set_option maxHeartbeats 4000000 in
set_option maxRecDepth 100000 in
theorem cJ_Jx4a65c_elementData_915e3 (l : Launch) (G : GT) (A : Nat → Prop) (h : AH) (a arr cap i : Nat) (hk : aK h a = 3) (hra : aR h 1 a = some arr) (ka : aK h arr = 31) (hn : aN h arr = cap) (hi : i < cap) (hcap : cap < 2 ^ 31) : cmQ l G A yJx4a65c_elementData_915e3 cJx4a65c_elementData_915e3 2 (Option.some (FieldType.object "java/lang/Object")) 0 0 0 0 [.ref (a), .int (nI i)] h (fun r h' => r = aR h i arr ∧ h' = h) := by
  refine cm_of "java/util/ArrayList" rfl (by decide) (Nat.le_of_ble_eq_true rfl) ?_
  intro pr e s m9 below meth c C0 hr hname hH ls hl
  obtain ⟨hx, hb, hml, hown, hts, hK, hA, -⟩ := id C0
  have hl : lv_has ls 2 [(0, .ref (a)), (1, .int (nI i))] := hl
  refine lv_aload_n hx hb dJx4a65c_elementData_915e3_0 rfl (lv_at hl 0 rfl) ?_
  refine j_getR C0 hH hk fl_Jx4a65c_9 (v := some arr) hra dJx4a65c_elementData_915e3_1 ?_
  refine lv_iload_n hx hb dJx4a65c_elementData_915e3_4 rfl (lv_at hl 1 rfl) ?_
  refine j_aald C0 hH ka hn hi hcap (v := aR h i arr) rfl dJx4a65c_elementData_915e3_5 ?_
  exact e_Q (v := aR h i arr) C0 hr (Or.inl ⟨_, rfl⟩) hH ⟨rfl, rfl⟩ (by omega) (by omega) dJx4a65c_elementData_915e3_6
set_option maxHeartbeats 4000000 in
set_option maxRecDepth 100000 in
theorem cJ_Jx4a65c_get_915e3 (l : Launch) (G : GT) (A : Nat → Prop) (h : AH) (a arr cap n i : Nat) (hk : aK h a = 3) (hs : aI h 2 a = nI n) (hra : aR h 1 a = some arr) (ka : aK h arr = 31) (hn : aN h arr = cap) (hi : i < n) (hnc : n ≤ cap) (hcap : cap < 2 ^ 31) : cmQ l G A yJx4a65c_get_915e3 cJx4a65c_get_915e3 2 (Option.some (FieldType.object "java/lang/Object")) 2 43 0 0 [.ref (a), .int (nI i)] h (fun r h' => r = aR h i arr ∧ h' = h) := by
  refine cm_of "java/util/ArrayList" rfl (by decide) (Nat.le_of_ble_eq_true rfl) ?_
  intro pr e s m9 below meth c C0 hr hname hH ls hl
  obtain ⟨hx, hb, hml, hown, hts, hK, hA, -⟩ := id C0
  have hl : lv_has ls 2 [(0, .ref (a)), (1, .int (nI i))] := hl
  refine lv_iload_n hx hb dJx4a65c_get_915e3_0 rfl (lv_at hl 1 rfl) ?_
  refine lv_aload_n hx hb dJx4a65c_get_915e3_1 rfl (lv_at hl 0 rfl) ?_
  refine j_getI C0 hH hk 2 rfl "java/util/ArrayList" (Or.inl rfl) fl_Jx4a65c_48 (v := nI n) hs dJx4a65c_get_915e3_2 ?_
  refine k_i hH (k_runS (rest := []) C0 hH (cJ_J15_checkIndex_7cf53 l G A h i n hi (by omega)) mv_J15_checkIndex_7cf53 ml_Jx4a65c_118 rfl ⟨Nat.le_of_ble_eq_true rfl, Nat.le_of_ble_eq_true rfl⟩ hl.1 rfl (Nat.le_of_ble_eq_true rfl) dJx4a65c_get_915e3_5 (by simp)) (fun r_1 h1 H locs hp hH => ?_)
  obtain ⟨er_1, eh⟩ := hp
  rw [eh] at hH
  clear eh
  subst er_1
  refine lv_pop hx hb dJx4a65c_get_915e3_8 rfl ?_
  refine lv_aload_n hx hb dJx4a65c_get_915e3_9 rfl (lv_at hl 0 rfl) ?_
  refine lv_iload_n hx hb dJx4a65c_get_915e3_10 rfl (lv_at hl 1 rfl) ?_
  refine k_q hH (k_runV (rest := []) C0 hH (cJ_Jx4a65c_elementData_915e3 l G A h a arr cap i hk hra ka hn (by omega) hcap) mv_Jx4a65c_elementData_915e3 ml_Jx4a65c_123 ci_3 hk rfl ⟨Nat.le_of_ble_eq_true rfl, Nat.le_of_ble_eq_true rfl⟩ hl.1 rfl (Nat.le_of_ble_eq_true rfl) dJx4a65c_get_915e3_11 (by simp)) (fun r_2 h1 H locs hp hH => ?_)
  obtain ⟨er_2, eh⟩ := hp
  rw [eh] at hH
  clear eh
  subst er_2
  exact e_Q (v := aR h i arr) C0 hr (Or.inl ⟨_, rfl⟩) hH ⟨rfl, rfl⟩ (by omega) (by omega) dJx4a65c_get_915e3_14
set_option maxHeartbeats 4000000 in
set_option maxRecDepth 100000 in
theorem cJ_J8_newLength_cabcc (l : Launch) (G : GT) (A : Nat → Prop) (h : AH) (o g p : Nat) (ho : o < 2 ^ 28) (hg : g < 2 ^ 28) (hp0 : p < 2 ^ 28) (hg0 : 0 < g) : cmI l G A yJ8_newLength_cabcc cJ8_newLength_cabcc 4 (Option.some FieldType.int) 1 15 0 0 [.int (nI o), .int (nI g), .int (nI p)] h (fun r h' => r = nI (o + max g p) ∧ h' = h) := by
  refine cm_of "jdk/internal/util/ArraysSupport" rfl (by decide) (Nat.le_of_ble_eq_true rfl) ?_
  intro pr e s m9 below meth c C0 hr hname hH ls hl
  obtain ⟨hx, hb, hml, hown, hts, hK, hA, -⟩ := id C0
  have hl : lv_has ls 4 [(0, .int (nI o)), (1, .int (nI g)), (2, .int (nI p))] := hl
  refine lv_iload_n hx hb dJ8_newLength_cabcc_0 rfl (lv_at hl 0 rfl) ?_
  refine lv_iload_n hx hb dJ8_newLength_cabcc_1 rfl (lv_at hl 1 rfl) ?_
  refine lv_iload_n hx hb dJ8_newLength_cabcc_2 rfl (lv_at hl 2 rfl) ?_
  refine o_mmax C0 ml_J8_194 hl.1 dJ8_newLength_cabcc_3 (Nat.le_of_ble_eq_true rfl) (Nat.le_of_ble_eq_true rfl) (by simp) ?_
  rw [show (if nI g < nI p then nI p else nI g) = nI (max g p) from by rw [ifc (nI_ltI (by omega) (by omega))]; split <;> (congr 1; omega)]
  refine lv_iadd hx hb dJ8_newLength_cabcc_6 ?_
  rw [nI_add]
  refine lv_istore_n (lv' := [(3, .int (nI (o + max g p))), (0, .int (nI o)), (1, .int (nI g)), (2, .int (nI p))]) hx hb dJ8_newLength_cabcc_7 rfl hl (by decide) rfl (fun ls hl => ?_)
  refine lv_iconst (v := 0) hx hb dJ8_newLength_cabcc_8 (by decide) ?_
  refine lv_iload_n hx hb dJ8_newLength_cabcc_9 rfl (lv_at hl 0 rfl) ?_
  refine lv_icmp_ge (tgt := 21) hx hb dJ8_newLength_cabcc_10 (by decide) (fun c10_1 => ?_) (fun c10_1 => ?_)
  · exact absurd c10_1 (Int32.not_le.mpr (nI_lt (a := 0) (by omega) (by omega)))
  · refine lv_iload_n hx hb dJ8_newLength_cabcc_13 rfl (lv_at hl 0 rfl) ?_
    refine lv_ldc hx hb hown (hts _ kl_J8_200) dJ8_newLength_cabcc_14 ?_
    refine lv_icmp_gt (tgt := 21) hx hb dJ8_newLength_cabcc_16 (by decide) (fun c16_2 => ?_) (fun c16_2 => ?_)
    · exact absurd c16_2 (by rw [show (2147483639 : Int32) = nI 2147483639 from rfl]; exact nI_nlt (by omega) (by omega))
    · refine lv_iload_n hx hb dJ8_newLength_cabcc_19 rfl (lv_at hl 0 rfl) ?_
      exact e_I C0 hr hH ⟨rfl, rfl⟩ (by omega) (by omega) dJ8_newLength_cabcc_20
set_option maxHeartbeats 4000000 in
set_option maxRecDepth 100000 in
theorem cJ_J7_copyOf_6403c (l : Launch) (G : GT) (A : Nat → Prop) (h : AH) (a0 n0 n : Nat) (hk : aK h a0 = 31) (hn0 : aN h a0 = n0) (hnn : n0 ≤ n) (hn : n < 2 ^ 26) (hel : ∀ i y, i < n0 → aR h i a0 = some y → obK (aK h y)) : cmQ l G A yJ7_copyOf_6403c cJ7_copyOf_6403c 4 (Option.some (FieldType.array (FieldType.object "java/lang/Object"))) 1 60 1 n [.ref (a0), .int (nI n), .ref (G.2.1 99)] h (fun r h' => ∃ q, r = some q ∧ aK h q = 0 ∧ aK h' q = 31 ∧ aN h' q = n ∧ (∀ i, i < n0 → aR h' i q = aR h i a0) ∧ SameX h h' (· = q)) := by
  refine cm_of "java/util/Arrays" rfl (by decide) (Nat.le_of_ble_eq_true rfl) ?_
  intro pr e s m9 below meth c C0 hr hname hH ls hl
  obtain ⟨hx, hb, hml, hown, hts, hK, hA, -⟩ := id C0
  have hl : lv_has ls 4 [(0, .ref (a0)), (1, .int (nI n)), (2, .ref (G.2.1 99))] := hl
  refine lv_aload_n hx hb dJ7_copyOf_6403c_0 rfl (lv_at hl 2 rfl) ?_
  refine k_ldcM C0 cl_J7_110 dJ7_copyOf_6403c_1 ?_
  refine lv_acmp_ne (rx := some (G.2.1 99)) (ry := some (G.2.1 99)) (tgt := 13) hx hb dJ7_copyOf_6403c_3 (by decide) (fun c3_1 => ?_) (fun c3_1 => ?_)
  · exact absurd rfl c3_1
  · refine lv_iload_n hx hb dJ7_copyOf_6403c_6 rfl (lv_at hl 1 rfl) ?_
    refine k_newq C0 hH cl_J7_2 ao_java_lang_Object (t0 := 4) (K := 31) rfl (by omega) (n := nI n) (N' := n) (nI_pos (by omega)) (nI_clamp (by omega)) (by omega) (by simp) (by simp) dJ7_copyOf_6403c_7 (fun q_2 H hq0 hH => ?_)
    refine lv_goto (tgt := 24) hx hb dJ7_copyOf_6403c_10 (by decide) ?_
    refine lv_astore_n (lv' := [(3, .ref (q_2)), (0, .ref (a0)), (1, .int (nI n)), (2, .ref (G.2.1 99))]) hx hb dJ7_copyOf_6403c_24 rfl hl (by decide) rfl (fun ls hl => ?_)
    refine lv_aload_n hx hb dJ7_copyOf_6403c_25 rfl (lv_at hl 1 rfl) ?_
    refine lv_iconst (v := 0) hx hb dJ7_copyOf_6403c_26 (by decide) ?_
    refine lv_aload_n hx hb dJ7_copyOf_6403c_27 rfl (lv_at hl 0 rfl) ?_
    refine lv_iconst (v := 0) hx hb dJ7_copyOf_6403c_28 (by decide) ?_
    refine lv_aload_n hx hb dJ7_copyOf_6403c_29 rfl (lv_at hl 1 rfl) ?_
    have hne : a0 ≠ q_2 := fun e => by rw [e, hq0] at hk; omega
    have hk1 : aK (pN h q_2 31 n) a0 = 31 := by rw [aK_pN, if_neg hne]; exact hk
    have hn1 : aN (pN h q_2 31 n) a0 = n0 := by rw [aN_pN, if_neg hne]; exact hn0
    refine j_alen C0 hH hk1 hn1 dJ7_copyOf_6403c_30 ?_
    refine lv_iload_n hx hb dJ7_copyOf_6403c_31 rfl (lv_at hl 2 rfl) ?_
    refine o_mmin C0 ml_J7_304 hl.1 dJ7_copyOf_6403c_32 (Nat.le_of_ble_eq_true rfl) (Nat.le_of_ble_eq_true rfl) (by simp) ?_
    rw [show (if nI n < nI n0 then nI n else nI n0) = nI n0 from if_neg (nI_nlt hnn (by omega))]
    refine k_copyO C0 hH ml_J7_150 hl.1 hk1 (by rw [aK_pN, if_pos rfl]) hn1 (by rw [aN_pN, if_pos rfl]) (sp := 0) (dp := 0) (n := nI n0) (by decide) (by decide) (nI_pos (by omega)) (by rw [nI_clamp (by omega)]; show 0 + n0 ≤ n0; omega) (by rw [nI_clamp (by omega)]; show 0 + n0 ≤ n; omega) (fun i hi y hy => ?_) (Nat.le_of_ble_eq_true rfl) (Nat.le_of_ble_eq_true rfl) dJ7_copyOf_6403c_35 (fun H locs hH => ?_)
    · rw [nI_clamp (by omega)] at hi
      rw [show (0 : Int32).toNatClampNeg + i = i from Nat.zero_add i, aR_pN, if_neg hne] at hy
      have ho := hel i y hi hy
      rw [aK_pN, if_neg (fun e => by rw [e, hq0] at ho; unfold obK at ho; omega)]
      exact ho
    refine lv_aload_n hx hb dJ7_copyOf_6403c_38 rfl (lv_at hl 0 rfl) ?_
    rw [nI_clamp (show n0 < 2 ^ 31 by omega)] at hH
    exact e_Q (v := some q_2) C0 hr (Or.inr ⟨_, rfl⟩) hH ⟨q_2, rfl, hq0, by rw [aK_pF, aK_pN, if_pos rfl], by rw [aN_pF, aN_pN, if_pos rfl], fun i hi => by rw [aR_pF, if_pos rfl]; unfold va_cpy; rw [if_pos ⟨Nat.zero_le i, by show i < 0 + n0; omega⟩]; show aR (pN h q_2 31 n) (0 + (i - 0)) a0 = _; rw [Nat.zero_add, Nat.sub_zero, aR_pN, if_neg hne], ((SameX.pN h q_2 31 n).trans (SameX.pF _ q_2 _)).mono (fun y hy => hy.elim id id)⟩ (by omega) (by omega) dJ7_copyOf_6403c_39
set_option maxHeartbeats 4000000 in
set_option maxRecDepth 100000 in
theorem cJ_J7_copyOf_1904c (l : Launch) (G : GT) (A : Nat → Prop) (h : AH) (a0 n0 n : Nat) (hk : aK h a0 = 31) (hn0 : aN h a0 = n0) (hnn : n0 ≤ n) (hn : n < 2 ^ 26) (hel : ∀ i y, i < n0 → aR h i a0 = some y → obK (aK h y)) : cmQ l G A yJ7_copyOf_1904c cJ7_copyOf_1904c 2 (Option.some (FieldType.array (FieldType.object "java/lang/Object"))) 2 83 1 n [.ref (a0), .int (nI n)] h (fun r h' => ∃ q, r = some q ∧ aK h q = 0 ∧ aK h' q = 31 ∧ aN h' q = n ∧ (∀ i, i < n0 → aR h' i q = aR h i a0) ∧ SameX h h' (· = q)) := by
  refine cm_of "java/util/Arrays" rfl (by decide) (Nat.le_of_ble_eq_true rfl) ?_
  intro pr e s m9 below meth c C0 hr hname hH ls hl
  obtain ⟨hx, hb, hml, hown, hts, hK, hA, -⟩ := id C0
  have hl : lv_has ls 2 [(0, .ref (a0)), (1, .int (nI n))] := hl
  refine lv_aload_n hx hb dJ7_copyOf_1904c_0 rfl (lv_at hl 0 rfl) ?_
  refine lv_iload_n hx hb dJ7_copyOf_1904c_1 rfl (lv_at hl 1 rfl) ?_
  refine lv_aload_n hx hb dJ7_copyOf_1904c_2 rfl (lv_at hl 0 rfl) ?_
  refine k_getC C0 hH hl.1 hk ml_J7_86 (Nat.le_of_ble_eq_true rfl) (Nat.le_of_ble_eq_true rfl) dJ7_copyOf_1904c_3 ?_
  refine k_q hH (k_runS (rest := []) C0 hH (cJ_J7_copyOf_6403c l G A h a0 n0 n hk hn0 hnn hn hel) mv_J7_copyOf_6403c ml_J7_300 rfl ⟨Nat.le_of_ble_eq_true rfl, Nat.le_of_ble_eq_true rfl⟩ hl.1 rfl (Nat.le_of_ble_eq_true rfl) dJ7_copyOf_1904c_6 ⟨by show 0 + 1 ≤ 1; omega, by show 0 + n ≤ n; omega⟩) (fun r_1 h1 H locs hp hH => ?_)
  exact e_Q (v := r_1) C0 hr (Or.inr ⟨_, rfl⟩) hH hp (by omega) (by omega) dJ7_copyOf_1904c_9

