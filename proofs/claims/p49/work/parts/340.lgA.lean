set_option maxHeartbeats 1600000 in
set_option maxRecDepth 100000 in
theorem lL_cell (l : Launch) (Sc : SCR) (G : GT) (A : Nat → Prop) (h : AH) (i : Nat) (hi : i < 2 ^ 20) : lcI l Sc G A yL_cell cL_cell 3 (Option.some FieldType.int) 0 0 0 0 [.ref (Sc.1), .int (nI i)] h (fun r h' => r = cellF Sc i ∧ h' = h) := by
  refine lm_of rfl (Nat.le_of_ble_eq_true rfl) ?_
  intro pr e s m9 below meth c9 C0 hN hr hH ls hl
  obtain ⟨hx, hb, hml, hown, hts, hK, hA, -⟩ := id C0
  have hl : lv_has ls 3 [(0, .ref (Sc.1)), (1, .int (nI i))] := hl
  have hsl := hN.2.2
  refine lv_ldc hx hb hown (hts _ kl_L_7) dL_cell_0 ?_
  refine lv_iload_n hx hb dL_cell_2 rfl (lv_at hl 1 rfl) ?_
  refine lv_aload_n hx hb dL_cell_3 rfl (lv_at hl 0 rfl) ?_
  refine j_slen C0 hN hH dL_cell_4 ?_
  refine lv_icmp_ge (tgt := 14) hx hb dL_cell_5 (by decide) (fun c5_1 => ?_) (fun c5_1 => ?_)
  · replace c5_1 : Sc.2.1 ≤ i := (nI_leI (a := Sc.2.1) (b := i) (by omega) (by omega)).mp c5_1
    refine lv_iconst (v := nI 0) hx hb dL_cell_14 (by decide) ?_
    refine lv_sipush (v := nI 1009) hx hb dL_cell_15 (by decide) ?_
    refine lv_iload_n hx hb dL_cell_18 rfl (lv_at hl 1 rfl) ?_
    refine lv_imul hx hb dL_cell_19 ?_
    rw [show nI 1009 * nI i = nI (1009 * i) from nI_mul]
    refine lv_iadd hx hb dL_cell_20 ?_
    rw [show nI 0 + nI (1009 * i) = nI (0 + 1009 * i) from nI_add _ _]
    refine lv_imul hx hb dL_cell_21 ?_
    refine lv_sipush (v := nI 12345) hx hb dL_cell_22 (by decide) ?_
    refine lv_iadd hx hb dL_cell_25 ?_
    obtain ⟨x1, ex1⟩ : ∃ z : Int32, z = (69069 * (nI (0 + 1009 * i))) + (nI 12345) := ⟨_, rfl⟩
    rw [← ex1]
    refine lv_istore_n (lv' := [(2, .int (x1)), (0, .ref (Sc.1)), (1, .int (nI i))]) hx hb dL_cell_26 rfl hl (by decide) rfl (fun ls hl => ?_)
    refine lv_iload_n hx hb dL_cell_27 rfl (lv_at hl 0 rfl) ?_
    refine lv_iload_n hx hb dL_cell_28 rfl (lv_at hl 0 rfl) ?_
    refine lv_bipush (v := nI 13) hx hb dL_cell_29 (by decide) ?_
    refine lv_iushr hx hb dL_cell_31 rfl ?_
    refine lv_ixor hx hb dL_cell_32 ?_
    refine lv_ldc hx hb hown (hts _ kl_L_8) dL_cell_33 ?_
    refine lv_imul hx hb dL_cell_35 ?_
    obtain ⟨x2, ex2⟩ : ∃ z : Int32, z = (x1 ^^^ ((x1.toUInt32 >>> ((nI 13).toUInt32 &&& Int32.toUInt32 31)).toInt32)) * 1103515245 := ⟨_, rfl⟩
    rw [← ex2]
    refine lv_istore_n (lv' := [(2, .int (x2)), (0, .ref (Sc.1)), (1, .int (nI i))]) hx hb dL_cell_36 rfl hl (by decide) rfl (fun ls hl => ?_)
    refine lv_iload_n hx hb dL_cell_37 rfl (lv_at hl 0 rfl) ?_
    refine lv_iload_n hx hb dL_cell_38 rfl (lv_at hl 0 rfl) ?_
    refine lv_bipush (v := nI 16) hx hb dL_cell_39 (by decide) ?_
    refine lv_iushr hx hb dL_cell_41 rfl ?_
    refine lv_ixor hx hb dL_cell_42 ?_
    exact e_I C0 hr hH ⟨by rw [ex2, ex1]; unfold cellF cellK cellH cellG; rw [if_neg (show ¬ i < Sc.2.1 by omega), nI_add], rfl⟩ (by omega) (by omega) dL_cell_43
  · replace c5_1 : ¬ (Sc.2.1 ≤ i) := fun z => c5_1 ((nI_leI (a := Sc.2.1) (b := i) (by omega) (by omega)).mpr z)
    refine lv_aload_n hx hb dL_cell_8 rfl (lv_at hl 0 rfl) ?_
    refine lv_iload_n hx hb dL_cell_9 rfl (lv_at hl 1 rfl) ?_
    refine j_scr C0 hN hH (i := nI i) (vp_in_nI (by omega) (by omega)) dL_cell_10 ?_
    rw [nI_clamp (show i < 2 ^ 31 by omega)]
    refine lv_goto (tgt := 15) hx hb dL_cell_11 (by decide) ?_
    refine lv_sipush (v := nI 1009) hx hb dL_cell_15 (by decide) ?_
    refine lv_iload_n hx hb dL_cell_18 rfl (lv_at hl 1 rfl) ?_
    refine lv_imul hx hb dL_cell_19 ?_
    rw [show nI 1009 * nI i = nI (1009 * i) from nI_mul]
    refine lv_iadd hx hb dL_cell_20 ?_
    refine lv_imul hx hb dL_cell_21 ?_
    refine lv_sipush (v := nI 12345) hx hb dL_cell_22 (by decide) ?_
    refine lv_iadd hx hb dL_cell_25 ?_
    obtain ⟨x1, ex1⟩ : ∃ z : Int32, z = (69069 * ((Sc.2.2 i) + (nI (1009 * i)))) + (nI 12345) := ⟨_, rfl⟩
    rw [← ex1]
    refine lv_istore_n (lv' := [(2, .int (x1)), (0, .ref (Sc.1)), (1, .int (nI i))]) hx hb dL_cell_26 rfl hl (by decide) rfl (fun ls hl => ?_)
    refine lv_iload_n hx hb dL_cell_27 rfl (lv_at hl 0 rfl) ?_
    refine lv_iload_n hx hb dL_cell_28 rfl (lv_at hl 0 rfl) ?_
    refine lv_bipush (v := nI 13) hx hb dL_cell_29 (by decide) ?_
    refine lv_iushr hx hb dL_cell_31 rfl ?_
    refine lv_ixor hx hb dL_cell_32 ?_
    refine lv_ldc hx hb hown (hts _ kl_L_8) dL_cell_33 ?_
    refine lv_imul hx hb dL_cell_35 ?_
    obtain ⟨x2, ex2⟩ : ∃ z : Int32, z = (x1 ^^^ ((x1.toUInt32 >>> ((nI 13).toUInt32 &&& Int32.toUInt32 31)).toInt32)) * 1103515245 := ⟨_, rfl⟩
    rw [← ex2]
    refine lv_istore_n (lv' := [(2, .int (x2)), (0, .ref (Sc.1)), (1, .int (nI i))]) hx hb dL_cell_36 rfl hl (by decide) rfl (fun ls hl => ?_)
    refine lv_iload_n hx hb dL_cell_37 rfl (lv_at hl 0 rfl) ?_
    refine lv_iload_n hx hb dL_cell_38 rfl (lv_at hl 0 rfl) ?_
    refine lv_bipush (v := nI 16) hx hb dL_cell_39 (by decide) ?_
    refine lv_iushr hx hb dL_cell_41 rfl ?_
    refine lv_ixor hx hb dL_cell_42 ?_
    exact e_I C0 hr hH ⟨by rw [ex2, ex1]; unfold cellF cellK cellH cellG; rw [if_pos (show i < Sc.2.1 by omega)], rfl⟩ (by omega) (by omega) dL_cell_43
set_option maxHeartbeats 1600000 in
set_option maxRecDepth 100000 in
theorem lL_in (l : Launch) (Sc : SCR) (G : GT) (A : Nat → Prop) (h : AH) (i k : Nat) (hi : i < 2 ^ 20) (h0 : 0 < k) (hk : k < 2 ^ 31) : lcI l Sc G A yL_in cL_in 3 (Option.some FieldType.int) 1 22 0 0 [.ref (Sc.1), .int (nI i), .int (nI k)] h (fun r h' => r = nI (inN Sc i k) ∧ h' = h) := by
  refine lm_of rfl (Nat.le_of_ble_eq_true rfl) ?_
  intro pr e s m9 below meth c9 C0 hN hr hH ls hl
  obtain ⟨hx, hb, hml, hown, hts, hK, hA, -⟩ := id C0
  have hl : lv_has ls 3 [(0, .ref (Sc.1)), (1, .int (nI i)), (2, .int (nI k))] := hl
  refine lv_aload_n hx hb dL_in_0 rfl (lv_at hl 0 rfl) ?_
  refine lv_iload_n hx hb dL_in_1 rfl (lv_at hl 1 rfl) ?_
  refine k_i hH (k_lS (rest := []) C0 hN hH (lL_cell l Sc G A h i hi) mv_L_cell ml_L_99 rfl ⟨Nat.le_of_ble_eq_true rfl, Nat.le_of_ble_eq_true rfl⟩ hl.1 rfl (Nat.le_of_ble_eq_true rfl) dL_in_2 ⟨by show _ ≤ 0; omega, by show _ ≤ 0; omega⟩) (fun r_1 h1 H locs hp hH => ?_)
  obtain ⟨er_1, eh⟩ := hp
  rw [eh] at hH
  rw [er_1]
  refine lv_ldc hx hb hown (hts _ kl_L_105) dL_in_5 ?_
  refine lv_iand hx hb dL_in_7 ?_
  refine lv_iload_n hx hb dL_in_8 rfl (lv_at hl 2 rfl) ?_
  refine lv_irem hx hb dL_in_9 (fun z => by have := (nI_eq hk (show 0 < 2 ^ 31 by omega)).mp z; omega) ?_
  exact e_I C0 hr hH ⟨in_mod Sc i h0 hk, rfl⟩ (by omega) (by omega) dL_in_10
set_option maxHeartbeats 1600000 in
set_option maxRecDepth 100000 in
theorem lL_code (l : Launch) (Sc : SCR) (G : GT) (A : Nat → Prop) (h : AH) (k : Nat) (hk : k < 2 ^ 20) : lcI l Sc G A yL_code cL_code 1 (Option.some FieldType.int) 0 0 0 0 [.int (nI k)] h (fun r h' => r = nI (codeN k) ∧ h' = h) := by
  refine lm_of rfl (Nat.le_of_ble_eq_true rfl) ?_
  intro pr e s m9 below meth c9 C0 hN hr hH ls hl
  obtain ⟨hx, hb, hml, hown, hts, hK, hA, -⟩ := id C0
  have hl : lv_has ls 1 [(0, .int (nI k))] := hl
  refine lv_iload_n hx hb dL_code_0 rfl (lv_at hl 0 rfl) ?_
  refine lv_if_ne (tgt := 8) hx hb dL_code_1 (by decide) (fun c1_1 => ?_) (fun c1_1 => ?_)
  · replace c1_1 : ¬ (k = 0) := fun z => c1_1 ((nI_eq (a := k) (b := 0) (by omega) (by omega)).mpr z)
    refine lv_iload_n hx hb dL_code_8 rfl (lv_at hl 0 rfl) ?_
    refine lv_iconst (v := nI 1) hx hb dL_code_9 (by decide) ?_
    refine lv_icmp_ne (tgt := 18) hx hb dL_code_10 (by decide) (fun c10_2 => ?_) (fun c10_2 => ?_)
    · replace c10_2 : ¬ (k = 1) := fun z => c10_2 ((nI_eq (a := k) (b := 1) (by omega) (by omega)).mpr z)
      refine lv_iload_n hx hb dL_code_18 rfl (lv_at hl 0 rfl) ?_
      refine lv_iconst (v := nI 2) hx hb dL_code_19 (by decide) ?_
      refine lv_icmp_ne (tgt := 27) hx hb dL_code_20 (by decide) (fun c20_3 => ?_) (fun c20_3 => ?_)
      · replace c20_3 : ¬ (k = 2) := fun z => c20_3 ((nI_eq (a := k) (b := 2) (by omega) (by omega)).mpr z)
        refine lv_iload_n hx hb dL_code_27 rfl (lv_at hl 0 rfl) ?_
        refine lv_iconst (v := nI 3) hx hb dL_code_28 (by decide) ?_
        refine lv_icmp_ne (tgt := 37) hx hb dL_code_29 (by decide) (fun c29_4 => ?_) (fun c29_4 => ?_)
        · replace c29_4 : ¬ (k = 3) := fun z => c29_4 ((nI_eq (a := k) (b := 3) (by omega) (by omega)).mpr z)
          refine lv_iload_n hx hb dL_code_37 rfl (lv_at hl 0 rfl) ?_
          refine lv_iconst (v := nI 4) hx hb dL_code_38 (by decide) ?_
          refine lv_icmp_ne (tgt := 46) hx hb dL_code_39 (by decide) (fun c39_5 => ?_) (fun c39_5 => ?_)
          · replace c39_5 : ¬ (k = 4) := fun z => c39_5 ((nI_eq (a := k) (b := 4) (by omega) (by omega)).mpr z)
            refine lv_bipush (v := nI 22) hx hb dL_code_46 (by decide) ?_
            exact e_I C0 hr hH ⟨by unfold codeN; simp [*], rfl⟩ (by omega) (by omega) dL_code_48
          · replace c39_5 : k = 4 := (nI_eq (a := k) (b := 4) (by omega) (by omega)).mp c39_5
            refine lv_iconst (v := nI 3) hx hb dL_code_42 (by decide) ?_
            refine lv_goto (tgt := 48) hx hb dL_code_43 (by decide) ?_
            exact e_I C0 hr hH ⟨by unfold codeN; simp [*], rfl⟩ (by omega) (by omega) dL_code_48
        · replace c29_4 : k = 3 := (nI_eq (a := k) (b := 3) (by omega) (by omega)).mp c29_4
          refine lv_bipush (v := nI 121) hx hb dL_code_32 (by decide) ?_
          refine lv_goto (tgt := 48) hx hb dL_code_34 (by decide) ?_
          exact e_I C0 hr hH ⟨by unfold codeN; simp [*], rfl⟩ (by omega) (by omega) dL_code_48
      · replace c20_3 : k = 2 := (nI_eq (a := k) (b := 2) (by omega) (by omega)).mp c20_3
        refine lv_iconst (v := nI 2) hx hb dL_code_23 (by decide) ?_
        refine lv_goto (tgt := 48) hx hb dL_code_24 (by decide) ?_
        exact e_I C0 hr hH ⟨by unfold codeN; simp [*], rfl⟩ (by omega) (by omega) dL_code_48
    · replace c10_2 : k = 1 := (nI_eq (a := k) (b := 1) (by omega) (by omega)).mp c10_2
      refine lv_bipush (v := nI 12) hx hb dL_code_13 (by decide) ?_
      refine lv_goto (tgt := 48) hx hb dL_code_15 (by decide) ?_
      exact e_I C0 hr hH ⟨by unfold codeN; simp [*], rfl⟩ (by omega) (by omega) dL_code_48
  · replace c1_1 : k = 0 := (nI_eq (a := k) (b := 0) (by omega) (by omega)).mp c1_1
    refine lv_iconst (v := nI 1) hx hb dL_code_4 (by decide) ?_
    refine lv_goto (tgt := 48) hx hb dL_code_5 (by decide) ?_
    exact e_I C0 hr hH ⟨by unfold codeN; simp [*], rfl⟩ (by omega) (by omega) dL_code_48
set_option maxHeartbeats 1600000 in
set_option maxRecDepth 100000 in
theorem lL_hubFor (l : Launch) (Sc : SCR) (G : GT) (A : Nat → Prop) (h : AH) (b : BA) (c m : MM) (L : LNum) (M : LRef) (hJ : JW G.2.2.1 h b c L M) (an : Nat) (f : Nat → Int32) (hL : L an = some (700, f)) (hT : NT f m) (hw : WFa m) (hC : ∀ h, h < nhN m → isN (m 0 h) 1 999) (ad : Nat) (ha1 : 1000 ≤ ad) (ha2 : ad ≤ 9999) : lcI l Sc G A yL_hubFor cL_hubFor 6 (Option.some FieldType.int) 0 0 0 0 [.ref (an), .int (nI ad)] h (fun r h' => r = found m (nI ad) ∧ h' = h) := by
  refine lm_of rfl (Nat.le_of_ble_eq_true rfl) ?_
  intro pr e s m9 below meth c9 C0 hN hr hH ls hl
  obtain ⟨hx, hb, hml, hown, hts, hK, hA, -⟩ := id C0
  have hl : lv_has ls 6 [(0, .ref (an)), (1, .int (nI ad))] := hl
  have hnh := hw.nh.2
  refine lv_iconst (v := (-1)) hx hb dL_hubFor_0 (by decide) ?_
  refine lv_istore_n (lv' := [(2, .int (-1)), (0, .ref (an)), (1, .int (nI ad))]) hx hb dL_hubFor_1 rfl hl (by decide) rfl (fun ls hl => ?_)
  refine lv_iconst (v := nI 0) hx hb dL_hubFor_2 (by decide) ?_
  refine lv_istore_n (lv' := [(3, .int (nI 0)), (2, .int (-1)), (0, .ref (an)), (1, .int (nI ad))]) hx hb dL_hubFor_3 rfl hl (by decide) rfl (fun ls hl => ?_)
  have K : ∀ (k h0 : Nat) (a0 : Int32), h0 + k = nhN m → (a0 = -1 ∨ ∃ b0, b0 < h0 ∧ a0 = nI b0) → hfL m ad k h0 a0 = found m (nI ad) → ∀ (H : Heap) (locs : List Loc) (hH : HS G.1 G.2.1 A s.heap h H locs) (ls : Array Slot), lv_has ls 6 [(3, .int (nI h0)), (2, .int a0), (0, .ref an), (1, .int (nI ad))] → W pr l e (rmm 0 0 0 0) s m9 ([.ref (an), .int (nI ad)] : List Value).toArray below meth c9 H locs 0 0 (MQ below (va_Qi (fun r h' => r = found m (nI ad) ∧ h' = h) (fun h' t => HW G.1 G.2.1 A h' t.heap) A) ([.ref (an), .int (nI ad)] : List Value).toArray s 0 0 A) (F0 m9 4 ls []) := by
    intro k
    induction k with
    | zero =>
      intro h0 a0 hk hb0 hT0 H locs hH ls hl
      refine lv_iload_n hx hb dL_hubFor_4 rfl (lv_at hl 0 rfl) ?_
      refine lv_aload_n hx hb dL_hubFor_5 rfl (lv_at hl 2 rfl) ?_
      refine lv_iconst (v := nI 0) hx hb dL_hubFor_6 (by decide) ?_
      refine j_ld C0 hH hJ hL (ix := 0) (by omega) (by decide) (v := nI (nhN m)) hT.h0 dL_hubFor_7 ?_
      refine lv_icmp_ge (tgt := 92) hx hb dL_hubFor_8 (by decide) (fun c8_1 => ?_) (fun c8_1 => ?_)
      · replace c8_1 : nhN m ≤ h0 := (nI_leI (a := nhN m) (b := h0) (by omega) (by omega)).mp c8_1
        refine lv_iload_n hx hb dL_hubFor_92 rfl (lv_at hl 1 rfl) ?_
        exact e_I C0 hr hH ⟨hT0, rfl⟩ (by omega) (by omega) dL_hubFor_93
      · exact absurd (nI_le (show nhN m ≤ h0 by omega) (by omega)) c8_1
    | succ k ih =>
      intro h0 a0 hk hb0 hT0 H locs hH ls hl
      refine lv_iload_n hx hb dL_hubFor_4 rfl (lv_at hl 0 rfl) ?_
      refine lv_aload_n hx hb dL_hubFor_5 rfl (lv_at hl 2 rfl) ?_
      refine lv_iconst (v := nI 0) hx hb dL_hubFor_6 (by decide) ?_
      refine j_ld C0 hH hJ hL (ix := 0) (by omega) (by decide) (v := nI (nhN m)) hT.h0 dL_hubFor_7 ?_
      refine lv_icmp_ge (tgt := 92) hx hb dL_hubFor_8 (by decide) (fun c8_2 => ?_) (fun c8_2 => ?_)
      · exact absurd ((nI_leI (by omega) (by omega)).mp c8_2) (by omega)
      · replace c8_2 : ¬ (nhN m ≤ h0) := fun z => c8_2 ((nI_leI (a := nhN m) (b := h0) (by omega) (by omega)).mpr z)
        refine lv_aload_n hx hb dL_hubFor_11 rfl (lv_at hl 2 rfl) ?_
        refine lv_bipush (v := nI 10) hx hb dL_hubFor_12 (by decide) ?_
        refine lv_iconst (v := nI 2) hx hb dL_hubFor_14 (by decide) ?_
        refine lv_iload_n hx hb dL_hubFor_15 rfl (lv_at hl 0 rfl) ?_
        refine lv_imul hx hb dL_hubFor_16 ?_
        rw [show nI 2 * nI h0 = nI (2 * h0) from nI_mul]
        refine lv_iadd hx hb dL_hubFor_17 ?_
        rw [show nI 10 + nI (2 * h0) = nI (10 + 2 * h0) from nI_add _ _]
        refine j_ld C0 hH hJ hL (ix := 10 + 2 * h0) (by omega) (by decide) (v := m 0 h0) (hT.cd (by omega)) dL_hubFor_18 ?_
        refine lv_istore (lv' := [(4, .int (m 0 h0)), (3, .int (nI h0)), (2, .int (a0)), (0, .ref (an)), (1, .int (nI ad))]) hx hb dL_hubFor_19 hl (by decide) rfl (fun ls hl => ?_)
        refine lv_iload hx hb dL_hubFor_21 (lv_at hl 0 rfl) ?_
        refine lv_bipush (v := nI 10) hx hb dL_hubFor_23 (by decide) ?_
        refine lv_icmp_ge (tgt := 36) hx hb dL_hubFor_25 (by decide) (fun c25_3 => ?_) (fun c25_3 => ?_)
        · refine lv_iload hx hb dL_hubFor_36 (lv_at hl 0 rfl) ?_
          refine lv_bipush (v := nI 100) hx hb dL_hubFor_38 (by decide) ?_
          refine lv_icmp_ge (tgt := 50) hx hb dL_hubFor_40 (by decide) (fun c40_4 => ?_) (fun c40_4 => ?_)
          · refine lv_iload_n hx hb dL_hubFor_50 rfl (lv_at hl 4 rfl) ?_
            refine lv_bipush (v := nI 10) hx hb dL_hubFor_51 (by decide) ?_
            refine lv_idiv hx hb dL_hubFor_53 (by decide) ?_
            refine lv_istore (lv' := [(5, .int ((nI ad) / (nI 10))), (4, .int (m 0 h0)), (3, .int (nI h0)), (2, .int (a0)), (0, .ref (an)), (1, .int (nI ad))]) hx hb dL_hubFor_54 hl (by decide) rfl (fun ls hl => ?_)
            refine lv_iload hx hb dL_hubFor_56 (lv_at hl 0 rfl) ?_
            refine lv_iload hx hb dL_hubFor_58 (lv_at hl 1 rfl) ?_
            refine lv_icmp_ne (tgt := 84) hx hb dL_hubFor_60 (by decide) (fun c60_5 => ?_) (fun c60_5 => ?_)
            · refine lv_iload_n hx hb dL_hubFor_84 rfl (lv_at hl 3 rfl) ?_
              refine lv_istore_n (lv' := [(2, .int (a0)), (5, .int ((nI ad) / (nI 10))), (4, .int (m 0 h0)), (3, .int (nI h0)), (0, .ref (an)), (1, .int (nI ad))]) hx hb dL_hubFor_85 rfl hl (by decide) rfl (fun ls hl => ?_)
              refine lv_iinc (v := nI (h0 + 1)) (lv' := [(3, .int (nI (h0 + 1))), (2, .int (a0)), (5, .int ((nI ad) / (nI 10))), (4, .int (m 0 h0)), (0, .ref (an)), (1, .int (nI ad))]) hx hb dL_hubFor_86 hl (k := 3) rfl (nI_add (h0) 1) (by decide) rfl (fun ls hl => ?_)
              refine lv_goto (tgt := 4) hx hb dL_hubFor_89 (by decide) ?_
              exact ih (h0 + 1) a0 (by omega) (hb0.imp id (fun ⟨b0, e1, e2⟩ => ⟨b0, by omega, e2⟩)) (by rw [← hT0]; show hfL m ad k (h0 + 1) _ = hfL m ad k (h0 + 1) _; congr 1; unfold hfS; simp [c25_3, Int32.not_lt.mpr c25_3, c40_4, Int32.not_lt.mpr c40_4, eq_false c60_5]) H locs hH ls (lv_sub hl [0, 1, 4, 5] rfl)
            · refine lv_iload_n hx hb dL_hubFor_63 rfl (lv_at hl 3 rfl) ?_
              refine lv_if_lt (tgt := 80) hx hb dL_hubFor_64 (by decide) (fun c64_6 => ?_) (fun c64_6 => ?_)
              · refine lv_iload_n hx hb dL_hubFor_80 rfl (lv_at hl 2 rfl) ?_
                refine lv_goto (tgt := 85) hx hb dL_hubFor_81 (by decide) ?_
                refine lv_istore_n (lv' := [(2, .int (nI h0)), (5, .int ((nI ad) / (nI 10))), (4, .int (m 0 h0)), (3, .int (nI h0)), (0, .ref (an)), (1, .int (nI ad))]) hx hb dL_hubFor_85 rfl hl (by decide) rfl (fun ls hl => ?_)
                refine lv_iinc (v := nI (h0 + 1)) (lv' := [(3, .int (nI (h0 + 1))), (2, .int (nI h0)), (5, .int ((nI ad) / (nI 10))), (4, .int (m 0 h0)), (0, .ref (an)), (1, .int (nI ad))]) hx hb dL_hubFor_86 hl (k := 3) rfl (nI_add (h0) 1) (by decide) rfl (fun ls hl => ?_)
                refine lv_goto (tgt := 4) hx hb dL_hubFor_89 (by decide) ?_
                exact ih (h0 + 1) (nI h0) (by omega) (Or.inr ⟨h0, by omega, rfl⟩) (by rw [← hT0]; show hfL m ad k (h0 + 1) _ = hfL m ad k (h0 + 1) _; congr 1; unfold hfS; simp [c25_3, Int32.not_lt.mpr c25_3, c40_4, Int32.not_lt.mpr c40_4, eq_true c60_5, c64_6, Int32.not_le.mpr c64_6]) H locs hH ls (lv_sub hl [0, 1, 4, 5] rfl)
              · obtain ⟨b0, hb1, rfl⟩ := hb0.resolve_left (fun z => by rw [z] at c64_6; exact c64_6 (by decide))
                have hbv : (nI b0).toNatClampNeg = b0 := nI_clamp (by omega)
                refine lv_iload hx hb dL_hubFor_67 (lv_at hl 1 rfl) ?_
                refine lv_aload_n hx hb dL_hubFor_69 rfl (lv_at hl 4 rfl) ?_
                refine lv_bipush (v := nI 10) hx hb dL_hubFor_70 (by decide) ?_
                refine lv_iconst (v := nI 2) hx hb dL_hubFor_72 (by decide) ?_
                refine lv_iload_n hx hb dL_hubFor_73 rfl (lv_at hl 3 rfl) ?_
                refine lv_imul hx hb dL_hubFor_74 ?_
                rw [show nI 2 * nI b0 = nI (2 * b0) from nI_mul]
                refine lv_iadd hx hb dL_hubFor_75 ?_
                rw [show nI 10 + nI (2 * b0) = nI (10 + 2 * b0) from nI_add _ _]
                refine j_ld C0 hH hJ hL (ix := 10 + 2 * b0) (by omega) (by decide) (v := m 0 b0) (hT.cd (by omega)) dL_hubFor_76 ?_
                refine lv_icmp_le (tgt := 84) hx hb dL_hubFor_77 (by decide) (fun c77_7 => ?_) (fun c77_7 => ?_)
                · refine lv_iload_n hx hb dL_hubFor_84 rfl (lv_at hl 3 rfl) ?_
                  refine lv_istore_n (lv' := [(2, .int (nI b0)), (5, .int ((nI ad) / (nI 10))), (4, .int (m 0 h0)), (3, .int (nI h0)), (0, .ref (an)), (1, .int (nI ad))]) hx hb dL_hubFor_85 rfl hl (by decide) rfl (fun ls hl => ?_)
                  refine lv_iinc (v := nI (h0 + 1)) (lv' := [(3, .int (nI (h0 + 1))), (2, .int (nI b0)), (5, .int ((nI ad) / (nI 10))), (4, .int (m 0 h0)), (0, .ref (an)), (1, .int (nI ad))]) hx hb dL_hubFor_86 hl (k := 3) rfl (nI_add (h0) 1) (by decide) rfl (fun ls hl => ?_)
                  refine lv_goto (tgt := 4) hx hb dL_hubFor_89 (by decide) ?_
                  exact ih (h0 + 1) (nI b0) (by omega) (hb0.imp id (fun ⟨b0, e1, e2⟩ => ⟨b0, by omega, e2⟩)) (by rw [← hT0]; show hfL m ad k (h0 + 1) _ = hfL m ad k (h0 + 1) _; congr 1; unfold hfS; simp [c25_3, Int32.not_lt.mpr c25_3, c40_4, Int32.not_lt.mpr c40_4, eq_true c60_5, c64_6, Int32.not_lt.mp c64_6, c77_7, Int32.not_lt.mpr c77_7, hbv]) H locs hH ls (lv_sub hl [0, 1, 4, 5] rfl)
                · refine lv_iload_n hx hb dL_hubFor_80 rfl (lv_at hl 2 rfl) ?_
                  refine lv_goto (tgt := 85) hx hb dL_hubFor_81 (by decide) ?_
                  refine lv_istore_n (lv' := [(2, .int (nI h0)), (5, .int ((nI ad) / (nI 10))), (4, .int (m 0 h0)), (3, .int (nI h0)), (0, .ref (an)), (1, .int (nI ad))]) hx hb dL_hubFor_85 rfl hl (by decide) rfl (fun ls hl => ?_)
                  refine lv_iinc (v := nI (h0 + 1)) (lv' := [(3, .int (nI (h0 + 1))), (2, .int (nI h0)), (5, .int ((nI ad) / (nI 10))), (4, .int (m 0 h0)), (0, .ref (an)), (1, .int (nI ad))]) hx hb dL_hubFor_86 hl (k := 3) rfl (nI_add (h0) 1) (by decide) rfl (fun ls hl => ?_)
                  refine lv_goto (tgt := 4) hx hb dL_hubFor_89 (by decide) ?_
                  exact ih (h0 + 1) (nI h0) (by omega) (Or.inr ⟨h0, by omega, rfl⟩) (by rw [← hT0]; show hfL m ad k (h0 + 1) _ = hfL m ad k (h0 + 1) _; congr 1; unfold hfS; simp [c25_3, Int32.not_lt.mpr c25_3, c40_4, Int32.not_lt.mpr c40_4, eq_true c60_5, c64_6, Int32.not_lt.mp c64_6, c77_7, Int32.not_le.mp c77_7, hbv]) H locs hH ls (lv_sub hl [0, 1, 4, 5] rfl)
          · refine lv_iload_n hx hb dL_hubFor_43 rfl (lv_at hl 4 rfl) ?_
            refine lv_bipush (v := nI 100) hx hb dL_hubFor_44 (by decide) ?_
            refine lv_idiv hx hb dL_hubFor_46 (by decide) ?_
            refine lv_goto (tgt := 54) hx hb dL_hubFor_47 (by decide) ?_
            refine lv_istore (lv' := [(5, .int ((nI ad) / (nI 100))), (4, .int (m 0 h0)), (3, .int (nI h0)), (2, .int (a0)), (0, .ref (an)), (1, .int (nI ad))]) hx hb dL_hubFor_54 hl (by decide) rfl (fun ls hl => ?_)
            refine lv_iload hx hb dL_hubFor_56 (lv_at hl 0 rfl) ?_
            refine lv_iload hx hb dL_hubFor_58 (lv_at hl 1 rfl) ?_
            refine lv_icmp_ne (tgt := 84) hx hb dL_hubFor_60 (by decide) (fun c60_8 => ?_) (fun c60_8 => ?_)
            · refine lv_iload_n hx hb dL_hubFor_84 rfl (lv_at hl 3 rfl) ?_
              refine lv_istore_n (lv' := [(2, .int (a0)), (5, .int ((nI ad) / (nI 100))), (4, .int (m 0 h0)), (3, .int (nI h0)), (0, .ref (an)), (1, .int (nI ad))]) hx hb dL_hubFor_85 rfl hl (by decide) rfl (fun ls hl => ?_)
              refine lv_iinc (v := nI (h0 + 1)) (lv' := [(3, .int (nI (h0 + 1))), (2, .int (a0)), (5, .int ((nI ad) / (nI 100))), (4, .int (m 0 h0)), (0, .ref (an)), (1, .int (nI ad))]) hx hb dL_hubFor_86 hl (k := 3) rfl (nI_add (h0) 1) (by decide) rfl (fun ls hl => ?_)
              refine lv_goto (tgt := 4) hx hb dL_hubFor_89 (by decide) ?_
              exact ih (h0 + 1) a0 (by omega) (hb0.imp id (fun ⟨b0, e1, e2⟩ => ⟨b0, by omega, e2⟩)) (by rw [← hT0]; show hfL m ad k (h0 + 1) _ = hfL m ad k (h0 + 1) _; congr 1; unfold hfS; simp [c25_3, Int32.not_lt.mpr c25_3, c40_4, Int32.not_le.mp c40_4, eq_false c60_8]) H locs hH ls (lv_sub hl [0, 1, 4, 5] rfl)
            · refine lv_iload_n hx hb dL_hubFor_63 rfl (lv_at hl 3 rfl) ?_
              refine lv_if_lt (tgt := 80) hx hb dL_hubFor_64 (by decide) (fun c64_9 => ?_) (fun c64_9 => ?_)
              · refine lv_iload_n hx hb dL_hubFor_80 rfl (lv_at hl 2 rfl) ?_
                refine lv_goto (tgt := 85) hx hb dL_hubFor_81 (by decide) ?_
                refine lv_istore_n (lv' := [(2, .int (nI h0)), (5, .int ((nI ad) / (nI 100))), (4, .int (m 0 h0)), (3, .int (nI h0)), (0, .ref (an)), (1, .int (nI ad))]) hx hb dL_hubFor_85 rfl hl (by decide) rfl (fun ls hl => ?_)
                refine lv_iinc (v := nI (h0 + 1)) (lv' := [(3, .int (nI (h0 + 1))), (2, .int (nI h0)), (5, .int ((nI ad) / (nI 100))), (4, .int (m 0 h0)), (0, .ref (an)), (1, .int (nI ad))]) hx hb dL_hubFor_86 hl (k := 3) rfl (nI_add (h0) 1) (by decide) rfl (fun ls hl => ?_)
                refine lv_goto (tgt := 4) hx hb dL_hubFor_89 (by decide) ?_
                exact ih (h0 + 1) (nI h0) (by omega) (Or.inr ⟨h0, by omega, rfl⟩) (by rw [← hT0]; show hfL m ad k (h0 + 1) _ = hfL m ad k (h0 + 1) _; congr 1; unfold hfS; simp [c25_3, Int32.not_lt.mpr c25_3, c40_4, Int32.not_le.mp c40_4, eq_true c60_8, c64_9, Int32.not_le.mpr c64_9]) H locs hH ls (lv_sub hl [0, 1, 4, 5] rfl)
              · obtain ⟨b0, hb1, rfl⟩ := hb0.resolve_left (fun z => by rw [z] at c64_9; exact c64_9 (by decide))
                have hbv : (nI b0).toNatClampNeg = b0 := nI_clamp (by omega)
                refine lv_iload hx hb dL_hubFor_67 (lv_at hl 1 rfl) ?_
                refine lv_aload_n hx hb dL_hubFor_69 rfl (lv_at hl 4 rfl) ?_
                refine lv_bipush (v := nI 10) hx hb dL_hubFor_70 (by decide) ?_
                refine lv_iconst (v := nI 2) hx hb dL_hubFor_72 (by decide) ?_
                refine lv_iload_n hx hb dL_hubFor_73 rfl (lv_at hl 3 rfl) ?_
                refine lv_imul hx hb dL_hubFor_74 ?_
                rw [show nI 2 * nI b0 = nI (2 * b0) from nI_mul]
                refine lv_iadd hx hb dL_hubFor_75 ?_
                rw [show nI 10 + nI (2 * b0) = nI (10 + 2 * b0) from nI_add _ _]
                refine j_ld C0 hH hJ hL (ix := 10 + 2 * b0) (by omega) (by decide) (v := m 0 b0) (hT.cd (by omega)) dL_hubFor_76 ?_
                refine lv_icmp_le (tgt := 84) hx hb dL_hubFor_77 (by decide) (fun c77_10 => ?_) (fun c77_10 => ?_)
                · refine lv_iload_n hx hb dL_hubFor_84 rfl (lv_at hl 3 rfl) ?_
                  refine lv_istore_n (lv' := [(2, .int (nI b0)), (5, .int ((nI ad) / (nI 100))), (4, .int (m 0 h0)), (3, .int (nI h0)), (0, .ref (an)), (1, .int (nI ad))]) hx hb dL_hubFor_85 rfl hl (by decide) rfl (fun ls hl => ?_)
                  refine lv_iinc (v := nI (h0 + 1)) (lv' := [(3, .int (nI (h0 + 1))), (2, .int (nI b0)), (5, .int ((nI ad) / (nI 100))), (4, .int (m 0 h0)), (0, .ref (an)), (1, .int (nI ad))]) hx hb dL_hubFor_86 hl (k := 3) rfl (nI_add (h0) 1) (by decide) rfl (fun ls hl => ?_)
                  refine lv_goto (tgt := 4) hx hb dL_hubFor_89 (by decide) ?_
                  exact ih (h0 + 1) (nI b0) (by omega) (hb0.imp id (fun ⟨b0, e1, e2⟩ => ⟨b0, by omega, e2⟩)) (by rw [← hT0]; show hfL m ad k (h0 + 1) _ = hfL m ad k (h0 + 1) _; congr 1; unfold hfS; simp [c25_3, Int32.not_lt.mpr c25_3, c40_4, Int32.not_le.mp c40_4, eq_true c60_8, c64_9, Int32.not_lt.mp c64_9, c77_10, Int32.not_lt.mpr c77_10, hbv]) H locs hH ls (lv_sub hl [0, 1, 4, 5] rfl)
                · refine lv_iload_n hx hb dL_hubFor_80 rfl (lv_at hl 2 rfl) ?_
                  refine lv_goto (tgt := 85) hx hb dL_hubFor_81 (by decide) ?_
                  refine lv_istore_n (lv' := [(2, .int (nI h0)), (5, .int ((nI ad) / (nI 100))), (4, .int (m 0 h0)), (3, .int (nI h0)), (0, .ref (an)), (1, .int (nI ad))]) hx hb dL_hubFor_85 rfl hl (by decide) rfl (fun ls hl => ?_)
                  refine lv_iinc (v := nI (h0 + 1)) (lv' := [(3, .int (nI (h0 + 1))), (2, .int (nI h0)), (5, .int ((nI ad) / (nI 100))), (4, .int (m 0 h0)), (0, .ref (an)), (1, .int (nI ad))]) hx hb dL_hubFor_86 hl (k := 3) rfl (nI_add (h0) 1) (by decide) rfl (fun ls hl => ?_)
                  refine lv_goto (tgt := 4) hx hb dL_hubFor_89 (by decide) ?_
                  exact ih (h0 + 1) (nI h0) (by omega) (Or.inr ⟨h0, by omega, rfl⟩) (by rw [← hT0]; show hfL m ad k (h0 + 1) _ = hfL m ad k (h0 + 1) _; congr 1; unfold hfS; simp [c25_3, Int32.not_lt.mpr c25_3, c40_4, Int32.not_le.mp c40_4, eq_true c60_8, c64_9, Int32.not_lt.mp c64_9, c77_10, Int32.not_le.mp c77_10, hbv]) H locs hH ls (lv_sub hl [0, 1, 4, 5] rfl)
        · refine lv_iload_n hx hb dL_hubFor_28 rfl (lv_at hl 4 rfl) ?_
          refine lv_sipush (v := nI 1000) hx hb dL_hubFor_29 (by decide) ?_
          refine lv_idiv hx hb dL_hubFor_32 (by decide) ?_
          refine lv_goto (tgt := 54) hx hb dL_hubFor_33 (by decide) ?_
          refine lv_istore (lv' := [(5, .int ((nI ad) / (nI 1000))), (4, .int (m 0 h0)), (3, .int (nI h0)), (2, .int (a0)), (0, .ref (an)), (1, .int (nI ad))]) hx hb dL_hubFor_54 hl (by decide) rfl (fun ls hl => ?_)
          refine lv_iload hx hb dL_hubFor_56 (lv_at hl 0 rfl) ?_
          refine lv_iload hx hb dL_hubFor_58 (lv_at hl 1 rfl) ?_
          refine lv_icmp_ne (tgt := 84) hx hb dL_hubFor_60 (by decide) (fun c60_11 => ?_) (fun c60_11 => ?_)
          · refine lv_iload_n hx hb dL_hubFor_84 rfl (lv_at hl 3 rfl) ?_
            refine lv_istore_n (lv' := [(2, .int (a0)), (5, .int ((nI ad) / (nI 1000))), (4, .int (m 0 h0)), (3, .int (nI h0)), (0, .ref (an)), (1, .int (nI ad))]) hx hb dL_hubFor_85 rfl hl (by decide) rfl (fun ls hl => ?_)
            refine lv_iinc (v := nI (h0 + 1)) (lv' := [(3, .int (nI (h0 + 1))), (2, .int (a0)), (5, .int ((nI ad) / (nI 1000))), (4, .int (m 0 h0)), (0, .ref (an)), (1, .int (nI ad))]) hx hb dL_hubFor_86 hl (k := 3) rfl (nI_add (h0) 1) (by decide) rfl (fun ls hl => ?_)
            refine lv_goto (tgt := 4) hx hb dL_hubFor_89 (by decide) ?_
            exact ih (h0 + 1) a0 (by omega) (hb0.imp id (fun ⟨b0, e1, e2⟩ => ⟨b0, by omega, e2⟩)) (by rw [← hT0]; show hfL m ad k (h0 + 1) _ = hfL m ad k (h0 + 1) _; congr 1; unfold hfS; simp [c25_3, Int32.not_le.mp c25_3, eq_false c60_11]) H locs hH ls (lv_sub hl [0, 1, 4, 5] rfl)
          · refine lv_iload_n hx hb dL_hubFor_63 rfl (lv_at hl 3 rfl) ?_
            refine lv_if_lt (tgt := 80) hx hb dL_hubFor_64 (by decide) (fun c64_12 => ?_) (fun c64_12 => ?_)
            · refine lv_iload_n hx hb dL_hubFor_80 rfl (lv_at hl 2 rfl) ?_
              refine lv_goto (tgt := 85) hx hb dL_hubFor_81 (by decide) ?_
              refine lv_istore_n (lv' := [(2, .int (nI h0)), (5, .int ((nI ad) / (nI 1000))), (4, .int (m 0 h0)), (3, .int (nI h0)), (0, .ref (an)), (1, .int (nI ad))]) hx hb dL_hubFor_85 rfl hl (by decide) rfl (fun ls hl => ?_)
              refine lv_iinc (v := nI (h0 + 1)) (lv' := [(3, .int (nI (h0 + 1))), (2, .int (nI h0)), (5, .int ((nI ad) / (nI 1000))), (4, .int (m 0 h0)), (0, .ref (an)), (1, .int (nI ad))]) hx hb dL_hubFor_86 hl (k := 3) rfl (nI_add (h0) 1) (by decide) rfl (fun ls hl => ?_)
              refine lv_goto (tgt := 4) hx hb dL_hubFor_89 (by decide) ?_
              exact ih (h0 + 1) (nI h0) (by omega) (Or.inr ⟨h0, by omega, rfl⟩) (by rw [← hT0]; show hfL m ad k (h0 + 1) _ = hfL m ad k (h0 + 1) _; congr 1; unfold hfS; simp [c25_3, Int32.not_le.mp c25_3, eq_true c60_11, c64_12, Int32.not_le.mpr c64_12]) H locs hH ls (lv_sub hl [0, 1, 4, 5] rfl)
            · obtain ⟨b0, hb1, rfl⟩ := hb0.resolve_left (fun z => by rw [z] at c64_12; exact c64_12 (by decide))
              have hbv : (nI b0).toNatClampNeg = b0 := nI_clamp (by omega)
              refine lv_iload hx hb dL_hubFor_67 (lv_at hl 1 rfl) ?_
              refine lv_aload_n hx hb dL_hubFor_69 rfl (lv_at hl 4 rfl) ?_
              refine lv_bipush (v := nI 10) hx hb dL_hubFor_70 (by decide) ?_
              refine lv_iconst (v := nI 2) hx hb dL_hubFor_72 (by decide) ?_
              refine lv_iload_n hx hb dL_hubFor_73 rfl (lv_at hl 3 rfl) ?_
              refine lv_imul hx hb dL_hubFor_74 ?_
              rw [show nI 2 * nI b0 = nI (2 * b0) from nI_mul]
              refine lv_iadd hx hb dL_hubFor_75 ?_
              rw [show nI 10 + nI (2 * b0) = nI (10 + 2 * b0) from nI_add _ _]
              refine j_ld C0 hH hJ hL (ix := 10 + 2 * b0) (by omega) (by decide) (v := m 0 b0) (hT.cd (by omega)) dL_hubFor_76 ?_
              refine lv_icmp_le (tgt := 84) hx hb dL_hubFor_77 (by decide) (fun c77_13 => ?_) (fun c77_13 => ?_)
              · refine lv_iload_n hx hb dL_hubFor_84 rfl (lv_at hl 3 rfl) ?_
                refine lv_istore_n (lv' := [(2, .int (nI b0)), (5, .int ((nI ad) / (nI 1000))), (4, .int (m 0 h0)), (3, .int (nI h0)), (0, .ref (an)), (1, .int (nI ad))]) hx hb dL_hubFor_85 rfl hl (by decide) rfl (fun ls hl => ?_)
                refine lv_iinc (v := nI (h0 + 1)) (lv' := [(3, .int (nI (h0 + 1))), (2, .int (nI b0)), (5, .int ((nI ad) / (nI 1000))), (4, .int (m 0 h0)), (0, .ref (an)), (1, .int (nI ad))]) hx hb dL_hubFor_86 hl (k := 3) rfl (nI_add (h0) 1) (by decide) rfl (fun ls hl => ?_)
                refine lv_goto (tgt := 4) hx hb dL_hubFor_89 (by decide) ?_
                exact ih (h0 + 1) (nI b0) (by omega) (hb0.imp id (fun ⟨b0, e1, e2⟩ => ⟨b0, by omega, e2⟩)) (by rw [← hT0]; show hfL m ad k (h0 + 1) _ = hfL m ad k (h0 + 1) _; congr 1; unfold hfS; simp [c25_3, Int32.not_le.mp c25_3, eq_true c60_11, c64_12, Int32.not_lt.mp c64_12, c77_13, Int32.not_lt.mpr c77_13, hbv]) H locs hH ls (lv_sub hl [0, 1, 4, 5] rfl)
              · refine lv_iload_n hx hb dL_hubFor_80 rfl (lv_at hl 2 rfl) ?_
                refine lv_goto (tgt := 85) hx hb dL_hubFor_81 (by decide) ?_
                refine lv_istore_n (lv' := [(2, .int (nI h0)), (5, .int ((nI ad) / (nI 1000))), (4, .int (m 0 h0)), (3, .int (nI h0)), (0, .ref (an)), (1, .int (nI ad))]) hx hb dL_hubFor_85 rfl hl (by decide) rfl (fun ls hl => ?_)
                refine lv_iinc (v := nI (h0 + 1)) (lv' := [(3, .int (nI (h0 + 1))), (2, .int (nI h0)), (5, .int ((nI ad) / (nI 1000))), (4, .int (m 0 h0)), (0, .ref (an)), (1, .int (nI ad))]) hx hb dL_hubFor_86 hl (k := 3) rfl (nI_add (h0) 1) (by decide) rfl (fun ls hl => ?_)
                refine lv_goto (tgt := 4) hx hb dL_hubFor_89 (by decide) ?_
                exact ih (h0 + 1) (nI h0) (by omega) (Or.inr ⟨h0, by omega, rfl⟩) (by rw [← hT0]; show hfL m ad k (h0 + 1) _ = hfL m ad k (h0 + 1) _; congr 1; unfold hfS; simp [c25_3, Int32.not_le.mp c25_3, eq_true c60_11, c64_12, Int32.not_lt.mp c64_12, c77_13, Int32.not_le.mp c77_13, hbv]) H locs hH ls (lv_sub hl [0, 1, 4, 5] rfl)
  exact K (nhN m) 0 _ (by omega) (Or.inl rfl) (by rw [hf_found ha1 ha2 hC _ _ _ (by omega)]; rfl) _ _ hH ls (lv_sub hl [0, 1, 2, 3] rfl)
set_option maxHeartbeats 1600000 in
set_option maxRecDepth 100000 in
theorem lL_leaves (l : Launch) (Sc : SCR) (G : GT) (A : Nat → Prop) (h : AH) (b : BA) (c m : MM) (L : LNum) (M : LRef) (hJ : JW G.2.2.1 h b c L M) (an : Nat) (f : Nat → Int32) (hL : L an = some (700, f)) (hT : NT f m) (hw : WFa m) (hB : ∀ l, l < nlN m → isN (m 4 l) 0 59 ∧ isN (m 5 l) 5 60) (l0 e0 : Nat) (hl0 : l0 < nlN m) (he : e0 < 2 ^ 24) : lcI l Sc G A yL_leaves cL_leaves 5 (Option.some FieldType.int) 0 0 0 0 [.ref (an), .int (nI l0), .int (nI e0)] h (fun r h' => r = lvs m l0 (nI e0) ∧ h' = h) := by
  refine lm_of rfl (Nat.le_of_ble_eq_true rfl) ?_
  intro pr e s m9 below meth c9 C0 hN hr hH ls hl
  obtain ⟨hx, hb, hml, hown, hts, hK, hA, -⟩ := id C0
  have hl : lv_has ls 5 [(0, .ref (an)), (1, .int (nI l0)), (2, .int (nI e0))] := hl
  have hnl := hw.nl.2
  obtain ⟨g4, g5⟩ := hB l0 hl0
  rw [lvs_N g4 g5 he]
  obtain ⟨f0, hf0⟩ : ∃ z, z = vN (m 4 l0) := ⟨_, rfl⟩
  obtain ⟨p0, hp0⟩ : ∃ z, z = vN (m 5 l0) := ⟨_, rfl⟩
  have q4 : m 4 l0 = nI f0 := by rw [hf0]; exact g4.1
  have q5 : m 5 l0 = nI p0 := by rw [hp0]; exact g5.1
  have b4 : f0 ≤ 59 := by rw [hf0]; exact g4.2.2
  have b5 : 5 ≤ p0 ∧ p0 ≤ 60 := by rw [hp0]; exact ⟨g5.2.1, g5.2.2⟩
  rw [← hf0, ← hp0]
  refine lv_bipush (v := nI 30) hx hb dL_leaves_0 (by decide) ?_
  refine lv_bipush (v := nI 8) hx hb dL_leaves_2 (by decide) ?_
  refine lv_iload_n hx hb dL_leaves_4 rfl (lv_at hl 1 rfl) ?_
  refine lv_imul hx hb dL_leaves_5 ?_
  rw [show nI 8 * nI l0 = nI (8 * l0) from nI_mul]
  refine lv_iadd hx hb dL_leaves_6 ?_
  rw [show nI 30 + nI (8 * l0) = nI (30 + 8 * l0) from nI_add _ _]
  refine lv_istore_n (lv' := [(3, .int (nI (30 + 8 * l0))), (0, .ref (an)), (1, .int (nI l0)), (2, .int (nI e0))]) hx hb dL_leaves_7 rfl hl (by decide) rfl (fun ls hl => ?_)
  refine lv_aload_n hx hb dL_leaves_8 rfl (lv_at hl 1 rfl) ?_
  refine lv_iload_n hx hb dL_leaves_9 rfl (lv_at hl 0 rfl) ?_
  refine lv_iconst (v := nI 2) hx hb dL_leaves_10 (by decide) ?_
  refine lv_iadd hx hb dL_leaves_11 ?_
  rw [show nI (30 + 8 * l0) + nI 2 = nI (30 + 8 * l0 + 2) from nI_add _ _]
  refine j_ld C0 hH hJ hL (ix := 30 + 8 * l0 + 2) (by omega) (by decide) (v := nI f0) ((hT.ln hl0 2 (by omega) (by omega)).trans q4) dL_leaves_12 ?_
  refine lv_istore (lv' := [(4, .int (nI f0)), (3, .int (nI (30 + 8 * l0))), (0, .ref (an)), (1, .int (nI l0)), (2, .int (nI e0))]) hx hb dL_leaves_13 hl (by decide) rfl (fun ls hl => ?_)
  have K : ∀ (k j : Nat), e0 ≤ f0 + j * p0 + k → (j = 0 ∨ f0 + j * p0 < e0 + p0) → ∀ (H : Heap) (locs : List Loc) (hH : HS G.1 G.2.1 A s.heap h H locs) (ls : Array Slot), lv_has ls 5 [(4, .int (nI (f0 + j * p0))), (3, .int (nI (30 + 8 * l0))), (0, .ref an), (1, .int (nI l0)), (2, .int (nI e0))] → W pr l e (rmm 0 0 0 0) s m9 ([.ref (an), .int (nI l0), .int (nI e0)] : List Value).toArray below meth c9 H locs 0 0 (MQ below (va_Qi (fun r h' => r = nI (depN f0 p0 e0) ∧ h' = h) (fun h' t => HW G.1 G.2.1 A h' t.heap) A) ([.ref (an), .int (nI l0), .int (nI e0)] : List Value).toArray s 0 0 A) (F0 m9 15 ls []) := by
    intro k
    induction k using Nat.strongRecOn with
    | _ k ih =>
      intro j hk hj H locs hH ls hl
      have hjb : f0 + j * p0 < 2 ^ 25 := by
        rcases hj with h | h
        · rw [h]; omega
        · omega
      refine lv_iload hx hb dL_leaves_15 (lv_at hl 0 rfl) ?_
      refine lv_iload_n hx hb dL_leaves_17 rfl (lv_at hl 4 rfl) ?_
      refine lv_icmp_ge (tgt := 34) hx hb dL_leaves_18 (by decide) (fun c18_1 => ?_) (fun c18_1 => ?_)
      · replace c18_1 : e0 ≤ f0 + j * p0 := (nI_leI (a := e0) (b := f0 + j * p0) (by omega) (by omega)).mp c18_1
        refine lv_iload hx hb dL_leaves_34 (lv_at hl 0 rfl) ?_
        exact e_I C0 hr hH ⟨by rw [dep_stop (j := j) (by omega) (by omega) hj], rfl⟩ (by omega) (by omega) dL_leaves_36
      · replace c18_1 : ¬ (e0 ≤ f0 + j * p0) := fun z => c18_1 ((nI_leI (a := e0) (b := f0 + j * p0) (by omega) (by omega)).mpr z)
        refine lv_iload hx hb dL_leaves_21 (lv_at hl 0 rfl) ?_
        refine lv_aload_n hx hb dL_leaves_23 rfl (lv_at hl 2 rfl) ?_
        refine lv_iload_n hx hb dL_leaves_24 rfl (lv_at hl 1 rfl) ?_
        refine lv_iconst (v := nI 3) hx hb dL_leaves_25 (by decide) ?_
        refine lv_iadd hx hb dL_leaves_26 ?_
        rw [show nI (30 + 8 * l0) + nI 3 = nI (30 + 8 * l0 + 3) from nI_add _ _]
        refine j_ld C0 hH hJ hL (ix := 30 + 8 * l0 + 3) (by omega) (by decide) (v := nI p0) ((hT.ln hl0 3 (by omega) (by omega)).trans q5) dL_leaves_27 ?_
        refine lv_iadd hx hb dL_leaves_28 ?_
        rw [show nI (f0 + j * p0) + nI p0 = nI (f0 + j * p0 + p0) from nI_add _ _]
        refine lv_istore (lv' := [(4, .int (nI (f0 + j * p0 + p0))), (3, .int (nI (30 + 8 * l0))), (0, .ref (an)), (1, .int (nI l0)), (2, .int (nI e0))]) hx hb dL_leaves_29 hl (by decide) rfl (fun ls hl => ?_)
        refine lv_goto (tgt := 15) hx hb dL_leaves_31 (by decide) ?_
        exact ih (k - p0) (by omega) (j + 1) (by rw [Nat.add_mul]; omega) (Or.inr (by rw [Nat.add_mul]; omega)) H locs hH ls (by rw [show f0 + (j + 1) * p0 = f0 + j * p0 + p0 by rw [Nat.add_mul]; omega]; exact lv_sub hl [0, 1, 2, 3, 4] rfl)
  exact K e0 0 (by omega) (Or.inl rfl) _ _ hH ls (by rw [show f0 + 0 * p0 = f0 by omega]; exact lv_sub hl [0, 1, 2, 3, 4] rfl)
