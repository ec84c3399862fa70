set_option maxHeartbeats 1600000 in
set_option maxRecDepth 100000 in
theorem lL_isDelivered_X (l : Launch) (hlt : l.stackTraces = false) (Sc : SCR) (G : GT) (A : Nat → Prop) (h : AH) (b : BA) (c m : MM) (n : Nat) (L : LNum) (M : LRef) (o : Nat) (hJ : JW G.2.2.1 h b c L M) (ho : b 14 0 = o) (hwc : WFc c) (hS : Sim n c m) (hw : WFa m) (hI : IV m) (hn : n < 512) (i0 : Nat) (hi0 : i0 < 2 ^ 19) (p : Nat) (hp : p < npN m) (hz : ¬ (m 28 p = 115 ∧ m 15 p = m 14 p)) (an : Nat) (f : Nat → Int32) (hL : L an = some (700, f)) (hT : NT f m) : lcI l Sc G A yL_isDelivered cL_isDelivered 11 (Option.some FieldType.boolean) 13 443 8 48 [.ref (o), .ref (an), .ref (Sc.1), .int (nI i0), .int (nI p)] h (fun r h' => r = nI 1 ∧ ∃ b' f' m' n', JW G.2.2.1 h' b' (c) (setL L an 700 f') M ∧ b' 14 0 = o ∧ WFc (c) ∧ n' ≤ n + 1 ∧ Stt n' (c) m' ∧ NT f' m' ∧ Kp m m' ∧ UC c ≤ UC (c) ∧ US c ≤ US (c)) := by
  refine lm_of rfl (Nat.le_of_ble_eq_true rfl) ?_
  intro pr e s m9 below meth c9 C0 hN hr hH ls hl
  obtain ⟨hx, hb, hml, hown, hts, hK, hA, -⟩ := id C0
  have hl : lv_has ls 11 [(0, .ref (o)), (1, .ref (an)), (2, .ref (Sc.1)), (3, .int (nI i0)), (4, .int (nI p))] := hl
  have n40 := hw.np.2
  have n6 := hw.nh.2
  have nl12 := hw.nl.2
  have hNP := hT.pa hp
  have hin3 := inN_lt Sc i0 (n := 3) (by omega)
  have hxa := d_delX ⟨hS, hw, hI⟩ hwc hp hz
  refine lv_sipush (v := nI 140) hx hb dL_isDelivered_0 (by decide) ?_
  refine lv_bipush (v := nI 12) hx hb dL_isDelivered_3 (by decide) ?_
  refine lv_iload hx hb dL_isDelivered_5 (lv_at hl 4 rfl) ?_
  refine lv_imul hx hb dL_isDelivered_7 ?_
  rw [show nI 12 * nI p = nI (12 * p) from nI_mul]
  refine lv_iadd hx hb dL_isDelivered_8 ?_
  rw [show nI 140 + nI (12 * p) = nI (140 + 12 * p) from nI_add _ _]
  refine lv_istore (lv' := [(5, .int (nI (140 + 12 * p))), (0, .ref (o)), (1, .ref (an)), (2, .ref (Sc.1)), (3, .int (nI i0)), (4, .int (nI p))]) hx hb dL_isDelivered_9 hl (by decide) rfl (fun ls hl => ?_)
  refine lv_aload_n hx hb dL_isDelivered_11 rfl (lv_at hl 1 rfl) ?_
  refine lv_iload hx hb dL_isDelivered_12 (lv_at hl 5 rfl) ?_
  refine j_w0 (As := [.int (nI p)]) (rest := []) (v := m 28 p) C0 hN hH ho (lW_state (nI p) hJ.own hJ.obj (cN_X10_state l hlt G _ _ b c hJ.rest hwc (nI p) (v_nar28 hS hw hp) (v_pX hS hw hwc hp)) (fun E h9 z => absurd ((v_pX hS hw hwc hp).symm.trans z.1) (fun y => nomatch y))) (fun r h9 z => z.elim (fun y => ⟨y.2.1.trans ((v_pk hS hw hp (k := 28) rfl).trans rfl), y.2.2⟩) (fun ⟨E, y, _⟩ => absurd ((v_pX hS hw hwc hp).symm.trans y.1) (fun q => nomatch q))) ms_L_state ml_L_147 rfl ⟨Nat.le_of_ble_eq_true rfl, Nat.le_of_ble_eq_true rfl⟩ hl.1 rfl (Nat.le_of_ble_eq_true rfl) dL_isDelivered_14 ⟨by show _ ≤ 8; omega, by show _ ≤ 48; omega⟩ (fun H locs hH => ?_)
  refine lv_bipush (v := nI 115) hx hb dL_isDelivered_17 (by decide) ?_
  refine lv_icmp_ne (tgt := 41) hx hb dL_isDelivered_19 (by decide) (fun c19_1 => ?_) (fun c19_1 => ?_)
  · refine lv_iconst (v := nI 0) hx hb dL_isDelivered_41 (by decide) ?_
    refine lv_istore (lv' := [(6, .int (nI 0)), (5, .int (nI (140 + 12 * p))), (0, .ref (o)), (1, .ref (an)), (2, .ref (Sc.1)), (3, .int (nI i0)), (4, .int (nI p))]) hx hb dL_isDelivered_42 hl (by decide) rfl (fun ls hl => ?_)
    refine lv_aload_n hx hb dL_isDelivered_44 rfl (lv_at hl 4 rfl) ?_
    refine lv_iload_n hx hb dL_isDelivered_45 rfl (lv_at hl 5 rfl) ?_
    refine lv_iconst (v := nI 3) hx hb dL_isDelivered_46 (by decide) ?_
    refine k_i hH (k_lS (rest := []) C0 hN hH (lL_in l Sc G A _ i0 3 (by omega) (by omega) (by omega)) mv_L_in ml_L_106 rfl ⟨Nat.le_of_ble_eq_true rfl, Nat.le_of_ble_eq_true rfl⟩ hl.1 rfl (Nat.le_of_ble_eq_true rfl) dL_isDelivered_47 ⟨by show _ ≤ 8; omega, by show _ ≤ 48; omega⟩) (fun rr h1 H locs hp hH => ?_)
    obtain ⟨ea, eh⟩ := hp
    rw [eh] at hH
    rw [ea, show inN Sc i0 3 = inN Sc i0 3 from rfl]
    refine lv_if_ne (tgt := 57) hx hb dL_isDelivered_50 (by decide) (fun c50_2 => ?_) (fun c50_2 => ?_)
    · replace c50_2 : ¬ (inN Sc i0 3 = 0) := fun z => c50_2 ((nI_eq (a := inN Sc i0 3) (b := 0) (by omega) (by omega)).mpr z)
      refine lv_iconst (v := nI 0) hx hb dL_isDelivered_57 (by decide) ?_
      refine lv_istore (lv' := [(7, .int (nI 0)), (6, .int (nI 0)), (5, .int (nI (140 + 12 * p))), (0, .ref (o)), (1, .ref (an)), (2, .ref (Sc.1)), (3, .int (nI i0)), (4, .int (nI p))]) hx hb dL_isDelivered_58 hl (by decide) rfl (fun ls hl => ?_)
      refine lv_aload_n hx hb dL_isDelivered_60 rfl (lv_at hl 3 rfl) ?_
      refine lv_iload hx hb dL_isDelivered_61 (lv_at hl 7 rfl) ?_
      refine j_q0 (rest := []) C0 hH hJ ho (cN_X10_attempts l hlt G _ _ b c hJ.rest hwc (nI p) (v_pX hS hw hwc hp)) (v_pX hS hw hwc hp) (v := m 23 p) (v_pk hS hw hp (k := 23) rfl) mv_X10_attempts ml_L_166 rfl ⟨Nat.le_of_ble_eq_true rfl, Nat.le_of_ble_eq_true rfl⟩ hl.1 rfl (Nat.le_of_ble_eq_true rfl) dL_isDelivered_63 ⟨by show _ ≤ 8; omega, by show _ ≤ 48; omega⟩ (fun H locs hH => ?_)
      refine lv_iconst (v := nI 1) hx hb dL_isDelivered_66 (by decide) ?_
      refine lv_iadd hx hb dL_isDelivered_67 ?_
      refine lv_istore (lv' := [(8, .int ((m 23 p) + (nI 1))), (7, .int (nI 0)), (6, .int (nI 0)), (5, .int (nI (140 + 12 * p))), (0, .ref (o)), (1, .ref (an)), (2, .ref (Sc.1)), (3, .int (nI i0)), (4, .int (nI p))]) hx hb dL_isDelivered_68 hl (by decide) rfl (fun ls hl => ?_)
      refine lv_aload_n hx hb dL_isDelivered_70 rfl (lv_at hl 4 rfl) ?_
      refine lv_iload hx hb dL_isDelivered_71 (lv_at hl 8 rfl) ?_
      refine j_q0 (rest := []) C0 hH hJ ho (cN_X10_isReturn l hlt G _ _ b c hJ.rest hwc (nI p) (v_nar29 hS hw hp) (v_pX hS hw hwc hp)) (v_pX hS hw hwc hp) (v := m 29 p) (v_pk hS hw hp (k := 29) rfl) mv_X10_isReturn ml_L_151 rfl ⟨Nat.le_of_ble_eq_true rfl, Nat.le_of_ble_eq_true rfl⟩ hl.1 rfl (Nat.le_of_ble_eq_true rfl) dL_isDelivered_73 ⟨by show _ ≤ 8; omega, by show _ ≤ 48; omega⟩ (fun H locs hH => ?_)
      refine lv_istore (lv' := [(9, .int (m 29 p)), (8, .int ((m 23 p) + (nI 1))), (7, .int (nI 0)), (6, .int (nI 0)), (5, .int (nI (140 + 12 * p))), (0, .ref (o)), (1, .ref (an)), (2, .ref (Sc.1)), (3, .int (nI i0)), (4, .int (nI p))]) hx hb dL_isDelivered_76 hl (by decide) rfl (fun ls hl => ?_)
      refine lv_iload hx hb dL_isDelivered_78 (lv_at hl 3 rfl) ?_
      refine lv_if_ne (tgt := 88) hx hb dL_isDelivered_80 (by decide) (fun c80_3 => ?_) (fun c80_3 => ?_)
      · exact absurd (by decide) c80_3
      · refine lv_ldc hx hb hown (hts _ kl_L_20) dL_isDelivered_83 ?_
        refine lv_goto (tgt := 128) hx hb dL_isDelivered_85 (by decide) ?_
        refine lv_istore (lv' := [(10, .int (-900002)), (9, .int (m 29 p)), (8, .int ((m 23 p) + (nI 1))), (7, .int (nI 0)), (6, .int (nI 0)), (5, .int (nI (140 + 12 * p))), (0, .ref (o)), (1, .ref (an)), (2, .ref (Sc.1)), (3, .int (nI i0)), (4, .int (nI p))]) hx hb dL_isDelivered_128 hl (by decide) rfl (fun ls hl => ?_)
        refine lv_aload_n hx hb dL_isDelivered_130 rfl (lv_at hl 6 rfl) ?_
        refine lv_iload hx hb dL_isDelivered_131 (lv_at hl 10 rfl) ?_
        refine lv_iload hx hb dL_isDelivered_133 (lv_at hl 3 rfl) ?_
        refine j_w0 (As := [.int (nI p), .int (nI 0)]) (rest := []) (v := -900002) C0 hN hH ho (lW_deliver (nI p) (nI 0) hJ.own hJ.obj (cC_X10_deliver_no l hlt G _ _ b c hJ.rest hwc (nI p) (nI 0) (by rw [hxa]; exact fun z => nomatch z)) (hin_x hxa (fun E h9 z => z.1) ⟨_, List.mem_cons_of_mem _ List.mem_cons_self⟩)) (hv_x0 hxa rfl (fun r h9 z => z.1)) ms_L_deliver ml_L_169 rfl ⟨Nat.le_of_ble_eq_true rfl, Nat.le_of_ble_eq_true rfl⟩ hl.1 rfl (Nat.le_of_ble_eq_true rfl) dL_isDelivered_135 ⟨by show _ ≤ 8; omega, by show _ ≤ 48; omega⟩ (fun H locs hH => ?_)
        refine lv_iload hx hb dL_isDelivered_138 (lv_at hl 0 rfl) ?_
        refine lv_icmp_eq (tgt := 145) hx hb dL_isDelivered_140 (by decide) (fun c140_4 => ?_) (fun c140_4 => ?_)
        · refine lv_aload_n hx hb dL_isDelivered_145 rfl (lv_at hl 7 rfl) ?_
          refine lv_iload hx hb dL_isDelivered_146 (lv_at hl 5 rfl) ?_
          refine lv_bipush (v := nI 11) hx hb dL_isDelivered_148 (by decide) ?_
          refine lv_iadd hx hb dL_isDelivered_150 ?_
          rw [show nI (140 + 12 * p) + nI 11 = nI (140 + 12 * p + 11) from nI_add _ _]
          refine lv_iload hx hb dL_isDelivered_151 (lv_at hl 0 rfl) ?_
          refine lv_bipush (v := nI 100) hx hb dL_isDelivered_153 (by decide) ?_
          refine lv_icmp_ne (tgt := 165) hx hb dL_isDelivered_155 (by decide) (fun c155_5 => ?_) (fun c155_5 => ?_)
          · refine lv_aload_n hx hb dL_isDelivered_165 rfl (lv_at hl 7 rfl) ?_
            refine lv_iload hx hb dL_isDelivered_166 (lv_at hl 5 rfl) ?_
            refine lv_bipush (v := nI 11) hx hb dL_isDelivered_168 (by decide) ?_
            refine lv_iadd hx hb dL_isDelivered_170 ?_
            rw [show nI (140 + 12 * p) + nI 11 = nI (140 + 12 * p + 11) from nI_add _ _]
            refine j_ld C0 hH hJ hL (ix := 140 + 12 * p + 11) (by omega) (by decide) (v := if m 28 p = 100 then m 26 p else -1) hNP.g11 dL_isDelivered_171 ?_
            refine j_st C0 hH hJ hL (ix := 140 + 12 * p + 11) (by omega) (by decide) dL_isDelivered_172 (fun h H locs hH hJ => ?_)
            obtain ⟨f_6, hf_6⟩ : ∃ z, z = upF f (140 + 12 * p + 11) (if m 28 p = 100 then m 26 p else -1) := ⟨_, rfl⟩
            obtain ⟨L_7, hL_7⟩ : ∃ z, z = setL L an 700 f_6 := ⟨_, rfl⟩
            rw [← hf_6, ← hL_7] at hJ
            have hL_L_7 : L_7 an = some (700, f_6) := by rw [hL_7]; exact setL_s _ _ _ _
            refine lv_iload hx hb dL_isDelivered_173 (lv_at hl 0 rfl) ?_
            refine lv_bipush (v := nI 114) hx hb dL_isDelivered_175 (by decide) ?_
            refine lv_icmp_ne (tgt := 190) hx hb dL_isDelivered_177 (by decide) (fun c177_8 => ?_) (fun c177_8 => ?_)
            · refine lv_iload hx hb dL_isDelivered_190 (lv_at hl 0 rfl) ?_
              refine lv_ldc hx hb hown (hts _ kl_L_20) dL_isDelivered_192 ?_
              refine lv_icmp_eq (tgt := 238) hx hb dL_isDelivered_194 (by decide) (fun c194_9 => ?_) (fun c194_9 => ?_)
              · refine lv_iconst (v := nI 1) hx hb dL_isDelivered_238 (by decide) ?_
                refine lv_goto (tgt := 243) hx hb dL_isDelivered_239 (by decide) ?_
                have ef : f_6 = f := by rw [hf_6]; exact upF_id hNP.g11
                rw [hL_7] at hJ
                rw [ef] at hJ
                exact e_Z C0 hr (by decide) hH ⟨rfl, b, f, m, n, hJ, ho, hwc, by omega, ⟨hS, hw, hI⟩, hT, ⟨rfl, Nat.le_refl _, rfl⟩, Nat.le_refl _, Nat.le_refl _⟩ (by omega) (by omega) dL_isDelivered_243
              · exact absurd (by decide) c194_9
            · exact absurd c177_8 (by decide)
          · exact absurd c155_5 (by decide)
        · exact absurd (by decide) c140_4
    · replace c50_2 : inN Sc i0 3 = 0 := (nI_eq (a := inN Sc i0 3) (b := 0) (by omega) (by omega)).mp c50_2
      refine lv_iconst (v := nI 1) hx hb dL_isDelivered_53 (by decide) ?_
      refine lv_goto (tgt := 58) hx hb dL_isDelivered_54 (by decide) ?_
      refine lv_istore (lv' := [(7, .int (nI 1)), (6, .int (nI 0)), (5, .int (nI (140 + 12 * p))), (0, .ref (o)), (1, .ref (an)), (2, .ref (Sc.1)), (3, .int (nI i0)), (4, .int (nI p))]) hx hb dL_isDelivered_58 hl (by decide) rfl (fun ls hl => ?_)
      refine lv_aload_n hx hb dL_isDelivered_60 rfl (lv_at hl 3 rfl) ?_
      refine lv_iload hx hb dL_isDelivered_61 (lv_at hl 7 rfl) ?_
      refine j_q0 (rest := []) C0 hH hJ ho (cN_X10_attempts l hlt G _ _ b c hJ.rest hwc (nI p) (v_pX hS hw hwc hp)) (v_pX hS hw hwc hp) (v := m 23 p) (v_pk hS hw hp (k := 23) rfl) mv_X10_attempts ml_L_166 rfl ⟨Nat.le_of_ble_eq_true rfl, Nat.le_of_ble_eq_true rfl⟩ hl.1 rfl (Nat.le_of_ble_eq_true rfl) dL_isDelivered_63 ⟨by show _ ≤ 8; omega, by show _ ≤ 48; omega⟩ (fun H locs hH => ?_)
      refine lv_iconst (v := nI 1) hx hb dL_isDelivered_66 (by decide) ?_
      refine lv_iadd hx hb dL_isDelivered_67 ?_
      refine lv_istore (lv' := [(8, .int ((m 23 p) + (nI 1))), (7, .int (nI 1)), (6, .int (nI 0)), (5, .int (nI (140 + 12 * p))), (0, .ref (o)), (1, .ref (an)), (2, .ref (Sc.1)), (3, .int (nI i0)), (4, .int (nI p))]) hx hb dL_isDelivered_68 hl (by decide) rfl (fun ls hl => ?_)
      refine lv_aload_n hx hb dL_isDelivered_70 rfl (lv_at hl 4 rfl) ?_
      refine lv_iload hx hb dL_isDelivered_71 (lv_at hl 8 rfl) ?_
      refine j_q0 (rest := []) C0 hH hJ ho (cN_X10_isReturn l hlt G _ _ b c hJ.rest hwc (nI p) (v_nar29 hS hw hp) (v_pX hS hw hwc hp)) (v_pX hS hw hwc hp) (v := m 29 p) (v_pk hS hw hp (k := 29) rfl) mv_X10_isReturn ml_L_151 rfl ⟨Nat.le_of_ble_eq_true rfl, Nat.le_of_ble_eq_true rfl⟩ hl.1 rfl (Nat.le_of_ble_eq_true rfl) dL_isDelivered_73 ⟨by show _ ≤ 8; omega, by show _ ≤ 48; omega⟩ (fun H locs hH => ?_)
      refine lv_istore (lv' := [(9, .int (m 29 p)), (8, .int ((m 23 p) + (nI 1))), (7, .int (nI 1)), (6, .int (nI 0)), (5, .int (nI (140 + 12 * p))), (0, .ref (o)), (1, .ref (an)), (2, .ref (Sc.1)), (3, .int (nI i0)), (4, .int (nI p))]) hx hb dL_isDelivered_76 hl (by decide) rfl (fun ls hl => ?_)
      refine lv_iload hx hb dL_isDelivered_78 (lv_at hl 3 rfl) ?_
      refine lv_if_ne (tgt := 88) hx hb dL_isDelivered_80 (by decide) (fun c80_10 => ?_) (fun c80_10 => ?_)
      · exact absurd (by decide) c80_10
      · refine lv_ldc hx hb hown (hts _ kl_L_20) dL_isDelivered_83 ?_
        refine lv_goto (tgt := 128) hx hb dL_isDelivered_85 (by decide) ?_
        refine lv_istore (lv' := [(10, .int (-900002)), (9, .int (m 29 p)), (8, .int ((m 23 p) + (nI 1))), (7, .int (nI 1)), (6, .int (nI 0)), (5, .int (nI (140 + 12 * p))), (0, .ref (o)), (1, .ref (an)), (2, .ref (Sc.1)), (3, .int (nI i0)), (4, .int (nI p))]) hx hb dL_isDelivered_128 hl (by decide) rfl (fun ls hl => ?_)
        refine lv_aload_n hx hb dL_isDelivered_130 rfl (lv_at hl 6 rfl) ?_
        refine lv_iload hx hb dL_isDelivered_131 (lv_at hl 10 rfl) ?_
        refine lv_iload hx hb dL_isDelivered_133 (lv_at hl 3 rfl) ?_
        refine j_w0 (As := [.int (nI p), .int (nI 1)]) (rest := []) (v := -900002) C0 hN hH ho (lW_deliver (nI p) (nI 1) hJ.own hJ.obj (cC_X10_deliver_no l hlt G _ _ b c hJ.rest hwc (nI p) (nI 1) (by rw [hxa]; exact fun z => nomatch z)) (hin_x hxa (fun E h9 z => z.1) ⟨_, List.mem_cons_of_mem _ List.mem_cons_self⟩)) (hv_x0 hxa rfl (fun r h9 z => z.1)) ms_L_deliver ml_L_169 rfl ⟨Nat.le_of_ble_eq_true rfl, Nat.le_of_ble_eq_true rfl⟩ hl.1 rfl (Nat.le_of_ble_eq_true rfl) dL_isDelivered_135 ⟨by show _ ≤ 8; omega, by show _ ≤ 48; omega⟩ (fun H locs hH => ?_)
        refine lv_iload hx hb dL_isDelivered_138 (lv_at hl 0 rfl) ?_
        refine lv_icmp_eq (tgt := 145) hx hb dL_isDelivered_140 (by decide) (fun c140_11 => ?_) (fun c140_11 => ?_)
        · refine lv_aload_n hx hb dL_isDelivered_145 rfl (lv_at hl 7 rfl) ?_
          refine lv_iload hx hb dL_isDelivered_146 (lv_at hl 5 rfl) ?_
          refine lv_bipush (v := nI 11) hx hb dL_isDelivered_148 (by decide) ?_
          refine lv_iadd hx hb dL_isDelivered_150 ?_
          rw [show nI (140 + 12 * p) + nI 11 = nI (140 + 12 * p + 11) from nI_add _ _]
          refine lv_iload hx hb dL_isDelivered_151 (lv_at hl 0 rfl) ?_
          refine lv_bipush (v := nI 100) hx hb dL_isDelivered_153 (by decide) ?_
          refine lv_icmp_ne (tgt := 165) hx hb dL_isDelivered_155 (by decide) (fun c155_12 => ?_) (fun c155_12 => ?_)
          · refine lv_aload_n hx hb dL_isDelivered_165 rfl (lv_at hl 7 rfl) ?_
            refine lv_iload hx hb dL_isDelivered_166 (lv_at hl 5 rfl) ?_
            refine lv_bipush (v := nI 11) hx hb dL_isDelivered_168 (by decide) ?_
            refine lv_iadd hx hb dL_isDelivered_170 ?_
            rw [show nI (140 + 12 * p) + nI 11 = nI (140 + 12 * p + 11) from nI_add _ _]
            refine j_ld C0 hH hJ hL (ix := 140 + 12 * p + 11) (by omega) (by decide) (v := if m 28 p = 100 then m 26 p else -1) hNP.g11 dL_isDelivered_171 ?_
            refine j_st C0 hH hJ hL (ix := 140 + 12 * p + 11) (by omega) (by decide) dL_isDelivered_172 (fun h H locs hH hJ => ?_)
            obtain ⟨f_13, hf_13⟩ : ∃ z, z = upF f (140 + 12 * p + 11) (if m 28 p = 100 then m 26 p else -1) := ⟨_, rfl⟩
            obtain ⟨L_14, hL_14⟩ : ∃ z, z = setL L an 700 f_13 := ⟨_, rfl⟩
            rw [← hf_13, ← hL_14] at hJ
            have hL_L_14 : L_14 an = some (700, f_13) := by rw [hL_14]; exact setL_s _ _ _ _
            refine lv_iload hx hb dL_isDelivered_173 (lv_at hl 0 rfl) ?_
            refine lv_bipush (v := nI 114) hx hb dL_isDelivered_175 (by decide) ?_
            refine lv_icmp_ne (tgt := 190) hx hb dL_isDelivered_177 (by decide) (fun c177_15 => ?_) (fun c177_15 => ?_)
            · refine lv_iload hx hb dL_isDelivered_190 (lv_at hl 0 rfl) ?_
              refine lv_ldc hx hb hown (hts _ kl_L_20) dL_isDelivered_192 ?_
              refine lv_icmp_eq (tgt := 238) hx hb dL_isDelivered_194 (by decide) (fun c194_16 => ?_) (fun c194_16 => ?_)
              · refine lv_iconst (v := nI 1) hx hb dL_isDelivered_238 (by decide) ?_
                refine lv_goto (tgt := 243) hx hb dL_isDelivered_239 (by decide) ?_
                have ef : f_13 = f := by rw [hf_13]; exact upF_id hNP.g11
                rw [hL_14] at hJ
                rw [ef] at hJ
                exact e_Z C0 hr (by decide) hH ⟨rfl, b, f, m, n, hJ, ho, hwc, by omega, ⟨hS, hw, hI⟩, hT, ⟨rfl, Nat.le_refl _, rfl⟩, Nat.le_refl _, Nat.le_refl _⟩ (by omega) (by omega) dL_isDelivered_243
              · exact absurd (by decide) c194_16
            · exact absurd c177_15 (by decide)
          · exact absurd c155_12 (by decide)
        · exact absurd (by decide) c140_11
  · have h115 : m 28 p = 115 := c19_1
    refine lv_aload_n hx hb dL_isDelivered_22 rfl (lv_at hl 1 rfl) ?_
    refine lv_iload hx hb dL_isDelivered_23 (lv_at hl 5 rfl) ?_
    refine j_w0 (As := [.int (nI p)]) (rest := []) (v := m 15 p) C0 hN hH ho (lW_at (nI p) hJ.own hJ.obj (cN_X10_at l hlt G _ _ b c hJ.rest hwc (nI p) (v_at hS hw hwc hp (by rw [h115]; decide))) (fun E h9 z => absurd ((v_at hS hw hwc hp (by rw [h115]; decide)).symm.trans z.1) (fun y => nomatch y))) (fun r h9 z => z.elim (fun y => ⟨y.2.1.trans ((v_pk hS hw hp (k := 15) rfl).trans rfl), y.2.2⟩) (fun ⟨E, y, _⟩ => absurd ((v_at hS hw hwc hp (by rw [h115]; decide)).symm.trans y.1) (fun q => nomatch q))) ms_L_at ml_L_149 rfl ⟨Nat.le_of_ble_eq_true rfl, Nat.le_of_ble_eq_true rfl⟩ hl.1 rfl (Nat.le_of_ble_eq_true rfl) dL_isDelivered_25 ⟨by show _ ≤ 8; omega, by show _ ≤ 48; omega⟩ (fun H locs hH => ?_)
    refine lv_aload_n hx hb dL_isDelivered_28 rfl (lv_at hl 1 rfl) ?_
    refine lv_iload hx hb dL_isDelivered_29 (lv_at hl 5 rfl) ?_
    refine j_q0 (rest := [.int (m 15 p)]) C0 hH hJ ho (cN_X10_destination l hlt G _ _ b c hJ.rest hwc (nI p) (v_pX hS hw hwc hp)) (v_pX hS hw hwc hp) (v := m 14 p) (v_pk hS hw hp (k := 14) rfl) mv_X10_destination ml_L_128 rfl ⟨Nat.le_of_ble_eq_true rfl, Nat.le_of_ble_eq_true rfl⟩ hl.1 rfl (Nat.le_of_ble_eq_true rfl) dL_isDelivered_31 ⟨by show _ ≤ 8; omega, by show _ ≤ 48; omega⟩ (fun H locs hH => ?_)
    refine lv_icmp_ne (tgt := 41) hx hb dL_isDelivered_34 (by decide) (fun c34_17 => ?_) (fun c34_17 => ?_)
    · refine lv_iconst (v := nI 0) hx hb dL_isDelivered_41 (by decide) ?_
      refine lv_istore (lv' := [(6, .int (nI 0)), (5, .int (nI (140 + 12 * p))), (0, .ref (o)), (1, .ref (an)), (2, .ref (Sc.1)), (3, .int (nI i0)), (4, .int (nI p))]) hx hb dL_isDelivered_42 hl (by decide) rfl (fun ls hl => ?_)
      refine lv_aload_n hx hb dL_isDelivered_44 rfl (lv_at hl 4 rfl) ?_
      refine lv_iload_n hx hb dL_isDelivered_45 rfl (lv_at hl 5 rfl) ?_
      refine lv_iconst (v := nI 3) hx hb dL_isDelivered_46 (by decide) ?_
      refine k_i hH (k_lS (rest := []) C0 hN hH (lL_in l Sc G A _ i0 3 (by omega) (by omega) (by omega)) mv_L_in ml_L_106 rfl ⟨Nat.le_of_ble_eq_true rfl, Nat.le_of_ble_eq_true rfl⟩ hl.1 rfl (Nat.le_of_ble_eq_true rfl) dL_isDelivered_47 ⟨by show _ ≤ 8; omega, by show _ ≤ 48; omega⟩) (fun rr h1 H locs hp hH => ?_)
      obtain ⟨ea, eh⟩ := hp
      rw [eh] at hH
      rw [ea, show inN Sc i0 3 = inN Sc i0 3 from rfl]
      refine lv_if_ne (tgt := 57) hx hb dL_isDelivered_50 (by decide) (fun c50_18 => ?_) (fun c50_18 => ?_)
      · replace c50_18 : ¬ (inN Sc i0 3 = 0) := fun z => c50_18 ((nI_eq (a := inN Sc i0 3) (b := 0) (by omega) (by omega)).mpr z)
        refine lv_iconst (v := nI 0) hx hb dL_isDelivered_57 (by decide) ?_
        refine lv_istore (lv' := [(7, .int (nI 0)), (6, .int (nI 0)), (5, .int (nI (140 + 12 * p))), (0, .ref (o)), (1, .ref (an)), (2, .ref (Sc.1)), (3, .int (nI i0)), (4, .int (nI p))]) hx hb dL_isDelivered_58 hl (by decide) rfl (fun ls hl => ?_)
        refine lv_aload_n hx hb dL_isDelivered_60 rfl (lv_at hl 3 rfl) ?_
        refine lv_iload hx hb dL_isDelivered_61 (lv_at hl 7 rfl) ?_
        refine j_q0 (rest := []) C0 hH hJ ho (cN_X10_attempts l hlt G _ _ b c hJ.rest hwc (nI p) (v_pX hS hw hwc hp)) (v_pX hS hw hwc hp) (v := m 23 p) (v_pk hS hw hp (k := 23) rfl) mv_X10_attempts ml_L_166 rfl ⟨Nat.le_of_ble_eq_true rfl, Nat.le_of_ble_eq_true rfl⟩ hl.1 rfl (Nat.le_of_ble_eq_true rfl) dL_isDelivered_63 ⟨by show _ ≤ 8; omega, by show _ ≤ 48; omega⟩ (fun H locs hH => ?_)
        refine lv_iconst (v := nI 1) hx hb dL_isDelivered_66 (by decide) ?_
        refine lv_iadd hx hb dL_isDelivered_67 ?_
        refine lv_istore (lv' := [(8, .int ((m 23 p) + (nI 1))), (7, .int (nI 0)), (6, .int (nI 0)), (5, .int (nI (140 + 12 * p))), (0, .ref (o)), (1, .ref (an)), (2, .ref (Sc.1)), (3, .int (nI i0)), (4, .int (nI p))]) hx hb dL_isDelivered_68 hl (by decide) rfl (fun ls hl => ?_)
        refine lv_aload_n hx hb dL_isDelivered_70 rfl (lv_at hl 4 rfl) ?_
        refine lv_iload hx hb dL_isDelivered_71 (lv_at hl 8 rfl) ?_
        refine j_q0 (rest := []) C0 hH hJ ho (cN_X10_isReturn l hlt G _ _ b c hJ.rest hwc (nI p) (v_nar29 hS hw hp) (v_pX hS hw hwc hp)) (v_pX hS hw hwc hp) (v := m 29 p) (v_pk hS hw hp (k := 29) rfl) mv_X10_isReturn ml_L_151 rfl ⟨Nat.le_of_ble_eq_true rfl, Nat.le_of_ble_eq_true rfl⟩ hl.1 rfl (Nat.le_of_ble_eq_true rfl) dL_isDelivered_73 ⟨by show _ ≤ 8; omega, by show _ ≤ 48; omega⟩ (fun H locs hH => ?_)
        refine lv_istore (lv' := [(9, .int (m 29 p)), (8, .int ((m 23 p) + (nI 1))), (7, .int (nI 0)), (6, .int (nI 0)), (5, .int (nI (140 + 12 * p))), (0, .ref (o)), (1, .ref (an)), (2, .ref (Sc.1)), (3, .int (nI i0)), (4, .int (nI p))]) hx hb dL_isDelivered_76 hl (by decide) rfl (fun ls hl => ?_)
        refine lv_iload hx hb dL_isDelivered_78 (lv_at hl 3 rfl) ?_
        refine lv_if_ne (tgt := 88) hx hb dL_isDelivered_80 (by decide) (fun c80_19 => ?_) (fun c80_19 => ?_)
        · exact absurd (by decide) c80_19
        · refine lv_ldc hx hb hown (hts _ kl_L_20) dL_isDelivered_83 ?_
          refine lv_goto (tgt := 128) hx hb dL_isDelivered_85 (by decide) ?_
          refine lv_istore (lv' := [(10, .int (-900002)), (9, .int (m 29 p)), (8, .int ((m 23 p) + (nI 1))), (7, .int (nI 0)), (6, .int (nI 0)), (5, .int (nI (140 + 12 * p))), (0, .ref (o)), (1, .ref (an)), (2, .ref (Sc.1)), (3, .int (nI i0)), (4, .int (nI p))]) hx hb dL_isDelivered_128 hl (by decide) rfl (fun ls hl => ?_)
          refine lv_aload_n hx hb dL_isDelivered_130 rfl (lv_at hl 6 rfl) ?_
          refine lv_iload hx hb dL_isDelivered_131 (lv_at hl 10 rfl) ?_
          refine lv_iload hx hb dL_isDelivered_133 (lv_at hl 3 rfl) ?_
          refine j_w0 (As := [.int (nI p), .int (nI 0)]) (rest := []) (v := -900002) C0 hN hH ho (lW_deliver (nI p) (nI 0) hJ.own hJ.obj (cC_X10_deliver_no l hlt G _ _ b c hJ.rest hwc (nI p) (nI 0) (by rw [hxa]; exact fun z => nomatch z)) (hin_x hxa (fun E h9 z => z.1) ⟨_, List.mem_cons_of_mem _ List.mem_cons_self⟩)) (hv_x0 hxa rfl (fun r h9 z => z.1)) ms_L_deliver ml_L_169 rfl ⟨Nat.le_of_ble_eq_true rfl, Nat.le_of_ble_eq_true rfl⟩ hl.1 rfl (Nat.le_of_ble_eq_true rfl) dL_isDelivered_135 ⟨by show _ ≤ 8; omega, by show _ ≤ 48; omega⟩ (fun H locs hH => ?_)
          refine lv_iload hx hb dL_isDelivered_138 (lv_at hl 0 rfl) ?_
          refine lv_icmp_eq (tgt := 145) hx hb dL_isDelivered_140 (by decide) (fun c140_20 => ?_) (fun c140_20 => ?_)
          · refine lv_aload_n hx hb dL_isDelivered_145 rfl (lv_at hl 7 rfl) ?_
            refine lv_iload hx hb dL_isDelivered_146 (lv_at hl 5 rfl) ?_
            refine lv_bipush (v := nI 11) hx hb dL_isDelivered_148 (by decide) ?_
            refine lv_iadd hx hb dL_isDelivered_150 ?_
            rw [show nI (140 + 12 * p) + nI 11 = nI (140 + 12 * p + 11) from nI_add _ _]
            refine lv_iload hx hb dL_isDelivered_151 (lv_at hl 0 rfl) ?_
            refine lv_bipush (v := nI 100) hx hb dL_isDelivered_153 (by decide) ?_
            refine lv_icmp_ne (tgt := 165) hx hb dL_isDelivered_155 (by decide) (fun c155_21 => ?_) (fun c155_21 => ?_)
            · refine lv_aload_n hx hb dL_isDelivered_165 rfl (lv_at hl 7 rfl) ?_
              refine lv_iload hx hb dL_isDelivered_166 (lv_at hl 5 rfl) ?_
              refine lv_bipush (v := nI 11) hx hb dL_isDelivered_168 (by decide) ?_
              refine lv_iadd hx hb dL_isDelivered_170 ?_
              rw [show nI (140 + 12 * p) + nI 11 = nI (140 + 12 * p + 11) from nI_add _ _]
              refine j_ld C0 hH hJ hL (ix := 140 + 12 * p + 11) (by omega) (by decide) (v := if m 28 p = 100 then m 26 p else -1) hNP.g11 dL_isDelivered_171 ?_
              refine j_st C0 hH hJ hL (ix := 140 + 12 * p + 11) (by omega) (by decide) dL_isDelivered_172 (fun h H locs hH hJ => ?_)
              obtain ⟨f_22, hf_22⟩ : ∃ z, z = upF f (140 + 12 * p + 11) (if m 28 p = 100 then m 26 p else -1) := ⟨_, rfl⟩
              obtain ⟨L_23, hL_23⟩ : ∃ z, z = setL L an 700 f_22 := ⟨_, rfl⟩
              rw [← hf_22, ← hL_23] at hJ
              have hL_L_23 : L_23 an = some (700, f_22) := by rw [hL_23]; exact setL_s _ _ _ _
              refine lv_iload hx hb dL_isDelivered_173 (lv_at hl 0 rfl) ?_
              refine lv_bipush (v := nI 114) hx hb dL_isDelivered_175 (by decide) ?_
              refine lv_icmp_ne (tgt := 190) hx hb dL_isDelivered_177 (by decide) (fun c177_24 => ?_) (fun c177_24 => ?_)
              · refine lv_iload hx hb dL_isDelivered_190 (lv_at hl 0 rfl) ?_
                refine lv_ldc hx hb hown (hts _ kl_L_20) dL_isDelivered_192 ?_
                refine lv_icmp_eq (tgt := 238) hx hb dL_isDelivered_194 (by decide) (fun c194_25 => ?_) (fun c194_25 => ?_)
                · refine lv_iconst (v := nI 1) hx hb dL_isDelivered_238 (by decide) ?_
                  refine lv_goto (tgt := 243) hx hb dL_isDelivered_239 (by decide) ?_
                  have ef : f_22 = f := by rw [hf_22]; exact upF_id hNP.g11
                  rw [hL_23] at hJ
                  rw [ef] at hJ
                  exact e_Z C0 hr (by decide) hH ⟨rfl, b, f, m, n, hJ, ho, hwc, by omega, ⟨hS, hw, hI⟩, hT, ⟨rfl, Nat.le_refl _, rfl⟩, Nat.le_refl _, Nat.le_refl _⟩ (by omega) (by omega) dL_isDelivered_243
                · exact absurd (by decide) c194_25
              · exact absurd c177_24 (by decide)
            · exact absurd c155_21 (by decide)
          · exact absurd (by decide) c140_20
      · replace c50_18 : inN Sc i0 3 = 0 := (nI_eq (a := inN Sc i0 3) (b := 0) (by omega) (by omega)).mp c50_18
        refine lv_iconst (v := nI 1) hx hb dL_isDelivered_53 (by decide) ?_
        refine lv_goto (tgt := 58) hx hb dL_isDelivered_54 (by decide) ?_
        refine lv_istore (lv' := [(7, .int (nI 1)), (6, .int (nI 0)), (5, .int (nI (140 + 12 * p))), (0, .ref (o)), (1, .ref (an)), (2, .ref (Sc.1)), (3, .int (nI i0)), (4, .int (nI p))]) hx hb dL_isDelivered_58 hl (by decide) rfl (fun ls hl => ?_)
        refine lv_aload_n hx hb dL_isDelivered_60 rfl (lv_at hl 3 rfl) ?_
        refine lv_iload hx hb dL_isDelivered_61 (lv_at hl 7 rfl) ?_
        refine j_q0 (rest := []) C0 hH hJ ho (cN_X10_attempts l hlt G _ _ b c hJ.rest hwc (nI p) (v_pX hS hw hwc hp)) (v_pX hS hw hwc hp) (v := m 23 p) (v_pk hS hw hp (k := 23) rfl) mv_X10_attempts ml_L_166 rfl ⟨Nat.le_of_ble_eq_true rfl, Nat.le_of_ble_eq_true rfl⟩ hl.1 rfl (Nat.le_of_ble_eq_true rfl) dL_isDelivered_63 ⟨by show _ ≤ 8; omega, by show _ ≤ 48; omega⟩ (fun H locs hH => ?_)
        refine lv_iconst (v := nI 1) hx hb dL_isDelivered_66 (by decide) ?_
        refine lv_iadd hx hb dL_isDelivered_67 ?_
        refine lv_istore (lv' := [(8, .int ((m 23 p) + (nI 1))), (7, .int (nI 1)), (6, .int (nI 0)), (5, .int (nI (140 + 12 * p))), (0, .ref (o)), (1, .ref (an)), (2, .ref (Sc.1)), (3, .int (nI i0)), (4, .int (nI p))]) hx hb dL_isDelivered_68 hl (by decide) rfl (fun ls hl => ?_)
        refine lv_aload_n hx hb dL_isDelivered_70 rfl (lv_at hl 4 rfl) ?_
        refine lv_iload hx hb dL_isDelivered_71 (lv_at hl 8 rfl) ?_
        refine j_q0 (rest := []) C0 hH hJ ho (cN_X10_isReturn l hlt G _ _ b c hJ.rest hwc (nI p) (v_nar29 hS hw hp) (v_pX hS hw hwc hp)) (v_pX hS hw hwc hp) (v := m 29 p) (v_pk hS hw hp (k := 29) rfl) mv_X10_isReturn ml_L_151 rfl ⟨Nat.le_of_ble_eq_true rfl, Nat.le_of_ble_eq_true rfl⟩ hl.1 rfl (Nat.le_of_ble_eq_true rfl) dL_isDelivered_73 ⟨by show _ ≤ 8; omega, by show _ ≤ 48; omega⟩ (fun H locs hH => ?_)
        refine lv_istore (lv' := [(9, .int (m 29 p)), (8, .int ((m 23 p) + (nI 1))), (7, .int (nI 1)), (6, .int (nI 0)), (5, .int (nI (140 + 12 * p))), (0, .ref (o)), (1, .ref (an)), (2, .ref (Sc.1)), (3, .int (nI i0)), (4, .int (nI p))]) hx hb dL_isDelivered_76 hl (by decide) rfl (fun ls hl => ?_)
        refine lv_iload hx hb dL_isDelivered_78 (lv_at hl 3 rfl) ?_
        refine lv_if_ne (tgt := 88) hx hb dL_isDelivered_80 (by decide) (fun c80_26 => ?_) (fun c80_26 => ?_)
        · exact absurd (by decide) c80_26
        · refine lv_ldc hx hb hown (hts _ kl_L_20) dL_isDelivered_83 ?_
          refine lv_goto (tgt := 128) hx hb dL_isDelivered_85 (by decide) ?_
          refine lv_istore (lv' := [(10, .int (-900002)), (9, .int (m 29 p)), (8, .int ((m 23 p) + (nI 1))), (7, .int (nI 1)), (6, .int (nI 0)), (5, .int (nI (140 + 12 * p))), (0, .ref (o)), (1, .ref (an)), (2, .ref (Sc.1)), (3, .int (nI i0)), (4, .int (nI p))]) hx hb dL_isDelivered_128 hl (by decide) rfl (fun ls hl => ?_)
          refine lv_aload_n hx hb dL_isDelivered_130 rfl (lv_at hl 6 rfl) ?_
          refine lv_iload hx hb dL_isDelivered_131 (lv_at hl 10 rfl) ?_
          refine lv_iload hx hb dL_isDelivered_133 (lv_at hl 3 rfl) ?_
          refine j_w0 (As := [.int (nI p), .int (nI 1)]) (rest := []) (v := -900002) C0 hN hH ho (lW_deliver (nI p) (nI 1) hJ.own hJ.obj (cC_X10_deliver_no l hlt G _ _ b c hJ.rest hwc (nI p) (nI 1) (by rw [hxa]; exact fun z => nomatch z)) (hin_x hxa (fun E h9 z => z.1) ⟨_, List.mem_cons_of_mem _ List.mem_cons_self⟩)) (hv_x0 hxa rfl (fun r h9 z => z.1)) ms_L_deliver ml_L_169 rfl ⟨Nat.le_of_ble_eq_true rfl, Nat.le_of_ble_eq_true rfl⟩ hl.1 rfl (Nat.le_of_ble_eq_true rfl) dL_isDelivered_135 ⟨by show _ ≤ 8; omega, by show _ ≤ 48; omega⟩ (fun H locs hH => ?_)
          refine lv_iload hx hb dL_isDelivered_138 (lv_at hl 0 rfl) ?_
          refine lv_icmp_eq (tgt := 145) hx hb dL_isDelivered_140 (by decide) (fun c140_27 => ?_) (fun c140_27 => ?_)
          · refine lv_aload_n hx hb dL_isDelivered_145 rfl (lv_at hl 7 rfl) ?_
            refine lv_iload hx hb dL_isDelivered_146 (lv_at hl 5 rfl) ?_
            refine lv_bipush (v := nI 11) hx hb dL_isDelivered_148 (by decide) ?_
            refine lv_iadd hx hb dL_isDelivered_150 ?_
            rw [show nI (140 + 12 * p) + nI 11 = nI (140 + 12 * p + 11) from nI_add _ _]
            refine lv_iload hx hb dL_isDelivered_151 (lv_at hl 0 rfl) ?_
            refine lv_bipush (v := nI 100) hx hb dL_isDelivered_153 (by decide) ?_
            refine lv_icmp_ne (tgt := 165) hx hb dL_isDelivered_155 (by decide) (fun c155_28 => ?_) (fun c155_28 => ?_)
            · refine lv_aload_n hx hb dL_isDelivered_165 rfl (lv_at hl 7 rfl) ?_
              refine lv_iload hx hb dL_isDelivered_166 (lv_at hl 5 rfl) ?_
              refine lv_bipush (v := nI 11) hx hb dL_isDelivered_168 (by decide) ?_
              refine lv_iadd hx hb dL_isDelivered_170 ?_
              rw [show nI (140 + 12 * p) + nI 11 = nI (140 + 12 * p + 11) from nI_add _ _]
              refine j_ld C0 hH hJ hL (ix := 140 + 12 * p + 11) (by omega) (by decide) (v := if m 28 p = 100 then m 26 p else -1) hNP.g11 dL_isDelivered_171 ?_
              refine j_st C0 hH hJ hL (ix := 140 + 12 * p + 11) (by omega) (by decide) dL_isDelivered_172 (fun h H locs hH hJ => ?_)
              obtain ⟨f_29, hf_29⟩ : ∃ z, z = upF f (140 + 12 * p + 11) (if m 28 p = 100 then m 26 p else -1) := ⟨_, rfl⟩
              obtain ⟨L_30, hL_30⟩ : ∃ z, z = setL L an 700 f_29 := ⟨_, rfl⟩
              rw [← hf_29, ← hL_30] at hJ
              have hL_L_30 : L_30 an = some (700, f_29) := by rw [hL_30]; exact setL_s _ _ _ _
              refine lv_iload hx hb dL_isDelivered_173 (lv_at hl 0 rfl) ?_
              refine lv_bipush (v := nI 114) hx hb dL_isDelivered_175 (by decide) ?_
              refine lv_icmp_ne (tgt := 190) hx hb dL_isDelivered_177 (by decide) (fun c177_31 => ?_) (fun c177_31 => ?_)
              · refine lv_iload hx hb dL_isDelivered_190 (lv_at hl 0 rfl) ?_
                refine lv_ldc hx hb hown (hts _ kl_L_20) dL_isDelivered_192 ?_
                refine lv_icmp_eq (tgt := 238) hx hb dL_isDelivered_194 (by decide) (fun c194_32 => ?_) (fun c194_32 => ?_)
                · refine lv_iconst (v := nI 1) hx hb dL_isDelivered_238 (by decide) ?_
                  refine lv_goto (tgt := 243) hx hb dL_isDelivered_239 (by decide) ?_
                  have ef : f_29 = f := by rw [hf_29]; exact upF_id hNP.g11
                  rw [hL_30] at hJ
                  rw [ef] at hJ
                  exact e_Z C0 hr (by decide) hH ⟨rfl, b, f, m, n, hJ, ho, hwc, by omega, ⟨hS, hw, hI⟩, hT, ⟨rfl, Nat.le_refl _, rfl⟩, Nat.le_refl _, Nat.le_refl _⟩ (by omega) (by omega) dL_isDelivered_243
                · exact absurd (by decide) c194_32
              · exact absurd c177_31 (by decide)
            · exact absurd c155_28 (by decide)
          · exact absurd (by decide) c140_27
    · exact absurd ⟨c19_1, c34_17⟩ hz
set_option maxHeartbeats 1600000 in
set_option maxRecDepth 100000 in
theorem lL_isDelivered_D (l : Launch) (hlt : l.stackTraces = false) (Sc : SCR) (G : GT) (A : Nat → Prop) (h : AH) (b : BA) (c m : MM) (n : Nat) (L : LNum) (M : LRef) (o : Nat) (hJ : JW G.2.2.1 h b c L M) (ho : b 14 0 = o) (hwc : WFc c) (hS : Sim n c m) (hw : WFa m) (hI : IV m) (hn : n < 512) (i0 : Nat) (hi0 : i0 < 2 ^ 19) (p : Nat) (hp : p < npN m) (z1 : m 28 p = 115) (z2 : m 15 p = m 14 p) (ht : inN Sc i0 3 = 0) (an : Nat) (f : Nat → Int32) (hL : L an = some (700, f)) (hT : NT f m) : lcI l Sc G A yL_isDelivered cL_isDelivered 11 (Option.some FieldType.boolean) 13 443 (8 + (UC (cDel c (nI p) (nI 1)) - UC c)) (48 + (US (cDel c (nI p) (nI 1)) - US c)) [.ref (o), .ref (an), .ref (Sc.1), .int (nI i0), .int (nI p)] h (fun r h' => r = nI 1 ∧ ∃ b' f' m' n', JW G.2.2.1 h' b' (cDel c (nI p) (nI 1)) (setL L an 700 f') M ∧ b' 14 0 = o ∧ WFc (cDel c (nI p) (nI 1)) ∧ n' ≤ n + 1 ∧ Stt n' (cDel c (nI p) (nI 1)) m' ∧ NT f' m' ∧ Kp m m' ∧ UC c ≤ UC (cDel c (nI p) (nI 1)) ∧ US c ≤ US (cDel c (nI p) (nI 1))) := by
  refine lm_of rfl (Nat.le_of_ble_eq_true rfl) ?_
  intro pr e s m9 below meth c9 C0 hN hr hH ls hl
  obtain ⟨hx, hb, hml, hown, hts, hK, hA, -⟩ := id C0
  have hl : lv_has ls 11 [(0, .ref (o)), (1, .ref (an)), (2, .ref (Sc.1)), (3, .int (nI i0)), (4, .int (nI p))] := hl
  have n40 := hw.np.2
  have n6 := hw.nh.2
  have nl12 := hw.nl.2
  have hNP := hT.pa hp
  have hin3 := inN_lt Sc i0 (n := 3) (by omega)
  obtain ⟨hxa, hRa, m1, hSt1, hO1, hP1⟩ := d_delD ⟨hS, hw, hI⟩ hwc hn hp z1 z2 (t := nI 1) (by decide)
  have hg9 := (gm_del hwc (nI p) (nI 1)).1
  rw [if_pos hxa] at hg9
  have hw1 := hSt1.2.1
  have hS1 := hSt1.1
  have hp1 : p < npN m1 := by rw [npN_ext (hO1.1 39 ⟨by unfold oK; omega, by omega⟩)]; exact hp
  have h41 : m1 41 0 = m 41 0 := by rw [hO1.1 41 ⟨by unfold oK; omega, by omega⟩]
  obtain ⟨d1, d2, d3, d4⟩ := id hP1
  refine lv_sipush (v := nI 140) hx hb dL_isDelivered_0 (by decide) ?_
  refine lv_bipush (v := nI 12) hx hb dL_isDelivered_3 (by decide) ?_
  refine lv_iload hx hb dL_isDelivered_5 (lv_at hl 4 rfl) ?_
  refine lv_imul hx hb dL_isDelivered_7 ?_
  rw [show nI 12 * nI p = nI (12 * p) from nI_mul]
  refine lv_iadd hx hb dL_isDelivered_8 ?_
  rw [show nI 140 + nI (12 * p) = nI (140 + 12 * p) from nI_add _ _]
  refine lv_istore (lv' := [(5, .int (nI (140 + 12 * p))), (0, .ref (o)), (1, .ref (an)), (2, .ref (Sc.1)), (3, .int (nI i0)), (4, .int (nI p))]) hx hb dL_isDelivered_9 hl (by decide) rfl (fun ls hl => ?_)
  refine lv_aload_n hx hb dL_isDelivered_11 rfl (lv_at hl 1 rfl) ?_
  refine lv_iload hx hb dL_isDelivered_12 (lv_at hl 5 rfl) ?_
  refine j_w0 (As := [.int (nI p)]) (rest := []) (v := nI 115) C0 hN hH ho (lW_state (nI p) hJ.own hJ.obj (cN_X10_state l hlt G _ _ b c hJ.rest hwc (nI p) (v_nar28 hS hw hp) (v_pX hS hw hwc hp)) (fun E h9 z => absurd ((v_pX hS hw hwc hp).symm.trans z.1) (fun y => nomatch y))) (fun r h9 z => z.elim (fun y => ⟨y.2.1.trans ((v_pk hS hw hp (k := 28) rfl).trans z1), y.2.2⟩) (fun ⟨E, y, _⟩ => absurd ((v_pX hS hw hwc hp).symm.trans y.1) (fun q => nomatch q))) ms_L_state ml_L_147 rfl ⟨Nat.le_of_ble_eq_true rfl, Nat.le_of_ble_eq_true rfl⟩ hl.1 rfl (Nat.le_of_ble_eq_true rfl) dL_isDelivered_14 ⟨by show _ ≤ 8 + (UC (cDel c (nI p) (nI 1)) - UC c); omega, by show _ ≤ 48 + (US (cDel c (nI p) (nI 1)) - US c); omega⟩ (fun H locs hH => ?_)
  refine lv_bipush (v := nI 115) hx hb dL_isDelivered_17 (by decide) ?_
  refine lv_icmp_ne (tgt := 41) hx hb dL_isDelivered_19 (by decide) (fun c19_1 => ?_) (fun c19_1 => ?_)
  · exact absurd (by decide) c19_1
  · refine lv_aload_n hx hb dL_isDelivered_22 rfl (lv_at hl 1 rfl) ?_
    refine lv_iload hx hb dL_isDelivered_23 (lv_at hl 5 rfl) ?_
    refine j_w0 (As := [.int (nI p)]) (rest := []) (v := m 14 p) C0 hN hH ho (lW_at (nI p) hJ.own hJ.obj (cN_X10_at l hlt G _ _ b c hJ.rest hwc (nI p) (v_at hS hw hwc hp (by rw [z1]; decide))) (fun E h9 z => absurd ((v_at hS hw hwc hp (by rw [z1]; decide)).symm.trans z.1) (fun y => nomatch y))) (fun r h9 z => z.elim (fun y => ⟨y.2.1.trans ((v_pk hS hw hp (k := 15) rfl).trans z2), y.2.2⟩) (fun ⟨E, y, _⟩ => absurd ((v_at hS hw hwc hp (by rw [z1]; decide)).symm.trans y.1) (fun q => nomatch q))) ms_L_at ml_L_149 rfl ⟨Nat.le_of_ble_eq_true rfl, Nat.le_of_ble_eq_true rfl⟩ hl.1 rfl (Nat.le_of_ble_eq_true rfl) dL_isDelivered_25 ⟨by show _ ≤ 8 + (UC (cDel c (nI p) (nI 1)) - UC c); omega, by show _ ≤ 48 + (US (cDel c (nI p) (nI 1)) - US c); omega⟩ (fun H locs hH => ?_)
    refine lv_aload_n hx hb dL_isDelivered_28 rfl (lv_at hl 1 rfl) ?_
    refine lv_iload hx hb dL_isDelivered_29 (lv_at hl 5 rfl) ?_
    refine j_q0 (rest := [.int (m 14 p)]) C0 hH hJ ho (cN_X10_destination l hlt G _ _ b c hJ.rest hwc (nI p) (v_pX hS hw hwc hp)) (v_pX hS hw hwc hp) (v := m 14 p) (v_pk hS hw hp (k := 14) rfl) mv_X10_destination ml_L_128 rfl ⟨Nat.le_of_ble_eq_true rfl, Nat.le_of_ble_eq_true rfl⟩ hl.1 rfl (Nat.le_of_ble_eq_true rfl) dL_isDelivered_31 ⟨by show _ ≤ 8 + (UC (cDel c (nI p) (nI 1)) - UC c); omega, by show _ ≤ 48 + (US (cDel c (nI p) (nI 1)) - US c); omega⟩ (fun H locs hH => ?_)
    refine lv_icmp_ne (tgt := 41) hx hb dL_isDelivered_34 (by decide) (fun c34_2 => ?_) (fun c34_2 => ?_)
    · exact absurd rfl c34_2
    · refine lv_iconst (v := nI 1) hx hb dL_isDelivered_37 (by decide) ?_
      refine lv_goto (tgt := 42) hx hb dL_isDelivered_38 (by decide) ?_
      refine lv_istore (lv' := [(6, .int (nI 1)), (5, .int (nI (140 + 12 * p))), (0, .ref (o)), (1, .ref (an)), (2, .ref (Sc.1)), (3, .int (nI i0)), (4, .int (nI p))]) hx hb dL_isDelivered_42 hl (by decide) rfl (fun ls hl => ?_)
      refine lv_aload_n hx hb dL_isDelivered_44 rfl (lv_at hl 4 rfl) ?_
      refine lv_iload_n hx hb dL_isDelivered_45 rfl (lv_at hl 5 rfl) ?_
      refine lv_iconst (v := nI 3) hx hb dL_isDelivered_46 (by decide) ?_
      refine k_i hH (k_lS (rest := []) C0 hN hH (lL_in l Sc G A _ i0 3 (by omega) (by omega) (by omega)) mv_L_in ml_L_106 rfl ⟨Nat.le_of_ble_eq_true rfl, Nat.le_of_ble_eq_true rfl⟩ hl.1 rfl (Nat.le_of_ble_eq_true rfl) dL_isDelivered_47 ⟨by show _ ≤ 8 + (UC (cDel c (nI p) (nI 1)) - UC c); omega, by show _ ≤ 48 + (US (cDel c (nI p) (nI 1)) - US c); omega⟩) (fun rr h1 H locs hp hH => ?_)
      obtain ⟨ea, eh⟩ := hp
      rw [eh] at hH
      rw [ea, show inN Sc i0 3 = inN Sc i0 3 from rfl]
      refine lv_if_ne (tgt := 57) hx hb dL_isDelivered_50 (by decide) (fun c50_3 => ?_) (fun c50_3 => ?_)
      · exact absurd ((nI_eq (a := inN Sc i0 3) (b := 0) (by omega) (by omega)).mpr ht) c50_3
      · replace c50_3 : inN Sc i0 3 = 0 := (nI_eq (a := inN Sc i0 3) (b := 0) (by omega) (by omega)).mp c50_3
        refine lv_iconst (v := nI 1) hx hb dL_isDelivered_53 (by decide) ?_
        refine lv_goto (tgt := 58) hx hb dL_isDelivered_54 (by decide) ?_
        refine lv_istore (lv' := [(7, .int (nI 1)), (6, .int (nI 1)), (5, .int (nI (140 + 12 * p))), (0, .ref (o)), (1, .ref (an)), (2, .ref (Sc.1)), (3, .int (nI i0)), (4, .int (nI p))]) hx hb dL_isDelivered_58 hl (by decide) rfl (fun ls hl => ?_)
        refine lv_aload_n hx hb dL_isDelivered_60 rfl (lv_at hl 3 rfl) ?_
        refine lv_iload hx hb dL_isDelivered_61 (lv_at hl 7 rfl) ?_
        refine j_q0 (rest := []) C0 hH hJ ho (cN_X10_attempts l hlt G _ _ b c hJ.rest hwc (nI p) (v_pX hS hw hwc hp)) (v_pX hS hw hwc hp) (v := m 23 p) (v_pk hS hw hp (k := 23) rfl) mv_X10_attempts ml_L_166 rfl ⟨Nat.le_of_ble_eq_true rfl, Nat.le_of_ble_eq_true rfl⟩ hl.1 rfl (Nat.le_of_ble_eq_true rfl) dL_isDelivered_63 ⟨by show _ ≤ 8 + (UC (cDel c (nI p) (nI 1)) - UC c); omega, by show _ ≤ 48 + (US (cDel c (nI p) (nI 1)) - US c); omega⟩ (fun H locs hH => ?_)
        refine lv_iconst (v := nI 1) hx hb dL_isDelivered_66 (by decide) ?_
        refine lv_iadd hx hb dL_isDelivered_67 ?_
        refine lv_istore (lv' := [(8, .int ((m 23 p) + (nI 1))), (7, .int (nI 1)), (6, .int (nI 1)), (5, .int (nI (140 + 12 * p))), (0, .ref (o)), (1, .ref (an)), (2, .ref (Sc.1)), (3, .int (nI i0)), (4, .int (nI p))]) hx hb dL_isDelivered_68 hl (by decide) rfl (fun ls hl => ?_)
        refine lv_aload_n hx hb dL_isDelivered_70 rfl (lv_at hl 4 rfl) ?_
        refine lv_iload hx hb dL_isDelivered_71 (lv_at hl 8 rfl) ?_
        refine j_q0 (rest := []) C0 hH hJ ho (cN_X10_isReturn l hlt G _ _ b c hJ.rest hwc (nI p) (v_nar29 hS hw hp) (v_pX hS hw hwc hp)) (v_pX hS hw hwc hp) (v := m 29 p) (v_pk hS hw hp (k := 29) rfl) mv_X10_isReturn ml_L_151 rfl ⟨Nat.le_of_ble_eq_true rfl, Nat.le_of_ble_eq_true rfl⟩ hl.1 rfl (Nat.le_of_ble_eq_true rfl) dL_isDelivered_73 ⟨by show _ ≤ 8 + (UC (cDel c (nI p) (nI 1)) - UC c); omega, by show _ ≤ 48 + (US (cDel c (nI p) (nI 1)) - US c); omega⟩ (fun H locs hH => ?_)
        refine lv_istore (lv' := [(9, .int (m 29 p)), (8, .int ((m 23 p) + (nI 1))), (7, .int (nI 1)), (6, .int (nI 1)), (5, .int (nI (140 + 12 * p))), (0, .ref (o)), (1, .ref (an)), (2, .ref (Sc.1)), (3, .int (nI i0)), (4, .int (nI p))]) hx hb dL_isDelivered_76 hl (by decide) rfl (fun ls hl => ?_)
        refine lv_iload hx hb dL_isDelivered_78 (lv_at hl 3 rfl) ?_
        refine lv_if_ne (tgt := 88) hx hb dL_isDelivered_80 (by decide) (fun c80_4 => ?_) (fun c80_4 => ?_)
        · refine lv_iload hx hb dL_isDelivered_88 (lv_at hl 2 rfl) ?_
          refine lv_if_eq (tgt := 98) hx hb dL_isDelivered_90 (by decide) (fun c90_5 => ?_) (fun c90_5 => ?_)
          · exact absurd c90_5 (by decide)
          · refine lv_bipush (v := nI 100) hx hb dL_isDelivered_93 (by decide) ?_
            refine lv_goto (tgt := 128) hx hb dL_isDelivered_95 (by decide) ?_
            refine lv_istore (lv' := [(10, .int (nI 100)), (9, .int (m 29 p)), (8, .int ((m 23 p) + (nI 1))), (7, .int (nI 1)), (6, .int (nI 1)), (5, .int (nI (140 + 12 * p))), (0, .ref (o)), (1, .ref (an)), (2, .ref (Sc.1)), (3, .int (nI i0)), (4, .int (nI p))]) hx hb dL_isDelivered_128 hl (by decide) rfl (fun ls hl => ?_)
            refine lv_aload_n hx hb dL_isDelivered_130 rfl (lv_at hl 6 rfl) ?_
            refine lv_iload hx hb dL_isDelivered_131 (lv_at hl 10 rfl) ?_
            refine lv_iload hx hb dL_isDelivered_133 (lv_at hl 3 rfl) ?_
            have hwc0 := hwc
            refine j_w1 (As := [.int (nI p), .int (nI 1)]) (rest := []) (v := nI 100) (c' := cDel c (nI p) (nI 1)) C0 hN hH hJ ho (lW_deliver (nI p) (nI 1) hJ.own hJ.obj (cC_X10_deliver l hlt G _ _ b c hJ.rest hwc (nI p) (nI 1)) (hin_n hxa (fun E h9 z => z.1))) (hv_in hxa hRa (fun E h9 z => z.1)) ms_L_deliver ml_L_169 rfl ⟨Nat.le_of_ble_eq_true rfl, Nat.le_of_ble_eq_true rfl⟩ hl.1 rfl (Nat.le_of_ble_eq_true rfl) dL_isDelivered_135 ⟨by show _ ≤ 8 + (UC (cDel c (nI p) (nI 1)) - UC c); omega, by show _ ≤ 48 + (US (cDel c (nI p) (nI 1)) - US c); omega⟩ (fun h b H locs hH hJ ho hwc => ?_)
            refine lv_iload hx hb dL_isDelivered_138 (lv_at hl 0 rfl) ?_
            refine lv_icmp_eq (tgt := 145) hx hb dL_isDelivered_140 (by decide) (fun c140_6 => ?_) (fun c140_6 => ?_)
            · refine lv_aload_n hx hb dL_isDelivered_145 rfl (lv_at hl 7 rfl) ?_
              refine lv_iload hx hb dL_isDelivered_146 (lv_at hl 5 rfl) ?_
              refine lv_bipush (v := nI 11) hx hb dL_isDelivered_148 (by decide) ?_
              refine lv_iadd hx hb dL_isDelivered_150 ?_
              rw [show nI (140 + 12 * p) + nI 11 = nI (140 + 12 * p + 11) from nI_add _ _]
              refine lv_iload hx hb dL_isDelivered_151 (lv_at hl 0 rfl) ?_
              refine lv_bipush (v := nI 100) hx hb dL_isDelivered_153 (by decide) ?_
              refine lv_icmp_ne (tgt := 165) hx hb dL_isDelivered_155 (by decide) (fun c155_7 => ?_) (fun c155_7 => ?_)
              · exact absurd (by decide) c155_7
              · refine lv_aload_n hx hb dL_isDelivered_158 rfl (lv_at hl 6 rfl) ?_
                refine j_q0m (rest := [.int (nI (140 + 12 * p + 11)), .ref (an)]) C0 hH hJ ho (cC_X10_minute l G _ _ b (cDel c (nI p) (nI 1)) hJ.rest hwc) (v := m 41 0) ((v_min hS1).trans h41) mv_X10_minute ml_L_124 rfl ⟨Nat.le_of_ble_eq_true rfl, Nat.le_of_ble_eq_true rfl⟩ hl.1 rfl (Nat.le_of_ble_eq_true rfl) dL_isDelivered_159 ⟨by show _ ≤ 8 + (UC (cDel c (nI p) (nI 1)) - UC c); omega, by show _ ≤ 48 + (US (cDel c (nI p) (nI 1)) - US c); omega⟩ (fun H locs hH => ?_)
                refine lv_goto (tgt := 172) hx hb dL_isDelivered_162 (by decide) ?_
                refine j_st C0 hH hJ hL (ix := 140 + 12 * p + 11) (by omega) (by decide) dL_isDelivered_172 (fun h H locs hH hJ => ?_)
                obtain ⟨f_8, hf_8⟩ : ∃ z, z = upF f (140 + 12 * p + 11) (m 41 0) := ⟨_, rfl⟩
                obtain ⟨L_9, hL_9⟩ : ∃ z, z = setL L an 700 f_8 := ⟨_, rfl⟩
                rw [← hf_8, ← hL_9] at hJ
                have hL_L_9 : L_9 an = some (700, f_8) := by rw [hL_9]; exact setL_s _ _ _ _
                refine lv_iload hx hb dL_isDelivered_173 (lv_at hl 0 rfl) ?_
                refine lv_bipush (v := nI 114) hx hb dL_isDelivered_175 (by decide) ?_
                refine lv_icmp_ne (tgt := 190) hx hb dL_isDelivered_177 (by decide) (fun c177_10 => ?_) (fun c177_10 => ?_)
                · refine lv_iload hx hb dL_isDelivered_190 (lv_at hl 0 rfl) ?_
                  refine lv_ldc hx hb hown (hts _ kl_L_20) dL_isDelivered_192 ?_
                  refine lv_icmp_eq (tgt := 238) hx hb dL_isDelivered_194 (by decide) (fun c194_11 => ?_) (fun c194_11 => ?_)
                  · exact absurd c194_11 (by decide)
                  · refine lv_aload_n hx hb dL_isDelivered_197 rfl (lv_at hl 6 rfl) ?_
                    refine lv_iload hx hb dL_isDelivered_198 (lv_at hl 10 rfl) ?_
                    refine j_w0 (As := [.int (nI p)]) (rest := []) (v := nI 100) C0 hN hH ho (lW_state (nI p) hJ.own hJ.obj (cN_X10_state l hlt G _ _ b (cDel c (nI p) (nI 1)) hJ.rest hwc (nI p) (v_nar28 hS1 hw1 hp1) (v_pX hS1 hw1 hwc hp1)) (fun E h9 z => absurd ((v_pX hS1 hw1 hwc hp1).symm.trans z.1) (fun y => nomatch y))) (fun r h9 z => z.elim (fun y => ⟨y.2.1.trans ((v_pk hS1 hw1 hp1 (k := 28) rfl).trans d1), y.2.2⟩) (fun ⟨E, y, _⟩ => absurd ((v_pX hS1 hw1 hwc hp1).symm.trans y.1) (fun q => nomatch q))) ms_L_state ml_L_147 rfl ⟨Nat.le_of_ble_eq_true rfl, Nat.le_of_ble_eq_true rfl⟩ hl.1 rfl (Nat.le_of_ble_eq_true rfl) dL_isDelivered_200 ⟨by show _ ≤ 8 + (UC (cDel c (nI p) (nI 1)) - UC c); omega, by show _ ≤ 48 + (US (cDel c (nI p) (nI 1)) - US c); omega⟩ (fun H locs hH => ?_)
                    refine lv_iload hx hb dL_isDelivered_203 (lv_at hl 0 rfl) ?_
                    refine lv_bipush (v := nI 119) hx hb dL_isDelivered_205 (by decide) ?_
                    refine lv_icmp_ne (tgt := 215) hx hb dL_isDelivered_207 (by decide) (fun c207_12 => ?_) (fun c207_12 => ?_)
                    · refine lv_iload hx hb dL_isDelivered_215 (lv_at hl 0 rfl) ?_
                      refine lv_icmp_ne (tgt := 242) hx hb dL_isDelivered_217 (by decide) (fun c217_13 => ?_) (fun c217_13 => ?_)
                      · exact absurd (by decide) c217_13
                      · refine lv_iload hx hb dL_isDelivered_220 (lv_at hl 0 rfl) ?_
                        refine lv_bipush (v := nI 100) hx hb dL_isDelivered_222 (by decide) ?_
                        refine lv_icmp_eq (tgt := 238) hx hb dL_isDelivered_224 (by decide) (fun c224_14 => ?_) (fun c224_14 => ?_)
                        · refine lv_iconst (v := nI 1) hx hb dL_isDelivered_238 (by decide) ?_
                          refine lv_goto (tgt := 243) hx hb dL_isDelivered_239 (by decide) ?_
                          have hnp9 : NP f_8 m1 p := hNP.del hP1 (by decide) (by rw [hf_8, upF_s]; exact (if_pos rfl).symm) (fun j hj a1 => by rw [hf_8]; exact upF_o (by omega))
                          have hNT := hT.par (f' := f_8) hw hO1 hp (fun i hi => by have y := hi 11 (by omega); rw [hf_8]; exact upF_o y) hnp9
                          rw [hL_9] at hJ
                          exact e_Z C0 hr (by decide) hH ⟨rfl, b, f_8, m1, n + 1, hJ, ho, hwc, Nat.le_refl _, hSt1, hNT.1, hNT.2, hg9⟩ (by omega) (by omega) dL_isDelivered_243
                        · exact absurd (by decide) c224_14
                    · exact absurd c207_12 (by decide)
                · exact absurd c177_10 (by decide)
            · exact absurd (by decide) c140_6
        · exact absurd c80_4 (by decide)
set_option maxHeartbeats 1600000 in
set_option maxRecDepth 100000 in
theorem lL_isDelivered_W (l : Launch) (hlt : l.stackTraces = false) (Sc : SCR) (G : GT) (A : Nat → Prop) (h : AH) (b : BA) (c m : MM) (n : Nat) (L : LNum) (M : LRef) (o : Nat) (hJ : JW G.2.2.1 h b c L M) (ho : b 14 0 = o) (hwc : WFc c) (hS : Sim n c m) (hw : WFa m) (hI : IV m) (hn : n < 512) (i0 : Nat) (hi0 : i0 < 2 ^ 19) (p : Nat) (hp : p < npN m) (z1 : m 28 p = 115) (z2 : m 15 p = m 14 p) (ht : ¬ inN Sc i0 3 = 0) (hy : m 23 p + 1 < 3 - m 12 p) (an : Nat) (f : Nat → Int32) (hL : L an = some (700, f)) (hT : NT f m) : lcI l Sc G A yL_isDelivered cL_isDelivered 11 (Option.some FieldType.boolean) 13 443 (8 + (UC (cDel c (nI p) (nI 0)) - UC c)) (48 + (US (cDel c (nI p) (nI 0)) - US c)) [.ref (o), .ref (an), .ref (Sc.1), .int (nI i0), .int (nI p)] h (fun r h' => r = nI 1 ∧ ∃ b' f' m' n', JW G.2.2.1 h' b' (cDel c (nI p) (nI 0)) (setL L an 700 f') M ∧ b' 14 0 = o ∧ WFc (cDel c (nI p) (nI 0)) ∧ n' ≤ n + 1 ∧ Stt n' (cDel c (nI p) (nI 0)) m' ∧ NT f' m' ∧ Kp m m' ∧ UC c ≤ UC (cDel c (nI p) (nI 0)) ∧ US c ≤ US (cDel c (nI p) (nI 0))) := by
  refine lm_of rfl (Nat.le_of_ble_eq_true rfl) ?_
  intro pr e s m9 below meth c9 C0 hN hr hH ls hl
  obtain ⟨hx, hb, hml, hown, hts, hK, hA, -⟩ := id C0
  have hl : lv_has ls 11 [(0, .ref (o)), (1, .ref (an)), (2, .ref (Sc.1)), (3, .int (nI i0)), (4, .int (nI p))] := hl
  have n40 := hw.np.2
  have n6 := hw.nh.2
  have nl12 := hw.nl.2
  have hNP := hT.pa hp
  have hin3 := inN_lt Sc i0 (n := 3) (by omega)
  obtain ⟨hxa, m1, hSt1, hO1, hd9⟩ := d_delF ⟨hS, hw, hI⟩ hwc hn hp z1 z2
  obtain ⟨-, hRa, hP1⟩ := hd9.resolve_right (fun z => z.elim (fun w => w.1 hy) (fun w => w.1 hy))
  have hSt2 : Stt (n + 1) (cDel c (nI p) (nI 0)) m1 := hSt1
  have hSt1 := hSt2
  have hg9 := (gm_del hwc (nI p) (nI 0)).1
  rw [if_pos hxa] at hg9
  have hw1 := hSt1.2.1
  have hS1 := hSt1.1
  have hp1 : p < npN m1 := by rw [npN_ext (hO1.1 39 ⟨by unfold oK; omega, by omega⟩)]; exact hp
  have h41 : m1 41 0 = m 41 0 := by rw [hO1.1 41 ⟨by unfold oK; omega, by omega⟩]
  obtain ⟨d1, d2, d3, d4⟩ := id hP1
  refine lv_sipush (v := nI 140) hx hb dL_isDelivered_0 (by decide) ?_
  refine lv_bipush (v := nI 12) hx hb dL_isDelivered_3 (by decide) ?_
  refine lv_iload hx hb dL_isDelivered_5 (lv_at hl 4 rfl) ?_
  refine lv_imul hx hb dL_isDelivered_7 ?_
  rw [show nI 12 * nI p = nI (12 * p) from nI_mul]
  refine lv_iadd hx hb dL_isDelivered_8 ?_
  rw [show nI 140 + nI (12 * p) = nI (140 + 12 * p) from nI_add _ _]
  refine lv_istore (lv' := [(5, .int (nI (140 + 12 * p))), (0, .ref (o)), (1, .ref (an)), (2, .ref (Sc.1)), (3, .int (nI i0)), (4, .int (nI p))]) hx hb dL_isDelivered_9 hl (by decide) rfl (fun ls hl => ?_)
  refine lv_aload_n hx hb dL_isDelivered_11 rfl (lv_at hl 1 rfl) ?_
  refine lv_iload hx hb dL_isDelivered_12 (lv_at hl 5 rfl) ?_
  refine j_w0 (As := [.int (nI p)]) (rest := []) (v := nI 115) C0 hN hH ho (lW_state (nI p) hJ.own hJ.obj (cN_X10_state l hlt G _ _ b c hJ.rest hwc (nI p) (v_nar28 hS hw hp) (v_pX hS hw hwc hp)) (fun E h9 z => absurd ((v_pX hS hw hwc hp).symm.trans z.1) (fun y => nomatch y))) (fun r h9 z => z.elim (fun y => ⟨y.2.1.trans ((v_pk hS hw hp (k := 28) rfl).trans z1), y.2.2⟩) (fun ⟨E, y, _⟩ => absurd ((v_pX hS hw hwc hp).symm.trans y.1) (fun q => nomatch q))) ms_L_state ml_L_147 rfl ⟨Nat.le_of_ble_eq_true rfl, Nat.le_of_ble_eq_true rfl⟩ hl.1 rfl (Nat.le_of_ble_eq_true rfl) dL_isDelivered_14 ⟨by show _ ≤ 8 + (UC (cDel c (nI p) (nI 0)) - UC c); omega, by show _ ≤ 48 + (US (cDel c (nI p) (nI 0)) - US c); omega⟩ (fun H locs hH => ?_)
  refine lv_bipush (v := nI 115) hx hb dL_isDelivered_17 (by decide) ?_
  refine lv_icmp_ne (tgt := 41) hx hb dL_isDelivered_19 (by decide) (fun c19_1 => ?_) (fun c19_1 => ?_)
  · exact absurd (by decide) c19_1
  · refine lv_aload_n hx hb dL_isDelivered_22 rfl (lv_at hl 1 rfl) ?_
    refine lv_iload hx hb dL_isDelivered_23 (lv_at hl 5 rfl) ?_
    refine j_w0 (As := [.int (nI p)]) (rest := []) (v := m 14 p) C0 hN hH ho (lW_at (nI p) hJ.own hJ.obj (cN_X10_at l hlt G _ _ b c hJ.rest hwc (nI p) (v_at hS hw hwc hp (by rw [z1]; decide))) (fun E h9 z => absurd ((v_at hS hw hwc hp (by rw [z1]; decide)).symm.trans z.1) (fun y => nomatch y))) (fun r h9 z => z.elim (fun y => ⟨y.2.1.trans ((v_pk hS hw hp (k := 15) rfl).trans z2), y.2.2⟩) (fun ⟨E, y, _⟩ => absurd ((v_at hS hw hwc hp (by rw [z1]; decide)).symm.trans y.1) (fun q => nomatch q))) ms_L_at ml_L_149 rfl ⟨Nat.le_of_ble_eq_true rfl, Nat.le_of_ble_eq_true rfl⟩ hl.1 rfl (Nat.le_of_ble_eq_true rfl) dL_isDelivered_25 ⟨by show _ ≤ 8 + (UC (cDel c (nI p) (nI 0)) - UC c); omega, by show _ ≤ 48 + (US (cDel c (nI p) (nI 0)) - US c); omega⟩ (fun H locs hH => ?_)
    refine lv_aload_n hx hb dL_isDelivered_28 rfl (lv_at hl 1 rfl) ?_
    refine lv_iload hx hb dL_isDelivered_29 (lv_at hl 5 rfl) ?_
    refine j_q0 (rest := [.int (m 14 p)]) C0 hH hJ ho (cN_X10_destination l hlt G _ _ b c hJ.rest hwc (nI p) (v_pX hS hw hwc hp)) (v_pX hS hw hwc hp) (v := m 14 p) (v_pk hS hw hp (k := 14) rfl) mv_X10_destination ml_L_128 rfl ⟨Nat.le_of_ble_eq_true rfl, Nat.le_of_ble_eq_true rfl⟩ hl.1 rfl (Nat.le_of_ble_eq_true rfl) dL_isDelivered_31 ⟨by show _ ≤ 8 + (UC (cDel c (nI p) (nI 0)) - UC c); omega, by show _ ≤ 48 + (US (cDel c (nI p) (nI 0)) - US c); omega⟩ (fun H locs hH => ?_)
    refine lv_icmp_ne (tgt := 41) hx hb dL_isDelivered_34 (by decide) (fun c34_2 => ?_) (fun c34_2 => ?_)
    · exact absurd rfl c34_2
    · refine lv_iconst (v := nI 1) hx hb dL_isDelivered_37 (by decide) ?_
      refine lv_goto (tgt := 42) hx hb dL_isDelivered_38 (by decide) ?_
      refine lv_istore (lv' := [(6, .int (nI 1)), (5, .int (nI (140 + 12 * p))), (0, .ref (o)), (1, .ref (an)), (2, .ref (Sc.1)), (3, .int (nI i0)), (4, .int (nI p))]) hx hb dL_isDelivered_42 hl (by decide) rfl (fun ls hl => ?_)
      refine lv_aload_n hx hb dL_isDelivered_44 rfl (lv_at hl 4 rfl) ?_
      refine lv_iload_n hx hb dL_isDelivered_45 rfl (lv_at hl 5 rfl) ?_
      refine lv_iconst (v := nI 3) hx hb dL_isDelivered_46 (by decide) ?_
      refine k_i hH (k_lS (rest := []) C0 hN hH (lL_in l Sc G A _ i0 3 (by omega) (by omega) (by omega)) mv_L_in ml_L_106 rfl ⟨Nat.le_of_ble_eq_true rfl, Nat.le_of_ble_eq_true rfl⟩ hl.1 rfl (Nat.le_of_ble_eq_true rfl) dL_isDelivered_47 ⟨by show _ ≤ 8 + (UC (cDel c (nI p) (nI 0)) - UC c); omega, by show _ ≤ 48 + (US (cDel c (nI p) (nI 0)) - US c); omega⟩) (fun rr h1 H locs hp hH => ?_)
      obtain ⟨ea, eh⟩ := hp
      rw [eh] at hH
      rw [ea, show inN Sc i0 3 = inN Sc i0 3 from rfl]
      refine lv_if_ne (tgt := 57) hx hb dL_isDelivered_50 (by decide) (fun c50_3 => ?_) (fun c50_3 => ?_)
      · replace c50_3 : ¬ (inN Sc i0 3 = 0) := fun z => c50_3 ((nI_eq (a := inN Sc i0 3) (b := 0) (by omega) (by omega)).mpr z)
        refine lv_iconst (v := nI 0) hx hb dL_isDelivered_57 (by decide) ?_
        refine lv_istore (lv' := [(7, .int (nI 0)), (6, .int (nI 1)), (5, .int (nI (140 + 12 * p))), (0, .ref (o)), (1, .ref (an)), (2, .ref (Sc.1)), (3, .int (nI i0)), (4, .int (nI p))]) hx hb dL_isDelivered_58 hl (by decide) rfl (fun ls hl => ?_)
        refine lv_aload_n hx hb dL_isDelivered_60 rfl (lv_at hl 3 rfl) ?_
        refine lv_iload hx hb dL_isDelivered_61 (lv_at hl 7 rfl) ?_
        refine j_q0 (rest := []) C0 hH hJ ho (cN_X10_attempts l hlt G _ _ b c hJ.rest hwc (nI p) (v_pX hS hw hwc hp)) (v_pX hS hw hwc hp) (v := m 23 p) (v_pk hS hw hp (k := 23) rfl) mv_X10_attempts ml_L_166 rfl ⟨Nat.le_of_ble_eq_true rfl, Nat.le_of_ble_eq_true rfl⟩ hl.1 rfl (Nat.le_of_ble_eq_true rfl) dL_isDelivered_63 ⟨by show _ ≤ 8 + (UC (cDel c (nI p) (nI 0)) - UC c); omega, by show _ ≤ 48 + (US (cDel c (nI p) (nI 0)) - US c); omega⟩ (fun H locs hH => ?_)
        refine lv_iconst (v := nI 1) hx hb dL_isDelivered_66 (by decide) ?_
        refine lv_iadd hx hb dL_isDelivered_67 ?_
        refine lv_istore (lv' := [(8, .int ((m 23 p) + (nI 1))), (7, .int (nI 0)), (6, .int (nI 1)), (5, .int (nI (140 + 12 * p))), (0, .ref (o)), (1, .ref (an)), (2, .ref (Sc.1)), (3, .int (nI i0)), (4, .int (nI p))]) hx hb dL_isDelivered_68 hl (by decide) rfl (fun ls hl => ?_)
        refine lv_aload_n hx hb dL_isDelivered_70 rfl (lv_at hl 4 rfl) ?_
        refine lv_iload hx hb dL_isDelivered_71 (lv_at hl 8 rfl) ?_
        refine j_q0 (rest := []) C0 hH hJ ho (cN_X10_isReturn l hlt G _ _ b c hJ.rest hwc (nI p) (v_nar29 hS hw hp) (v_pX hS hw hwc hp)) (v_pX hS hw hwc hp) (v := m 29 p) (v_pk hS hw hp (k := 29) rfl) mv_X10_isReturn ml_L_151 rfl ⟨Nat.le_of_ble_eq_true rfl, Nat.le_of_ble_eq_true rfl⟩ hl.1 rfl (Nat.le_of_ble_eq_true rfl) dL_isDelivered_73 ⟨by show _ ≤ 8 + (UC (cDel c (nI p) (nI 0)) - UC c); omega, by show _ ≤ 48 + (US (cDel c (nI p) (nI 0)) - US c); omega⟩ (fun H locs hH => ?_)
        refine lv_istore (lv' := [(9, .int (m 29 p)), (8, .int ((m 23 p) + (nI 1))), (7, .int (nI 0)), (6, .int (nI 1)), (5, .int (nI (140 + 12 * p))), (0, .ref (o)), (1, .ref (an)), (2, .ref (Sc.1)), (3, .int (nI i0)), (4, .int (nI p))]) hx hb dL_isDelivered_76 hl (by decide) rfl (fun ls hl => ?_)
        refine lv_iload hx hb dL_isDelivered_78 (lv_at hl 3 rfl) ?_
        refine lv_if_ne (tgt := 88) hx hb dL_isDelivered_80 (by decide) (fun c80_4 => ?_) (fun c80_4 => ?_)
        · refine lv_iload hx hb dL_isDelivered_88 (lv_at hl 2 rfl) ?_
          refine lv_if_eq (tgt := 98) hx hb dL_isDelivered_90 (by decide) (fun c90_5 => ?_) (fun c90_5 => ?_)
          · refine lv_iload hx hb dL_isDelivered_98 (lv_at hl 1 rfl) ?_
            refine lv_iconst (v := nI 3) hx hb dL_isDelivered_100 (by decide) ?_
            refine lv_aload_n hx hb dL_isDelivered_101 rfl (lv_at hl 6 rfl) ?_
            refine lv_iload hx hb dL_isDelivered_102 (lv_at hl 4 rfl) ?_
            refine lv_iconst (v := nI 1) hx hb dL_isDelivered_104 (by decide) ?_
            refine lv_iadd hx hb dL_isDelivered_105 ?_
            rw [show nI (140 + 12 * p) + nI 1 = nI (140 + 12 * p + 1) from nI_add _ _]
            refine j_ld C0 hH hJ hL (ix := 140 + 12 * p + 1) (by omega) (by decide) (v := m 12 p) hNP.g1 dL_isDelivered_106 ?_
            refine lv_isub hx hb dL_isDelivered_107 ?_
            refine lv_icmp_ge (tgt := 116) hx hb dL_isDelivered_108 (by decide) (fun c108_6 => ?_) (fun c108_6 => ?_)
            · exact absurd c108_6 (Int32.not_le.mpr hy)
            · refine lv_bipush (v := nI 119) hx hb dL_isDelivered_111 (by decide) ?_
              refine lv_goto (tgt := 128) hx hb dL_isDelivered_113 (by decide) ?_
              refine lv_istore (lv' := [(10, .int (nI 119)), (9, .int (m 29 p)), (8, .int ((m 23 p) + (nI 1))), (7, .int (nI 0)), (6, .int (nI 1)), (5, .int (nI (140 + 12 * p))), (0, .ref (o)), (1, .ref (an)), (2, .ref (Sc.1)), (3, .int (nI i0)), (4, .int (nI p))]) hx hb dL_isDelivered_128 hl (by decide) rfl (fun ls hl => ?_)
              refine lv_aload_n hx hb dL_isDelivered_130 rfl (lv_at hl 6 rfl) ?_
              refine lv_iload hx hb dL_isDelivered_131 (lv_at hl 10 rfl) ?_
              refine lv_iload hx hb dL_isDelivered_133 (lv_at hl 3 rfl) ?_
              have hwc0 := hwc
              refine j_w1 (As := [.int (nI p), .int (nI 0)]) (rest := []) (v := nI 119) (c' := cDel c (nI p) (nI 0)) C0 hN hH hJ ho (lW_deliver (nI p) (nI 0) hJ.own hJ.obj (cC_X10_deliver l hlt G _ _ b c hJ.rest hwc (nI p) (nI 0)) (hin_n hxa (fun E h9 z => z.1))) (hv_in hxa hRa (fun E h9 z => z.1)) ms_L_deliver ml_L_169 rfl ⟨Nat.le_of_ble_eq_true rfl, Nat.le_of_ble_eq_true rfl⟩ hl.1 rfl (Nat.le_of_ble_eq_true rfl) dL_isDelivered_135 ⟨by show _ ≤ 8 + (UC (cDel c (nI p) (nI 0)) - UC c); omega, by show _ ≤ 48 + (US (cDel c (nI p) (nI 0)) - US c); omega⟩ (fun h b H locs hH hJ ho hwc => ?_)
              refine lv_iload hx hb dL_isDelivered_138 (lv_at hl 0 rfl) ?_
              refine lv_icmp_eq (tgt := 145) hx hb dL_isDelivered_140 (by decide) (fun c140_7 => ?_) (fun c140_7 => ?_)
              · refine lv_aload_n hx hb dL_isDelivered_145 rfl (lv_at hl 7 rfl) ?_
                refine lv_iload hx hb dL_isDelivered_146 (lv_at hl 5 rfl) ?_
                refine lv_bipush (v := nI 11) hx hb dL_isDelivered_148 (by decide) ?_
                refine lv_iadd hx hb dL_isDelivered_150 ?_
                rw [show nI (140 + 12 * p) + nI 11 = nI (140 + 12 * p + 11) from nI_add _ _]
                refine lv_iload hx hb dL_isDelivered_151 (lv_at hl 0 rfl) ?_
                refine lv_bipush (v := nI 100) hx hb dL_isDelivered_153 (by decide) ?_
                refine lv_icmp_ne (tgt := 165) hx hb dL_isDelivered_155 (by decide) (fun c155_8 => ?_) (fun c155_8 => ?_)
                · refine lv_aload_n hx hb dL_isDelivered_165 rfl (lv_at hl 7 rfl) ?_
                  refine lv_iload hx hb dL_isDelivered_166 (lv_at hl 5 rfl) ?_
                  refine lv_bipush (v := nI 11) hx hb dL_isDelivered_168 (by decide) ?_
                  refine lv_iadd hx hb dL_isDelivered_170 ?_
                  rw [show nI (140 + 12 * p) + nI 11 = nI (140 + 12 * p + 11) from nI_add _ _]
                  refine j_ld C0 hH hJ hL (ix := 140 + 12 * p + 11) (by omega) (by decide) (v := if m 28 p = 100 then m 26 p else -1) hNP.g11 dL_isDelivered_171 ?_
                  refine j_st C0 hH hJ hL (ix := 140 + 12 * p + 11) (by omega) (by decide) dL_isDelivered_172 (fun h H locs hH hJ => ?_)
                  obtain ⟨f_9, hf_9⟩ : ∃ z, z = upF f (140 + 12 * p + 11) (if m 28 p = 100 then m 26 p else -1) := ⟨_, rfl⟩
                  obtain ⟨L_10, hL_10⟩ : ∃ z, z = setL L an 700 f_9 := ⟨_, rfl⟩
                  rw [← hf_9, ← hL_10] at hJ
                  have hL_L_10 : L_10 an = some (700, f_9) := by rw [hL_10]; exact setL_s _ _ _ _
                  refine lv_iload hx hb dL_isDelivered_173 (lv_at hl 0 rfl) ?_
                  refine lv_bipush (v := nI 114) hx hb dL_isDelivered_175 (by decide) ?_
                  refine lv_icmp_ne (tgt := 190) hx hb dL_isDelivered_177 (by decide) (fun c177_11 => ?_) (fun c177_11 => ?_)
                  · refine lv_iload hx hb dL_isDelivered_190 (lv_at hl 0 rfl) ?_
                    refine lv_ldc hx hb hown (hts _ kl_L_20) dL_isDelivered_192 ?_
                    refine lv_icmp_eq (tgt := 238) hx hb dL_isDelivered_194 (by decide) (fun c194_12 => ?_) (fun c194_12 => ?_)
                    · exact absurd c194_12 (by decide)
                    · refine lv_aload_n hx hb dL_isDelivered_197 rfl (lv_at hl 6 rfl) ?_
                      refine lv_iload hx hb dL_isDelivered_198 (lv_at hl 10 rfl) ?_
                      refine j_w0 (As := [.int (nI p)]) (rest := []) (v := nI 115) C0 hN hH ho (lW_state (nI p) hJ.own hJ.obj (cN_X10_state l hlt G _ _ b (cDel c (nI p) (nI 0)) hJ.rest hwc (nI p) (v_nar28 hS1 hw1 hp1) (v_pX hS1 hw1 hwc hp1)) (fun E h9 z => absurd ((v_pX hS1 hw1 hwc hp1).symm.trans z.1) (fun y => nomatch y))) (fun r h9 z => z.elim (fun y => ⟨y.2.1.trans ((v_pk hS1 hw1 hp1 (k := 28) rfl).trans d1), y.2.2⟩) (fun ⟨E, y, _⟩ => absurd ((v_pX hS1 hw1 hwc hp1).symm.trans y.1) (fun q => nomatch q))) ms_L_state ml_L_147 rfl ⟨Nat.le_of_ble_eq_true rfl, Nat.le_of_ble_eq_true rfl⟩ hl.1 rfl (Nat.le_of_ble_eq_true rfl) dL_isDelivered_200 ⟨by show _ ≤ 8 + (UC (cDel c (nI p) (nI 0)) - UC c); omega, by show _ ≤ 48 + (US (cDel c (nI p) (nI 0)) - US c); omega⟩ (fun H locs hH => ?_)
                      refine lv_iload hx hb dL_isDelivered_203 (lv_at hl 0 rfl) ?_
                      refine lv_bipush (v := nI 119) hx hb dL_isDelivered_205 (by decide) ?_
                      refine lv_icmp_ne (tgt := 215) hx hb dL_isDelivered_207 (by decide) (fun c207_13 => ?_) (fun c207_13 => ?_)
                      · exact absurd (by decide) c207_13
                      · refine lv_bipush (v := nI 115) hx hb dL_isDelivered_210 (by decide) ?_
                        refine lv_goto (tgt := 217) hx hb dL_isDelivered_212 (by decide) ?_
                        refine lv_icmp_ne (tgt := 242) hx hb dL_isDelivered_217 (by decide) (fun c217_14 => ?_) (fun c217_14 => ?_)
                        · exact absurd (by decide) c217_14
                        · refine lv_iload hx hb dL_isDelivered_220 (lv_at hl 0 rfl) ?_
                          refine lv_bipush (v := nI 100) hx hb dL_isDelivered_222 (by decide) ?_
                          refine lv_icmp_eq (tgt := 238) hx hb dL_isDelivered_224 (by decide) (fun c224_15 => ?_) (fun c224_15 => ?_)
                          · exact absurd c224_15 (by decide)
                          · refine lv_aload_n hx hb dL_isDelivered_227 rfl (lv_at hl 6 rfl) ?_
                            refine lv_iload hx hb dL_isDelivered_228 (lv_at hl 10 rfl) ?_
                            refine j_q0 (rest := []) C0 hH hJ ho (cN_X10_attempts l hlt G _ _ b (cDel c (nI p) (nI 0)) hJ.rest hwc (nI p) (v_pX hS1 hw1 hwc hp1)) (v_pX hS1 hw1 hwc hp1) (v := m 23 p + nI 1) ((v_pk hS1 hw1 hp1 (k := 23) rfl).trans d2) mv_X10_attempts ml_L_166 rfl ⟨Nat.le_of_ble_eq_true rfl, Nat.le_of_ble_eq_true rfl⟩ hl.1 rfl (Nat.le_of_ble_eq_true rfl) dL_isDelivered_230 ⟨by show _ ≤ 8 + (UC (cDel c (nI p) (nI 0)) - UC c); omega, by show _ ≤ 48 + (US (cDel c (nI p) (nI 0)) - US c); omega⟩ (fun H locs hH => ?_)
                            refine lv_iload hx hb dL_isDelivered_233 (lv_at hl 2 rfl) ?_
                            refine lv_icmp_ne (tgt := 242) hx hb dL_isDelivered_235 (by decide) (fun c235_16 => ?_) (fun c235_16 => ?_)
                            · exact absurd rfl c235_16
                            · refine lv_iconst (v := nI 1) hx hb dL_isDelivered_238 (by decide) ?_
                              refine lv_goto (tgt := 243) hx hb dL_isDelivered_239 (by decide) ?_
                              have hnp9 : NP f_9 m1 p := hNP.del hP1 (by decide) (by rw [hf_9, upF_s, z1]) (fun j hj a1 => by rw [hf_9]; exact upF_o (by omega))
                              have hNT := hT.par (f' := f_9) hw hO1 hp (fun i hi => by have y := hi 11 (by omega); rw [hf_9]; exact upF_o y) hnp9
                              rw [hL_10] at hJ
                              exact e_Z C0 hr (by decide) hH ⟨rfl, b, f_9, m1, n + 1, hJ, ho, hwc, Nat.le_refl _, hSt1, hNT.1, hNT.2, hg9⟩ (by omega) (by omega) dL_isDelivered_243
                  · exact absurd c177_11 (by decide)
                · exact absurd c155_8 (by decide)
              · exact absurd (by decide) c140_7
          · exact absurd (by decide) c90_5
        · exact absurd c80_4 (by decide)
      · exact absurd ((nI_eq (a := inN Sc i0 3) (b := 0) (by omega) (by omega)).mp c50_3) ht
set_option maxHeartbeats 1600000 in
set_option maxRecDepth 100000 in
theorem lL_isDelivered_H (l : Launch) (hlt : l.stackTraces = false) (Sc : SCR) (G : GT) (A : Nat → Prop) (h : AH) (b : BA) (c m : MM) (n : Nat) (L : LNum) (M : LRef) (o : Nat) (hJ : JW G.2.2.1 h b c L M) (ho : b 14 0 = o) (hwc : WFc c) (hS : Sim n c m) (hw : WFa m) (hI : IV m) (hn : n < 512) (i0 : Nat) (hi0 : i0 < 2 ^ 19) (p : Nat) (hp : p < npN m) (z1 : m 28 p = 115) (z2 : m 15 p = m 14 p) (ht : ¬ inN Sc i0 3 = 0) (hy : ¬ m 23 p + 1 < 3 - m 12 p) (h29 : ¬ m 29 p = 0) (an : Nat) (f : Nat → Int32) (hL : L an = some (700, f)) (hT : NT f m) : lcI l Sc G A yL_isDelivered cL_isDelivered 11 (Option.some FieldType.boolean) 13 443 (8 + (UC (cDel c (nI p) (nI 0)) - UC c)) (48 + (US (cDel c (nI p) (nI 0)) - US c)) [.ref (o), .ref (an), .ref (Sc.1), .int (nI i0), .int (nI p)] h (fun r h' => r = nI 1 ∧ ∃ b' f' m' n', JW G.2.2.1 h' b' (cDel c (nI p) (nI 0)) (setL L an 700 f') M ∧ b' 14 0 = o ∧ WFc (cDel c (nI p) (nI 0)) ∧ n' ≤ n + 1 ∧ Stt n' (cDel c (nI p) (nI 0)) m' ∧ NT f' m' ∧ Kp m m' ∧ UC c ≤ UC (cDel c (nI p) (nI 0)) ∧ US c ≤ US (cDel c (nI p) (nI 0))) := by
  refine lm_of rfl (Nat.le_of_ble_eq_true rfl) ?_
  intro pr e s m9 below meth c9 C0 hN hr hH ls hl
  obtain ⟨hx, hb, hml, hown, hts, hK, hA, -⟩ := id C0
  have hl : lv_has ls 11 [(0, .ref (o)), (1, .ref (an)), (2, .ref (Sc.1)), (3, .int (nI i0)), (4, .int (nI p))] := hl
  have n40 := hw.np.2
  have n6 := hw.nh.2
  have nl12 := hw.nl.2
  have hNP := hT.pa hp
  have hin3 := inN_lt Sc i0 (n := 3) (by omega)
  obtain ⟨hxa, m1, hSt1, hO1, hd9⟩ := d_delF ⟨hS, hw, hI⟩ hwc hn hp z1 z2
  obtain ⟨-, -, hRa, hP1⟩ := (hd9.resolve_left (fun w => hy w.1)).resolve_right (fun w => h29 w.2.1)
  have hSt2 : Stt (n + 1) (cDel c (nI p) (nI 0)) m1 := hSt1
  have hSt1 := hSt2
  have hg9 := (gm_del hwc (nI p) (nI 0)).1
  rw [if_pos hxa] at hg9
  have hw1 := hSt1.2.1
  have hS1 := hSt1.1
  have hp1 : p < npN m1 := by rw [npN_ext (hO1.1 39 ⟨by unfold oK; omega, by omega⟩)]; exact hp
  have h41 : m1 41 0 = m 41 0 := by rw [hO1.1 41 ⟨by unfold oK; omega, by omega⟩]
  obtain ⟨d1, d2, d3, d4⟩ := id hP1
  refine lv_sipush (v := nI 140) hx hb dL_isDelivered_0 (by decide) ?_
  refine lv_bipush (v := nI 12) hx hb dL_isDelivered_3 (by decide) ?_
  refine lv_iload hx hb dL_isDelivered_5 (lv_at hl 4 rfl) ?_
  refine lv_imul hx hb dL_isDelivered_7 ?_
  rw [show nI 12 * nI p = nI (12 * p) from nI_mul]
  refine lv_iadd hx hb dL_isDelivered_8 ?_
  rw [show nI 140 + nI (12 * p) = nI (140 + 12 * p) from nI_add _ _]
  refine lv_istore (lv' := [(5, .int (nI (140 + 12 * p))), (0, .ref (o)), (1, .ref (an)), (2, .ref (Sc.1)), (3, .int (nI i0)), (4, .int (nI p))]) hx hb dL_isDelivered_9 hl (by decide) rfl (fun ls hl => ?_)
  refine lv_aload_n hx hb dL_isDelivered_11 rfl (lv_at hl 1 rfl) ?_
  refine lv_iload hx hb dL_isDelivered_12 (lv_at hl 5 rfl) ?_
  refine j_w0 (As := [.int (nI p)]) (rest := []) (v := nI 115) C0 hN hH ho (lW_state (nI p) hJ.own hJ.obj (cN_X10_state l hlt G _ _ b c hJ.rest hwc (nI p) (v_nar28 hS hw hp) (v_pX hS hw hwc hp)) (fun E h9 z => absurd ((v_pX hS hw hwc hp).symm.trans z.1) (fun y => nomatch y))) (fun r h9 z => z.elim (fun y => ⟨y.2.1.trans ((v_pk hS hw hp (k := 28) rfl).trans z1), y.2.2⟩) (fun ⟨E, y, _⟩ => absurd ((v_pX hS hw hwc hp).symm.trans y.1) (fun q => nomatch q))) ms_L_state ml_L_147 rfl ⟨Nat.le_of_ble_eq_true rfl, Nat.le_of_ble_eq_true rfl⟩ hl.1 rfl (Nat.le_of_ble_eq_true rfl) dL_isDelivered_14 ⟨by show _ ≤ 8 + (UC (cDel c (nI p) (nI 0)) - UC c); omega, by show _ ≤ 48 + (US (cDel c (nI p) (nI 0)) - US c); omega⟩ (fun H locs hH => ?_)
  refine lv_bipush (v := nI 115) hx hb dL_isDelivered_17 (by decide) ?_
  refine lv_icmp_ne (tgt := 41) hx hb dL_isDelivered_19 (by decide) (fun c19_1 => ?_) (fun c19_1 => ?_)
  · exact absurd (by decide) c19_1
  · refine lv_aload_n hx hb dL_isDelivered_22 rfl (lv_at hl 1 rfl) ?_
    refine lv_iload hx hb dL_isDelivered_23 (lv_at hl 5 rfl) ?_
    refine j_w0 (As := [.int (nI p)]) (rest := []) (v := m 14 p) C0 hN hH ho (lW_at (nI p) hJ.own hJ.obj (cN_X10_at l hlt G _ _ b c hJ.rest hwc (nI p) (v_at hS hw hwc hp (by rw [z1]; decide))) (fun E h9 z => absurd ((v_at hS hw hwc hp (by rw [z1]; decide)).symm.trans z.1) (fun y => nomatch y))) (fun r h9 z => z.elim (fun y => ⟨y.2.1.trans ((v_pk hS hw hp (k := 15) rfl).trans z2), y.2.2⟩) (fun ⟨E, y, _⟩ => absurd ((v_at hS hw hwc hp (by rw [z1]; decide)).symm.trans y.1) (fun q => nomatch q))) ms_L_at ml_L_149 rfl ⟨Nat.le_of_ble_eq_true rfl, Nat.le_of_ble_eq_true rfl⟩ hl.1 rfl (Nat.le_of_ble_eq_true rfl) dL_isDelivered_25 ⟨by show _ ≤ 8 + (UC (cDel c (nI p) (nI 0)) - UC c); omega, by show _ ≤ 48 + (US (cDel c (nI p) (nI 0)) - US c); omega⟩ (fun H locs hH => ?_)
    refine lv_aload_n hx hb dL_isDelivered_28 rfl (lv_at hl 1 rfl) ?_
    refine lv_iload hx hb dL_isDelivered_29 (lv_at hl 5 rfl) ?_
    refine j_q0 (rest := [.int (m 14 p)]) C0 hH hJ ho (cN_X10_destination l hlt G _ _ b c hJ.rest hwc (nI p) (v_pX hS hw hwc hp)) (v_pX hS hw hwc hp) (v := m 14 p) (v_pk hS hw hp (k := 14) rfl) mv_X10_destination ml_L_128 rfl ⟨Nat.le_of_ble_eq_true rfl, Nat.le_of_ble_eq_true rfl⟩ hl.1 rfl (Nat.le_of_ble_eq_true rfl) dL_isDelivered_31 ⟨by show _ ≤ 8 + (UC (cDel c (nI p) (nI 0)) - UC c); omega, by show _ ≤ 48 + (US (cDel c (nI p) (nI 0)) - US c); omega⟩ (fun H locs hH => ?_)
    refine lv_icmp_ne (tgt := 41) hx hb dL_isDelivered_34 (by decide) (fun c34_2 => ?_) (fun c34_2 => ?_)
    · exact absurd rfl c34_2
    · refine lv_iconst (v := nI 1) hx hb dL_isDelivered_37 (by decide) ?_
      refine lv_goto (tgt := 42) hx hb dL_isDelivered_38 (by decide) ?_
      refine lv_istore (lv' := [(6, .int (nI 1)), (5, .int (nI (140 + 12 * p))), (0, .ref (o)), (1, .ref (an)), (2, .ref (Sc.1)), (3, .int (nI i0)), (4, .int (nI p))]) hx hb dL_isDelivered_42 hl (by decide) rfl (fun ls hl => ?_)
      refine lv_aload_n hx hb dL_isDelivered_44 rfl (lv_at hl 4 rfl) ?_
      refine lv_iload_n hx hb dL_isDelivered_45 rfl (lv_at hl 5 rfl) ?_
      refine lv_iconst (v := nI 3) hx hb dL_isDelivered_46 (by decide) ?_
      refine k_i hH (k_lS (rest := []) C0 hN hH (lL_in l Sc G A _ i0 3 (by omega) (by omega) (by omega)) mv_L_in ml_L_106 rfl ⟨Nat.le_of_ble_eq_true rfl, Nat.le_of_ble_eq_true rfl⟩ hl.1 rfl (Nat.le_of_ble_eq_true rfl) dL_isDelivered_47 ⟨by show _ ≤ 8 + (UC (cDel c (nI p) (nI 0)) - UC c); omega, by show _ ≤ 48 + (US (cDel c (nI p) (nI 0)) - US c); omega⟩) (fun rr h1 H locs hp hH => ?_)
      obtain ⟨ea, eh⟩ := hp
      rw [eh] at hH
      rw [ea, show inN Sc i0 3 = inN Sc i0 3 from rfl]
      refine lv_if_ne (tgt := 57) hx hb dL_isDelivered_50 (by decide) (fun c50_3 => ?_) (fun c50_3 => ?_)
      · replace c50_3 : ¬ (inN Sc i0 3 = 0) := fun z => c50_3 ((nI_eq (a := inN Sc i0 3) (b := 0) (by omega) (by omega)).mpr z)
        refine lv_iconst (v := nI 0) hx hb dL_isDelivered_57 (by decide) ?_
        refine lv_istore (lv' := [(7, .int (nI 0)), (6, .int (nI 1)), (5, .int (nI (140 + 12 * p))), (0, .ref (o)), (1, .ref (an)), (2, .ref (Sc.1)), (3, .int (nI i0)), (4, .int (nI p))]) hx hb dL_isDelivered_58 hl (by decide) rfl (fun ls hl => ?_)
        refine lv_aload_n hx hb dL_isDelivered_60 rfl (lv_at hl 3 rfl) ?_
        refine lv_iload hx hb dL_isDelivered_61 (lv_at hl 7 rfl) ?_
        refine j_q0 (rest := []) C0 hH hJ ho (cN_X10_attempts l hlt G _ _ b c hJ.rest hwc (nI p) (v_pX hS hw hwc hp)) (v_pX hS hw hwc hp) (v := m 23 p) (v_pk hS hw hp (k := 23) rfl) mv_X10_attempts ml_L_166 rfl ⟨Nat.le_of_ble_eq_true rfl, Nat.le_of_ble_eq_true rfl⟩ hl.1 rfl (Nat.le_of_ble_eq_true rfl) dL_isDelivered_63 ⟨by show _ ≤ 8 + (UC (cDel c (nI p) (nI 0)) - UC c); omega, by show _ ≤ 48 + (US (cDel c (nI p) (nI 0)) - US c); omega⟩ (fun H locs hH => ?_)
        refine lv_iconst (v := nI 1) hx hb dL_isDelivered_66 (by decide) ?_
        refine lv_iadd hx hb dL_isDelivered_67 ?_
        refine lv_istore (lv' := [(8, .int ((m 23 p) + (nI 1))), (7, .int (nI 0)), (6, .int (nI 1)), (5, .int (nI (140 + 12 * p))), (0, .ref (o)), (1, .ref (an)), (2, .ref (Sc.1)), (3, .int (nI i0)), (4, .int (nI p))]) hx hb dL_isDelivered_68 hl (by decide) rfl (fun ls hl => ?_)
        refine lv_aload_n hx hb dL_isDelivered_70 rfl (lv_at hl 4 rfl) ?_
        refine lv_iload hx hb dL_isDelivered_71 (lv_at hl 8 rfl) ?_
        refine j_q0 (rest := []) C0 hH hJ ho (cN_X10_isReturn l hlt G _ _ b c hJ.rest hwc (nI p) (v_nar29 hS hw hp) (v_pX hS hw hwc hp)) (v_pX hS hw hwc hp) (v := m 29 p) (v_pk hS hw hp (k := 29) rfl) mv_X10_isReturn ml_L_151 rfl ⟨Nat.le_of_ble_eq_true rfl, Nat.le_of_ble_eq_true rfl⟩ hl.1 rfl (Nat.le_of_ble_eq_true rfl) dL_isDelivered_73 ⟨by show _ ≤ 8 + (UC (cDel c (nI p) (nI 0)) - UC c); omega, by show _ ≤ 48 + (US (cDel c (nI p) (nI 0)) - US c); omega⟩ (fun H locs hH => ?_)
        refine lv_istore (lv' := [(9, .int (m 29 p)), (8, .int ((m 23 p) + (nI 1))), (7, .int (nI 0)), (6, .int (nI 1)), (5, .int (nI (140 + 12 * p))), (0, .ref (o)), (1, .ref (an)), (2, .ref (Sc.1)), (3, .int (nI i0)), (4, .int (nI p))]) hx hb dL_isDelivered_76 hl (by decide) rfl (fun ls hl => ?_)
        refine lv_iload hx hb dL_isDelivered_78 (lv_at hl 3 rfl) ?_
        refine lv_if_ne (tgt := 88) hx hb dL_isDelivered_80 (by decide) (fun c80_4 => ?_) (fun c80_4 => ?_)
        · refine lv_iload hx hb dL_isDelivered_88 (lv_at hl 2 rfl) ?_
          refine lv_if_eq (tgt := 98) hx hb dL_isDelivered_90 (by decide) (fun c90_5 => ?_) (fun c90_5 => ?_)
          · refine lv_iload hx hb dL_isDelivered_98 (lv_at hl 1 rfl) ?_
            refine lv_iconst (v := nI 3) hx hb dL_isDelivered_100 (by decide) ?_
            refine lv_aload_n hx hb dL_isDelivered_101 rfl (lv_at hl 6 rfl) ?_
            refine lv_iload hx hb dL_isDelivered_102 (lv_at hl 4 rfl) ?_
            refine lv_iconst (v := nI 1) hx hb dL_isDelivered_104 (by decide) ?_
            refine lv_iadd hx hb dL_isDelivered_105 ?_
            rw [show nI (140 + 12 * p) + nI 1 = nI (140 + 12 * p + 1) from nI_add _ _]
            refine j_ld C0 hH hJ hL (ix := 140 + 12 * p + 1) (by omega) (by decide) (v := m 12 p) hNP.g1 dL_isDelivered_106 ?_
            refine lv_isub hx hb dL_isDelivered_107 ?_
            refine lv_icmp_ge (tgt := 116) hx hb dL_isDelivered_108 (by decide) (fun c108_6 => ?_) (fun c108_6 => ?_)
            · refine lv_iload hx hb dL_isDelivered_116 (lv_at hl 0 rfl) ?_
              refine lv_if_eq (tgt := 126) hx hb dL_isDelivered_118 (by decide) (fun c118_7 => ?_) (fun c118_7 => ?_)
              · exact absurd c118_7 h29
              · refine lv_bipush (v := nI 104) hx hb dL_isDelivered_121 (by decide) ?_
                refine lv_goto (tgt := 128) hx hb dL_isDelivered_123 (by decide) ?_
                refine lv_istore (lv' := [(10, .int (nI 104)), (9, .int (m 29 p)), (8, .int ((m 23 p) + (nI 1))), (7, .int (nI 0)), (6, .int (nI 1)), (5, .int (nI (140 + 12 * p))), (0, .ref (o)), (1, .ref (an)), (2, .ref (Sc.1)), (3, .int (nI i0)), (4, .int (nI p))]) hx hb dL_isDelivered_128 hl (by decide) rfl (fun ls hl => ?_)
                refine lv_aload_n hx hb dL_isDelivered_130 rfl (lv_at hl 6 rfl) ?_
                refine lv_iload hx hb dL_isDelivered_131 (lv_at hl 10 rfl) ?_
                refine lv_iload hx hb dL_isDelivered_133 (lv_at hl 3 rfl) ?_
                have hwc0 := hwc
                refine j_w1 (As := [.int (nI p), .int (nI 0)]) (rest := []) (v := nI 104) (c' := cDel c (nI p) (nI 0)) C0 hN hH hJ ho (lW_deliver (nI p) (nI 0) hJ.own hJ.obj (cC_X10_deliver l hlt G _ _ b c hJ.rest hwc (nI p) (nI 0)) (hin_n hxa (fun E h9 z => z.1))) (hv_in hxa hRa (fun E h9 z => z.1)) ms_L_deliver ml_L_169 rfl ⟨Nat.le_of_ble_eq_true rfl, Nat.le_of_ble_eq_true rfl⟩ hl.1 rfl (Nat.le_of_ble_eq_true rfl) dL_isDelivered_135 ⟨by show _ ≤ 8 + (UC (cDel c (nI p) (nI 0)) - UC c); omega, by show _ ≤ 48 + (US (cDel c (nI p) (nI 0)) - US c); omega⟩ (fun h b H locs hH hJ ho hwc => ?_)
                refine lv_iload hx hb dL_isDelivered_138 (lv_at hl 0 rfl) ?_
                refine lv_icmp_eq (tgt := 145) hx hb dL_isDelivered_140 (by decide) (fun c140_8 => ?_) (fun c140_8 => ?_)
                · refine lv_aload_n hx hb dL_isDelivered_145 rfl (lv_at hl 7 rfl) ?_
                  refine lv_iload hx hb dL_isDelivered_146 (lv_at hl 5 rfl) ?_
                  refine lv_bipush (v := nI 11) hx hb dL_isDelivered_148 (by decide) ?_
                  refine lv_iadd hx hb dL_isDelivered_150 ?_
                  rw [show nI (140 + 12 * p) + nI 11 = nI (140 + 12 * p + 11) from nI_add _ _]
                  refine lv_iload hx hb dL_isDelivered_151 (lv_at hl 0 rfl) ?_
                  refine lv_bipush (v := nI 100) hx hb dL_isDelivered_153 (by decide) ?_
                  refine lv_icmp_ne (tgt := 165) hx hb dL_isDelivered_155 (by decide) (fun c155_9 => ?_) (fun c155_9 => ?_)
                  · refine lv_aload_n hx hb dL_isDelivered_165 rfl (lv_at hl 7 rfl) ?_
                    refine lv_iload hx hb dL_isDelivered_166 (lv_at hl 5 rfl) ?_
                    refine lv_bipush (v := nI 11) hx hb dL_isDelivered_168 (by decide) ?_
                    refine lv_iadd hx hb dL_isDelivered_170 ?_
                    rw [show nI (140 + 12 * p) + nI 11 = nI (140 + 12 * p + 11) from nI_add _ _]
                    refine j_ld C0 hH hJ hL (ix := 140 + 12 * p + 11) (by omega) (by decide) (v := if m 28 p = 100 then m 26 p else -1) hNP.g11 dL_isDelivered_171 ?_
                    refine j_st C0 hH hJ hL (ix := 140 + 12 * p + 11) (by omega) (by decide) dL_isDelivered_172 (fun h H locs hH hJ => ?_)
                    obtain ⟨f_10, hf_10⟩ : ∃ z, z = upF f (140 + 12 * p + 11) (if m 28 p = 100 then m 26 p else -1) := ⟨_, rfl⟩
                    obtain ⟨L_11, hL_11⟩ : ∃ z, z = setL L an 700 f_10 := ⟨_, rfl⟩
                    rw [← hf_10, ← hL_11] at hJ
                    have hL_L_11 : L_11 an = some (700, f_10) := by rw [hL_11]; exact setL_s _ _ _ _
                    refine lv_iload hx hb dL_isDelivered_173 (lv_at hl 0 rfl) ?_
                    refine lv_bipush (v := nI 114) hx hb dL_isDelivered_175 (by decide) ?_
                    refine lv_icmp_ne (tgt := 190) hx hb dL_isDelivered_177 (by decide) (fun c177_12 => ?_) (fun c177_12 => ?_)
                    · refine lv_iload hx hb dL_isDelivered_190 (lv_at hl 0 rfl) ?_
                      refine lv_ldc hx hb hown (hts _ kl_L_20) dL_isDelivered_192 ?_
                      refine lv_icmp_eq (tgt := 238) hx hb dL_isDelivered_194 (by decide) (fun c194_13 => ?_) (fun c194_13 => ?_)
                      · exact absurd c194_13 (by decide)
                      · refine lv_aload_n hx hb dL_isDelivered_197 rfl (lv_at hl 6 rfl) ?_
                        refine lv_iload hx hb dL_isDelivered_198 (lv_at hl 10 rfl) ?_
                        refine j_w0 (As := [.int (nI p)]) (rest := []) (v := nI 104) C0 hN hH ho (lW_state (nI p) hJ.own hJ.obj (cN_X10_state l hlt G _ _ b (cDel c (nI p) (nI 0)) hJ.rest hwc (nI p) (v_nar28 hS1 hw1 hp1) (v_pX hS1 hw1 hwc hp1)) (fun E h9 z => absurd ((v_pX hS1 hw1 hwc hp1).symm.trans z.1) (fun y => nomatch y))) (fun r h9 z => z.elim (fun y => ⟨y.2.1.trans ((v_pk hS1 hw1 hp1 (k := 28) rfl).trans d1), y.2.2⟩) (fun ⟨E, y, _⟩ => absurd ((v_pX hS1 hw1 hwc hp1).symm.trans y.1) (fun q => nomatch q))) ms_L_state ml_L_147 rfl ⟨Nat.le_of_ble_eq_true rfl, Nat.le_of_ble_eq_true rfl⟩ hl.1 rfl (Nat.le_of_ble_eq_true rfl) dL_isDelivered_200 ⟨by show _ ≤ 8 + (UC (cDel c (nI p) (nI 0)) - UC c); omega, by show _ ≤ 48 + (US (cDel c (nI p) (nI 0)) - US c); omega⟩ (fun H locs hH => ?_)
                        refine lv_iload hx hb dL_isDelivered_203 (lv_at hl 0 rfl) ?_
                        refine lv_bipush (v := nI 119) hx hb dL_isDelivered_205 (by decide) ?_
                        refine lv_icmp_ne (tgt := 215) hx hb dL_isDelivered_207 (by decide) (fun c207_14 => ?_) (fun c207_14 => ?_)
                        · refine lv_iload hx hb dL_isDelivered_215 (lv_at hl 0 rfl) ?_
                          refine lv_icmp_ne (tgt := 242) hx hb dL_isDelivered_217 (by decide) (fun c217_15 => ?_) (fun c217_15 => ?_)
                          · exact absurd (by decide) c217_15
                          · refine lv_iload hx hb dL_isDelivered_220 (lv_at hl 0 rfl) ?_
                            refine lv_bipush (v := nI 100) hx hb dL_isDelivered_222 (by decide) ?_
                            refine lv_icmp_eq (tgt := 238) hx hb dL_isDelivered_224 (by decide) (fun c224_16 => ?_) (fun c224_16 => ?_)
                            · exact absurd c224_16 (by decide)
                            · refine lv_aload_n hx hb dL_isDelivered_227 rfl (lv_at hl 6 rfl) ?_
                              refine lv_iload hx hb dL_isDelivered_228 (lv_at hl 10 rfl) ?_
                              refine j_q0 (rest := []) C0 hH hJ ho (cN_X10_attempts l hlt G _ _ b (cDel c (nI p) (nI 0)) hJ.rest hwc (nI p) (v_pX hS1 hw1 hwc hp1)) (v_pX hS1 hw1 hwc hp1) (v := m 23 p + nI 1) ((v_pk hS1 hw1 hp1 (k := 23) rfl).trans d2) mv_X10_attempts ml_L_166 rfl ⟨Nat.le_of_ble_eq_true rfl, Nat.le_of_ble_eq_true rfl⟩ hl.1 rfl (Nat.le_of_ble_eq_true rfl) dL_isDelivered_230 ⟨by show _ ≤ 8 + (UC (cDel c (nI p) (nI 0)) - UC c); omega, by show _ ≤ 48 + (US (cDel c (nI p) (nI 0)) - US c); omega⟩ (fun H locs hH => ?_)
                              refine lv_iload hx hb dL_isDelivered_233 (lv_at hl 2 rfl) ?_
                              refine lv_icmp_ne (tgt := 242) hx hb dL_isDelivered_235 (by decide) (fun c235_17 => ?_) (fun c235_17 => ?_)
                              · exact absurd rfl c235_17
                              · refine lv_iconst (v := nI 1) hx hb dL_isDelivered_238 (by decide) ?_
                                refine lv_goto (tgt := 243) hx hb dL_isDelivered_239 (by decide) ?_
                                have hnp9 : NP f_10 m1 p := hNP.del hP1 (by decide) (by rw [hf_10, upF_s, z1, if_neg (by decide), if_neg (by decide)]) (fun j hj a1 => by rw [hf_10]; exact upF_o (by omega))
                                have hNT := hT.par (f' := f_10) hw hO1 hp (fun i hi => by have y := hi 11 (by omega); rw [hf_10]; exact upF_o y) hnp9
                                rw [hL_11] at hJ
                                exact e_Z C0 hr (by decide) hH ⟨rfl, b, f_10, m1, n + 1, hJ, ho, hwc, Nat.le_refl _, hSt1, hNT.1, hNT.2, hg9⟩ (by omega) (by omega) dL_isDelivered_243
                        · exact absurd c207_14 (by decide)
                    · exact absurd c177_12 (by decide)
                  · exact absurd c155_9 (by decide)
                · exact absurd (by decide) c140_8
            · exact absurd (Int32.not_le.mp c108_6) hy
          · exact absurd (by decide) c90_5
        · exact absurd c80_4 (by decide)
      · exact absurd ((nI_eq (a := inN Sc i0 3) (b := 0) (by omega) (by omega)).mp c50_3) ht
set_option maxHeartbeats 1600000 in
set_option maxRecDepth 100000 in
theorem lL_isDelivered_R (l : Launch) (hlt : l.stackTraces = false) (Sc : SCR) (G : GT) (A : Nat → Prop) (h : AH) (b : BA) (c m : MM) (n : Nat) (L : LNum) (M : LRef) (o : Nat) (hJ : JW G.2.2.1 h b c L M) (ho : b 14 0 = o) (hwc : WFc c) (hS : Sim n c m) (hw : WFa m) (hI : IV m) (hn : n < 512) (i0 : Nat) (hi0 : i0 < 2 ^ 19) (p : Nat) (hp : p < npN m) (z1 : m 28 p = 115) (z2 : m 15 p = m 14 p) (ht : ¬ inN Sc i0 3 = 0) (hy : ¬ m 23 p + 1 < 3 - m 12 p) (h29 : m 29 p = 0) (an : Nat) (f : Nat → Int32) (hL : L an = some (700, f)) (hT : NT f m) : lcI l Sc G A yL_isDelivered cL_isDelivered 11 (Option.some FieldType.boolean) 13 443 (8 + (UC (cSr (cDel c (nI p) (nI 0)) (nI p)) - UC c)) (48 + (US (cSr (cDel c (nI p) (nI 0)) (nI p)) - US c)) [.ref (o), .ref (an), .ref (Sc.1), .int (nI i0), .int (nI p)] h (fun r h' => r = nI 1 ∧ ∃ b' f' m' n', JW G.2.2.1 h' b' (cSr (cDel c (nI p) (nI 0)) (nI p)) (setL L an 700 f') M ∧ b' 14 0 = o ∧ WFc (cSr (cDel c (nI p) (nI 0)) (nI p)) ∧ n' ≤ n + 1 ∧ Stt n' (cSr (cDel c (nI p) (nI 0)) (nI p)) m' ∧ NT f' m' ∧ Kp m m' ∧ UC c ≤ UC (cSr (cDel c (nI p) (nI 0)) (nI p)) ∧ US c ≤ US (cSr (cDel c (nI p) (nI 0)) (nI p))) := by
  refine lm_of rfl (Nat.le_of_ble_eq_true rfl) ?_
  intro pr e s m9 below meth c9 C0 hN hr hH ls hl
  obtain ⟨hx, hb, hml, hown, hts, hK, hA, -⟩ := id C0
  have hl : lv_has ls 11 [(0, .ref (o)), (1, .ref (an)), (2, .ref (Sc.1)), (3, .int (nI i0)), (4, .int (nI p))] := hl
  have n40 := hw.np.2
  have n6 := hw.nh.2
  have nl12 := hw.nl.2
  have hNP := hT.pa hp
  have hin3 := inN_lt Sc i0 (n := 3) (by omega)
  obtain ⟨hxa, m1, hSt1, hO1, hd9⟩ := d_delF ⟨hS, hw, hI⟩ hwc hn hp z1 z2
  obtain ⟨-, -, hRa, hP1⟩ := (hd9.resolve_left (fun w => hy w.1)).resolve_left (fun w => w.2.1 h29)
  have hSt2 : Stt (n + 1) (cDel c (nI p) (nI 0)) m1 := hSt1
  have hSt1 := hSt2
  have hg9 := (gm_del hwc (nI p) (nI 0)).1
  rw [if_pos hxa] at hg9
  have hw1 := hSt1.2.1
  have hS1 := hSt1.1
  have hp1 : p < npN m1 := by rw [npN_ext (hO1.1 39 ⟨by unfold oK; omega, by omega⟩)]; exact hp
  have h41 : m1 41 0 = m 41 0 := by rw [hO1.1 41 ⟨by unfold oK; omega, by omega⟩]
  obtain ⟨t1, t2r, t3, t4, t5, t6, t7, t8⟩ := id hP1
  have t28 : m1 28 p = 115 := (t8 28 (by unfold tK; omega)).trans z1
  have t13 : m1 13 p = m 13 p := t8 13 (by unfold tK; omega)
  have t15 : m1 15 p = m 15 p := t8 15 (by unfold tK; omega)
  have t2 : m1 14 p = m1 13 p := t2r.trans t13.symm
  have hgu := uc_sr (cDel c (nI p) (nI 0)) (nI p)
  refine lv_sipush (v := nI 140) hx hb dL_isDelivered_0 (by decide) ?_
  refine lv_bipush (v := nI 12) hx hb dL_isDelivered_3 (by decide) ?_
  refine lv_iload hx hb dL_isDelivered_5 (lv_at hl 4 rfl) ?_
  refine lv_imul hx hb dL_isDelivered_7 ?_
  rw [show nI 12 * nI p = nI (12 * p) from nI_mul]
  refine lv_iadd hx hb dL_isDelivered_8 ?_
  rw [show nI 140 + nI (12 * p) = nI (140 + 12 * p) from nI_add _ _]
  refine lv_istore (lv' := [(5, .int (nI (140 + 12 * p))), (0, .ref (o)), (1, .ref (an)), (2, .ref (Sc.1)), (3, .int (nI i0)), (4, .int (nI p))]) hx hb dL_isDelivered_9 hl (by decide) rfl (fun ls hl => ?_)
  refine lv_aload_n hx hb dL_isDelivered_11 rfl (lv_at hl 1 rfl) ?_
  refine lv_iload hx hb dL_isDelivered_12 (lv_at hl 5 rfl) ?_
  refine j_w0 (As := [.int (nI p)]) (rest := []) (v := nI 115) C0 hN hH ho (lW_state (nI p) hJ.own hJ.obj (cN_X10_state l hlt G _ _ b c hJ.rest hwc (nI p) (v_nar28 hS hw hp) (v_pX hS hw hwc hp)) (fun E h9 z => absurd ((v_pX hS hw hwc hp).symm.trans z.1) (fun y => nomatch y))) (fun r h9 z => z.elim (fun y => ⟨y.2.1.trans ((v_pk hS hw hp (k := 28) rfl).trans z1), y.2.2⟩) (fun ⟨E, y, _⟩ => absurd ((v_pX hS hw hwc hp).symm.trans y.1) (fun q => nomatch q))) ms_L_state ml_L_147 rfl ⟨Nat.le_of_ble_eq_true rfl, Nat.le_of_ble_eq_true rfl⟩ hl.1 rfl (Nat.le_of_ble_eq_true rfl) dL_isDelivered_14 ⟨by show _ ≤ 8 + (UC (cSr (cDel c (nI p) (nI 0)) (nI p)) - UC c); omega, by show _ ≤ 48 + (US (cSr (cDel c (nI p) (nI 0)) (nI p)) - US c); omega⟩ (fun H locs hH => ?_)
  refine lv_bipush (v := nI 115) hx hb dL_isDelivered_17 (by decide) ?_
  refine lv_icmp_ne (tgt := 41) hx hb dL_isDelivered_19 (by decide) (fun c19_1 => ?_) (fun c19_1 => ?_)
  · exact absurd (by decide) c19_1
  · refine lv_aload_n hx hb dL_isDelivered_22 rfl (lv_at hl 1 rfl) ?_
    refine lv_iload hx hb dL_isDelivered_23 (lv_at hl 5 rfl) ?_
    refine j_w0 (As := [.int (nI p)]) (rest := []) (v := m 14 p) C0 hN hH ho (lW_at (nI p) hJ.own hJ.obj (cN_X10_at l hlt G _ _ b c hJ.rest hwc (nI p) (v_at hS hw hwc hp (by rw [z1]; decide))) (fun E h9 z => absurd ((v_at hS hw hwc hp (by rw [z1]; decide)).symm.trans z.1) (fun y => nomatch y))) (fun r h9 z => z.elim (fun y => ⟨y.2.1.trans ((v_pk hS hw hp (k := 15) rfl).trans z2), y.2.2⟩) (fun ⟨E, y, _⟩ => absurd ((v_at hS hw hwc hp (by rw [z1]; decide)).symm.trans y.1) (fun q => nomatch q))) ms_L_at ml_L_149 rfl ⟨Nat.le_of_ble_eq_true rfl, Nat.le_of_ble_eq_true rfl⟩ hl.1 rfl (Nat.le_of_ble_eq_true rfl) dL_isDelivered_25 ⟨by show _ ≤ 8 + (UC (cSr (cDel c (nI p) (nI 0)) (nI p)) - UC c); omega, by show _ ≤ 48 + (US (cSr (cDel c (nI p) (nI 0)) (nI p)) - US c); omega⟩ (fun H locs hH => ?_)
    refine lv_aload_n hx hb dL_isDelivered_28 rfl (lv_at hl 1 rfl) ?_
    refine lv_iload hx hb dL_isDelivered_29 (lv_at hl 5 rfl) ?_
    refine j_q0 (rest := [.int (m 14 p)]) C0 hH hJ ho (cN_X10_destination l hlt G _ _ b c hJ.rest hwc (nI p) (v_pX hS hw hwc hp)) (v_pX hS hw hwc hp) (v := m 14 p) (v_pk hS hw hp (k := 14) rfl) mv_X10_destination ml_L_128 rfl ⟨Nat.le_of_ble_eq_true rfl, Nat.le_of_ble_eq_true rfl⟩ hl.1 rfl (Nat.le_of_ble_eq_true rfl) dL_isDelivered_31 ⟨by show _ ≤ 8 + (UC (cSr (cDel c (nI p) (nI 0)) (nI p)) - UC c); omega, by show _ ≤ 48 + (US (cSr (cDel c (nI p) (nI 0)) (nI p)) - US c); omega⟩ (fun H locs hH => ?_)
    refine lv_icmp_ne (tgt := 41) hx hb dL_isDelivered_34 (by decide) (fun c34_2 => ?_) (fun c34_2 => ?_)
    · exact absurd rfl c34_2
    · refine lv_iconst (v := nI 1) hx hb dL_isDelivered_37 (by decide) ?_
      refine lv_goto (tgt := 42) hx hb dL_isDelivered_38 (by decide) ?_
      refine lv_istore (lv' := [(6, .int (nI 1)), (5, .int (nI (140 + 12 * p))), (0, .ref (o)), (1, .ref (an)), (2, .ref (Sc.1)), (3, .int (nI i0)), (4, .int (nI p))]) hx hb dL_isDelivered_42 hl (by decide) rfl (fun ls hl => ?_)
      refine lv_aload_n hx hb dL_isDelivered_44 rfl (lv_at hl 4 rfl) ?_
      refine lv_iload_n hx hb dL_isDelivered_45 rfl (lv_at hl 5 rfl) ?_
      refine lv_iconst (v := nI 3) hx hb dL_isDelivered_46 (by decide) ?_
      refine k_i hH (k_lS (rest := []) C0 hN hH (lL_in l Sc G A _ i0 3 (by omega) (by omega) (by omega)) mv_L_in ml_L_106 rfl ⟨Nat.le_of_ble_eq_true rfl, Nat.le_of_ble_eq_true rfl⟩ hl.1 rfl (Nat.le_of_ble_eq_true rfl) dL_isDelivered_47 ⟨by show _ ≤ 8 + (UC (cSr (cDel c (nI p) (nI 0)) (nI p)) - UC c); omega, by show _ ≤ 48 + (US (cSr (cDel c (nI p) (nI 0)) (nI p)) - US c); omega⟩) (fun rr h1 H locs hp hH => ?_)
      obtain ⟨ea, eh⟩ := hp
      rw [eh] at hH
      rw [ea, show inN Sc i0 3 = inN Sc i0 3 from rfl]
      refine lv_if_ne (tgt := 57) hx hb dL_isDelivered_50 (by decide) (fun c50_3 => ?_) (fun c50_3 => ?_)
      · replace c50_3 : ¬ (inN Sc i0 3 = 0) := fun z => c50_3 ((nI_eq (a := inN Sc i0 3) (b := 0) (by omega) (by omega)).mpr z)
        refine lv_iconst (v := nI 0) hx hb dL_isDelivered_57 (by decide) ?_
        refine lv_istore (lv' := [(7, .int (nI 0)), (6, .int (nI 1)), (5, .int (nI (140 + 12 * p))), (0, .ref (o)), (1, .ref (an)), (2, .ref (Sc.1)), (3, .int (nI i0)), (4, .int (nI p))]) hx hb dL_isDelivered_58 hl (by decide) rfl (fun ls hl => ?_)
        refine lv_aload_n hx hb dL_isDelivered_60 rfl (lv_at hl 3 rfl) ?_
        refine lv_iload hx hb dL_isDelivered_61 (lv_at hl 7 rfl) ?_
        refine j_q0 (rest := []) C0 hH hJ ho (cN_X10_attempts l hlt G _ _ b c hJ.rest hwc (nI p) (v_pX hS hw hwc hp)) (v_pX hS hw hwc hp) (v := m 23 p) (v_pk hS hw hp (k := 23) rfl) mv_X10_attempts ml_L_166 rfl ⟨Nat.le_of_ble_eq_true rfl, Nat.le_of_ble_eq_true rfl⟩ hl.1 rfl (Nat.le_of_ble_eq_true rfl) dL_isDelivered_63 ⟨by show _ ≤ 8 + (UC (cSr (cDel c (nI p) (nI 0)) (nI p)) - UC c); omega, by show _ ≤ 48 + (US (cSr (cDel c (nI p) (nI 0)) (nI p)) - US c); omega⟩ (fun H locs hH => ?_)
        refine lv_iconst (v := nI 1) hx hb dL_isDelivered_66 (by decide) ?_
        refine lv_iadd hx hb dL_isDelivered_67 ?_
        refine lv_istore (lv' := [(8, .int ((m 23 p) + (nI 1))), (7, .int (nI 0)), (6, .int (nI 1)), (5, .int (nI (140 + 12 * p))), (0, .ref (o)), (1, .ref (an)), (2, .ref (Sc.1)), (3, .int (nI i0)), (4, .int (nI p))]) hx hb dL_isDelivered_68 hl (by decide) rfl (fun ls hl => ?_)
        refine lv_aload_n hx hb dL_isDelivered_70 rfl (lv_at hl 4 rfl) ?_
        refine lv_iload hx hb dL_isDelivered_71 (lv_at hl 8 rfl) ?_
        refine j_q0 (rest := []) C0 hH hJ ho (cN_X10_isReturn l hlt G _ _ b c hJ.rest hwc (nI p) (v_nar29 hS hw hp) (v_pX hS hw hwc hp)) (v_pX hS hw hwc hp) (v := m 29 p) (v_pk hS hw hp (k := 29) rfl) mv_X10_isReturn ml_L_151 rfl ⟨Nat.le_of_ble_eq_true rfl, Nat.le_of_ble_eq_true rfl⟩ hl.1 rfl (Nat.le_of_ble_eq_true rfl) dL_isDelivered_73 ⟨by show _ ≤ 8 + (UC (cSr (cDel c (nI p) (nI 0)) (nI p)) - UC c); omega, by show _ ≤ 48 + (US (cSr (cDel c (nI p) (nI 0)) (nI p)) - US c); omega⟩ (fun H locs hH => ?_)
        refine lv_istore (lv' := [(9, .int (m 29 p)), (8, .int ((m 23 p) + (nI 1))), (7, .int (nI 0)), (6, .int (nI 1)), (5, .int (nI (140 + 12 * p))), (0, .ref (o)), (1, .ref (an)), (2, .ref (Sc.1)), (3, .int (nI i0)), (4, .int (nI p))]) hx hb dL_isDelivered_76 hl (by decide) rfl (fun ls hl => ?_)
        refine lv_iload hx hb dL_isDelivered_78 (lv_at hl 3 rfl) ?_
        refine lv_if_ne (tgt := 88) hx hb dL_isDelivered_80 (by decide) (fun c80_4 => ?_) (fun c80_4 => ?_)
        · refine lv_iload hx hb dL_isDelivered_88 (lv_at hl 2 rfl) ?_
          refine lv_if_eq (tgt := 98) hx hb dL_isDelivered_90 (by decide) (fun c90_5 => ?_) (fun c90_5 => ?_)
          · refine lv_iload hx hb dL_isDelivered_98 (lv_at hl 1 rfl) ?_
            refine lv_iconst (v := nI 3) hx hb dL_isDelivered_100 (by decide) ?_
            refine lv_aload_n hx hb dL_isDelivered_101 rfl (lv_at hl 6 rfl) ?_
            refine lv_iload hx hb dL_isDelivered_102 (lv_at hl 4 rfl) ?_
            refine lv_iconst (v := nI 1) hx hb dL_isDelivered_104 (by decide) ?_
            refine lv_iadd hx hb dL_isDelivered_105 ?_
            rw [show nI (140 + 12 * p) + nI 1 = nI (140 + 12 * p + 1) from nI_add _ _]
            refine j_ld C0 hH hJ hL (ix := 140 + 12 * p + 1) (by omega) (by decide) (v := m 12 p) hNP.g1 dL_isDelivered_106 ?_
            refine lv_isub hx hb dL_isDelivered_107 ?_
            refine lv_icmp_ge (tgt := 116) hx hb dL_isDelivered_108 (by decide) (fun c108_6 => ?_) (fun c108_6 => ?_)
            · refine lv_iload hx hb dL_isDelivered_116 (lv_at hl 0 rfl) ?_
              refine lv_if_eq (tgt := 126) hx hb dL_isDelivered_118 (by decide) (fun c118_7 => ?_) (fun c118_7 => ?_)
              · refine lv_bipush (v := nI 114) hx hb dL_isDelivered_126 (by decide) ?_
                refine lv_istore (lv' := [(10, .int (nI 114)), (9, .int (m 29 p)), (8, .int ((m 23 p) + (nI 1))), (7, .int (nI 0)), (6, .int (nI 1)), (5, .int (nI (140 + 12 * p))), (0, .ref (o)), (1, .ref (an)), (2, .ref (Sc.1)), (3, .int (nI i0)), (4, .int (nI p))]) hx hb dL_isDelivered_128 hl (by decide) rfl (fun ls hl => ?_)
                refine lv_aload_n hx hb dL_isDelivered_130 rfl (lv_at hl 6 rfl) ?_
                refine lv_iload hx hb dL_isDelivered_131 (lv_at hl 10 rfl) ?_
                refine lv_iload hx hb dL_isDelivered_133 (lv_at hl 3 rfl) ?_
                have hwc0 := hwc
                refine j_w1 (As := [.int (nI p), .int (nI 0)]) (rest := []) (v := nI 114) (c' := cDel c (nI p) (nI 0)) C0 hN hH hJ ho (lW_deliver (nI p) (nI 0) hJ.own hJ.obj (cC_X10_deliver l hlt G _ _ b c hJ.rest hwc (nI p) (nI 0)) (hin_n hxa (fun E h9 z => z.1))) (hv_in hxa hRa (fun E h9 z => z.1)) ms_L_deliver ml_L_169 rfl ⟨Nat.le_of_ble_eq_true rfl, Nat.le_of_ble_eq_true rfl⟩ hl.1 rfl (Nat.le_of_ble_eq_true rfl) dL_isDelivered_135 ⟨by show _ ≤ 8 + (UC (cSr (cDel c (nI p) (nI 0)) (nI p)) - UC c); omega, by show _ ≤ 48 + (US (cSr (cDel c (nI p) (nI 0)) (nI p)) - US c); omega⟩ (fun h b H locs hH hJ ho hwc => ?_)
                refine lv_iload hx hb dL_isDelivered_138 (lv_at hl 0 rfl) ?_
                refine lv_icmp_eq (tgt := 145) hx hb dL_isDelivered_140 (by decide) (fun c140_8 => ?_) (fun c140_8 => ?_)
                · refine lv_aload_n hx hb dL_isDelivered_145 rfl (lv_at hl 7 rfl) ?_
                  refine lv_iload hx hb dL_isDelivered_146 (lv_at hl 5 rfl) ?_
                  refine lv_bipush (v := nI 11) hx hb dL_isDelivered_148 (by decide) ?_
                  refine lv_iadd hx hb dL_isDelivered_150 ?_
                  rw [show nI (140 + 12 * p) + nI 11 = nI (140 + 12 * p + 11) from nI_add _ _]
                  refine lv_iload hx hb dL_isDelivered_151 (lv_at hl 0 rfl) ?_
                  refine lv_bipush (v := nI 100) hx hb dL_isDelivered_153 (by decide) ?_
                  refine lv_icmp_ne (tgt := 165) hx hb dL_isDelivered_155 (by decide) (fun c155_9 => ?_) (fun c155_9 => ?_)
                  · refine lv_aload_n hx hb dL_isDelivered_165 rfl (lv_at hl 7 rfl) ?_
                    refine lv_iload hx hb dL_isDelivered_166 (lv_at hl 5 rfl) ?_
                    refine lv_bipush (v := nI 11) hx hb dL_isDelivered_168 (by decide) ?_
                    refine lv_iadd hx hb dL_isDelivered_170 ?_
                    rw [show nI (140 + 12 * p) + nI 11 = nI (140 + 12 * p + 11) from nI_add _ _]
                    refine j_ld C0 hH hJ hL (ix := 140 + 12 * p + 11) (by omega) (by decide) (v := if m 28 p = 100 then m 26 p else -1) hNP.g11 dL_isDelivered_171 ?_
                    refine j_st C0 hH hJ hL (ix := 140 + 12 * p + 11) (by omega) (by decide) dL_isDelivered_172 (fun h H locs hH hJ => ?_)
                    obtain ⟨f_10, hf_10⟩ : ∃ z, z = upF f (140 + 12 * p + 11) (if m 28 p = 100 then m 26 p else -1) := ⟨_, rfl⟩
                    obtain ⟨L_11, hL_11⟩ : ∃ z, z = setL L an 700 f_10 := ⟨_, rfl⟩
                    rw [← hf_10, ← hL_11] at hJ
                    have hL_L_11 : L_11 an = some (700, f_10) := by rw [hL_11]; exact setL_s _ _ _ _
                    refine lv_iload hx hb dL_isDelivered_173 (lv_at hl 0 rfl) ?_
                    refine lv_bipush (v := nI 114) hx hb dL_isDelivered_175 (by decide) ?_
                    refine lv_icmp_ne (tgt := 190) hx hb dL_isDelivered_177 (by decide) (fun c177_12 => ?_) (fun c177_12 => ?_)
                    · exact absurd (by decide) c177_12
                    · refine lv_aload_n hx hb dL_isDelivered_180 rfl (lv_at hl 6 rfl) ?_
                      refine lv_aload_n hx hb dL_isDelivered_181 rfl (lv_at hl 7 rfl) ?_
                      refine lv_iload hx hb dL_isDelivered_182 (lv_at hl 10 rfl) ?_
                      have hwcT := hwc
                      refine k_i hH (k_lS (rest := []) C0 hN hH (lL_isTurned l hlt Sc G A _ _ (cDel c (nI p) (nI 0)) m1 (n + 1) _ _ o hJ ho hwc hS1 hw1 an f_10 hL_L_11 p hp1 (by rw [hf_10, upF_o (by omega)]; exact hNP.g2.trans t13.symm) t28 t1 t2 t3 t6) mv_L_isTurned ml_L_172 rfl ⟨Nat.le_of_ble_eq_true rfl, Nat.le_of_ble_eq_true rfl⟩ hl.1 rfl (Nat.le_of_ble_eq_true rfl) dL_isDelivered_184 ⟨by show _ ≤ 8 + (UC (cSr (cDel c (nI p) (nI 0)) (nI p)) - UC c); omega, by show _ ≤ 48 + (US (cSr (cDel c (nI p) (nI 0)) (nI p)) - US c); omega⟩) (fun rr h H locs hp0 hH => ?_)
                      obtain ⟨ea, b, hJ, ho, hwc⟩ := hp0
                      rw [ea]
                      obtain ⟨f9, hf9⟩ : ∃ z, z = upF (upF f_10 (140 + 12 * p + 3) (m1 41 0)) (140 + 12 * p + 8) (if m1 15 p = m1 13 p then m1 41 0 else -1) := ⟨_, rfl⟩
                      rw [← hf9] at hJ
                      have hST := (v_arv hS1 hw1 hwcT hp1 t28).2
                      refine lv_goto (tgt := 243) hx hb dL_isDelivered_187 (by decide) ?_
                      have ef : f_10 = f := by rw [hf_10]; exact upF_id hNP.g11
                      have hnp9 : NP f9 m1 p := hNP.turn hP1 z1 (by rw [hf9, upF_o (by omega), upF_s]; exact h41) (by rw [hf9, upF_s, t15, t13, h41]) (fun j hj a1 a2 => by rw [hf9, upF_o (by omega), upF_o (by omega), ef])
                      have hNT := hT.par (f' := f9) hw hO1 hp (fun i hi => by have y3 := hi 3 (by omega); have y8 := hi 8 (by omega); rw [hf9, upF_o y8, upF_o y3, ef]) hnp9
                      rw [hL_11, setL_2] at hJ
                      exact e_Z C0 hr (by decide) hH ⟨rfl, b, f9, m1, n + 1, hJ, ho, hwc, Nat.le_refl _, ⟨hST, hw1, hSt1.2.2⟩, hNT.1, hNT.2, by omega, by omega⟩ (by omega) (by omega) dL_isDelivered_243
                  · exact absurd c155_9 (by decide)
                · exact absurd (by decide) c140_8
              · exact absurd h29 c118_7
            · exact absurd (Int32.not_le.mp c108_6) hy
          · exact absurd (by decide) c90_5
        · exact absurd c80_4 (by decide)
      · exact absurd ((nI_eq (a := inN Sc i0 3) (b := 0) (by omega) (by omega)).mp c50_3) ht
