set_option maxHeartbeats 4000000 in
set_option maxRecDepth 100000 in
theorem lL_isScanned_O (l : Launch) (hlt : l.stackTraces = false) (Sc : SCR) (G : GT) (A : Nat → Prop) (h : AH) (b : BA) (c m : MM) (n : Nat) (L : LNum) (M : LRef) (o : Nat) (hJ : JW G.2.2.1 h b c L M) (ho : b 14 0 = o) (hwc : WFc c) (hS : Sim n c m) (hw : WFa m) (hI : IV m) (hn : n < 512) (i0 : Nat) (hi0 : i0 < 2 ^ 19) (h2 : 2 ≤ nhN m) (p : Nat) (hp : p < npN m) (y : Nat) (hy : y < nhN m) (hdf : if inN Sc i0 4 = 0 then inN Sc (i0 + 1) (nhN m) = y else if m 28 p = 116 then m 3 (vN (m 16 p)) = nI y else m 15 p = nI y) (z1 : m 28 p = 117) (z2 : m 15 p = nI y) (an : Nat) (f : Nat → Int32) (hL : L an = some (700, f)) (hT : NT f m) : lcI l Sc G A yL_isScanned cL_isScanned 11 (Option.some FieldType.boolean) 13 445 (8 + (UC (cScn c (nI p) (nI y)) - UC c)) (48 + (US (cScn c (nI p) (nI y)) - US c)) [.ref (o), .ref (an), .ref (Sc.1), .int (nI i0), .int (nI p)] h (fun r h' => r = nI 1 ∧ ∃ b' f' m' n', JW G.2.2.1 h' b' (cScn c (nI p) (nI y)) (setL L an 700 f') M ∧ b' 14 0 = o ∧ WFc (cScn c (nI p) (nI y)) ∧ n' ≤ n + 1 ∧ Stt n' (cScn c (nI p) (nI y)) m' ∧ NT f' m' ∧ Kp m m' ∧ UC c ≤ UC (cScn c (nI p) (nI y)) ∧ US c ≤ US (cScn c (nI p) (nI y))) := by
  refine lm_of rfl (Nat.le_of_ble_eq_true rfl) ?_
  intro pr e s m9 below meth c9 C0 hN hr hH ls hl
  obtain ⟨hx, hb, hml, hown, hts, hK, hA, -⟩ := id C0
  have hl : lv_has ls 11 [(0, .ref (o)), (1, .ref (an)), (2, .ref (Sc.1)), (3, .int (nI i0)), (4, .int (nI p))] := hl
  have n40 := hw.np.2
  have n6 := hw.nh.2
  have nl12 := hw.nl.2
  have hNP := hT.pa hp
  obtain ⟨hxa, hRa, m1, hSt1, hO1, hP1⟩ := d_scanO ⟨hS, hw, hI⟩ hwc hn hp hy z1 z2
  have hg9 := (gm_scan hwc (nI p) (nI y)).1
  rw [if_pos hxa] at hg9
  have hw1 := hSt1.2.1
  have hS1 := hSt1.1
  have hp1 : p < npN m1 := by rw [npN_ext (hO1.1 39 ⟨by unfold oK; omega, by omega⟩)]; exact hp
  obtain ⟨s1, s2, s3, s4, s5, s6⟩ := id hP1
  refine lv_aload_n hx hb dL_isScanned_0 rfl (lv_at hl 0 rfl) ?_
  refine lv_iload hx hb dL_isScanned_1 (lv_at hl 4 rfl) ?_
  refine j_w0 (As := [.int (nI p)]) (rest := []) (v := nI 117) C0 hN hH ho (lW_state (nI p) hJ.own hJ.obj (cN_X10_state l hlt G _ _ b c hJ.rest hwc (nI p) (v_nar28 hS hw hp) (v_pX hS hw hwc hp)) (fun E h9 z => absurd ((v_pX hS hw hwc hp).symm.trans z.1) (fun y => nomatch y))) (fun r h9 z => z.elim (fun y => ⟨y.2.1.trans ((v_pk hS hw hp (k := 28) rfl).trans z1), y.2.2⟩) (fun ⟨E, y, _⟩ => absurd ((v_pX hS hw hwc hp).symm.trans y.1) (fun q => nomatch q))) ms_L_state ml_L_147 rfl ⟨Nat.le_of_ble_eq_true rfl, Nat.le_of_ble_eq_true rfl⟩ hl.1 rfl (Nat.le_of_ble_eq_true rfl) dL_isScanned_3 ⟨by show _ ≤ 8 + (UC (cScn c (nI p) (nI y)) - UC c); omega, by show _ ≤ 48 + (US (cScn c (nI p) (nI y)) - US c); omega⟩ (fun H locs hH => ?_)
  refine lv_istore (lv' := [(5, .int (nI 117)), (0, .ref (o)), (1, .ref (an)), (2, .ref (Sc.1)), (3, .int (nI i0)), (4, .int (nI p))]) hx hb dL_isScanned_6 hl (by decide) rfl (fun ls hl => ?_)
  have TL : ∀ (H : Heap) (locs : List Loc) (hH : HS G.1 G.2.1 A s.heap h H locs) (ls : Array Slot), lv_has ls 11 [(6, .int (nI y)), (5, .int (nI 117)), (0, .ref (o)), (1, .ref (an)), (2, .ref (Sc.1)), (3, .int (nI i0)), (4, .int (nI p))] → W pr l e (rmm 13 445 (8 + (UC (cScn c (nI p) (nI y)) - UC c)) (48 + (US (cScn c (nI p) (nI y)) - US c))) s m9 ([.ref (o), .ref (an), .ref (Sc.1), .int (nI i0), .int (nI p)] : List Value).toArray below meth c9 H locs 0 0 (MQ below (va_Qi (fun r h' => r = nI 1 ∧ ∃ b' f' m' n', JW G.2.2.1 h' b' (cScn c (nI p) (nI y)) (setL L an 700 f') M ∧ b' 14 0 = o ∧ WFc (cScn c (nI p) (nI y)) ∧ n' ≤ n + 1 ∧ Stt n' (cScn c (nI p) (nI y)) m' ∧ NT f' m' ∧ Kp m m' ∧ UC c ≤ UC (cScn c (nI p) (nI y)) ∧ US c ≤ US (cScn c (nI p) (nI y))) (fun h' t => HW G.1 G.2.1 A h' t.heap) A) ([.ref (o), .ref (an), .ref (Sc.1), .int (nI i0), .int (nI p)] : List Value).toArray s (8 + (UC (cScn c (nI p) (nI y)) - UC c)) (48 + (US (cScn c (nI p) (nI y)) - US c)) A) (F0 m9 62 ls []) := by
    intro H locs hH ls hl
    refine lv_sipush (v := nI 140) hx hb dL_isScanned_62 (by decide) ?_
    refine lv_bipush (v := nI 12) hx hb dL_isScanned_65 (by decide) ?_
    refine lv_iload hx hb dL_isScanned_67 (lv_at hl 6 rfl) ?_
    refine lv_imul hx hb dL_isScanned_69 ?_
    rw [show nI 12 * nI p = nI (12 * p) from nI_mul]
    refine lv_iadd hx hb dL_isScanned_70 ?_
    rw [show nI 140 + nI (12 * p) = nI (140 + 12 * p) from nI_add _ _]
    refine lv_istore (lv' := [(7, .int (nI (140 + 12 * p))), (6, .int (nI y)), (5, .int (nI 117)), (0, .ref (o)), (1, .ref (an)), (2, .ref (Sc.1)), (3, .int (nI i0)), (4, .int (nI p))]) hx hb dL_isScanned_71 hl (by decide) rfl (fun ls hl => ?_)
    refine lv_iload hx hb dL_isScanned_73 (lv_at hl 2 rfl) ?_
    refine lv_bipush (v := nI 116) hx hb dL_isScanned_75 (by decide) ?_
    refine lv_icmp_eq (tgt := 95) hx hb dL_isScanned_77 (by decide) (fun c77_1 => ?_) (fun c77_1 => ?_)
    · exact absurd c77_1 (by decide)
    · refine lv_aload_n hx hb dL_isScanned_80 rfl (lv_at hl 3 rfl) ?_
      refine lv_iload hx hb dL_isScanned_81 (lv_at hl 7 rfl) ?_
      refine j_w0 (As := [.int (nI p)]) (rest := []) (v := nI y) C0 hN hH ho (lW_at (nI p) hJ.own hJ.obj (cN_X10_at l hlt G _ _ b c hJ.rest hwc (nI p) (v_at hS hw hwc hp (by rw [z1]; decide))) (fun E h9 z => absurd ((v_at hS hw hwc hp (by rw [z1]; decide)).symm.trans z.1) (fun y => nomatch y))) (fun r h9 z => z.elim (fun y => ⟨y.2.1.trans ((v_pk hS hw hp (k := 15) rfl).trans z2), y.2.2⟩) (fun ⟨E, y, _⟩ => absurd ((v_at hS hw hwc hp (by rw [z1]; decide)).symm.trans y.1) (fun q => nomatch q))) ms_L_at ml_L_149 rfl ⟨Nat.le_of_ble_eq_true rfl, Nat.le_of_ble_eq_true rfl⟩ hl.1 rfl (Nat.le_of_ble_eq_true rfl) dL_isScanned_83 ⟨by show _ ≤ 8 + (UC (cScn c (nI p) (nI y)) - UC c); omega, by show _ ≤ 48 + (US (cScn c (nI p) (nI y)) - US c); omega⟩ (fun H locs hH => ?_)
      refine lv_iload hx hb dL_isScanned_86 (lv_at hl 1 rfl) ?_
      refine lv_icmp_ne (tgt := 95) hx hb dL_isScanned_88 (by decide) (fun c88_2 => ?_) (fun c88_2 => ?_)
      · exact absurd rfl c88_2
      · replace c88_2 : y = y := (nI_eq (a := y) (b := y) (by omega) (by omega)).mp c88_2
        refine lv_iconst (v := nI 1) hx hb dL_isScanned_91 (by decide) ?_
        refine lv_goto (tgt := 96) hx hb dL_isScanned_92 (by decide) ?_
        refine lv_istore (lv' := [(8, .int (nI 1)), (7, .int (nI (140 + 12 * p))), (6, .int (nI y)), (5, .int (nI 117)), (0, .ref (o)), (1, .ref (an)), (2, .ref (Sc.1)), (3, .int (nI i0)), (4, .int (nI p))]) hx hb dL_isScanned_96 hl (by decide) rfl (fun ls hl => ?_)
        refine lv_iload hx hb dL_isScanned_98 (lv_at hl 3 rfl) ?_
        refine lv_bipush (v := nI 100) hx hb dL_isScanned_100 (by decide) ?_
        refine lv_icmp_eq (tgt := 112) hx hb dL_isScanned_102 (by decide) (fun c102_3 => ?_) (fun c102_3 => ?_)
        · exact absurd c102_3 (by decide)
        · refine lv_iload hx hb dL_isScanned_105 (lv_at hl 3 rfl) ?_
          refine lv_bipush (v := nI 104) hx hb dL_isScanned_107 (by decide) ?_
          refine lv_icmp_ne (tgt := 117) hx hb dL_isScanned_109 (by decide) (fun c109_4 => ?_) (fun c109_4 => ?_)
          · refine lv_iload hx hb dL_isScanned_117 (lv_at hl 0 rfl) ?_
            refine lv_if_eq (tgt := 139) hx hb dL_isScanned_119 (by decide) (fun c119_5 => ?_) (fun c119_5 => ?_)
            · exact absurd c119_5 (by decide)
            · refine lv_iload hx hb dL_isScanned_122 (lv_at hl 3 rfl) ?_
              refine lv_bipush (v := nI 115) hx hb dL_isScanned_124 (by decide) ?_
              refine lv_icmp_ne (tgt := 134) hx hb dL_isScanned_126 (by decide) (fun c126_6 => ?_) (fun c126_6 => ?_)
              · refine lv_bipush (v := nI 111) hx hb dL_isScanned_134 (by decide) ?_
                refine lv_goto (tgt := 157) hx hb dL_isScanned_136 (by decide) ?_
                refine lv_istore (lv' := [(9, .int (nI 111)), (8, .int (nI 1)), (7, .int (nI (140 + 12 * p))), (6, .int (nI y)), (5, .int (nI 117)), (0, .ref (o)), (1, .ref (an)), (2, .ref (Sc.1)), (3, .int (nI i0)), (4, .int (nI p))]) hx hb dL_isScanned_157 hl (by decide) rfl (fun ls hl => ?_)
                refine lv_aload_n hx hb dL_isScanned_159 rfl (lv_at hl 6 rfl) ?_
                refine lv_iload hx hb dL_isScanned_160 (lv_at hl 2 rfl) ?_
                refine lv_bipush (v := nI 6) hx hb dL_isScanned_162 (by decide) ?_
                refine lv_iadd hx hb dL_isScanned_164 ?_
                rw [show nI (140 + 12 * p) + nI 6 = nI (140 + 12 * p + 6) from nI_add _ _]
                refine lv_dup2_11 hx hb dL_isScanned_165 rfl rfl ?_
                refine j_ld C0 hH hJ hL (ix := 140 + 12 * p + 6) (by omega) (by decide) (v := m 22 p) hNP.g6 dL_isScanned_166 ?_
                refine lv_iload hx hb dL_isScanned_167 (lv_at hl 0 rfl) ?_
                refine lv_bipush (v := nI 109) hx hb dL_isScanned_169 (by decide) ?_
                refine lv_icmp_eq (tgt := 181) hx hb dL_isScanned_171 (by decide) (fun c171_7 => ?_) (fun c171_7 => ?_)
                · exact absurd c171_7 (by decide)
                · refine lv_iload hx hb dL_isScanned_174 (lv_at hl 0 rfl) ?_
                  refine lv_bipush (v := nI 104) hx hb dL_isScanned_176 (by decide) ?_
                  refine lv_icmp_ne (tgt := 185) hx hb dL_isScanned_178 (by decide) (fun c178_8 => ?_) (fun c178_8 => ?_)
                  · refine lv_iconst (v := nI 0) hx hb dL_isScanned_185 (by decide) ?_
                    refine lv_iadd hx hb dL_isScanned_186 ?_
                    refine j_st C0 hH hJ hL (ix := 140 + 12 * p + 6) (by omega) (by decide) dL_isScanned_187 (fun h H locs hH hJ => ?_)
                    obtain ⟨f_9, hf_9⟩ : ∃ z, z = upF f (140 + 12 * p + 6) ((m 22 p) + (nI 0)) := ⟨_, rfl⟩
                    obtain ⟨L_10, hL_10⟩ : ∃ z, z = setL L an 700 f_9 := ⟨_, rfl⟩
                    rw [← hf_9, ← hL_10] at hJ
                    have hL_L_10 : L_10 an = some (700, f_9) := by rw [hL_10]; exact setL_s _ _ _ _
                    refine lv_iload hx hb dL_isScanned_188 (lv_at hl 0 rfl) ?_
                    refine lv_bipush (v := nI 111) hx hb dL_isScanned_190 (by decide) ?_
                    refine lv_icmp_eq (tgt := 202) hx hb dL_isScanned_192 (by decide) (fun c192_11 => ?_) (fun c192_11 => ?_)
                    · refine lv_aload_n hx hb dL_isScanned_202 rfl (lv_at hl 5 rfl) ?_
                      refine lv_aload_n hx hb dL_isScanned_203 rfl (lv_at hl 6 rfl) ?_
                      refine lv_iload hx hb dL_isScanned_204 (lv_at hl 9 rfl) ?_
                      refine lv_iload hx hb dL_isScanned_206 (lv_at hl 3 rfl) ?_
                      refine k_v hH (k_lS (rest := []) C0 hN hH (lL_scanned l hlt Sc G A _ _ c m n _ _ o hJ ho hwc hS hw an f_9 hL_L_10 p y hp (by rw [hf_9, upF_o (by omega)]; exact hNP.g8)) mv_L_scanned ml_L_157 rfl ⟨Nat.le_of_ble_eq_true rfl, Nat.le_of_ble_eq_true rfl⟩ hl.1 rfl (Nat.le_of_ble_eq_true rfl) dL_isScanned_208 ⟨by show _ ≤ 8 + (UC (cScn c (nI p) (nI y)) - UC c); omega, by show _ ≤ 48 + (US (cScn c (nI p) (nI y)) - US c); omega⟩) (fun h H locs hp0 hH => ?_)
                      obtain ⟨b, hJ, ho, hwc⟩ := hp0
                      obtain ⟨f8, hf8⟩ : ∃ z, z = upF (upF f_9 (140 + 12 * p + 3) (m 41 0)) (140 + 12 * p + 8) (if m 21 p < 0 ∧ m 14 p = nI y then m 41 0 else m 21 p) := ⟨_, rfl⟩
                      obtain ⟨L8, hL8⟩ : ∃ z, z = setL L_10 an 700 f8 := ⟨_, rfl⟩
                      rw [← hf8, ← hL8] at hJ
                      have hL8n : L8 an = some (700, f8) := by rw [hL8]; exact setL_s _ _ _ _
                      refine lv_iload hx hb dL_isScanned_211 (lv_at hl 0 rfl) ?_
                      refine lv_ldc hx hb hown (hts _ kl_L_20) dL_isScanned_213 ?_
                      refine lv_icmp_ne (tgt := 222) hx hb dL_isScanned_215 (by decide) (fun c215_12 => ?_) (fun c215_12 => ?_)
                      · refine lv_iconst (v := nI 0) hx hb dL_isScanned_222 (by decide) ?_
                        refine lv_istore (lv' := [(10, .int (nI 0)), (9, .int (nI 111)), (8, .int (nI 1)), (7, .int (nI (140 + 12 * p))), (6, .int (nI y)), (5, .int (nI 117)), (0, .ref (o)), (1, .ref (an)), (2, .ref (Sc.1)), (3, .int (nI i0)), (4, .int (nI p))]) hx hb dL_isScanned_223 hl (by decide) rfl (fun ls hl => ?_)
                        refine lv_aload_n hx hb dL_isScanned_225 rfl (lv_at hl 6 rfl) ?_
                        refine lv_iload hx hb dL_isScanned_226 (lv_at hl 10 rfl) ?_
                        refine lv_iload hx hb dL_isScanned_228 (lv_at hl 4 rfl) ?_
                        have hwc0 := hwc
                        refine j_w1 (As := [.int (nI p), .int (nI y)]) (rest := []) (v := nI 111) (c' := cScn c (nI p) (nI y)) C0 hN hH hJ ho (lW_scan (nI p) (nI y) hJ.own hJ.obj (cC_X10_scan l hlt G _ _ b c hJ.rest hwc (nI p) (nI y)) (hin_n hxa (fun E h9 z => z.1))) (hv_in hxa hRa (fun E h9 z => z.1)) ms_L_scan ml_L_161 rfl ⟨Nat.le_of_ble_eq_true rfl, Nat.le_of_ble_eq_true rfl⟩ hl.1 rfl (Nat.le_of_ble_eq_true rfl) dL_isScanned_230 ⟨by show _ ≤ 8 + (UC (cScn c (nI p) (nI y)) - UC c); omega, by show _ ≤ 48 + (US (cScn c (nI p) (nI y)) - US c); omega⟩ (fun h b H locs hH hJ ho hwc => ?_)
                        refine lv_iload hx hb dL_isScanned_233 (lv_at hl 1 rfl) ?_
                        refine lv_icmp_ne (tgt := 297) hx hb dL_isScanned_235 (by decide) (fun c235_13 => ?_) (fun c235_13 => ?_)
                        · exact absurd (by decide) c235_13
                        · refine lv_aload_n hx hb dL_isScanned_238 rfl (lv_at hl 6 rfl) ?_
                          refine lv_iload hx hb dL_isScanned_239 (lv_at hl 10 rfl) ?_
                          refine j_q0 (rest := []) C0 hH hJ ho (cN_X10_misroutes l hlt G _ _ b (cScn c (nI p) (nI y)) hJ.rest hwc (nI p) (v_pX hS1 hw1 hwc hp1)) (v_pX hS1 hw1 hwc hp1) (v := m 22 p + nI 0) ((v_pk hS1 hw1 hp1 (k := 22) rfl).trans (s5.trans (Int32.add_zero _).symm)) mv_X10_misroutes ml_L_163 rfl ⟨Nat.le_of_ble_eq_true rfl, Nat.le_of_ble_eq_true rfl⟩ hl.1 rfl (Nat.le_of_ble_eq_true rfl) dL_isScanned_241 ⟨by show _ ≤ 8 + (UC (cScn c (nI p) (nI y)) - UC c); omega, by show _ ≤ 48 + (US (cScn c (nI p) (nI y)) - US c); omega⟩ (fun H locs hH => ?_)
                          refine lv_aload_n hx hb dL_isScanned_244 rfl (lv_at hl 7 rfl) ?_
                          refine lv_iload hx hb dL_isScanned_245 (lv_at hl 3 rfl) ?_
                          refine lv_bipush (v := nI 6) hx hb dL_isScanned_247 (by decide) ?_
                          refine lv_iadd hx hb dL_isScanned_249 ?_
                          rw [show nI (140 + 12 * p) + nI 6 = nI (140 + 12 * p + 6) from nI_add _ _]
                          refine j_ld C0 hH hJ hL8n (ix := 140 + 12 * p + 6) (by omega) (by decide) (v := m 22 p + nI 0) (by rw [hf8, upF_o (by omega), upF_o (by omega), hf_9]; exact upF_s _ _ _) dL_isScanned_250 ?_
                          refine lv_icmp_ne (tgt := 297) hx hb dL_isScanned_251 (by decide) (fun c251_14 => ?_) (fun c251_14 => ?_)
                          · exact absurd rfl c251_14
                          · refine lv_iload hx hb dL_isScanned_254 (lv_at hl 0 rfl) ?_
                            refine lv_if_ne (tgt := 293) hx hb dL_isScanned_256 (by decide) (fun c256_15 => ?_) (fun c256_15 => ?_)
                            · exact absurd (by decide) c256_15
                            · refine lv_aload_n hx hb dL_isScanned_259 rfl (lv_at hl 6 rfl) ?_
                              refine lv_iload hx hb dL_isScanned_260 (lv_at hl 10 rfl) ?_
                              refine j_w0 (As := [.int (nI p)]) (rest := []) (v := nI y) C0 hN hH ho (lW_at (nI p) hJ.own hJ.obj (cN_X10_at l hlt G _ _ b (cScn c (nI p) (nI y)) hJ.rest hwc (nI p) (v_at hS1 hw1 hwc hp1 (by rw [s1]; decide))) (fun E h9 z => absurd ((v_at hS1 hw1 hwc hp1 (by rw [s1]; decide)).symm.trans z.1) (fun y => nomatch y))) (fun r h9 z => z.elim (fun y => ⟨y.2.1.trans ((v_pk hS1 hw1 hp1 (k := 15) rfl).trans s2), y.2.2⟩) (fun ⟨E, y, _⟩ => absurd ((v_at hS1 hw1 hwc hp1 (by rw [s1]; decide)).symm.trans y.1) (fun q => nomatch q))) ms_L_at ml_L_149 rfl ⟨Nat.le_of_ble_eq_true rfl, Nat.le_of_ble_eq_true rfl⟩ hl.1 rfl (Nat.le_of_ble_eq_true rfl) dL_isScanned_262 ⟨by show _ ≤ 8 + (UC (cScn c (nI p) (nI y)) - UC c); omega, by show _ ≤ 48 + (US (cScn c (nI p) (nI y)) - US c); omega⟩ (fun H locs hH => ?_)
                              refine lv_iload hx hb dL_isScanned_265 (lv_at hl 4 rfl) ?_
                              refine lv_icmp_ne (tgt := 297) hx hb dL_isScanned_267 (by decide) (fun c267_16 => ?_) (fun c267_16 => ?_)
                              · exact absurd ((nI_eq (a := y) (b := y) (by omega) (by omega)).mpr c88_2) c267_16
                              · replace c267_16 : y = y := (nI_eq (a := y) (b := y) (by omega) (by omega)).mp c267_16
                                refine lv_aload_n hx hb dL_isScanned_270 rfl (lv_at hl 6 rfl) ?_
                                refine lv_iload hx hb dL_isScanned_271 (lv_at hl 10 rfl) ?_
                                refine j_w0 (As := [.int (nI p)]) (rest := []) (v := nI 115) C0 hN hH ho (lW_state (nI p) hJ.own hJ.obj (cN_X10_state l hlt G _ _ b (cScn c (nI p) (nI y)) hJ.rest hwc (nI p) (v_nar28 hS1 hw1 hp1) (v_pX hS1 hw1 hwc hp1)) (fun E h9 z => absurd ((v_pX hS1 hw1 hwc hp1).symm.trans z.1) (fun y => nomatch y))) (fun r h9 z => z.elim (fun y => ⟨y.2.1.trans ((v_pk hS1 hw1 hp1 (k := 28) rfl).trans s1), y.2.2⟩) (fun ⟨E, y, _⟩ => absurd ((v_pX hS1 hw1 hwc hp1).symm.trans y.1) (fun q => nomatch q))) ms_L_state ml_L_147 rfl ⟨Nat.le_of_ble_eq_true rfl, Nat.le_of_ble_eq_true rfl⟩ hl.1 rfl (Nat.le_of_ble_eq_true rfl) dL_isScanned_273 ⟨by show _ ≤ 8 + (UC (cScn c (nI p) (nI y)) - UC c); omega, by show _ ≤ 48 + (US (cScn c (nI p) (nI y)) - US c); omega⟩ (fun H locs hH => ?_)
                                refine lv_iload hx hb dL_isScanned_276 (lv_at hl 1 rfl) ?_
                                refine lv_bipush (v := nI 104) hx hb dL_isScanned_278 (by decide) ?_
                                refine lv_icmp_ne (tgt := 288) hx hb dL_isScanned_280 (by decide) (fun c280_17 => ?_) (fun c280_17 => ?_)
                                · refine lv_bipush (v := nI 115) hx hb dL_isScanned_288 (by decide) ?_
                                  refine lv_icmp_ne (tgt := 297) hx hb dL_isScanned_290 (by decide) (fun c290_18 => ?_) (fun c290_18 => ?_)
                                  · exact absurd (by decide) c290_18
                                  · refine lv_iconst (v := nI 1) hx hb dL_isScanned_293 (by decide) ?_
                                    refine lv_goto (tgt := 298) hx hb dL_isScanned_294 (by decide) ?_
                                    have hnp9 : NP f8 m1 p := hNP.scn hP1 (by decide) (by decide) (by rw [z1]; decide) (by rw [hf8, upF_o (by omega), upF_s]) (by rw [hf8, upF_o (by omega), upF_o (by omega), hf_9, upF_s]; exact Int32.add_zero _) (by rw [hf8, upF_s]; by_cases w9 : m 21 p < 0 ∧ m 14 p = nI y; (· rw [if_pos w9, if_pos ⟨w9.2.symm, w9.1⟩]); (· rw [if_neg w9, if_neg (fun w => w9 ⟨w.2, w.1.symm⟩)])) (fun j hj a1 a2 a3 => by rw [hf8, upF_o (by omega), upF_o (by omega), hf_9, upF_o (by omega)])
                                    have hNT := hT.par (f' := f8) hw hO1 hp (fun i hi => by have y3 := hi 3 (by omega); have y6 := hi 6 (by omega); have y8 := hi 8 (by omega); rw [hf8, upF_o y8, upF_o y3, hf_9, upF_o y6]) hnp9
                                    rw [hL8, hL_10, setL_2] at hJ
                                    exact e_Z C0 hr (by decide) hH ⟨rfl, b, f8, m1, n + 1, hJ, ho, hwc, Nat.le_refl _, hSt1, hNT.1, hNT.2, hg9⟩ (by omega) (by omega) dL_isScanned_298
                                · exact absurd c280_17 (by decide)
                      · exact absurd c215_12 (by decide)
                    · exact absurd (by decide) c192_11
                  · exact absurd c178_8 (by decide)
              · exact absurd c126_6 (by decide)
          · exact absurd c109_4 (by decide)
  refine lv_aload_n hx hb dL_isScanned_8 rfl (lv_at hl 3 rfl) ?_
  refine lv_iload_n hx hb dL_isScanned_9 rfl (lv_at hl 4 rfl) ?_
  refine lv_iconst (v := nI 4) hx hb dL_isScanned_10 (by decide) ?_
  have hin4 := inN_lt Sc i0 (n := 4) (by omega)
  refine k_i hH (k_lS (rest := []) C0 hN hH (lL_in l Sc G A _ i0 4 (by omega) (by omega) (by omega)) mv_L_in ml_L_106 rfl ⟨Nat.le_of_ble_eq_true rfl, Nat.le_of_ble_eq_true rfl⟩ hl.1 rfl (Nat.le_of_ble_eq_true rfl) dL_isScanned_11 ⟨by show _ ≤ 8 + (UC (cScn c (nI p) (nI y)) - UC c); omega, by show _ ≤ 48 + (US (cScn c (nI p) (nI y)) - US c); omega⟩) (fun rr h1 H locs hp0 hH => ?_)
  obtain ⟨ea, eh⟩ := hp0
  rw [eh] at hH
  rw [ea]
  refine lv_if_ne (tgt := 30) hx hb dL_isScanned_14 (by decide) (fun c14_19 => ?_) (fun c14_19 => ?_)
  · replace c14_19 : ¬ (inN Sc i0 4 = 0) := fun z => c14_19 ((nI_eq (a := inN Sc i0 4) (b := 0) (by omega) (by omega)).mpr z)
    rw [if_neg c14_19] at hdf
    refine lv_iload hx hb dL_isScanned_30 (lv_at hl 0 rfl) ?_
    refine lv_bipush (v := nI 116) hx hb dL_isScanned_32 (by decide) ?_
    refine lv_icmp_ne (tgt := 54) hx hb dL_isScanned_34 (by decide) (fun c34_20 => ?_) (fun c34_20 => ?_)
    · have hn116 : ¬ m 28 p = 116 := (by rw [z1]; decide)
      rw [if_neg hn116] at hdf
      refine lv_aload_n hx hb dL_isScanned_54 rfl (lv_at hl 1 rfl) ?_
      refine lv_iload hx hb dL_isScanned_55 (lv_at hl 5 rfl) ?_
      refine j_w0 (As := [.int (nI p)]) (rest := []) (v := nI y) C0 hN hH ho (lW_at (nI p) hJ.own hJ.obj (cN_X10_at l hlt G _ _ b c hJ.rest hwc (nI p) (v_at hS hw hwc hp hn116)) (fun E h9 z => absurd ((v_at hS hw hwc hp hn116).symm.trans z.1) (fun y => nomatch y))) (fun r h9 z => z.elim (fun y => ⟨y.2.1.trans ((v_pk hS hw hp (k := 15) rfl).trans hdf), y.2.2⟩) (fun ⟨E, y, _⟩ => absurd ((v_at hS hw hwc hp hn116).symm.trans y.1) (fun q => nomatch q))) ms_L_at ml_L_149 rfl ⟨Nat.le_of_ble_eq_true rfl, Nat.le_of_ble_eq_true rfl⟩ hl.1 rfl (Nat.le_of_ble_eq_true rfl) dL_isScanned_57 ⟨by show _ ≤ 8 + (UC (cScn c (nI p) (nI y)) - UC c); omega, by show _ ≤ 48 + (US (cScn c (nI p) (nI y)) - US c); omega⟩ (fun H locs hH => ?_)
      refine lv_istore (lv' := [(6, .int (nI y)), (5, .int (nI 117)), (0, .ref (o)), (1, .ref (an)), (2, .ref (Sc.1)), (3, .int (nI i0)), (4, .int (nI p))]) hx hb dL_isScanned_60 hl (by decide) rfl (fun ls hl => ?_)
      exact TL H locs hH ls (lv_sub hl [0, 1, 2, 3, 4, 5, 6] rfl)
    · exact absurd c34_20 (by decide)
  · replace c14_19 : inN Sc i0 4 = 0 := (nI_eq (a := inN Sc i0 4) (b := 0) (by omega) (by omega)).mp c14_19
    rw [if_pos c14_19] at hdf
    refine lv_aload_n hx hb dL_isScanned_17 rfl (lv_at hl 3 rfl) ?_
    refine lv_iload_n hx hb dL_isScanned_18 rfl (lv_at hl 4 rfl) ?_
    refine lv_iconst (v := nI 1) hx hb dL_isScanned_19 (by decide) ?_
    refine lv_iadd hx hb dL_isScanned_20 ?_
    rw [show nI i0 + nI 1 = nI (i0 + 1) from nI_add _ _]
    refine lv_aload_n hx hb dL_isScanned_21 rfl (lv_at hl 2 rfl) ?_
    refine lv_iconst (v := nI 0) hx hb dL_isScanned_22 (by decide) ?_
    refine j_ld C0 hH hJ hL (ix := 0) (by omega) (by decide) (v := nI (nhN m)) hT.h0 dL_isScanned_23 ?_
    refine k_i hH (k_lS (rest := []) C0 hN hH (lL_in l Sc G A _ (i0 + 1) (nhN m) (by omega) (by omega) (by omega)) mv_L_in ml_L_106 rfl ⟨Nat.le_of_ble_eq_true rfl, Nat.le_of_ble_eq_true rfl⟩ hl.1 rfl (Nat.le_of_ble_eq_true rfl) dL_isScanned_24 ⟨by show _ ≤ 8 + (UC (cScn c (nI p) (nI y)) - UC c); omega, by show _ ≤ 48 + (US (cScn c (nI p) (nI y)) - US c); omega⟩) (fun rr h1 H locs hp0 hH => ?_)
    obtain ⟨ea, eh⟩ := hp0
    rw [eh] at hH
    rw [ea, hdf]
    refine lv_goto (tgt := 60) hx hb dL_isScanned_27 (by decide) ?_
    refine lv_istore (lv' := [(6, .int (nI y)), (5, .int (nI 117)), (0, .ref (o)), (1, .ref (an)), (2, .ref (Sc.1)), (3, .int (nI i0)), (4, .int (nI p))]) hx hb dL_isScanned_60 hl (by decide) rfl (fun ls hl => ?_)
    exact TL H locs hH ls (lv_sub hl [0, 1, 2, 3, 4, 5, 6] rfl)
set_option maxHeartbeats 4000000 in
set_option maxRecDepth 100000 in
theorem lL_isScanned_A (l : Launch) (hlt : l.stackTraces = false) (Sc : SCR) (G : GT) (A : Nat → Prop) (h : AH) (b : BA) (c m : MM) (n : Nat) (L : LNum) (M : LRef) (o : Nat) (hJ : JW G.2.2.1 h b c L M) (ho : b 14 0 = o) (hwc : WFc c) (hS : Sim n c m) (hw : WFa m) (hI : IV m) (hn : n < 512) (i0 : Nat) (hi0 : i0 < 2 ^ 19) (h2 : 2 ≤ nhN m) (p : Nat) (hp : p < npN m) (y : Nat) (hy : y < nhN m) (hdf : if inN Sc i0 4 = 0 then inN Sc (i0 + 1) (nhN m) = y else if m 28 p = 116 then m 3 (vN (m 16 p)) = nI y else m 15 p = nI y) (z1 : m 28 p = 115) (z2 : m 15 p = nI y) (an : Nat) (f : Nat → Int32) (hL : L an = some (700, f)) (hT : NT f m) : lcI l Sc G A yL_isScanned cL_isScanned 11 (Option.some FieldType.boolean) 13 445 (8 + (UC (cScn c (nI p) (nI y)) - UC c)) (48 + (US (cScn c (nI p) (nI y)) - US c)) [.ref (o), .ref (an), .ref (Sc.1), .int (nI i0), .int (nI p)] h (fun r h' => r = nI 1 ∧ ∃ b' f' m' n', JW G.2.2.1 h' b' (cScn c (nI p) (nI y)) (setL L an 700 f') M ∧ b' 14 0 = o ∧ WFc (cScn c (nI p) (nI y)) ∧ n' ≤ n + 1 ∧ Stt n' (cScn c (nI p) (nI y)) m' ∧ NT f' m' ∧ Kp m m' ∧ UC c ≤ UC (cScn c (nI p) (nI y)) ∧ US c ≤ US (cScn c (nI p) (nI y))) := by
  refine lm_of rfl (Nat.le_of_ble_eq_true rfl) ?_
  intro pr e s m9 below meth c9 C0 hN hr hH ls hl
  obtain ⟨hx, hb, hml, hown, hts, hK, hA, -⟩ := id C0
  have hl : lv_has ls 11 [(0, .ref (o)), (1, .ref (an)), (2, .ref (Sc.1)), (3, .int (nI i0)), (4, .int (nI p))] := hl
  have n40 := hw.np.2
  have n6 := hw.nh.2
  have nl12 := hw.nl.2
  have hNP := hT.pa hp
  obtain ⟨hxa, hRa, hcA⟩ := d_scanA ⟨hS, hw, hI⟩ hwc hp hy z1 z2
  have hS1 : Sim n (cScn c (nI p) (nI y)) m := by rw [hcA]; exact hS
  have hg9 : UC c ≤ UC (cScn c (nI p) (nI y)) ∧ US c ≤ US (cScn c (nI p) (nI y)) := by rw [hcA]; exact ⟨Nat.le_refl _, Nat.le_refl _⟩
  refine lv_aload_n hx hb dL_isScanned_0 rfl (lv_at hl 0 rfl) ?_
  refine lv_iload hx hb dL_isScanned_1 (lv_at hl 4 rfl) ?_
  refine j_w0 (As := [.int (nI p)]) (rest := []) (v := nI 115) C0 hN hH ho (lW_state (nI p) hJ.own hJ.obj (cN_X10_state l hlt G _ _ b c hJ.rest hwc (nI p) (v_nar28 hS hw hp) (v_pX hS hw hwc hp)) (fun E h9 z => absurd ((v_pX hS hw hwc hp).symm.trans z.1) (fun y => nomatch y))) (fun r h9 z => z.elim (fun y => ⟨y.2.1.trans ((v_pk hS hw hp (k := 28) rfl).trans z1), y.2.2⟩) (fun ⟨E, y, _⟩ => absurd ((v_pX hS hw hwc hp).symm.trans y.1) (fun q => nomatch q))) ms_L_state ml_L_147 rfl ⟨Nat.le_of_ble_eq_true rfl, Nat.le_of_ble_eq_true rfl⟩ hl.1 rfl (Nat.le_of_ble_eq_true rfl) dL_isScanned_3 ⟨by show _ ≤ 8 + (UC (cScn c (nI p) (nI y)) - UC c); omega, by show _ ≤ 48 + (US (cScn c (nI p) (nI y)) - US c); omega⟩ (fun H locs hH => ?_)
  refine lv_istore (lv' := [(5, .int (nI 115)), (0, .ref (o)), (1, .ref (an)), (2, .ref (Sc.1)), (3, .int (nI i0)), (4, .int (nI p))]) hx hb dL_isScanned_6 hl (by decide) rfl (fun ls hl => ?_)
  have TL : ∀ (H : Heap) (locs : List Loc) (hH : HS G.1 G.2.1 A s.heap h H locs) (ls : Array Slot), lv_has ls 11 [(6, .int (nI y)), (5, .int (nI 115)), (0, .ref (o)), (1, .ref (an)), (2, .ref (Sc.1)), (3, .int (nI i0)), (4, .int (nI p))] → W pr l e (rmm 13 445 (8 + (UC (cScn c (nI p) (nI y)) - UC c)) (48 + (US (cScn c (nI p) (nI y)) - US c))) s m9 ([.ref (o), .ref (an), .ref (Sc.1), .int (nI i0), .int (nI p)] : List Value).toArray below meth c9 H locs 0 0 (MQ below (va_Qi (fun r h' => r = nI 1 ∧ ∃ b' f' m' n', JW G.2.2.1 h' b' (cScn c (nI p) (nI y)) (setL L an 700 f') M ∧ b' 14 0 = o ∧ WFc (cScn c (nI p) (nI y)) ∧ n' ≤ n + 1 ∧ Stt n' (cScn c (nI p) (nI y)) m' ∧ NT f' m' ∧ Kp m m' ∧ UC c ≤ UC (cScn c (nI p) (nI y)) ∧ US c ≤ US (cScn c (nI p) (nI y))) (fun h' t => HW G.1 G.2.1 A h' t.heap) A) ([.ref (o), .ref (an), .ref (Sc.1), .int (nI i0), .int (nI p)] : List Value).toArray s (8 + (UC (cScn c (nI p) (nI y)) - UC c)) (48 + (US (cScn c (nI p) (nI y)) - US c)) A) (F0 m9 62 ls []) := by
    intro H locs hH ls hl
    refine lv_sipush (v := nI 140) hx hb dL_isScanned_62 (by decide) ?_
    refine lv_bipush (v := nI 12) hx hb dL_isScanned_65 (by decide) ?_
    refine lv_iload hx hb dL_isScanned_67 (lv_at hl 6 rfl) ?_
    refine lv_imul hx hb dL_isScanned_69 ?_
    rw [show nI 12 * nI p = nI (12 * p) from nI_mul]
    refine lv_iadd hx hb dL_isScanned_70 ?_
    rw [show nI 140 + nI (12 * p) = nI (140 + 12 * p) from nI_add _ _]
    refine lv_istore (lv' := [(7, .int (nI (140 + 12 * p))), (6, .int (nI y)), (5, .int (nI 115)), (0, .ref (o)), (1, .ref (an)), (2, .ref (Sc.1)), (3, .int (nI i0)), (4, .int (nI p))]) hx hb dL_isScanned_71 hl (by decide) rfl (fun ls hl => ?_)
    refine lv_iload hx hb dL_isScanned_73 (lv_at hl 2 rfl) ?_
    refine lv_bipush (v := nI 116) hx hb dL_isScanned_75 (by decide) ?_
    refine lv_icmp_eq (tgt := 95) hx hb dL_isScanned_77 (by decide) (fun c77_1 => ?_) (fun c77_1 => ?_)
    · exact absurd c77_1 (by decide)
    · refine lv_aload_n hx hb dL_isScanned_80 rfl (lv_at hl 3 rfl) ?_
      refine lv_iload hx hb dL_isScanned_81 (lv_at hl 7 rfl) ?_
      refine j_w0 (As := [.int (nI p)]) (rest := []) (v := nI y) C0 hN hH ho (lW_at (nI p) hJ.own hJ.obj (cN_X10_at l hlt G _ _ b c hJ.rest hwc (nI p) (v_at hS hw hwc hp (by rw [z1]; decide))) (fun E h9 z => absurd ((v_at hS hw hwc hp (by rw [z1]; decide)).symm.trans z.1) (fun y => nomatch y))) (fun r h9 z => z.elim (fun y => ⟨y.2.1.trans ((v_pk hS hw hp (k := 15) rfl).trans z2), y.2.2⟩) (fun ⟨E, y, _⟩ => absurd ((v_at hS hw hwc hp (by rw [z1]; decide)).symm.trans y.1) (fun q => nomatch q))) ms_L_at ml_L_149 rfl ⟨Nat.le_of_ble_eq_true rfl, Nat.le_of_ble_eq_true rfl⟩ hl.1 rfl (Nat.le_of_ble_eq_true rfl) dL_isScanned_83 ⟨by show _ ≤ 8 + (UC (cScn c (nI p) (nI y)) - UC c); omega, by show _ ≤ 48 + (US (cScn c (nI p) (nI y)) - US c); omega⟩ (fun H locs hH => ?_)
      refine lv_iload hx hb dL_isScanned_86 (lv_at hl 1 rfl) ?_
      refine lv_icmp_ne (tgt := 95) hx hb dL_isScanned_88 (by decide) (fun c88_2 => ?_) (fun c88_2 => ?_)
      · exact absurd rfl c88_2
      · replace c88_2 : y = y := (nI_eq (a := y) (b := y) (by omega) (by omega)).mp c88_2
        refine lv_iconst (v := nI 1) hx hb dL_isScanned_91 (by decide) ?_
        refine lv_goto (tgt := 96) hx hb dL_isScanned_92 (by decide) ?_
        refine lv_istore (lv' := [(8, .int (nI 1)), (7, .int (nI (140 + 12 * p))), (6, .int (nI y)), (5, .int (nI 115)), (0, .ref (o)), (1, .ref (an)), (2, .ref (Sc.1)), (3, .int (nI i0)), (4, .int (nI p))]) hx hb dL_isScanned_96 hl (by decide) rfl (fun ls hl => ?_)
        refine lv_iload hx hb dL_isScanned_98 (lv_at hl 3 rfl) ?_
        refine lv_bipush (v := nI 100) hx hb dL_isScanned_100 (by decide) ?_
        refine lv_icmp_eq (tgt := 112) hx hb dL_isScanned_102 (by decide) (fun c102_3 => ?_) (fun c102_3 => ?_)
        · exact absurd c102_3 (by decide)
        · refine lv_iload hx hb dL_isScanned_105 (lv_at hl 3 rfl) ?_
          refine lv_bipush (v := nI 104) hx hb dL_isScanned_107 (by decide) ?_
          refine lv_icmp_ne (tgt := 117) hx hb dL_isScanned_109 (by decide) (fun c109_4 => ?_) (fun c109_4 => ?_)
          · refine lv_iload hx hb dL_isScanned_117 (lv_at hl 0 rfl) ?_
            refine lv_if_eq (tgt := 139) hx hb dL_isScanned_119 (by decide) (fun c119_5 => ?_) (fun c119_5 => ?_)
            · exact absurd c119_5 (by decide)
            · refine lv_iload hx hb dL_isScanned_122 (lv_at hl 3 rfl) ?_
              refine lv_bipush (v := nI 115) hx hb dL_isScanned_124 (by decide) ?_
              refine lv_icmp_ne (tgt := 134) hx hb dL_isScanned_126 (by decide) (fun c126_6 => ?_) (fun c126_6 => ?_)
              · exact absurd (by decide) c126_6
              · refine lv_bipush (v := nI 97) hx hb dL_isScanned_129 (by decide) ?_
                refine lv_goto (tgt := 157) hx hb dL_isScanned_131 (by decide) ?_
                refine lv_istore (lv' := [(9, .int (nI 97)), (8, .int (nI 1)), (7, .int (nI (140 + 12 * p))), (6, .int (nI y)), (5, .int (nI 115)), (0, .ref (o)), (1, .ref (an)), (2, .ref (Sc.1)), (3, .int (nI i0)), (4, .int (nI p))]) hx hb dL_isScanned_157 hl (by decide) rfl (fun ls hl => ?_)
                refine lv_aload_n hx hb dL_isScanned_159 rfl (lv_at hl 6 rfl) ?_
                refine lv_iload hx hb dL_isScanned_160 (lv_at hl 2 rfl) ?_
                refine lv_bipush (v := nI 6) hx hb dL_isScanned_162 (by decide) ?_
                refine lv_iadd hx hb dL_isScanned_164 ?_
                rw [show nI (140 + 12 * p) + nI 6 = nI (140 + 12 * p + 6) from nI_add _ _]
                refine lv_dup2_11 hx hb dL_isScanned_165 rfl rfl ?_
                refine j_ld C0 hH hJ hL (ix := 140 + 12 * p + 6) (by omega) (by decide) (v := m 22 p) hNP.g6 dL_isScanned_166 ?_
                refine lv_iload hx hb dL_isScanned_167 (lv_at hl 0 rfl) ?_
                refine lv_bipush (v := nI 109) hx hb dL_isScanned_169 (by decide) ?_
                refine lv_icmp_eq (tgt := 181) hx hb dL_isScanned_171 (by decide) (fun c171_7 => ?_) (fun c171_7 => ?_)
                · exact absurd c171_7 (by decide)
                · refine lv_iload hx hb dL_isScanned_174 (lv_at hl 0 rfl) ?_
                  refine lv_bipush (v := nI 104) hx hb dL_isScanned_176 (by decide) ?_
                  refine lv_icmp_ne (tgt := 185) hx hb dL_isScanned_178 (by decide) (fun c178_8 => ?_) (fun c178_8 => ?_)
                  · refine lv_iconst (v := nI 0) hx hb dL_isScanned_185 (by decide) ?_
                    refine lv_iadd hx hb dL_isScanned_186 ?_
                    refine j_st C0 hH hJ hL (ix := 140 + 12 * p + 6) (by omega) (by decide) dL_isScanned_187 (fun h H locs hH hJ => ?_)
                    obtain ⟨f_9, hf_9⟩ : ∃ z, z = upF f (140 + 12 * p + 6) ((m 22 p) + (nI 0)) := ⟨_, rfl⟩
                    obtain ⟨L_10, hL_10⟩ : ∃ z, z = setL L an 700 f_9 := ⟨_, rfl⟩
                    rw [← hf_9, ← hL_10] at hJ
                    have hL_L_10 : L_10 an = some (700, f_9) := by rw [hL_10]; exact setL_s _ _ _ _
                    refine lv_iload hx hb dL_isScanned_188 (lv_at hl 0 rfl) ?_
                    refine lv_bipush (v := nI 111) hx hb dL_isScanned_190 (by decide) ?_
                    refine lv_icmp_eq (tgt := 202) hx hb dL_isScanned_192 (by decide) (fun c192_11 => ?_) (fun c192_11 => ?_)
                    · exact absurd c192_11 (by decide)
                    · refine lv_iload hx hb dL_isScanned_195 (lv_at hl 0 rfl) ?_
                      refine lv_bipush (v := nI 109) hx hb dL_isScanned_197 (by decide) ?_
                      refine lv_icmp_ne (tgt := 211) hx hb dL_isScanned_199 (by decide) (fun c199_12 => ?_) (fun c199_12 => ?_)
                      · refine lv_iload hx hb dL_isScanned_211 (lv_at hl 0 rfl) ?_
                        refine lv_ldc hx hb hown (hts _ kl_L_20) dL_isScanned_213 ?_
                        refine lv_icmp_ne (tgt := 222) hx hb dL_isScanned_215 (by decide) (fun c215_13 => ?_) (fun c215_13 => ?_)
                        · refine lv_iconst (v := nI 0) hx hb dL_isScanned_222 (by decide) ?_
                          refine lv_istore (lv' := [(10, .int (nI 0)), (9, .int (nI 97)), (8, .int (nI 1)), (7, .int (nI (140 + 12 * p))), (6, .int (nI y)), (5, .int (nI 115)), (0, .ref (o)), (1, .ref (an)), (2, .ref (Sc.1)), (3, .int (nI i0)), (4, .int (nI p))]) hx hb dL_isScanned_223 hl (by decide) rfl (fun ls hl => ?_)
                          refine lv_aload_n hx hb dL_isScanned_225 rfl (lv_at hl 6 rfl) ?_
                          refine lv_iload hx hb dL_isScanned_226 (lv_at hl 10 rfl) ?_
                          refine lv_iload hx hb dL_isScanned_228 (lv_at hl 4 rfl) ?_
                          have hwc0 := hwc
                          refine j_w1 (As := [.int (nI p), .int (nI y)]) (rest := []) (v := nI 97) (c' := cScn c (nI p) (nI y)) C0 hN hH hJ ho (lW_scan (nI p) (nI y) hJ.own hJ.obj (cC_X10_scan l hlt G _ _ b c hJ.rest hwc (nI p) (nI y)) (hin_n hxa (fun E h9 z => z.1))) (hv_in hxa hRa (fun E h9 z => z.1)) ms_L_scan ml_L_161 rfl ⟨Nat.le_of_ble_eq_true rfl, Nat.le_of_ble_eq_true rfl⟩ hl.1 rfl (Nat.le_of_ble_eq_true rfl) dL_isScanned_230 ⟨by show _ ≤ 8 + (UC (cScn c (nI p) (nI y)) - UC c); omega, by show _ ≤ 48 + (US (cScn c (nI p) (nI y)) - US c); omega⟩ (fun h b H locs hH hJ ho hwc => ?_)
                          refine lv_iload hx hb dL_isScanned_233 (lv_at hl 1 rfl) ?_
                          refine lv_icmp_ne (tgt := 297) hx hb dL_isScanned_235 (by decide) (fun c235_14 => ?_) (fun c235_14 => ?_)
                          · exact absurd (by decide) c235_14
                          · refine lv_aload_n hx hb dL_isScanned_238 rfl (lv_at hl 6 rfl) ?_
                            refine lv_iload hx hb dL_isScanned_239 (lv_at hl 10 rfl) ?_
                            refine j_q0 (rest := []) C0 hH hJ ho (cN_X10_misroutes l hlt G _ _ b (cScn c (nI p) (nI y)) hJ.rest hwc (nI p) (v_pX hS1 hw hwc hp)) (v_pX hS1 hw hwc hp) (v := m 22 p + nI 0) ((v_pk hS1 hw hp (k := 22) rfl).trans (Int32.add_zero _).symm) mv_X10_misroutes ml_L_163 rfl ⟨Nat.le_of_ble_eq_true rfl, Nat.le_of_ble_eq_true rfl⟩ hl.1 rfl (Nat.le_of_ble_eq_true rfl) dL_isScanned_241 ⟨by show _ ≤ 8 + (UC (cScn c (nI p) (nI y)) - UC c); omega, by show _ ≤ 48 + (US (cScn c (nI p) (nI y)) - US c); omega⟩ (fun H locs hH => ?_)
                            refine lv_aload_n hx hb dL_isScanned_244 rfl (lv_at hl 7 rfl) ?_
                            refine lv_iload hx hb dL_isScanned_245 (lv_at hl 3 rfl) ?_
                            refine lv_bipush (v := nI 6) hx hb dL_isScanned_247 (by decide) ?_
                            refine lv_iadd hx hb dL_isScanned_249 ?_
                            rw [show nI (140 + 12 * p) + nI 6 = nI (140 + 12 * p + 6) from nI_add _ _]
                            refine j_ld C0 hH hJ hL_L_10 (ix := 140 + 12 * p + 6) (by omega) (by decide) (v := (m 22 p) + (nI 0)) (by rw [hf_9]; unfold upF; exact if_pos rfl) dL_isScanned_250 ?_
                            refine lv_icmp_ne (tgt := 297) hx hb dL_isScanned_251 (by decide) (fun c251_15 => ?_) (fun c251_15 => ?_)
                            · exact absurd rfl c251_15
                            · refine lv_iload hx hb dL_isScanned_254 (lv_at hl 0 rfl) ?_
                              refine lv_if_ne (tgt := 293) hx hb dL_isScanned_256 (by decide) (fun c256_16 => ?_) (fun c256_16 => ?_)
                              · exact absurd (by decide) c256_16
                              · refine lv_aload_n hx hb dL_isScanned_259 rfl (lv_at hl 6 rfl) ?_
                                refine lv_iload hx hb dL_isScanned_260 (lv_at hl 10 rfl) ?_
                                refine j_w0 (As := [.int (nI p)]) (rest := []) (v := nI y) C0 hN hH ho (lW_at (nI p) hJ.own hJ.obj (cN_X10_at l hlt G _ _ b (cScn c (nI p) (nI y)) hJ.rest hwc (nI p) (v_at hS1 hw hwc hp (by rw [z1]; decide))) (fun E h9 z => absurd ((v_at hS1 hw hwc hp (by rw [z1]; decide)).symm.trans z.1) (fun y => nomatch y))) (fun r h9 z => z.elim (fun y => ⟨y.2.1.trans ((v_pk hS1 hw hp (k := 15) rfl).trans z2), y.2.2⟩) (fun ⟨E, y, _⟩ => absurd ((v_at hS1 hw hwc hp (by rw [z1]; decide)).symm.trans y.1) (fun q => nomatch q))) ms_L_at ml_L_149 rfl ⟨Nat.le_of_ble_eq_true rfl, Nat.le_of_ble_eq_true rfl⟩ hl.1 rfl (Nat.le_of_ble_eq_true rfl) dL_isScanned_262 ⟨by show _ ≤ 8 + (UC (cScn c (nI p) (nI y)) - UC c); omega, by show _ ≤ 48 + (US (cScn c (nI p) (nI y)) - US c); omega⟩ (fun H locs hH => ?_)
                                refine lv_iload hx hb dL_isScanned_265 (lv_at hl 4 rfl) ?_
                                refine lv_icmp_ne (tgt := 297) hx hb dL_isScanned_267 (by decide) (fun c267_17 => ?_) (fun c267_17 => ?_)
                                · exact absurd ((nI_eq (a := y) (b := y) (by omega) (by omega)).mpr c88_2) c267_17
                                · replace c267_17 : y = y := (nI_eq (a := y) (b := y) (by omega) (by omega)).mp c267_17
                                  refine lv_aload_n hx hb dL_isScanned_270 rfl (lv_at hl 6 rfl) ?_
                                  refine lv_iload hx hb dL_isScanned_271 (lv_at hl 10 rfl) ?_
                                  refine j_w0 (As := [.int (nI p)]) (rest := []) (v := nI 115) C0 hN hH ho (lW_state (nI p) hJ.own hJ.obj (cN_X10_state l hlt G _ _ b (cScn c (nI p) (nI y)) hJ.rest hwc (nI p) (v_nar28 hS1 hw hp) (v_pX hS1 hw hwc hp)) (fun E h9 z => absurd ((v_pX hS1 hw hwc hp).symm.trans z.1) (fun y => nomatch y))) (fun r h9 z => z.elim (fun y => ⟨y.2.1.trans ((v_pk hS1 hw hp (k := 28) rfl).trans z1), y.2.2⟩) (fun ⟨E, y, _⟩ => absurd ((v_pX hS1 hw hwc hp).symm.trans y.1) (fun q => nomatch q))) ms_L_state ml_L_147 rfl ⟨Nat.le_of_ble_eq_true rfl, Nat.le_of_ble_eq_true rfl⟩ hl.1 rfl (Nat.le_of_ble_eq_true rfl) dL_isScanned_273 ⟨by show _ ≤ 8 + (UC (cScn c (nI p) (nI y)) - UC c); omega, by show _ ≤ 48 + (US (cScn c (nI p) (nI y)) - US c); omega⟩ (fun H locs hH => ?_)
                                  refine lv_iload hx hb dL_isScanned_276 (lv_at hl 1 rfl) ?_
                                  refine lv_bipush (v := nI 104) hx hb dL_isScanned_278 (by decide) ?_
                                  refine lv_icmp_ne (tgt := 288) hx hb dL_isScanned_280 (by decide) (fun c280_18 => ?_) (fun c280_18 => ?_)
                                  · refine lv_bipush (v := nI 115) hx hb dL_isScanned_288 (by decide) ?_
                                    refine lv_icmp_ne (tgt := 297) hx hb dL_isScanned_290 (by decide) (fun c290_19 => ?_) (fun c290_19 => ?_)
                                    · exact absurd (by decide) c290_19
                                    · refine lv_iconst (v := nI 1) hx hb dL_isScanned_293 (by decide) ?_
                                      refine lv_goto (tgt := 298) hx hb dL_isScanned_294 (by decide) ?_
                                      rw [hL_10] at hJ
                                      have ef : f_9 = f := by rw [hf_9]; exact upF_id (hNP.g6.trans (Int32.add_zero _).symm)
                                      rw [ef] at hJ
                                      exact e_Z C0 hr (by decide) hH ⟨rfl, b, f, m, n, hJ, ho, hwc, by omega, ⟨hS1, hw, hI⟩, hT, ⟨rfl, Nat.le_refl _, rfl⟩, hg9⟩ (by omega) (by omega) dL_isScanned_298
                                  · exact absurd c280_18 (by decide)
                        · exact absurd c215_13 (by decide)
                      · exact absurd c199_12 (by decide)
                  · exact absurd c178_8 (by decide)
          · exact absurd c109_4 (by decide)
  refine lv_aload_n hx hb dL_isScanned_8 rfl (lv_at hl 3 rfl) ?_
  refine lv_iload_n hx hb dL_isScanned_9 rfl (lv_at hl 4 rfl) ?_
  refine lv_iconst (v := nI 4) hx hb dL_isScanned_10 (by decide) ?_
  have hin4 := inN_lt Sc i0 (n := 4) (by omega)
  refine k_i hH (k_lS (rest := []) C0 hN hH (lL_in l Sc G A _ i0 4 (by omega) (by omega) (by omega)) mv_L_in ml_L_106 rfl ⟨Nat.le_of_ble_eq_true rfl, Nat.le_of_ble_eq_true rfl⟩ hl.1 rfl (Nat.le_of_ble_eq_true rfl) dL_isScanned_11 ⟨by show _ ≤ 8 + (UC (cScn c (nI p) (nI y)) - UC c); omega, by show _ ≤ 48 + (US (cScn c (nI p) (nI y)) - US c); omega⟩) (fun rr h1 H locs hp0 hH => ?_)
  obtain ⟨ea, eh⟩ := hp0
  rw [eh] at hH
  rw [ea]
  refine lv_if_ne (tgt := 30) hx hb dL_isScanned_14 (by decide) (fun c14_20 => ?_) (fun c14_20 => ?_)
  · replace c14_20 : ¬ (inN Sc i0 4 = 0) := fun z => c14_20 ((nI_eq (a := inN Sc i0 4) (b := 0) (by omega) (by omega)).mpr z)
    rw [if_neg c14_20] at hdf
    refine lv_iload hx hb dL_isScanned_30 (lv_at hl 0 rfl) ?_
    refine lv_bipush (v := nI 116) hx hb dL_isScanned_32 (by decide) ?_
    refine lv_icmp_ne (tgt := 54) hx hb dL_isScanned_34 (by decide) (fun c34_21 => ?_) (fun c34_21 => ?_)
    · have hn116 : ¬ m 28 p = 116 := (by rw [z1]; decide)
      rw [if_neg hn116] at hdf
      refine lv_aload_n hx hb dL_isScanned_54 rfl (lv_at hl 1 rfl) ?_
      refine lv_iload hx hb dL_isScanned_55 (lv_at hl 5 rfl) ?_
      refine j_w0 (As := [.int (nI p)]) (rest := []) (v := nI y) C0 hN hH ho (lW_at (nI p) hJ.own hJ.obj (cN_X10_at l hlt G _ _ b c hJ.rest hwc (nI p) (v_at hS hw hwc hp hn116)) (fun E h9 z => absurd ((v_at hS hw hwc hp hn116).symm.trans z.1) (fun y => nomatch y))) (fun r h9 z => z.elim (fun y => ⟨y.2.1.trans ((v_pk hS hw hp (k := 15) rfl).trans hdf), y.2.2⟩) (fun ⟨E, y, _⟩ => absurd ((v_at hS hw hwc hp hn116).symm.trans y.1) (fun q => nomatch q))) ms_L_at ml_L_149 rfl ⟨Nat.le_of_ble_eq_true rfl, Nat.le_of_ble_eq_true rfl⟩ hl.1 rfl (Nat.le_of_ble_eq_true rfl) dL_isScanned_57 ⟨by show _ ≤ 8 + (UC (cScn c (nI p) (nI y)) - UC c); omega, by show _ ≤ 48 + (US (cScn c (nI p) (nI y)) - US c); omega⟩ (fun H locs hH => ?_)
      refine lv_istore (lv' := [(6, .int (nI y)), (5, .int (nI 115)), (0, .ref (o)), (1, .ref (an)), (2, .ref (Sc.1)), (3, .int (nI i0)), (4, .int (nI p))]) hx hb dL_isScanned_60 hl (by decide) rfl (fun ls hl => ?_)
      exact TL H locs hH ls (lv_sub hl [0, 1, 2, 3, 4, 5, 6] rfl)
    · exact absurd c34_21 (by decide)
  · replace c14_20 : inN Sc i0 4 = 0 := (nI_eq (a := inN Sc i0 4) (b := 0) (by omega) (by omega)).mp c14_20
    rw [if_pos c14_20] at hdf
    refine lv_aload_n hx hb dL_isScanned_17 rfl (lv_at hl 3 rfl) ?_
    refine lv_iload_n hx hb dL_isScanned_18 rfl (lv_at hl 4 rfl) ?_
    refine lv_iconst (v := nI 1) hx hb dL_isScanned_19 (by decide) ?_
    refine lv_iadd hx hb dL_isScanned_20 ?_
    rw [show nI i0 + nI 1 = nI (i0 + 1) from nI_add _ _]
    refine lv_aload_n hx hb dL_isScanned_21 rfl (lv_at hl 2 rfl) ?_
    refine lv_iconst (v := nI 0) hx hb dL_isScanned_22 (by decide) ?_
    refine j_ld C0 hH hJ hL (ix := 0) (by omega) (by decide) (v := nI (nhN m)) hT.h0 dL_isScanned_23 ?_
    refine k_i hH (k_lS (rest := []) C0 hN hH (lL_in l Sc G A _ (i0 + 1) (nhN m) (by omega) (by omega) (by omega)) mv_L_in ml_L_106 rfl ⟨Nat.le_of_ble_eq_true rfl, Nat.le_of_ble_eq_true rfl⟩ hl.1 rfl (Nat.le_of_ble_eq_true rfl) dL_isScanned_24 ⟨by show _ ≤ 8 + (UC (cScn c (nI p) (nI y)) - UC c); omega, by show _ ≤ 48 + (US (cScn c (nI p) (nI y)) - US c); omega⟩) (fun rr h1 H locs hp0 hH => ?_)
    obtain ⟨ea, eh⟩ := hp0
    rw [eh] at hH
    rw [ea, hdf]
    refine lv_goto (tgt := 60) hx hb dL_isScanned_27 (by decide) ?_
    refine lv_istore (lv' := [(6, .int (nI y)), (5, .int (nI 115)), (0, .ref (o)), (1, .ref (an)), (2, .ref (Sc.1)), (3, .int (nI i0)), (4, .int (nI p))]) hx hb dL_isScanned_60 hl (by decide) rfl (fun ls hl => ?_)
    exact TL H locs hH ls (lv_sub hl [0, 1, 2, 3, 4, 5, 6] rfl)
set_option maxHeartbeats 4000000 in
set_option maxRecDepth 100000 in
theorem lL_isScanned_M (l : Launch) (hlt : l.stackTraces = false) (Sc : SCR) (G : GT) (A : Nat → Prop) (h : AH) (b : BA) (c m : MM) (n : Nat) (L : LNum) (M : LRef) (o : Nat) (hJ : JW G.2.2.1 h b c L M) (ho : b 14 0 = o) (hwc : WFc c) (hS : Sim n c m) (hw : WFa m) (hI : IV m) (hn : n < 512) (i0 : Nat) (hi0 : i0 < 2 ^ 19) (h2 : 2 ≤ nhN m) (p : Nat) (hp : p < npN m) (y : Nat) (hy : y < nhN m) (hdf : if inN Sc i0 4 = 0 then inN Sc (i0 + 1) (nhN m) = y else if m 28 p = 116 then m 3 (vN (m 16 p)) = nI y else m 15 p = nI y) (hov : ¬ (m 28 p = 100 ∨ m 28 p = 104)) (z : m 28 p = 116 ∨ ¬ m 15 p = nI y) (z2 : ¬ m 22 p + 1 = 3) (an : Nat) (f : Nat → Int32) (hL : L an = some (700, f)) (hT : NT f m) : lcI l Sc G A yL_isScanned cL_isScanned 11 (Option.some FieldType.boolean) 13 445 (8 + (UC (cScn c (nI p) (nI y)) - UC c)) (48 + (US (cScn c (nI p) (nI y)) - US c)) [.ref (o), .ref (an), .ref (Sc.1), .int (nI i0), .int (nI p)] h (fun r h' => r = nI 1 ∧ ∃ b' f' m' n', JW G.2.2.1 h' b' (cScn c (nI p) (nI y)) (setL L an 700 f') M ∧ b' 14 0 = o ∧ WFc (cScn c (nI p) (nI y)) ∧ n' ≤ n + 1 ∧ Stt n' (cScn c (nI p) (nI y)) m' ∧ NT f' m' ∧ Kp m m' ∧ UC c ≤ UC (cScn c (nI p) (nI y)) ∧ US c ≤ US (cScn c (nI p) (nI y))) := by
  refine lm_of rfl (Nat.le_of_ble_eq_true rfl) ?_
  intro pr e s m9 below meth c9 C0 hN hr hH ls hl
  obtain ⟨hx, hb, hml, hown, hts, hK, hA, -⟩ := id C0
  have hl : lv_has ls 11 [(0, .ref (o)), (1, .ref (an)), (2, .ref (Sc.1)), (3, .int (nI i0)), (4, .int (nI p))] := hl
  have n40 := hw.np.2
  have n6 := hw.nh.2
  have nl12 := hw.nl.2
  have hNP := hT.pa hp
  obtain ⟨hxa, hRa, m1, hSt1, hO1, hP1⟩ := d_scanM ⟨hS, hw, hI⟩ hwc hn hp hy hov z z2
  have hg9 := (gm_scan hwc (nI p) (nI y)).1
  rw [if_pos hxa] at hg9
  have hw1 := hSt1.2.1
  have hS1 := hSt1.1
  have hp1 : p < npN m1 := by rw [npN_ext (hO1.1 39 ⟨by unfold oK; omega, by omega⟩)]; exact hp
  obtain ⟨s1, s2, s3, s4, s5, s6⟩ := id hP1
  have h22 : ¬ m 22 p = nI 2 := fun e => z2 (by rw [e]; decide)
  refine lv_aload_n hx hb dL_isScanned_0 rfl (lv_at hl 0 rfl) ?_
  refine lv_iload hx hb dL_isScanned_1 (lv_at hl 4 rfl) ?_
  refine j_w0 (As := [.int (nI p)]) (rest := []) (v := m 28 p) C0 hN hH ho (lW_state (nI p) hJ.own hJ.obj (cN_X10_state l hlt G _ _ b c hJ.rest hwc (nI p) (v_nar28 hS hw hp) (v_pX hS hw hwc hp)) (fun E h9 z => absurd ((v_pX hS hw hwc hp).symm.trans z.1) (fun y => nomatch y))) (fun r h9 z => z.elim (fun y => ⟨y.2.1.trans ((v_pk hS hw hp (k := 28) rfl).trans rfl), y.2.2⟩) (fun ⟨E, y, _⟩ => absurd ((v_pX hS hw hwc hp).symm.trans y.1) (fun q => nomatch q))) ms_L_state ml_L_147 rfl ⟨Nat.le_of_ble_eq_true rfl, Nat.le_of_ble_eq_true rfl⟩ hl.1 rfl (Nat.le_of_ble_eq_true rfl) dL_isScanned_3 ⟨by show _ ≤ 8 + (UC (cScn c (nI p) (nI y)) - UC c); omega, by show _ ≤ 48 + (US (cScn c (nI p) (nI y)) - US c); omega⟩ (fun H locs hH => ?_)
  refine lv_istore (lv' := [(5, .int (m 28 p)), (0, .ref (o)), (1, .ref (an)), (2, .ref (Sc.1)), (3, .int (nI i0)), (4, .int (nI p))]) hx hb dL_isScanned_6 hl (by decide) rfl (fun ls hl => ?_)
  have TL : ∀ (H : Heap) (locs : List Loc) (hH : HS G.1 G.2.1 A s.heap h H locs) (ls : Array Slot), lv_has ls 11 [(6, .int (nI y)), (5, .int (m 28 p)), (0, .ref (o)), (1, .ref (an)), (2, .ref (Sc.1)), (3, .int (nI i0)), (4, .int (nI p))] → W pr l e (rmm 13 445 (8 + (UC (cScn c (nI p) (nI y)) - UC c)) (48 + (US (cScn c (nI p) (nI y)) - US c))) s m9 ([.ref (o), .ref (an), .ref (Sc.1), .int (nI i0), .int (nI p)] : List Value).toArray below meth c9 H locs 0 0 (MQ below (va_Qi (fun r h' => r = nI 1 ∧ ∃ b' f' m' n', JW G.2.2.1 h' b' (cScn c (nI p) (nI y)) (setL L an 700 f') M ∧ b' 14 0 = o ∧ WFc (cScn c (nI p) (nI y)) ∧ n' ≤ n + 1 ∧ Stt n' (cScn c (nI p) (nI y)) m' ∧ NT f' m' ∧ Kp m m' ∧ UC c ≤ UC (cScn c (nI p) (nI y)) ∧ US c ≤ US (cScn c (nI p) (nI y))) (fun h' t => HW G.1 G.2.1 A h' t.heap) A) ([.ref (o), .ref (an), .ref (Sc.1), .int (nI i0), .int (nI p)] : List Value).toArray s (8 + (UC (cScn c (nI p) (nI y)) - UC c)) (48 + (US (cScn c (nI p) (nI y)) - US c)) A) (F0 m9 62 ls []) := by
    intro H locs hH ls hl
    refine lv_sipush (v := nI 140) hx hb dL_isScanned_62 (by decide) ?_
    refine lv_bipush (v := nI 12) hx hb dL_isScanned_65 (by decide) ?_
    refine lv_iload hx hb dL_isScanned_67 (lv_at hl 6 rfl) ?_
    refine lv_imul hx hb dL_isScanned_69 ?_
    rw [show nI 12 * nI p = nI (12 * p) from nI_mul]
    refine lv_iadd hx hb dL_isScanned_70 ?_
    rw [show nI 140 + nI (12 * p) = nI (140 + 12 * p) from nI_add _ _]
    refine lv_istore (lv' := [(7, .int (nI (140 + 12 * p))), (6, .int (nI y)), (5, .int (m 28 p)), (0, .ref (o)), (1, .ref (an)), (2, .ref (Sc.1)), (3, .int (nI i0)), (4, .int (nI p))]) hx hb dL_isScanned_71 hl (by decide) rfl (fun ls hl => ?_)
    refine lv_iload hx hb dL_isScanned_73 (lv_at hl 2 rfl) ?_
    refine lv_bipush (v := nI 116) hx hb dL_isScanned_75 (by decide) ?_
    refine lv_icmp_eq (tgt := 95) hx hb dL_isScanned_77 (by decide) (fun c77_1 => ?_) (fun c77_1 => ?_)
    · refine lv_iconst (v := nI 0) hx hb dL_isScanned_95 (by decide) ?_
      refine lv_istore (lv' := [(8, .int (nI 0)), (7, .int (nI (140 + 12 * p))), (6, .int (nI y)), (5, .int (m 28 p)), (0, .ref (o)), (1, .ref (an)), (2, .ref (Sc.1)), (3, .int (nI i0)), (4, .int (nI p))]) hx hb dL_isScanned_96 hl (by decide) rfl (fun ls hl => ?_)
      refine lv_iload hx hb dL_isScanned_98 (lv_at hl 3 rfl) ?_
      refine lv_bipush (v := nI 100) hx hb dL_isScanned_100 (by decide) ?_
      refine lv_icmp_eq (tgt := 112) hx hb dL_isScanned_102 (by decide) (fun c102_2 => ?_) (fun c102_2 => ?_)
      · exact absurd (Or.inl c102_2) hov
      · refine lv_iload hx hb dL_isScanned_105 (lv_at hl 3 rfl) ?_
        refine lv_bipush (v := nI 104) hx hb dL_isScanned_107 (by decide) ?_
        refine lv_icmp_ne (tgt := 117) hx hb dL_isScanned_109 (by decide) (fun c109_3 => ?_) (fun c109_3 => ?_)
        · refine lv_iload hx hb dL_isScanned_117 (lv_at hl 0 rfl) ?_
          refine lv_if_eq (tgt := 139) hx hb dL_isScanned_119 (by decide) (fun c119_4 => ?_) (fun c119_4 => ?_)
          · refine lv_aload_n hx hb dL_isScanned_139 rfl (lv_at hl 5 rfl) ?_
            refine lv_iload hx hb dL_isScanned_140 (lv_at hl 1 rfl) ?_
            refine lv_bipush (v := nI 6) hx hb dL_isScanned_142 (by decide) ?_
            refine lv_iadd hx hb dL_isScanned_144 ?_
            rw [show nI (140 + 12 * p) + nI 6 = nI (140 + 12 * p + 6) from nI_add _ _]
            refine j_ld C0 hH hJ hL (ix := 140 + 12 * p + 6) (by omega) (by decide) (v := m 22 p) hNP.g6 dL_isScanned_145 ?_
            refine lv_iconst (v := nI 2) hx hb dL_isScanned_146 (by decide) ?_
            refine lv_icmp_ne (tgt := 155) hx hb dL_isScanned_147 (by decide) (fun c147_5 => ?_) (fun c147_5 => ?_)
            · refine lv_bipush (v := nI 109) hx hb dL_isScanned_155 (by decide) ?_
              refine lv_istore (lv' := [(9, .int (nI 109)), (8, .int (nI 0)), (7, .int (nI (140 + 12 * p))), (6, .int (nI y)), (5, .int (m 28 p)), (0, .ref (o)), (1, .ref (an)), (2, .ref (Sc.1)), (3, .int (nI i0)), (4, .int (nI p))]) hx hb dL_isScanned_157 hl (by decide) rfl (fun ls hl => ?_)
              refine lv_aload_n hx hb dL_isScanned_159 rfl (lv_at hl 6 rfl) ?_
              refine lv_iload hx hb dL_isScanned_160 (lv_at hl 2 rfl) ?_
              refine lv_bipush (v := nI 6) hx hb dL_isScanned_162 (by decide) ?_
              refine lv_iadd hx hb dL_isScanned_164 ?_
              rw [show nI (140 + 12 * p) + nI 6 = nI (140 + 12 * p + 6) from nI_add _ _]
              refine lv_dup2_11 hx hb dL_isScanned_165 rfl rfl ?_
              refine j_ld C0 hH hJ hL (ix := 140 + 12 * p + 6) (by omega) (by decide) (v := m 22 p) hNP.g6 dL_isScanned_166 ?_
              refine lv_iload hx hb dL_isScanned_167 (lv_at hl 0 rfl) ?_
              refine lv_bipush (v := nI 109) hx hb dL_isScanned_169 (by decide) ?_
              refine lv_icmp_eq (tgt := 181) hx hb dL_isScanned_171 (by decide) (fun c171_6 => ?_) (fun c171_6 => ?_)
              · refine lv_iconst (v := nI 1) hx hb dL_isScanned_181 (by decide) ?_
                refine lv_goto (tgt := 186) hx hb dL_isScanned_182 (by decide) ?_
                refine lv_iadd hx hb dL_isScanned_186 ?_
                refine j_st C0 hH hJ hL (ix := 140 + 12 * p + 6) (by omega) (by decide) dL_isScanned_187 (fun h H locs hH hJ => ?_)
                obtain ⟨f_7, hf_7⟩ : ∃ z, z = upF f (140 + 12 * p + 6) ((m 22 p) + (nI 1)) := ⟨_, rfl⟩
                obtain ⟨L_8, hL_8⟩ : ∃ z, z = setL L an 700 f_7 := ⟨_, rfl⟩
                rw [← hf_7, ← hL_8] at hJ
                have hL_L_8 : L_8 an = some (700, f_7) := by rw [hL_8]; exact setL_s _ _ _ _
                refine lv_iload hx hb dL_isScanned_188 (lv_at hl 0 rfl) ?_
                refine lv_bipush (v := nI 111) hx hb dL_isScanned_190 (by decide) ?_
                refine lv_icmp_eq (tgt := 202) hx hb dL_isScanned_192 (by decide) (fun c192_9 => ?_) (fun c192_9 => ?_)
                · exact absurd c192_9 (by decide)
                · refine lv_iload hx hb dL_isScanned_195 (lv_at hl 0 rfl) ?_
                  refine lv_bipush (v := nI 109) hx hb dL_isScanned_197 (by decide) ?_
                  refine lv_icmp_ne (tgt := 211) hx hb dL_isScanned_199 (by decide) (fun c199_10 => ?_) (fun c199_10 => ?_)
                  · exact absurd (by decide) c199_10
                  · refine lv_aload_n hx hb dL_isScanned_202 rfl (lv_at hl 5 rfl) ?_
                    refine lv_aload_n hx hb dL_isScanned_203 rfl (lv_at hl 6 rfl) ?_
                    refine lv_iload hx hb dL_isScanned_204 (lv_at hl 9 rfl) ?_
                    refine lv_iload hx hb dL_isScanned_206 (lv_at hl 3 rfl) ?_
                    refine k_v hH (k_lS (rest := []) C0 hN hH (lL_scanned l hlt Sc G A _ _ c m n _ _ o hJ ho hwc hS hw an f_7 hL_L_8 p y hp (by rw [hf_7, upF_o (by omega)]; exact hNP.g8)) mv_L_scanned ml_L_157 rfl ⟨Nat.le_of_ble_eq_true rfl, Nat.le_of_ble_eq_true rfl⟩ hl.1 rfl (Nat.le_of_ble_eq_true rfl) dL_isScanned_208 ⟨by show _ ≤ 8 + (UC (cScn c (nI p) (nI y)) - UC c); omega, by show _ ≤ 48 + (US (cScn c (nI p) (nI y)) - US c); omega⟩) (fun h H locs hp0 hH => ?_)
                    obtain ⟨b, hJ, ho, hwc⟩ := hp0
                    obtain ⟨f8, hf8⟩ : ∃ z, z = upF (upF f_7 (140 + 12 * p + 3) (m 41 0)) (140 + 12 * p + 8) (if m 21 p < 0 ∧ m 14 p = nI y then m 41 0 else m 21 p) := ⟨_, rfl⟩
                    obtain ⟨L8, hL8⟩ : ∃ z, z = setL L_8 an 700 f8 := ⟨_, rfl⟩
                    rw [← hf8, ← hL8] at hJ
                    have hL8n : L8 an = some (700, f8) := by rw [hL8]; exact setL_s _ _ _ _
                    refine lv_iload hx hb dL_isScanned_211 (lv_at hl 0 rfl) ?_
                    refine lv_ldc hx hb hown (hts _ kl_L_20) dL_isScanned_213 ?_
                    refine lv_icmp_ne (tgt := 222) hx hb dL_isScanned_215 (by decide) (fun c215_11 => ?_) (fun c215_11 => ?_)
                    · refine lv_iconst (v := nI 0) hx hb dL_isScanned_222 (by decide) ?_
                      refine lv_istore (lv' := [(10, .int (nI 0)), (9, .int (nI 109)), (8, .int (nI 0)), (7, .int (nI (140 + 12 * p))), (6, .int (nI y)), (5, .int (m 28 p)), (0, .ref (o)), (1, .ref (an)), (2, .ref (Sc.1)), (3, .int (nI i0)), (4, .int (nI p))]) hx hb dL_isScanned_223 hl (by decide) rfl (fun ls hl => ?_)
                      refine lv_aload_n hx hb dL_isScanned_225 rfl (lv_at hl 6 rfl) ?_
                      refine lv_iload hx hb dL_isScanned_226 (lv_at hl 10 rfl) ?_
                      refine lv_iload hx hb dL_isScanned_228 (lv_at hl 4 rfl) ?_
                      have hwc0 := hwc
                      refine j_w1 (As := [.int (nI p), .int (nI y)]) (rest := []) (v := nI 109) (c' := cScn c (nI p) (nI y)) C0 hN hH hJ ho (lW_scan (nI p) (nI y) hJ.own hJ.obj (cC_X10_scan l hlt G _ _ b c hJ.rest hwc (nI p) (nI y)) (hin_n hxa (fun E h9 z => z.1))) (hv_in hxa hRa (fun E h9 z => z.1)) ms_L_scan ml_L_161 rfl ⟨Nat.le_of_ble_eq_true rfl, Nat.le_of_ble_eq_true rfl⟩ hl.1 rfl (Nat.le_of_ble_eq_true rfl) dL_isScanned_230 ⟨by show _ ≤ 8 + (UC (cScn c (nI p) (nI y)) - UC c); omega, by show _ ≤ 48 + (US (cScn c (nI p) (nI y)) - US c); omega⟩ (fun h b H locs hH hJ ho hwc => ?_)
                      refine lv_iload hx hb dL_isScanned_233 (lv_at hl 1 rfl) ?_
                      refine lv_icmp_ne (tgt := 297) hx hb dL_isScanned_235 (by decide) (fun c235_12 => ?_) (fun c235_12 => ?_)
                      · exact absurd (by decide) c235_12
                      · refine lv_aload_n hx hb dL_isScanned_238 rfl (lv_at hl 6 rfl) ?_
                        refine lv_iload hx hb dL_isScanned_239 (lv_at hl 10 rfl) ?_
                        refine j_q0 (rest := []) C0 hH hJ ho (cN_X10_misroutes l hlt G _ _ b (cScn c (nI p) (nI y)) hJ.rest hwc (nI p) (v_pX hS1 hw1 hwc hp1)) (v_pX hS1 hw1 hwc hp1) (v := m 22 p + nI 1) ((v_pk hS1 hw1 hp1 (k := 22) rfl).trans s5) mv_X10_misroutes ml_L_163 rfl ⟨Nat.le_of_ble_eq_true rfl, Nat.le_of_ble_eq_true rfl⟩ hl.1 rfl (Nat.le_of_ble_eq_true rfl) dL_isScanned_241 ⟨by show _ ≤ 8 + (UC (cScn c (nI p) (nI y)) - UC c); omega, by show _ ≤ 48 + (US (cScn c (nI p) (nI y)) - US c); omega⟩ (fun H locs hH => ?_)
                        refine lv_aload_n hx hb dL_isScanned_244 rfl (lv_at hl 7 rfl) ?_
                        refine lv_iload hx hb dL_isScanned_245 (lv_at hl 3 rfl) ?_
                        refine lv_bipush (v := nI 6) hx hb dL_isScanned_247 (by decide) ?_
                        refine lv_iadd hx hb dL_isScanned_249 ?_
                        rw [show nI (140 + 12 * p) + nI 6 = nI (140 + 12 * p + 6) from nI_add _ _]
                        refine j_ld C0 hH hJ hL8n (ix := 140 + 12 * p + 6) (by omega) (by decide) (v := m 22 p + nI 1) (by rw [hf8, upF_o (by omega), upF_o (by omega), hf_7]; exact upF_s _ _ _) dL_isScanned_250 ?_
                        refine lv_icmp_ne (tgt := 297) hx hb dL_isScanned_251 (by decide) (fun c251_13 => ?_) (fun c251_13 => ?_)
                        · exact absurd rfl c251_13
                        · refine lv_iload hx hb dL_isScanned_254 (lv_at hl 0 rfl) ?_
                          refine lv_if_ne (tgt := 293) hx hb dL_isScanned_256 (by decide) (fun c256_14 => ?_) (fun c256_14 => ?_)
                          · exact absurd (by decide) c256_14
                          · refine lv_aload_n hx hb dL_isScanned_259 rfl (lv_at hl 6 rfl) ?_
                            refine lv_iload hx hb dL_isScanned_260 (lv_at hl 10 rfl) ?_
                            refine j_w0 (As := [.int (nI p)]) (rest := []) (v := nI y) C0 hN hH ho (lW_at (nI p) hJ.own hJ.obj (cN_X10_at l hlt G _ _ b (cScn c (nI p) (nI y)) hJ.rest hwc (nI p) (v_at hS1 hw1 hwc hp1 (by rw [s1]; decide))) (fun E h9 z => absurd ((v_at hS1 hw1 hwc hp1 (by rw [s1]; decide)).symm.trans z.1) (fun y => nomatch y))) (fun r h9 z => z.elim (fun y => ⟨y.2.1.trans ((v_pk hS1 hw1 hp1 (k := 15) rfl).trans s2), y.2.2⟩) (fun ⟨E, y, _⟩ => absurd ((v_at hS1 hw1 hwc hp1 (by rw [s1]; decide)).symm.trans y.1) (fun q => nomatch q))) ms_L_at ml_L_149 rfl ⟨Nat.le_of_ble_eq_true rfl, Nat.le_of_ble_eq_true rfl⟩ hl.1 rfl (Nat.le_of_ble_eq_true rfl) dL_isScanned_262 ⟨by show _ ≤ 8 + (UC (cScn c (nI p) (nI y)) - UC c); omega, by show _ ≤ 48 + (US (cScn c (nI p) (nI y)) - US c); omega⟩ (fun H locs hH => ?_)
                            refine lv_iload hx hb dL_isScanned_265 (lv_at hl 4 rfl) ?_
                            refine lv_icmp_ne (tgt := 297) hx hb dL_isScanned_267 (by decide) (fun c267_15 => ?_) (fun c267_15 => ?_)
                            · exact absurd rfl c267_15
                            · replace c267_15 : y = y := (nI_eq (a := y) (b := y) (by omega) (by omega)).mp c267_15
                              refine lv_aload_n hx hb dL_isScanned_270 rfl (lv_at hl 6 rfl) ?_
                              refine lv_iload hx hb dL_isScanned_271 (lv_at hl 10 rfl) ?_
                              refine j_w0 (As := [.int (nI p)]) (rest := []) (v := nI 115) C0 hN hH ho (lW_state (nI p) hJ.own hJ.obj (cN_X10_state l hlt G _ _ b (cScn c (nI p) (nI y)) hJ.rest hwc (nI p) (v_nar28 hS1 hw1 hp1) (v_pX hS1 hw1 hwc hp1)) (fun E h9 z => absurd ((v_pX hS1 hw1 hwc hp1).symm.trans z.1) (fun y => nomatch y))) (fun r h9 z => z.elim (fun y => ⟨y.2.1.trans ((v_pk hS1 hw1 hp1 (k := 28) rfl).trans s1), y.2.2⟩) (fun ⟨E, y, _⟩ => absurd ((v_pX hS1 hw1 hwc hp1).symm.trans y.1) (fun q => nomatch q))) ms_L_state ml_L_147 rfl ⟨Nat.le_of_ble_eq_true rfl, Nat.le_of_ble_eq_true rfl⟩ hl.1 rfl (Nat.le_of_ble_eq_true rfl) dL_isScanned_273 ⟨by show _ ≤ 8 + (UC (cScn c (nI p) (nI y)) - UC c); omega, by show _ ≤ 48 + (US (cScn c (nI p) (nI y)) - US c); omega⟩ (fun H locs hH => ?_)
                              refine lv_iload hx hb dL_isScanned_276 (lv_at hl 1 rfl) ?_
                              refine lv_bipush (v := nI 104) hx hb dL_isScanned_278 (by decide) ?_
                              refine lv_icmp_ne (tgt := 288) hx hb dL_isScanned_280 (by decide) (fun c280_16 => ?_) (fun c280_16 => ?_)
                              · refine lv_bipush (v := nI 115) hx hb dL_isScanned_288 (by decide) ?_
                                refine lv_icmp_ne (tgt := 297) hx hb dL_isScanned_290 (by decide) (fun c290_17 => ?_) (fun c290_17 => ?_)
                                · exact absurd (by decide) c290_17
                                · refine lv_iconst (v := nI 1) hx hb dL_isScanned_293 (by decide) ?_
                                  refine lv_goto (tgt := 298) hx hb dL_isScanned_294 (by decide) ?_
                                  have hnp9 : NP f8 m1 p := hNP.scn hP1 (by decide) (by decide) (fun e => hov (Or.inl e)) (by rw [hf8, upF_o (by omega), upF_s]) (by rw [hf8, upF_o (by omega), upF_o (by omega), hf_7, upF_s]; rfl) (by rw [hf8, upF_s]; by_cases w9 : m 21 p < 0 ∧ m 14 p = nI y; (· rw [if_pos w9, if_pos ⟨w9.2.symm, w9.1⟩]); (· rw [if_neg w9, if_neg (fun w => w9 ⟨w.2, w.1.symm⟩)])) (fun j hj a1 a2 a3 => by rw [hf8, upF_o (by omega), upF_o (by omega), hf_7, upF_o (by omega)])
                                  have hNT := hT.par (f' := f8) hw hO1 hp (fun i hi => by have y3 := hi 3 (by omega); have y6 := hi 6 (by omega); have y8 := hi 8 (by omega); rw [hf8, upF_o y8, upF_o y3, hf_7, upF_o y6]) hnp9
                                  rw [hL8, hL_8, setL_2] at hJ
                                  exact e_Z C0 hr (by decide) hH ⟨rfl, b, f8, m1, n + 1, hJ, ho, hwc, Nat.le_refl _, hSt1, hNT.1, hNT.2, hg9⟩ (by omega) (by omega) dL_isScanned_298
                              · exact absurd c280_16 (by decide)
                    · exact absurd c215_11 (by decide)
              · exact absurd (by decide) c171_6
            · exact absurd c147_5 h22
          · exact absurd (by decide) c119_4
        · exact absurd (Or.inr c109_3) hov
    · have hn116 : ¬ m 28 p = 116 := c77_1
      refine lv_aload_n hx hb dL_isScanned_80 rfl (lv_at hl 3 rfl) ?_
      refine lv_iload hx hb dL_isScanned_81 (lv_at hl 7 rfl) ?_
      refine j_w0 (As := [.int (nI p)]) (rest := []) (v := m 15 p) C0 hN hH ho (lW_at (nI p) hJ.own hJ.obj (cN_X10_at l hlt G _ _ b c hJ.rest hwc (nI p) (v_at hS hw hwc hp hn116)) (fun E h9 z => absurd ((v_at hS hw hwc hp hn116).symm.trans z.1) (fun y => nomatch y))) (fun r h9 z => z.elim (fun y => ⟨y.2.1.trans ((v_pk hS hw hp (k := 15) rfl).trans rfl), y.2.2⟩) (fun ⟨E, y, _⟩ => absurd ((v_at hS hw hwc hp hn116).symm.trans y.1) (fun q => nomatch q))) ms_L_at ml_L_149 rfl ⟨Nat.le_of_ble_eq_true rfl, Nat.le_of_ble_eq_true rfl⟩ hl.1 rfl (Nat.le_of_ble_eq_true rfl) dL_isScanned_83 ⟨by show _ ≤ 8 + (UC (cScn c (nI p) (nI y)) - UC c); omega, by show _ ≤ 48 + (US (cScn c (nI p) (nI y)) - US c); omega⟩ (fun H locs hH => ?_)
      refine lv_iload hx hb dL_isScanned_86 (lv_at hl 1 rfl) ?_
      refine lv_icmp_ne (tgt := 95) hx hb dL_isScanned_88 (by decide) (fun c88_18 => ?_) (fun c88_18 => ?_)
      · refine lv_iconst (v := nI 0) hx hb dL_isScanned_95 (by decide) ?_
        refine lv_istore (lv' := [(8, .int (nI 0)), (7, .int (nI (140 + 12 * p))), (6, .int (nI y)), (5, .int (m 28 p)), (0, .ref (o)), (1, .ref (an)), (2, .ref (Sc.1)), (3, .int (nI i0)), (4, .int (nI p))]) hx hb dL_isScanned_96 hl (by decide) rfl (fun ls hl => ?_)
        refine lv_iload hx hb dL_isScanned_98 (lv_at hl 3 rfl) ?_
        refine lv_bipush (v := nI 100) hx hb dL_isScanned_100 (by decide) ?_
        refine lv_icmp_eq (tgt := 112) hx hb dL_isScanned_102 (by decide) (fun c102_19 => ?_) (fun c102_19 => ?_)
        · exact absurd (Or.inl c102_19) hov
        · refine lv_iload hx hb dL_isScanned_105 (lv_at hl 3 rfl) ?_
          refine lv_bipush (v := nI 104) hx hb dL_isScanned_107 (by decide) ?_
          refine lv_icmp_ne (tgt := 117) hx hb dL_isScanned_109 (by decide) (fun c109_20 => ?_) (fun c109_20 => ?_)
          · refine lv_iload hx hb dL_isScanned_117 (lv_at hl 0 rfl) ?_
            refine lv_if_eq (tgt := 139) hx hb dL_isScanned_119 (by decide) (fun c119_21 => ?_) (fun c119_21 => ?_)
            · refine lv_aload_n hx hb dL_isScanned_139 rfl (lv_at hl 5 rfl) ?_
              refine lv_iload hx hb dL_isScanned_140 (lv_at hl 1 rfl) ?_
              refine lv_bipush (v := nI 6) hx hb dL_isScanned_142 (by decide) ?_
              refine lv_iadd hx hb dL_isScanned_144 ?_
              rw [show nI (140 + 12 * p) + nI 6 = nI (140 + 12 * p + 6) from nI_add _ _]
              refine j_ld C0 hH hJ hL (ix := 140 + 12 * p + 6) (by omega) (by decide) (v := m 22 p) hNP.g6 dL_isScanned_145 ?_
              refine lv_iconst (v := nI 2) hx hb dL_isScanned_146 (by decide) ?_
              refine lv_icmp_ne (tgt := 155) hx hb dL_isScanned_147 (by decide) (fun c147_22 => ?_) (fun c147_22 => ?_)
              · refine lv_bipush (v := nI 109) hx hb dL_isScanned_155 (by decide) ?_
                refine lv_istore (lv' := [(9, .int (nI 109)), (8, .int (nI 0)), (7, .int (nI (140 + 12 * p))), (6, .int (nI y)), (5, .int (m 28 p)), (0, .ref (o)), (1, .ref (an)), (2, .ref (Sc.1)), (3, .int (nI i0)), (4, .int (nI p))]) hx hb dL_isScanned_157 hl (by decide) rfl (fun ls hl => ?_)
                refine lv_aload_n hx hb dL_isScanned_159 rfl (lv_at hl 6 rfl) ?_
                refine lv_iload hx hb dL_isScanned_160 (lv_at hl 2 rfl) ?_
                refine lv_bipush (v := nI 6) hx hb dL_isScanned_162 (by decide) ?_
                refine lv_iadd hx hb dL_isScanned_164 ?_
                rw [show nI (140 + 12 * p) + nI 6 = nI (140 + 12 * p + 6) from nI_add _ _]
                refine lv_dup2_11 hx hb dL_isScanned_165 rfl rfl ?_
                refine j_ld C0 hH hJ hL (ix := 140 + 12 * p + 6) (by omega) (by decide) (v := m 22 p) hNP.g6 dL_isScanned_166 ?_
                refine lv_iload hx hb dL_isScanned_167 (lv_at hl 0 rfl) ?_
                refine lv_bipush (v := nI 109) hx hb dL_isScanned_169 (by decide) ?_
                refine lv_icmp_eq (tgt := 181) hx hb dL_isScanned_171 (by decide) (fun c171_23 => ?_) (fun c171_23 => ?_)
                · refine lv_iconst (v := nI 1) hx hb dL_isScanned_181 (by decide) ?_
                  refine lv_goto (tgt := 186) hx hb dL_isScanned_182 (by decide) ?_
                  refine lv_iadd hx hb dL_isScanned_186 ?_
                  refine j_st C0 hH hJ hL (ix := 140 + 12 * p + 6) (by omega) (by decide) dL_isScanned_187 (fun h H locs hH hJ => ?_)
                  obtain ⟨f_24, hf_24⟩ : ∃ z, z = upF f (140 + 12 * p + 6) ((m 22 p) + (nI 1)) := ⟨_, rfl⟩
                  obtain ⟨L_25, hL_25⟩ : ∃ z, z = setL L an 700 f_24 := ⟨_, rfl⟩
                  rw [← hf_24, ← hL_25] at hJ
                  have hL_L_25 : L_25 an = some (700, f_24) := by rw [hL_25]; exact setL_s _ _ _ _
                  refine lv_iload hx hb dL_isScanned_188 (lv_at hl 0 rfl) ?_
                  refine lv_bipush (v := nI 111) hx hb dL_isScanned_190 (by decide) ?_
                  refine lv_icmp_eq (tgt := 202) hx hb dL_isScanned_192 (by decide) (fun c192_26 => ?_) (fun c192_26 => ?_)
                  · exact absurd c192_26 (by decide)
                  · refine lv_iload hx hb dL_isScanned_195 (lv_at hl 0 rfl) ?_
                    refine lv_bipush (v := nI 109) hx hb dL_isScanned_197 (by decide) ?_
                    refine lv_icmp_ne (tgt := 211) hx hb dL_isScanned_199 (by decide) (fun c199_27 => ?_) (fun c199_27 => ?_)
                    · exact absurd (by decide) c199_27
                    · refine lv_aload_n hx hb dL_isScanned_202 rfl (lv_at hl 5 rfl) ?_
                      refine lv_aload_n hx hb dL_isScanned_203 rfl (lv_at hl 6 rfl) ?_
                      refine lv_iload hx hb dL_isScanned_204 (lv_at hl 9 rfl) ?_
                      refine lv_iload hx hb dL_isScanned_206 (lv_at hl 3 rfl) ?_
                      refine k_v hH (k_lS (rest := []) C0 hN hH (lL_scanned l hlt Sc G A _ _ c m n _ _ o hJ ho hwc hS hw an f_24 hL_L_25 p y hp (by rw [hf_24, upF_o (by omega)]; exact hNP.g8)) mv_L_scanned ml_L_157 rfl ⟨Nat.le_of_ble_eq_true rfl, Nat.le_of_ble_eq_true rfl⟩ hl.1 rfl (Nat.le_of_ble_eq_true rfl) dL_isScanned_208 ⟨by show _ ≤ 8 + (UC (cScn c (nI p) (nI y)) - UC c); omega, by show _ ≤ 48 + (US (cScn c (nI p) (nI y)) - US c); omega⟩) (fun h H locs hp0 hH => ?_)
                      obtain ⟨b, hJ, ho, hwc⟩ := hp0
                      obtain ⟨f8, hf8⟩ : ∃ z, z = upF (upF f_24 (140 + 12 * p + 3) (m 41 0)) (140 + 12 * p + 8) (if m 21 p < 0 ∧ m 14 p = nI y then m 41 0 else m 21 p) := ⟨_, rfl⟩
                      obtain ⟨L8, hL8⟩ : ∃ z, z = setL L_25 an 700 f8 := ⟨_, rfl⟩
                      rw [← hf8, ← hL8] at hJ
                      have hL8n : L8 an = some (700, f8) := by rw [hL8]; exact setL_s _ _ _ _
                      refine lv_iload hx hb dL_isScanned_211 (lv_at hl 0 rfl) ?_
                      refine lv_ldc hx hb hown (hts _ kl_L_20) dL_isScanned_213 ?_
                      refine lv_icmp_ne (tgt := 222) hx hb dL_isScanned_215 (by decide) (fun c215_28 => ?_) (fun c215_28 => ?_)
                      · refine lv_iconst (v := nI 0) hx hb dL_isScanned_222 (by decide) ?_
                        refine lv_istore (lv' := [(10, .int (nI 0)), (9, .int (nI 109)), (8, .int (nI 0)), (7, .int (nI (140 + 12 * p))), (6, .int (nI y)), (5, .int (m 28 p)), (0, .ref (o)), (1, .ref (an)), (2, .ref (Sc.1)), (3, .int (nI i0)), (4, .int (nI p))]) hx hb dL_isScanned_223 hl (by decide) rfl (fun ls hl => ?_)
                        refine lv_aload_n hx hb dL_isScanned_225 rfl (lv_at hl 6 rfl) ?_
                        refine lv_iload hx hb dL_isScanned_226 (lv_at hl 10 rfl) ?_
                        refine lv_iload hx hb dL_isScanned_228 (lv_at hl 4 rfl) ?_
                        have hwc0 := hwc
                        refine j_w1 (As := [.int (nI p), .int (nI y)]) (rest := []) (v := nI 109) (c' := cScn c (nI p) (nI y)) C0 hN hH hJ ho (lW_scan (nI p) (nI y) hJ.own hJ.obj (cC_X10_scan l hlt G _ _ b c hJ.rest hwc (nI p) (nI y)) (hin_n hxa (fun E h9 z => z.1))) (hv_in hxa hRa (fun E h9 z => z.1)) ms_L_scan ml_L_161 rfl ⟨Nat.le_of_ble_eq_true rfl, Nat.le_of_ble_eq_true rfl⟩ hl.1 rfl (Nat.le_of_ble_eq_true rfl) dL_isScanned_230 ⟨by show _ ≤ 8 + (UC (cScn c (nI p) (nI y)) - UC c); omega, by show _ ≤ 48 + (US (cScn c (nI p) (nI y)) - US c); omega⟩ (fun h b H locs hH hJ ho hwc => ?_)
                        refine lv_iload hx hb dL_isScanned_233 (lv_at hl 1 rfl) ?_
                        refine lv_icmp_ne (tgt := 297) hx hb dL_isScanned_235 (by decide) (fun c235_29 => ?_) (fun c235_29 => ?_)
                        · exact absurd (by decide) c235_29
                        · refine lv_aload_n hx hb dL_isScanned_238 rfl (lv_at hl 6 rfl) ?_
                          refine lv_iload hx hb dL_isScanned_239 (lv_at hl 10 rfl) ?_
                          refine j_q0 (rest := []) C0 hH hJ ho (cN_X10_misroutes l hlt G _ _ b (cScn c (nI p) (nI y)) hJ.rest hwc (nI p) (v_pX hS1 hw1 hwc hp1)) (v_pX hS1 hw1 hwc hp1) (v := m 22 p + nI 1) ((v_pk hS1 hw1 hp1 (k := 22) rfl).trans s5) mv_X10_misroutes ml_L_163 rfl ⟨Nat.le_of_ble_eq_true rfl, Nat.le_of_ble_eq_true rfl⟩ hl.1 rfl (Nat.le_of_ble_eq_true rfl) dL_isScanned_241 ⟨by show _ ≤ 8 + (UC (cScn c (nI p) (nI y)) - UC c); omega, by show _ ≤ 48 + (US (cScn c (nI p) (nI y)) - US c); omega⟩ (fun H locs hH => ?_)
                          refine lv_aload_n hx hb dL_isScanned_244 rfl (lv_at hl 7 rfl) ?_
                          refine lv_iload hx hb dL_isScanned_245 (lv_at hl 3 rfl) ?_
                          refine lv_bipush (v := nI 6) hx hb dL_isScanned_247 (by decide) ?_
                          refine lv_iadd hx hb dL_isScanned_249 ?_
                          rw [show nI (140 + 12 * p) + nI 6 = nI (140 + 12 * p + 6) from nI_add _ _]
                          refine j_ld C0 hH hJ hL8n (ix := 140 + 12 * p + 6) (by omega) (by decide) (v := m 22 p + nI 1) (by rw [hf8, upF_o (by omega), upF_o (by omega), hf_24]; exact upF_s _ _ _) dL_isScanned_250 ?_
                          refine lv_icmp_ne (tgt := 297) hx hb dL_isScanned_251 (by decide) (fun c251_30 => ?_) (fun c251_30 => ?_)
                          · exact absurd rfl c251_30
                          · refine lv_iload hx hb dL_isScanned_254 (lv_at hl 0 rfl) ?_
                            refine lv_if_ne (tgt := 293) hx hb dL_isScanned_256 (by decide) (fun c256_31 => ?_) (fun c256_31 => ?_)
                            · exact absurd (by decide) c256_31
                            · refine lv_aload_n hx hb dL_isScanned_259 rfl (lv_at hl 6 rfl) ?_
                              refine lv_iload hx hb dL_isScanned_260 (lv_at hl 10 rfl) ?_
                              refine j_w0 (As := [.int (nI p)]) (rest := []) (v := nI y) C0 hN hH ho (lW_at (nI p) hJ.own hJ.obj (cN_X10_at l hlt G _ _ b (cScn c (nI p) (nI y)) hJ.rest hwc (nI p) (v_at hS1 hw1 hwc hp1 (by rw [s1]; decide))) (fun E h9 z => absurd ((v_at hS1 hw1 hwc hp1 (by rw [s1]; decide)).symm.trans z.1) (fun y => nomatch y))) (fun r h9 z => z.elim (fun y => ⟨y.2.1.trans ((v_pk hS1 hw1 hp1 (k := 15) rfl).trans s2), y.2.2⟩) (fun ⟨E, y, _⟩ => absurd ((v_at hS1 hw1 hwc hp1 (by rw [s1]; decide)).symm.trans y.1) (fun q => nomatch q))) ms_L_at ml_L_149 rfl ⟨Nat.le_of_ble_eq_true rfl, Nat.le_of_ble_eq_true rfl⟩ hl.1 rfl (Nat.le_of_ble_eq_true rfl) dL_isScanned_262 ⟨by show _ ≤ 8 + (UC (cScn c (nI p) (nI y)) - UC c); omega, by show _ ≤ 48 + (US (cScn c (nI p) (nI y)) - US c); omega⟩ (fun H locs hH => ?_)
                              refine lv_iload hx hb dL_isScanned_265 (lv_at hl 4 rfl) ?_
                              refine lv_icmp_ne (tgt := 297) hx hb dL_isScanned_267 (by decide) (fun c267_32 => ?_) (fun c267_32 => ?_)
                              · exact absurd rfl c267_32
                              · replace c267_32 : y = y := (nI_eq (a := y) (b := y) (by omega) (by omega)).mp c267_32
                                refine lv_aload_n hx hb dL_isScanned_270 rfl (lv_at hl 6 rfl) ?_
                                refine lv_iload hx hb dL_isScanned_271 (lv_at hl 10 rfl) ?_
                                refine j_w0 (As := [.int (nI p)]) (rest := []) (v := nI 115) C0 hN hH ho (lW_state (nI p) hJ.own hJ.obj (cN_X10_state l hlt G _ _ b (cScn c (nI p) (nI y)) hJ.rest hwc (nI p) (v_nar28 hS1 hw1 hp1) (v_pX hS1 hw1 hwc hp1)) (fun E h9 z => absurd ((v_pX hS1 hw1 hwc hp1).symm.trans z.1) (fun y => nomatch y))) (fun r h9 z => z.elim (fun y => ⟨y.2.1.trans ((v_pk hS1 hw1 hp1 (k := 28) rfl).trans s1), y.2.2⟩) (fun ⟨E, y, _⟩ => absurd ((v_pX hS1 hw1 hwc hp1).symm.trans y.1) (fun q => nomatch q))) ms_L_state ml_L_147 rfl ⟨Nat.le_of_ble_eq_true rfl, Nat.le_of_ble_eq_true rfl⟩ hl.1 rfl (Nat.le_of_ble_eq_true rfl) dL_isScanned_273 ⟨by show _ ≤ 8 + (UC (cScn c (nI p) (nI y)) - UC c); omega, by show _ ≤ 48 + (US (cScn c (nI p) (nI y)) - US c); omega⟩ (fun H locs hH => ?_)
                                refine lv_iload hx hb dL_isScanned_276 (lv_at hl 1 rfl) ?_
                                refine lv_bipush (v := nI 104) hx hb dL_isScanned_278 (by decide) ?_
                                refine lv_icmp_ne (tgt := 288) hx hb dL_isScanned_280 (by decide) (fun c280_33 => ?_) (fun c280_33 => ?_)
                                · refine lv_bipush (v := nI 115) hx hb dL_isScanned_288 (by decide) ?_
                                  refine lv_icmp_ne (tgt := 297) hx hb dL_isScanned_290 (by decide) (fun c290_34 => ?_) (fun c290_34 => ?_)
                                  · exact absurd (by decide) c290_34
                                  · refine lv_iconst (v := nI 1) hx hb dL_isScanned_293 (by decide) ?_
                                    refine lv_goto (tgt := 298) hx hb dL_isScanned_294 (by decide) ?_
                                    have hnp9 : NP f8 m1 p := hNP.scn hP1 (by decide) (by decide) (fun e => hov (Or.inl e)) (by rw [hf8, upF_o (by omega), upF_s]) (by rw [hf8, upF_o (by omega), upF_o (by omega), hf_24, upF_s]; rfl) (by rw [hf8, upF_s]; by_cases w9 : m 21 p < 0 ∧ m 14 p = nI y; (· rw [if_pos w9, if_pos ⟨w9.2.symm, w9.1⟩]); (· rw [if_neg w9, if_neg (fun w => w9 ⟨w.2, w.1.symm⟩)])) (fun j hj a1 a2 a3 => by rw [hf8, upF_o (by omega), upF_o (by omega), hf_24, upF_o (by omega)])
                                    have hNT := hT.par (f' := f8) hw hO1 hp (fun i hi => by have y3 := hi 3 (by omega); have y6 := hi 6 (by omega); have y8 := hi 8 (by omega); rw [hf8, upF_o y8, upF_o y3, hf_24, upF_o y6]) hnp9
                                    rw [hL8, hL_25, setL_2] at hJ
                                    exact e_Z C0 hr (by decide) hH ⟨rfl, b, f8, m1, n + 1, hJ, ho, hwc, Nat.le_refl _, hSt1, hNT.1, hNT.2, hg9⟩ (by omega) (by omega) dL_isScanned_298
                                · exact absurd c280_33 (by decide)
                      · exact absurd c215_28 (by decide)
                · exact absurd (by decide) c171_23
              · exact absurd c147_22 h22
            · exact absurd (by decide) c119_21
          · exact absurd (Or.inr c109_20) hov
      · exact absurd c88_18 (z.resolve_left c77_1)
  refine lv_aload_n hx hb dL_isScanned_8 rfl (lv_at hl 3 rfl) ?_
  refine lv_iload_n hx hb dL_isScanned_9 rfl (lv_at hl 4 rfl) ?_
  refine lv_iconst (v := nI 4) hx hb dL_isScanned_10 (by decide) ?_
  have hin4 := inN_lt Sc i0 (n := 4) (by omega)
  refine k_i hH (k_lS (rest := []) C0 hN hH (lL_in l Sc G A _ i0 4 (by omega) (by omega) (by omega)) mv_L_in ml_L_106 rfl ⟨Nat.le_of_ble_eq_true rfl, Nat.le_of_ble_eq_true rfl⟩ hl.1 rfl (Nat.le_of_ble_eq_true rfl) dL_isScanned_11 ⟨by show _ ≤ 8 + (UC (cScn c (nI p) (nI y)) - UC c); omega, by show _ ≤ 48 + (US (cScn c (nI p) (nI y)) - US c); omega⟩) (fun rr h1 H locs hp0 hH => ?_)
  obtain ⟨ea, eh⟩ := hp0
  rw [eh] at hH
  rw [ea]
  refine lv_if_ne (tgt := 30) hx hb dL_isScanned_14 (by decide) (fun c14_35 => ?_) (fun c14_35 => ?_)
  · replace c14_35 : ¬ (inN Sc i0 4 = 0) := fun z => c14_35 ((nI_eq (a := inN Sc i0 4) (b := 0) (by omega) (by omega)).mpr z)
    rw [if_neg c14_35] at hdf
    refine lv_iload hx hb dL_isScanned_30 (lv_at hl 0 rfl) ?_
    refine lv_bipush (v := nI 116) hx hb dL_isScanned_32 (by decide) ?_
    refine lv_icmp_ne (tgt := 54) hx hb dL_isScanned_34 (by decide) (fun c34_36 => ?_) (fun c34_36 => ?_)
    · have hn116 : ¬ m 28 p = 116 := c34_36
      rw [if_neg hn116] at hdf
      refine lv_aload_n hx hb dL_isScanned_54 rfl (lv_at hl 1 rfl) ?_
      refine lv_iload hx hb dL_isScanned_55 (lv_at hl 5 rfl) ?_
      refine j_w0 (As := [.int (nI p)]) (rest := []) (v := nI y) C0 hN hH ho (lW_at (nI p) hJ.own hJ.obj (cN_X10_at l hlt G _ _ b c hJ.rest hwc (nI p) (v_at hS hw hwc hp hn116)) (fun E h9 z => absurd ((v_at hS hw hwc hp hn116).symm.trans z.1) (fun y => nomatch y))) (fun r h9 z => z.elim (fun y => ⟨y.2.1.trans ((v_pk hS hw hp (k := 15) rfl).trans hdf), y.2.2⟩) (fun ⟨E, y, _⟩ => absurd ((v_at hS hw hwc hp hn116).symm.trans y.1) (fun q => nomatch q))) ms_L_at ml_L_149 rfl ⟨Nat.le_of_ble_eq_true rfl, Nat.le_of_ble_eq_true rfl⟩ hl.1 rfl (Nat.le_of_ble_eq_true rfl) dL_isScanned_57 ⟨by show _ ≤ 8 + (UC (cScn c (nI p) (nI y)) - UC c); omega, by show _ ≤ 48 + (US (cScn c (nI p) (nI y)) - US c); omega⟩ (fun H locs hH => ?_)
      refine lv_istore (lv' := [(6, .int (nI y)), (5, .int (m 28 p)), (0, .ref (o)), (1, .ref (an)), (2, .ref (Sc.1)), (3, .int (nI i0)), (4, .int (nI p))]) hx hb dL_isScanned_60 hl (by decide) rfl (fun ls hl => ?_)
      exact TL H locs hH ls (lv_sub hl [0, 1, 2, 3, 4, 5, 6] rfl)
    · have h116 : m 28 p = 116 := c34_36
      rw [if_pos h116] at hdf
      have h16a := (hw.pa hp).2.2.2.2.1 h116
      have e16 : m 16 p = nI (vN (m 16 p)) := vp_nI h16a (by omega)
      have h16b : vN (m 16 p) < nlN m := vp_nat h16a
      refine lv_aload_n hx hb dL_isScanned_37 rfl (lv_at hl 2 rfl) ?_
      refine lv_bipush (v := nI 31) hx hb dL_isScanned_38 (by decide) ?_
      refine lv_bipush (v := nI 8) hx hb dL_isScanned_40 (by decide) ?_
      refine lv_aload_n hx hb dL_isScanned_42 rfl (lv_at hl 1 rfl) ?_
      refine lv_iload hx hb dL_isScanned_43 (lv_at hl 5 rfl) ?_
      refine j_w0 (As := [.int (nI p)]) (rest := [.int (nI 8), .int (nI 31), .ref (an)]) (v := nI (vN (m 16 p))) C0 hN hH ho (lW_rides (nI p) hJ.own hJ.obj (cN_X10_rides l hlt G _ _ b c hJ.rest hwc (nI p) (v_rd hS hw hwc hp h116)) (fun E h9 z => absurd ((v_rd hS hw hwc hp h116).symm.trans z.1) (fun y => nomatch y))) (fun r h9 z => z.elim (fun y => ⟨y.2.1.trans ((v_16 hS hw hp h116).trans e16), y.2.2⟩) (fun ⟨E, y, _⟩ => absurd ((v_rd hS hw hwc hp h116).symm.trans y.1) (fun q => nomatch q))) ms_L_rides ml_L_155 rfl ⟨Nat.le_of_ble_eq_true rfl, Nat.le_of_ble_eq_true rfl⟩ hl.1 rfl (Nat.le_of_ble_eq_true rfl) dL_isScanned_45 ⟨by show _ ≤ 8 + (UC (cScn c (nI p) (nI y)) - UC c); omega, by show _ ≤ 48 + (US (cScn c (nI p) (nI y)) - US c); omega⟩ (fun H locs hH => ?_)
      refine lv_imul hx hb dL_isScanned_48 ?_
      rw [show nI 8 * nI (vN (m 16 p)) = nI (8 * (vN (m 16 p))) from nI_mul]
      refine lv_iadd hx hb dL_isScanned_49 ?_
      rw [show nI 31 + nI (8 * (vN (m 16 p))) = nI (31 + 8 * (vN (m 16 p))) from nI_add _ _]
      refine j_ld C0 hH hJ hL (ix := 31 + 8 * (vN (m 16 p))) (by omega) (by decide) (v := nI y) ((hT.ln h16b 1 (by omega) (by omega)).trans hdf) dL_isScanned_50 ?_
      refine lv_goto (tgt := 60) hx hb dL_isScanned_51 (by decide) ?_
      refine lv_istore (lv' := [(6, .int (nI y)), (5, .int (m 28 p)), (0, .ref (o)), (1, .ref (an)), (2, .ref (Sc.1)), (3, .int (nI i0)), (4, .int (nI p))]) hx hb dL_isScanned_60 hl (by decide) rfl (fun ls hl => ?_)
      exact TL H locs hH ls (lv_sub hl [0, 1, 2, 3, 4, 5, 6] rfl)
  · replace c14_35 : inN Sc i0 4 = 0 := (nI_eq (a := inN Sc i0 4) (b := 0) (by omega) (by omega)).mp c14_35
    rw [if_pos c14_35] at hdf
    refine lv_aload_n hx hb dL_isScanned_17 rfl (lv_at hl 3 rfl) ?_
    refine lv_iload_n hx hb dL_isScanned_18 rfl (lv_at hl 4 rfl) ?_
    refine lv_iconst (v := nI 1) hx hb dL_isScanned_19 (by decide) ?_
    refine lv_iadd hx hb dL_isScanned_20 ?_
    rw [show nI i0 + nI 1 = nI (i0 + 1) from nI_add _ _]
    refine lv_aload_n hx hb dL_isScanned_21 rfl (lv_at hl 2 rfl) ?_
    refine lv_iconst (v := nI 0) hx hb dL_isScanned_22 (by decide) ?_
    refine j_ld C0 hH hJ hL (ix := 0) (by omega) (by decide) (v := nI (nhN m)) hT.h0 dL_isScanned_23 ?_
    refine k_i hH (k_lS (rest := []) C0 hN hH (lL_in l Sc G A _ (i0 + 1) (nhN m) (by omega) (by omega) (by omega)) mv_L_in ml_L_106 rfl ⟨Nat.le_of_ble_eq_true rfl, Nat.le_of_ble_eq_true rfl⟩ hl.1 rfl (Nat.le_of_ble_eq_true rfl) dL_isScanned_24 ⟨by show _ ≤ 8 + (UC (cScn c (nI p) (nI y)) - UC c); omega, by show _ ≤ 48 + (US (cScn c (nI p) (nI y)) - US c); omega⟩) (fun rr h1 H locs hp0 hH => ?_)
    obtain ⟨ea, eh⟩ := hp0
    rw [eh] at hH
    rw [ea, hdf]
    refine lv_goto (tgt := 60) hx hb dL_isScanned_27 (by decide) ?_
    refine lv_istore (lv' := [(6, .int (nI y)), (5, .int (m 28 p)), (0, .ref (o)), (1, .ref (an)), (2, .ref (Sc.1)), (3, .int (nI i0)), (4, .int (nI p))]) hx hb dL_isScanned_60 hl (by decide) rfl (fun ls hl => ?_)
    exact TL H locs hH ls (lv_sub hl [0, 1, 2, 3, 4, 5, 6] rfl)
set_option maxHeartbeats 4000000 in
set_option maxRecDepth 100000 in
theorem lL_isScanned_H (l : Launch) (hlt : l.stackTraces = false) (Sc : SCR) (G : GT) (A : Nat → Prop) (h : AH) (b : BA) (c m : MM) (n : Nat) (L : LNum) (M : LRef) (o : Nat) (hJ : JW G.2.2.1 h b c L M) (ho : b 14 0 = o) (hwc : WFc c) (hS : Sim n c m) (hw : WFa m) (hI : IV m) (hn : n < 512) (i0 : Nat) (hi0 : i0 < 2 ^ 19) (h2 : 2 ≤ nhN m) (p : Nat) (hp : p < npN m) (y : Nat) (hy : y < nhN m) (hdf : if inN Sc i0 4 = 0 then inN Sc (i0 + 1) (nhN m) = y else if m 28 p = 116 then m 3 (vN (m 16 p)) = nI y else m 15 p = nI y) (hov : ¬ (m 28 p = 100 ∨ m 28 p = 104)) (z : m 28 p = 116 ∨ ¬ m 15 p = nI y) (z2 : m 22 p + 1 = 3) (an : Nat) (f : Nat → Int32) (hL : L an = some (700, f)) (hT : NT f m) : lcI l Sc G A yL_isScanned cL_isScanned 11 (Option.some FieldType.boolean) 13 445 (8 + (UC (cScn c (nI p) (nI y)) - UC c)) (48 + (US (cScn c (nI p) (nI y)) - US c)) [.ref (o), .ref (an), .ref (Sc.1), .int (nI i0), .int (nI p)] h (fun r h' => r = nI 1 ∧ ∃ b' f' m' n', JW G.2.2.1 h' b' (cScn c (nI p) (nI y)) (setL L an 700 f') M ∧ b' 14 0 = o ∧ WFc (cScn c (nI p) (nI y)) ∧ n' ≤ n + 1 ∧ Stt n' (cScn c (nI p) (nI y)) m' ∧ NT f' m' ∧ Kp m m' ∧ UC c ≤ UC (cScn c (nI p) (nI y)) ∧ US c ≤ US (cScn c (nI p) (nI y))) := by
  refine lm_of rfl (Nat.le_of_ble_eq_true rfl) ?_
  intro pr e s m9 below meth c9 C0 hN hr hH ls hl
  obtain ⟨hx, hb, hml, hown, hts, hK, hA, -⟩ := id C0
  have hl : lv_has ls 11 [(0, .ref (o)), (1, .ref (an)), (2, .ref (Sc.1)), (3, .int (nI i0)), (4, .int (nI p))] := hl
  have n40 := hw.np.2
  have n6 := hw.nh.2
  have nl12 := hw.nl.2
  have hNP := hT.pa hp
  obtain ⟨hxa, hRa, m1, hSt1, hO1, hP1⟩ := d_scanH ⟨hS, hw, hI⟩ hwc hn hp hy hov z z2
  have hg9 := (gm_scan hwc (nI p) (nI y)).1
  rw [if_pos hxa] at hg9
  have hw1 := hSt1.2.1
  have hS1 := hSt1.1
  have hp1 : p < npN m1 := by rw [npN_ext (hO1.1 39 ⟨by unfold oK; omega, by omega⟩)]; exact hp
  obtain ⟨s1, s2, s3, s4, s5, s6⟩ := id hP1
  have h22 : m 22 p = nI 2 := by obtain ⟨g1, -, g3⟩ := (hS.2.1 p hp).2.resolve_left (fun w => hov (Or.inr w)); rcases (by omega : (m 22 p).toNatClampNeg = 0 ∨ (m 22 p).toNatClampNeg = 1 ∨ (m 22 p).toNatClampNeg = 2) with e | e | e; (· rw [g1, e] at z2; exact absurd z2 (by decide)); (· rw [g1, e] at z2; exact absurd z2 (by decide)); (· rw [g1, e])
  refine lv_aload_n hx hb dL_isScanned_0 rfl (lv_at hl 0 rfl) ?_
  refine lv_iload hx hb dL_isScanned_1 (lv_at hl 4 rfl) ?_
  refine j_w0 (As := [.int (nI p)]) (rest := []) (v := m 28 p) C0 hN hH ho (lW_state (nI p) hJ.own hJ.obj (cN_X10_state l hlt G _ _ b c hJ.rest hwc (nI p) (v_nar28 hS hw hp) (v_pX hS hw hwc hp)) (fun E h9 z => absurd ((v_pX hS hw hwc hp).symm.trans z.1) (fun y => nomatch y))) (fun r h9 z => z.elim (fun y => ⟨y.2.1.trans ((v_pk hS hw hp (k := 28) rfl).trans rfl), y.2.2⟩) (fun ⟨E, y, _⟩ => absurd ((v_pX hS hw hwc hp).symm.trans y.1) (fun q => nomatch q))) ms_L_state ml_L_147 rfl ⟨Nat.le_of_ble_eq_true rfl, Nat.le_of_ble_eq_true rfl⟩ hl.1 rfl (Nat.le_of_ble_eq_true rfl) dL_isScanned_3 ⟨by show _ ≤ 8 + (UC (cScn c (nI p) (nI y)) - UC c); omega, by show _ ≤ 48 + (US (cScn c (nI p) (nI y)) - US c); omega⟩ (fun H locs hH => ?_)
  refine lv_istore (lv' := [(5, .int (m 28 p)), (0, .ref (o)), (1, .ref (an)), (2, .ref (Sc.1)), (3, .int (nI i0)), (4, .int (nI p))]) hx hb dL_isScanned_6 hl (by decide) rfl (fun ls hl => ?_)
  have TL : ∀ (H : Heap) (locs : List Loc) (hH : HS G.1 G.2.1 A s.heap h H locs) (ls : Array Slot), lv_has ls 11 [(6, .int (nI y)), (5, .int (m 28 p)), (0, .ref (o)), (1, .ref (an)), (2, .ref (Sc.1)), (3, .int (nI i0)), (4, .int (nI p))] → W pr l e (rmm 13 445 (8 + (UC (cScn c (nI p) (nI y)) - UC c)) (48 + (US (cScn c (nI p) (nI y)) - US c))) s m9 ([.ref (o), .ref (an), .ref (Sc.1), .int (nI i0), .int (nI p)] : List Value).toArray below meth c9 H locs 0 0 (MQ below (va_Qi (fun r h' => r = nI 1 ∧ ∃ b' f' m' n', JW G.2.2.1 h' b' (cScn c (nI p) (nI y)) (setL L an 700 f') M ∧ b' 14 0 = o ∧ WFc (cScn c (nI p) (nI y)) ∧ n' ≤ n + 1 ∧ Stt n' (cScn c (nI p) (nI y)) m' ∧ NT f' m' ∧ Kp m m' ∧ UC c ≤ UC (cScn c (nI p) (nI y)) ∧ US c ≤ US (cScn c (nI p) (nI y))) (fun h' t => HW G.1 G.2.1 A h' t.heap) A) ([.ref (o), .ref (an), .ref (Sc.1), .int (nI i0), .int (nI p)] : List Value).toArray s (8 + (UC (cScn c (nI p) (nI y)) - UC c)) (48 + (US (cScn c (nI p) (nI y)) - US c)) A) (F0 m9 62 ls []) := by
    intro H locs hH ls hl
    refine lv_sipush (v := nI 140) hx hb dL_isScanned_62 (by decide) ?_
    refine lv_bipush (v := nI 12) hx hb dL_isScanned_65 (by decide) ?_
    refine lv_iload hx hb dL_isScanned_67 (lv_at hl 6 rfl) ?_
    refine lv_imul hx hb dL_isScanned_69 ?_
    rw [show nI 12 * nI p = nI (12 * p) from nI_mul]
    refine lv_iadd hx hb dL_isScanned_70 ?_
    rw [show nI 140 + nI (12 * p) = nI (140 + 12 * p) from nI_add _ _]
    refine lv_istore (lv' := [(7, .int (nI (140 + 12 * p))), (6, .int (nI y)), (5, .int (m 28 p)), (0, .ref (o)), (1, .ref (an)), (2, .ref (Sc.1)), (3, .int (nI i0)), (4, .int (nI p))]) hx hb dL_isScanned_71 hl (by decide) rfl (fun ls hl => ?_)
    refine lv_iload hx hb dL_isScanned_73 (lv_at hl 2 rfl) ?_
    refine lv_bipush (v := nI 116) hx hb dL_isScanned_75 (by decide) ?_
    refine lv_icmp_eq (tgt := 95) hx hb dL_isScanned_77 (by decide) (fun c77_1 => ?_) (fun c77_1 => ?_)
    · refine lv_iconst (v := nI 0) hx hb dL_isScanned_95 (by decide) ?_
      refine lv_istore (lv' := [(8, .int (nI 0)), (7, .int (nI (140 + 12 * p))), (6, .int (nI y)), (5, .int (m 28 p)), (0, .ref (o)), (1, .ref (an)), (2, .ref (Sc.1)), (3, .int (nI i0)), (4, .int (nI p))]) hx hb dL_isScanned_96 hl (by decide) rfl (fun ls hl => ?_)
      refine lv_iload hx hb dL_isScanned_98 (lv_at hl 3 rfl) ?_
      refine lv_bipush (v := nI 100) hx hb dL_isScanned_100 (by decide) ?_
      refine lv_icmp_eq (tgt := 112) hx hb dL_isScanned_102 (by decide) (fun c102_2 => ?_) (fun c102_2 => ?_)
      · exact absurd (Or.inl c102_2) hov
      · refine lv_iload hx hb dL_isScanned_105 (lv_at hl 3 rfl) ?_
        refine lv_bipush (v := nI 104) hx hb dL_isScanned_107 (by decide) ?_
        refine lv_icmp_ne (tgt := 117) hx hb dL_isScanned_109 (by decide) (fun c109_3 => ?_) (fun c109_3 => ?_)
        · refine lv_iload hx hb dL_isScanned_117 (lv_at hl 0 rfl) ?_
          refine lv_if_eq (tgt := 139) hx hb dL_isScanned_119 (by decide) (fun c119_4 => ?_) (fun c119_4 => ?_)
          · refine lv_aload_n hx hb dL_isScanned_139 rfl (lv_at hl 5 rfl) ?_
            refine lv_iload hx hb dL_isScanned_140 (lv_at hl 1 rfl) ?_
            refine lv_bipush (v := nI 6) hx hb dL_isScanned_142 (by decide) ?_
            refine lv_iadd hx hb dL_isScanned_144 ?_
            rw [show nI (140 + 12 * p) + nI 6 = nI (140 + 12 * p + 6) from nI_add _ _]
            refine j_ld C0 hH hJ hL (ix := 140 + 12 * p + 6) (by omega) (by decide) (v := m 22 p) hNP.g6 dL_isScanned_145 ?_
            refine lv_iconst (v := nI 2) hx hb dL_isScanned_146 (by decide) ?_
            refine lv_icmp_ne (tgt := 155) hx hb dL_isScanned_147 (by decide) (fun c147_5 => ?_) (fun c147_5 => ?_)
            · exact absurd h22 c147_5
            · refine lv_bipush (v := nI 104) hx hb dL_isScanned_150 (by decide) ?_
              refine lv_goto (tgt := 157) hx hb dL_isScanned_152 (by decide) ?_
              refine lv_istore (lv' := [(9, .int (nI 104)), (8, .int (nI 0)), (7, .int (nI (140 + 12 * p))), (6, .int (nI y)), (5, .int (m 28 p)), (0, .ref (o)), (1, .ref (an)), (2, .ref (Sc.1)), (3, .int (nI i0)), (4, .int (nI p))]) hx hb dL_isScanned_157 hl (by decide) rfl (fun ls hl => ?_)
              refine lv_aload_n hx hb dL_isScanned_159 rfl (lv_at hl 6 rfl) ?_
              refine lv_iload hx hb dL_isScanned_160 (lv_at hl 2 rfl) ?_
              refine lv_bipush (v := nI 6) hx hb dL_isScanned_162 (by decide) ?_
              refine lv_iadd hx hb dL_isScanned_164 ?_
              rw [show nI (140 + 12 * p) + nI 6 = nI (140 + 12 * p + 6) from nI_add _ _]
              refine lv_dup2_11 hx hb dL_isScanned_165 rfl rfl ?_
              refine j_ld C0 hH hJ hL (ix := 140 + 12 * p + 6) (by omega) (by decide) (v := m 22 p) hNP.g6 dL_isScanned_166 ?_
              refine lv_iload hx hb dL_isScanned_167 (lv_at hl 0 rfl) ?_
              refine lv_bipush (v := nI 109) hx hb dL_isScanned_169 (by decide) ?_
              refine lv_icmp_eq (tgt := 181) hx hb dL_isScanned_171 (by decide) (fun c171_6 => ?_) (fun c171_6 => ?_)
              · exact absurd c171_6 (by decide)
              · refine lv_iload hx hb dL_isScanned_174 (lv_at hl 0 rfl) ?_
                refine lv_bipush (v := nI 104) hx hb dL_isScanned_176 (by decide) ?_
                refine lv_icmp_ne (tgt := 185) hx hb dL_isScanned_178 (by decide) (fun c178_7 => ?_) (fun c178_7 => ?_)
                · exact absurd (by decide) c178_7
                · refine lv_iconst (v := nI 1) hx hb dL_isScanned_181 (by decide) ?_
                  refine lv_goto (tgt := 186) hx hb dL_isScanned_182 (by decide) ?_
                  refine lv_iadd hx hb dL_isScanned_186 ?_
                  refine j_st C0 hH hJ hL (ix := 140 + 12 * p + 6) (by omega) (by decide) dL_isScanned_187 (fun h H locs hH hJ => ?_)
                  obtain ⟨f_8, hf_8⟩ : ∃ z, z = upF f (140 + 12 * p + 6) ((m 22 p) + (nI 1)) := ⟨_, rfl⟩
                  obtain ⟨L_9, hL_9⟩ : ∃ z, z = setL L an 700 f_8 := ⟨_, rfl⟩
                  rw [← hf_8, ← hL_9] at hJ
                  have hL_L_9 : L_9 an = some (700, f_8) := by rw [hL_9]; exact setL_s _ _ _ _
                  refine lv_iload hx hb dL_isScanned_188 (lv_at hl 0 rfl) ?_
                  refine lv_bipush (v := nI 111) hx hb dL_isScanned_190 (by decide) ?_
                  refine lv_icmp_eq (tgt := 202) hx hb dL_isScanned_192 (by decide) (fun c192_10 => ?_) (fun c192_10 => ?_)
                  · exact absurd c192_10 (by decide)
                  · refine lv_iload hx hb dL_isScanned_195 (lv_at hl 0 rfl) ?_
                    refine lv_bipush (v := nI 109) hx hb dL_isScanned_197 (by decide) ?_
                    refine lv_icmp_ne (tgt := 211) hx hb dL_isScanned_199 (by decide) (fun c199_11 => ?_) (fun c199_11 => ?_)
                    · refine lv_iload hx hb dL_isScanned_211 (lv_at hl 0 rfl) ?_
                      refine lv_ldc hx hb hown (hts _ kl_L_20) dL_isScanned_213 ?_
                      refine lv_icmp_ne (tgt := 222) hx hb dL_isScanned_215 (by decide) (fun c215_12 => ?_) (fun c215_12 => ?_)
                      · refine lv_iconst (v := nI 0) hx hb dL_isScanned_222 (by decide) ?_
                        refine lv_istore (lv' := [(10, .int (nI 0)), (9, .int (nI 104)), (8, .int (nI 0)), (7, .int (nI (140 + 12 * p))), (6, .int (nI y)), (5, .int (m 28 p)), (0, .ref (o)), (1, .ref (an)), (2, .ref (Sc.1)), (3, .int (nI i0)), (4, .int (nI p))]) hx hb dL_isScanned_223 hl (by decide) rfl (fun ls hl => ?_)
                        refine lv_aload_n hx hb dL_isScanned_225 rfl (lv_at hl 6 rfl) ?_
                        refine lv_iload hx hb dL_isScanned_226 (lv_at hl 10 rfl) ?_
                        refine lv_iload hx hb dL_isScanned_228 (lv_at hl 4 rfl) ?_
                        have hwc0 := hwc
                        refine j_w1 (As := [.int (nI p), .int (nI y)]) (rest := []) (v := nI 104) (c' := cScn c (nI p) (nI y)) C0 hN hH hJ ho (lW_scan (nI p) (nI y) hJ.own hJ.obj (cC_X10_scan l hlt G _ _ b c hJ.rest hwc (nI p) (nI y)) (hin_n hxa (fun E h9 z => z.1))) (hv_in hxa hRa (fun E h9 z => z.1)) ms_L_scan ml_L_161 rfl ⟨Nat.le_of_ble_eq_true rfl, Nat.le_of_ble_eq_true rfl⟩ hl.1 rfl (Nat.le_of_ble_eq_true rfl) dL_isScanned_230 ⟨by show _ ≤ 8 + (UC (cScn c (nI p) (nI y)) - UC c); omega, by show _ ≤ 48 + (US (cScn c (nI p) (nI y)) - US c); omega⟩ (fun h b H locs hH hJ ho hwc => ?_)
                        refine lv_iload hx hb dL_isScanned_233 (lv_at hl 1 rfl) ?_
                        refine lv_icmp_ne (tgt := 297) hx hb dL_isScanned_235 (by decide) (fun c235_13 => ?_) (fun c235_13 => ?_)
                        · exact absurd (by decide) c235_13
                        · refine lv_aload_n hx hb dL_isScanned_238 rfl (lv_at hl 6 rfl) ?_
                          refine lv_iload hx hb dL_isScanned_239 (lv_at hl 10 rfl) ?_
                          refine j_q0 (rest := []) C0 hH hJ ho (cN_X10_misroutes l hlt G _ _ b (cScn c (nI p) (nI y)) hJ.rest hwc (nI p) (v_pX hS1 hw1 hwc hp1)) (v_pX hS1 hw1 hwc hp1) (v := m 22 p + nI 1) ((v_pk hS1 hw1 hp1 (k := 22) rfl).trans s5) mv_X10_misroutes ml_L_163 rfl ⟨Nat.le_of_ble_eq_true rfl, Nat.le_of_ble_eq_true rfl⟩ hl.1 rfl (Nat.le_of_ble_eq_true rfl) dL_isScanned_241 ⟨by show _ ≤ 8 + (UC (cScn c (nI p) (nI y)) - UC c); omega, by show _ ≤ 48 + (US (cScn c (nI p) (nI y)) - US c); omega⟩ (fun H locs hH => ?_)
                          refine lv_aload_n hx hb dL_isScanned_244 rfl (lv_at hl 7 rfl) ?_
                          refine lv_iload hx hb dL_isScanned_245 (lv_at hl 3 rfl) ?_
                          refine lv_bipush (v := nI 6) hx hb dL_isScanned_247 (by decide) ?_
                          refine lv_iadd hx hb dL_isScanned_249 ?_
                          rw [show nI (140 + 12 * p) + nI 6 = nI (140 + 12 * p + 6) from nI_add _ _]
                          refine j_ld C0 hH hJ hL_L_9 (ix := 140 + 12 * p + 6) (by omega) (by decide) (v := (m 22 p) + (nI 1)) (by rw [hf_8]; unfold upF; exact if_pos rfl) dL_isScanned_250 ?_
                          refine lv_icmp_ne (tgt := 297) hx hb dL_isScanned_251 (by decide) (fun c251_14 => ?_) (fun c251_14 => ?_)
                          · exact absurd rfl c251_14
                          · refine lv_iload hx hb dL_isScanned_254 (lv_at hl 0 rfl) ?_
                            refine lv_if_ne (tgt := 293) hx hb dL_isScanned_256 (by decide) (fun c256_15 => ?_) (fun c256_15 => ?_)
                            · exact absurd (by decide) c256_15
                            · refine lv_aload_n hx hb dL_isScanned_259 rfl (lv_at hl 6 rfl) ?_
                              refine lv_iload hx hb dL_isScanned_260 (lv_at hl 10 rfl) ?_
                              refine j_w0 (As := [.int (nI p)]) (rest := []) (v := nI y) C0 hN hH ho (lW_at (nI p) hJ.own hJ.obj (cN_X10_at l hlt G _ _ b (cScn c (nI p) (nI y)) hJ.rest hwc (nI p) (v_at hS1 hw1 hwc hp1 (by rw [s1]; decide))) (fun E h9 z => absurd ((v_at hS1 hw1 hwc hp1 (by rw [s1]; decide)).symm.trans z.1) (fun y => nomatch y))) (fun r h9 z => z.elim (fun y => ⟨y.2.1.trans ((v_pk hS1 hw1 hp1 (k := 15) rfl).trans s2), y.2.2⟩) (fun ⟨E, y, _⟩ => absurd ((v_at hS1 hw1 hwc hp1 (by rw [s1]; decide)).symm.trans y.1) (fun q => nomatch q))) ms_L_at ml_L_149 rfl ⟨Nat.le_of_ble_eq_true rfl, Nat.le_of_ble_eq_true rfl⟩ hl.1 rfl (Nat.le_of_ble_eq_true rfl) dL_isScanned_262 ⟨by show _ ≤ 8 + (UC (cScn c (nI p) (nI y)) - UC c); omega, by show _ ≤ 48 + (US (cScn c (nI p) (nI y)) - US c); omega⟩ (fun H locs hH => ?_)
                              refine lv_iload hx hb dL_isScanned_265 (lv_at hl 4 rfl) ?_
                              refine lv_icmp_ne (tgt := 297) hx hb dL_isScanned_267 (by decide) (fun c267_16 => ?_) (fun c267_16 => ?_)
                              · exact absurd rfl c267_16
                              · replace c267_16 : y = y := (nI_eq (a := y) (b := y) (by omega) (by omega)).mp c267_16
                                refine lv_aload_n hx hb dL_isScanned_270 rfl (lv_at hl 6 rfl) ?_
                                refine lv_iload hx hb dL_isScanned_271 (lv_at hl 10 rfl) ?_
                                refine j_w0 (As := [.int (nI p)]) (rest := []) (v := nI 104) C0 hN hH ho (lW_state (nI p) hJ.own hJ.obj (cN_X10_state l hlt G _ _ b (cScn c (nI p) (nI y)) hJ.rest hwc (nI p) (v_nar28 hS1 hw1 hp1) (v_pX hS1 hw1 hwc hp1)) (fun E h9 z => absurd ((v_pX hS1 hw1 hwc hp1).symm.trans z.1) (fun y => nomatch y))) (fun r h9 z => z.elim (fun y => ⟨y.2.1.trans ((v_pk hS1 hw1 hp1 (k := 28) rfl).trans s1), y.2.2⟩) (fun ⟨E, y, _⟩ => absurd ((v_pX hS1 hw1 hwc hp1).symm.trans y.1) (fun q => nomatch q))) ms_L_state ml_L_147 rfl ⟨Nat.le_of_ble_eq_true rfl, Nat.le_of_ble_eq_true rfl⟩ hl.1 rfl (Nat.le_of_ble_eq_true rfl) dL_isScanned_273 ⟨by show _ ≤ 8 + (UC (cScn c (nI p) (nI y)) - UC c); omega, by show _ ≤ 48 + (US (cScn c (nI p) (nI y)) - US c); omega⟩ (fun H locs hH => ?_)
                                refine lv_iload hx hb dL_isScanned_276 (lv_at hl 1 rfl) ?_
                                refine lv_bipush (v := nI 104) hx hb dL_isScanned_278 (by decide) ?_
                                refine lv_icmp_ne (tgt := 288) hx hb dL_isScanned_280 (by decide) (fun c280_17 => ?_) (fun c280_17 => ?_)
                                · exact absurd (by decide) c280_17
                                · refine lv_bipush (v := nI 104) hx hb dL_isScanned_283 (by decide) ?_
                                  refine lv_goto (tgt := 290) hx hb dL_isScanned_285 (by decide) ?_
                                  refine lv_icmp_ne (tgt := 297) hx hb dL_isScanned_290 (by decide) (fun c290_18 => ?_) (fun c290_18 => ?_)
                                  · exact absurd (by decide) c290_18
                                  · refine lv_iconst (v := nI 1) hx hb dL_isScanned_293 (by decide) ?_
                                    refine lv_goto (tgt := 298) hx hb dL_isScanned_294 (by decide) ?_
                                    have hnp9 : NP f_8 m1 p := hNP.scn hP1 (by decide) (by decide) (fun e => hov (Or.inl e)) (by rw [hf_8, upF_o (by omega)]; exact hNP.g3) (by rw [hf_8]; exact upF_s _ _ _) (by rw [hf_8, upF_o (by omega)]; exact hNP.g8) (fun j hj a1 a2 a3 => by rw [hf_8]; exact upF_o (by omega))
                                    have hNT := hT.par (f' := f_8) hw hO1 hp (fun i hi => by have y6 := hi 6 (by omega); rw [hf_8]; exact upF_o y6) hnp9
                                    rw [hL_9] at hJ
                                    exact e_Z C0 hr (by decide) hH ⟨rfl, b, f_8, m1, n + 1, hJ, ho, hwc, Nat.le_refl _, hSt1, hNT.1, hNT.2, hg9⟩ (by omega) (by omega) dL_isScanned_298
                      · exact absurd c215_12 (by decide)
                    · exact absurd c199_11 (by decide)
          · exact absurd (by decide) c119_4
        · exact absurd (Or.inr c109_3) hov
    · have hn116 : ¬ m 28 p = 116 := c77_1
      refine lv_aload_n hx hb dL_isScanned_80 rfl (lv_at hl 3 rfl) ?_
      refine lv_iload hx hb dL_isScanned_81 (lv_at hl 7 rfl) ?_
      refine j_w0 (As := [.int (nI p)]) (rest := []) (v := m 15 p) C0 hN hH ho (lW_at (nI p) hJ.own hJ.obj (cN_X10_at l hlt G _ _ b c hJ.rest hwc (nI p) (v_at hS hw hwc hp hn116)) (fun E h9 z => absurd ((v_at hS hw hwc hp hn116).symm.trans z.1) (fun y => nomatch y))) (fun r h9 z => z.elim (fun y => ⟨y.2.1.trans ((v_pk hS hw hp (k := 15) rfl).trans rfl), y.2.2⟩) (fun ⟨E, y, _⟩ => absurd ((v_at hS hw hwc hp hn116).symm.trans y.1) (fun q => nomatch q))) ms_L_at ml_L_149 rfl ⟨Nat.le_of_ble_eq_true rfl, Nat.le_of_ble_eq_true rfl⟩ hl.1 rfl (Nat.le_of_ble_eq_true rfl) dL_isScanned_83 ⟨by show _ ≤ 8 + (UC (cScn c (nI p) (nI y)) - UC c); omega, by show _ ≤ 48 + (US (cScn c (nI p) (nI y)) - US c); omega⟩ (fun H locs hH => ?_)
      refine lv_iload hx hb dL_isScanned_86 (lv_at hl 1 rfl) ?_
      refine lv_icmp_ne (tgt := 95) hx hb dL_isScanned_88 (by decide) (fun c88_19 => ?_) (fun c88_19 => ?_)
      · refine lv_iconst (v := nI 0) hx hb dL_isScanned_95 (by decide) ?_
        refine lv_istore (lv' := [(8, .int (nI 0)), (7, .int (nI (140 + 12 * p))), (6, .int (nI y)), (5, .int (m 28 p)), (0, .ref (o)), (1, .ref (an)), (2, .ref (Sc.1)), (3, .int (nI i0)), (4, .int (nI p))]) hx hb dL_isScanned_96 hl (by decide) rfl (fun ls hl => ?_)
        refine lv_iload hx hb dL_isScanned_98 (lv_at hl 3 rfl) ?_
        refine lv_bipush (v := nI 100) hx hb dL_isScanned_100 (by decide) ?_
        refine lv_icmp_eq (tgt := 112) hx hb dL_isScanned_102 (by decide) (fun c102_20 => ?_) (fun c102_20 => ?_)
        · exact absurd (Or.inl c102_20) hov
        · refine lv_iload hx hb dL_isScanned_105 (lv_at hl 3 rfl) ?_
          refine lv_bipush (v := nI 104) hx hb dL_isScanned_107 (by decide) ?_
          refine lv_icmp_ne (tgt := 117) hx hb dL_isScanned_109 (by decide) (fun c109_21 => ?_) (fun c109_21 => ?_)
          · refine lv_iload hx hb dL_isScanned_117 (lv_at hl 0 rfl) ?_
            refine lv_if_eq (tgt := 139) hx hb dL_isScanned_119 (by decide) (fun c119_22 => ?_) (fun c119_22 => ?_)
            · refine lv_aload_n hx hb dL_isScanned_139 rfl (lv_at hl 5 rfl) ?_
              refine lv_iload hx hb dL_isScanned_140 (lv_at hl 1 rfl) ?_
              refine lv_bipush (v := nI 6) hx hb dL_isScanned_142 (by decide) ?_
              refine lv_iadd hx hb dL_isScanned_144 ?_
              rw [show nI (140 + 12 * p) + nI 6 = nI (140 + 12 * p + 6) from nI_add _ _]
              refine j_ld C0 hH hJ hL (ix := 140 + 12 * p + 6) (by omega) (by decide) (v := m 22 p) hNP.g6 dL_isScanned_145 ?_
              refine lv_iconst (v := nI 2) hx hb dL_isScanned_146 (by decide) ?_
              refine lv_icmp_ne (tgt := 155) hx hb dL_isScanned_147 (by decide) (fun c147_23 => ?_) (fun c147_23 => ?_)
              · exact absurd h22 c147_23
              · refine lv_bipush (v := nI 104) hx hb dL_isScanned_150 (by decide) ?_
                refine lv_goto (tgt := 157) hx hb dL_isScanned_152 (by decide) ?_
                refine lv_istore (lv' := [(9, .int (nI 104)), (8, .int (nI 0)), (7, .int (nI (140 + 12 * p))), (6, .int (nI y)), (5, .int (m 28 p)), (0, .ref (o)), (1, .ref (an)), (2, .ref (Sc.1)), (3, .int (nI i0)), (4, .int (nI p))]) hx hb dL_isScanned_157 hl (by decide) rfl (fun ls hl => ?_)
                refine lv_aload_n hx hb dL_isScanned_159 rfl (lv_at hl 6 rfl) ?_
                refine lv_iload hx hb dL_isScanned_160 (lv_at hl 2 rfl) ?_
                refine lv_bipush (v := nI 6) hx hb dL_isScanned_162 (by decide) ?_
                refine lv_iadd hx hb dL_isScanned_164 ?_
                rw [show nI (140 + 12 * p) + nI 6 = nI (140 + 12 * p + 6) from nI_add _ _]
                refine lv_dup2_11 hx hb dL_isScanned_165 rfl rfl ?_
                refine j_ld C0 hH hJ hL (ix := 140 + 12 * p + 6) (by omega) (by decide) (v := m 22 p) hNP.g6 dL_isScanned_166 ?_
                refine lv_iload hx hb dL_isScanned_167 (lv_at hl 0 rfl) ?_
                refine lv_bipush (v := nI 109) hx hb dL_isScanned_169 (by decide) ?_
                refine lv_icmp_eq (tgt := 181) hx hb dL_isScanned_171 (by decide) (fun c171_24 => ?_) (fun c171_24 => ?_)
                · exact absurd c171_24 (by decide)
                · refine lv_iload hx hb dL_isScanned_174 (lv_at hl 0 rfl) ?_
                  refine lv_bipush (v := nI 104) hx hb dL_isScanned_176 (by decide) ?_
                  refine lv_icmp_ne (tgt := 185) hx hb dL_isScanned_178 (by decide) (fun c178_25 => ?_) (fun c178_25 => ?_)
                  · exact absurd (by decide) c178_25
                  · refine lv_iconst (v := nI 1) hx hb dL_isScanned_181 (by decide) ?_
                    refine lv_goto (tgt := 186) hx hb dL_isScanned_182 (by decide) ?_
                    refine lv_iadd hx hb dL_isScanned_186 ?_
                    refine j_st C0 hH hJ hL (ix := 140 + 12 * p + 6) (by omega) (by decide) dL_isScanned_187 (fun h H locs hH hJ => ?_)
                    obtain ⟨f_26, hf_26⟩ : ∃ z, z = upF f (140 + 12 * p + 6) ((m 22 p) + (nI 1)) := ⟨_, rfl⟩
                    obtain ⟨L_27, hL_27⟩ : ∃ z, z = setL L an 700 f_26 := ⟨_, rfl⟩
                    rw [← hf_26, ← hL_27] at hJ
                    have hL_L_27 : L_27 an = some (700, f_26) := by rw [hL_27]; exact setL_s _ _ _ _
                    refine lv_iload hx hb dL_isScanned_188 (lv_at hl 0 rfl) ?_
                    refine lv_bipush (v := nI 111) hx hb dL_isScanned_190 (by decide) ?_
                    refine lv_icmp_eq (tgt := 202) hx hb dL_isScanned_192 (by decide) (fun c192_28 => ?_) (fun c192_28 => ?_)
                    · exact absurd c192_28 (by decide)
                    · refine lv_iload hx hb dL_isScanned_195 (lv_at hl 0 rfl) ?_
                      refine lv_bipush (v := nI 109) hx hb dL_isScanned_197 (by decide) ?_
                      refine lv_icmp_ne (tgt := 211) hx hb dL_isScanned_199 (by decide) (fun c199_29 => ?_) (fun c199_29 => ?_)
                      · refine lv_iload hx hb dL_isScanned_211 (lv_at hl 0 rfl) ?_
                        refine lv_ldc hx hb hown (hts _ kl_L_20) dL_isScanned_213 ?_
                        refine lv_icmp_ne (tgt := 222) hx hb dL_isScanned_215 (by decide) (fun c215_30 => ?_) (fun c215_30 => ?_)
                        · refine lv_iconst (v := nI 0) hx hb dL_isScanned_222 (by decide) ?_
                          refine lv_istore (lv' := [(10, .int (nI 0)), (9, .int (nI 104)), (8, .int (nI 0)), (7, .int (nI (140 + 12 * p))), (6, .int (nI y)), (5, .int (m 28 p)), (0, .ref (o)), (1, .ref (an)), (2, .ref (Sc.1)), (3, .int (nI i0)), (4, .int (nI p))]) hx hb dL_isScanned_223 hl (by decide) rfl (fun ls hl => ?_)
                          refine lv_aload_n hx hb dL_isScanned_225 rfl (lv_at hl 6 rfl) ?_
                          refine lv_iload hx hb dL_isScanned_226 (lv_at hl 10 rfl) ?_
                          refine lv_iload hx hb dL_isScanned_228 (lv_at hl 4 rfl) ?_
                          have hwc0 := hwc
                          refine j_w1 (As := [.int (nI p), .int (nI y)]) (rest := []) (v := nI 104) (c' := cScn c (nI p) (nI y)) C0 hN hH hJ ho (lW_scan (nI p) (nI y) hJ.own hJ.obj (cC_X10_scan l hlt G _ _ b c hJ.rest hwc (nI p) (nI y)) (hin_n hxa (fun E h9 z => z.1))) (hv_in hxa hRa (fun E h9 z => z.1)) ms_L_scan ml_L_161 rfl ⟨Nat.le_of_ble_eq_true rfl, Nat.le_of_ble_eq_true rfl⟩ hl.1 rfl (Nat.le_of_ble_eq_true rfl) dL_isScanned_230 ⟨by show _ ≤ 8 + (UC (cScn c (nI p) (nI y)) - UC c); omega, by show _ ≤ 48 + (US (cScn c (nI p) (nI y)) - US c); omega⟩ (fun h b H locs hH hJ ho hwc => ?_)
                          refine lv_iload hx hb dL_isScanned_233 (lv_at hl 1 rfl) ?_
                          refine lv_icmp_ne (tgt := 297) hx hb dL_isScanned_235 (by decide) (fun c235_31 => ?_) (fun c235_31 => ?_)
                          · exact absurd (by decide) c235_31
                          · refine lv_aload_n hx hb dL_isScanned_238 rfl (lv_at hl 6 rfl) ?_
                            refine lv_iload hx hb dL_isScanned_239 (lv_at hl 10 rfl) ?_
                            refine j_q0 (rest := []) C0 hH hJ ho (cN_X10_misroutes l hlt G _ _ b (cScn c (nI p) (nI y)) hJ.rest hwc (nI p) (v_pX hS1 hw1 hwc hp1)) (v_pX hS1 hw1 hwc hp1) (v := m 22 p + nI 1) ((v_pk hS1 hw1 hp1 (k := 22) rfl).trans s5) mv_X10_misroutes ml_L_163 rfl ⟨Nat.le_of_ble_eq_true rfl, Nat.le_of_ble_eq_true rfl⟩ hl.1 rfl (Nat.le_of_ble_eq_true rfl) dL_isScanned_241 ⟨by show _ ≤ 8 + (UC (cScn c (nI p) (nI y)) - UC c); omega, by show _ ≤ 48 + (US (cScn c (nI p) (nI y)) - US c); omega⟩ (fun H locs hH => ?_)
                            refine lv_aload_n hx hb dL_isScanned_244 rfl (lv_at hl 7 rfl) ?_
                            refine lv_iload hx hb dL_isScanned_245 (lv_at hl 3 rfl) ?_
                            refine lv_bipush (v := nI 6) hx hb dL_isScanned_247 (by decide) ?_
                            refine lv_iadd hx hb dL_isScanned_249 ?_
                            rw [show nI (140 + 12 * p) + nI 6 = nI (140 + 12 * p + 6) from nI_add _ _]
                            refine j_ld C0 hH hJ hL_L_27 (ix := 140 + 12 * p + 6) (by omega) (by decide) (v := (m 22 p) + (nI 1)) (by rw [hf_26]; unfold upF; exact if_pos rfl) dL_isScanned_250 ?_
                            refine lv_icmp_ne (tgt := 297) hx hb dL_isScanned_251 (by decide) (fun c251_32 => ?_) (fun c251_32 => ?_)
                            · exact absurd rfl c251_32
                            · refine lv_iload hx hb dL_isScanned_254 (lv_at hl 0 rfl) ?_
                              refine lv_if_ne (tgt := 293) hx hb dL_isScanned_256 (by decide) (fun c256_33 => ?_) (fun c256_33 => ?_)
                              · exact absurd (by decide) c256_33
                              · refine lv_aload_n hx hb dL_isScanned_259 rfl (lv_at hl 6 rfl) ?_
                                refine lv_iload hx hb dL_isScanned_260 (lv_at hl 10 rfl) ?_
                                refine j_w0 (As := [.int (nI p)]) (rest := []) (v := nI y) C0 hN hH ho (lW_at (nI p) hJ.own hJ.obj (cN_X10_at l hlt G _ _ b (cScn c (nI p) (nI y)) hJ.rest hwc (nI p) (v_at hS1 hw1 hwc hp1 (by rw [s1]; decide))) (fun E h9 z => absurd ((v_at hS1 hw1 hwc hp1 (by rw [s1]; decide)).symm.trans z.1) (fun y => nomatch y))) (fun r h9 z => z.elim (fun y => ⟨y.2.1.trans ((v_pk hS1 hw1 hp1 (k := 15) rfl).trans s2), y.2.2⟩) (fun ⟨E, y, _⟩ => absurd ((v_at hS1 hw1 hwc hp1 (by rw [s1]; decide)).symm.trans y.1) (fun q => nomatch q))) ms_L_at ml_L_149 rfl ⟨Nat.le_of_ble_eq_true rfl, Nat.le_of_ble_eq_true rfl⟩ hl.1 rfl (Nat.le_of_ble_eq_true rfl) dL_isScanned_262 ⟨by show _ ≤ 8 + (UC (cScn c (nI p) (nI y)) - UC c); omega, by show _ ≤ 48 + (US (cScn c (nI p) (nI y)) - US c); omega⟩ (fun H locs hH => ?_)
                                refine lv_iload hx hb dL_isScanned_265 (lv_at hl 4 rfl) ?_
                                refine lv_icmp_ne (tgt := 297) hx hb dL_isScanned_267 (by decide) (fun c267_34 => ?_) (fun c267_34 => ?_)
                                · exact absurd rfl c267_34
                                · replace c267_34 : y = y := (nI_eq (a := y) (b := y) (by omega) (by omega)).mp c267_34
                                  refine lv_aload_n hx hb dL_isScanned_270 rfl (lv_at hl 6 rfl) ?_
                                  refine lv_iload hx hb dL_isScanned_271 (lv_at hl 10 rfl) ?_
                                  refine j_w0 (As := [.int (nI p)]) (rest := []) (v := nI 104) C0 hN hH ho (lW_state (nI p) hJ.own hJ.obj (cN_X10_state l hlt G _ _ b (cScn c (nI p) (nI y)) hJ.rest hwc (nI p) (v_nar28 hS1 hw1 hp1) (v_pX hS1 hw1 hwc hp1)) (fun E h9 z => absurd ((v_pX hS1 hw1 hwc hp1).symm.trans z.1) (fun y => nomatch y))) (fun r h9 z => z.elim (fun y => ⟨y.2.1.trans ((v_pk hS1 hw1 hp1 (k := 28) rfl).trans s1), y.2.2⟩) (fun ⟨E, y, _⟩ => absurd ((v_pX hS1 hw1 hwc hp1).symm.trans y.1) (fun q => nomatch q))) ms_L_state ml_L_147 rfl ⟨Nat.le_of_ble_eq_true rfl, Nat.le_of_ble_eq_true rfl⟩ hl.1 rfl (Nat.le_of_ble_eq_true rfl) dL_isScanned_273 ⟨by show _ ≤ 8 + (UC (cScn c (nI p) (nI y)) - UC c); omega, by show _ ≤ 48 + (US (cScn c (nI p) (nI y)) - US c); omega⟩ (fun H locs hH => ?_)
                                  refine lv_iload hx hb dL_isScanned_276 (lv_at hl 1 rfl) ?_
                                  refine lv_bipush (v := nI 104) hx hb dL_isScanned_278 (by decide) ?_
                                  refine lv_icmp_ne (tgt := 288) hx hb dL_isScanned_280 (by decide) (fun c280_35 => ?_) (fun c280_35 => ?_)
                                  · exact absurd (by decide) c280_35
                                  · refine lv_bipush (v := nI 104) hx hb dL_isScanned_283 (by decide) ?_
                                    refine lv_goto (tgt := 290) hx hb dL_isScanned_285 (by decide) ?_
                                    refine lv_icmp_ne (tgt := 297) hx hb dL_isScanned_290 (by decide) (fun c290_36 => ?_) (fun c290_36 => ?_)
                                    · exact absurd (by decide) c290_36
                                    · refine lv_iconst (v := nI 1) hx hb dL_isScanned_293 (by decide) ?_
                                      refine lv_goto (tgt := 298) hx hb dL_isScanned_294 (by decide) ?_
                                      have hnp9 : NP f_26 m1 p := hNP.scn hP1 (by decide) (by decide) (fun e => hov (Or.inl e)) (by rw [hf_26, upF_o (by omega)]; exact hNP.g3) (by rw [hf_26]; exact upF_s _ _ _) (by rw [hf_26, upF_o (by omega)]; exact hNP.g8) (fun j hj a1 a2 a3 => by rw [hf_26]; exact upF_o (by omega))
                                      have hNT := hT.par (f' := f_26) hw hO1 hp (fun i hi => by have y6 := hi 6 (by omega); rw [hf_26]; exact upF_o y6) hnp9
                                      rw [hL_27] at hJ
                                      exact e_Z C0 hr (by decide) hH ⟨rfl, b, f_26, m1, n + 1, hJ, ho, hwc, Nat.le_refl _, hSt1, hNT.1, hNT.2, hg9⟩ (by omega) (by omega) dL_isScanned_298
                        · exact absurd c215_30 (by decide)
                      · exact absurd c199_29 (by decide)
            · exact absurd (by decide) c119_22
          · exact absurd (Or.inr c109_21) hov
      · exact absurd c88_19 (z.resolve_left c77_1)
  refine lv_aload_n hx hb dL_isScanned_8 rfl (lv_at hl 3 rfl) ?_
  refine lv_iload_n hx hb dL_isScanned_9 rfl (lv_at hl 4 rfl) ?_
  refine lv_iconst (v := nI 4) hx hb dL_isScanned_10 (by decide) ?_
  have hin4 := inN_lt Sc i0 (n := 4) (by omega)
  refine k_i hH (k_lS (rest := []) C0 hN hH (lL_in l Sc G A _ i0 4 (by omega) (by omega) (by omega)) mv_L_in ml_L_106 rfl ⟨Nat.le_of_ble_eq_true rfl, Nat.le_of_ble_eq_true rfl⟩ hl.1 rfl (Nat.le_of_ble_eq_true rfl) dL_isScanned_11 ⟨by show _ ≤ 8 + (UC (cScn c (nI p) (nI y)) - UC c); omega, by show _ ≤ 48 + (US (cScn c (nI p) (nI y)) - US c); omega⟩) (fun rr h1 H locs hp0 hH => ?_)
  obtain ⟨ea, eh⟩ := hp0
  rw [eh] at hH
  rw [ea]
  refine lv_if_ne (tgt := 30) hx hb dL_isScanned_14 (by decide) (fun c14_37 => ?_) (fun c14_37 => ?_)
  · replace c14_37 : ¬ (inN Sc i0 4 = 0) := fun z => c14_37 ((nI_eq (a := inN Sc i0 4) (b := 0) (by omega) (by omega)).mpr z)
    rw [if_neg c14_37] at hdf
    refine lv_iload hx hb dL_isScanned_30 (lv_at hl 0 rfl) ?_
    refine lv_bipush (v := nI 116) hx hb dL_isScanned_32 (by decide) ?_
    refine lv_icmp_ne (tgt := 54) hx hb dL_isScanned_34 (by decide) (fun c34_38 => ?_) (fun c34_38 => ?_)
    · have hn116 : ¬ m 28 p = 116 := c34_38
      rw [if_neg hn116] at hdf
      refine lv_aload_n hx hb dL_isScanned_54 rfl (lv_at hl 1 rfl) ?_
      refine lv_iload hx hb dL_isScanned_55 (lv_at hl 5 rfl) ?_
      refine j_w0 (As := [.int (nI p)]) (rest := []) (v := nI y) C0 hN hH ho (lW_at (nI p) hJ.own hJ.obj (cN_X10_at l hlt G _ _ b c hJ.rest hwc (nI p) (v_at hS hw hwc hp hn116)) (fun E h9 z => absurd ((v_at hS hw hwc hp hn116).symm.trans z.1) (fun y => nomatch y))) (fun r h9 z => z.elim (fun y => ⟨y.2.1.trans ((v_pk hS hw hp (k := 15) rfl).trans hdf), y.2.2⟩) (fun ⟨E, y, _⟩ => absurd ((v_at hS hw hwc hp hn116).symm.trans y.1) (fun q => nomatch q))) ms_L_at ml_L_149 rfl ⟨Nat.le_of_ble_eq_true rfl, Nat.le_of_ble_eq_true rfl⟩ hl.1 rfl (Nat.le_of_ble_eq_true rfl) dL_isScanned_57 ⟨by show _ ≤ 8 + (UC (cScn c (nI p) (nI y)) - UC c); omega, by show _ ≤ 48 + (US (cScn c (nI p) (nI y)) - US c); omega⟩ (fun H locs hH => ?_)
      refine lv_istore (lv' := [(6, .int (nI y)), (5, .int (m 28 p)), (0, .ref (o)), (1, .ref (an)), (2, .ref (Sc.1)), (3, .int (nI i0)), (4, .int (nI p))]) hx hb dL_isScanned_60 hl (by decide) rfl (fun ls hl => ?_)
      exact TL H locs hH ls (lv_sub hl [0, 1, 2, 3, 4, 5, 6] rfl)
    · have h116 : m 28 p = 116 := c34_38
      rw [if_pos h116] at hdf
      have h16a := (hw.pa hp).2.2.2.2.1 h116
      have e16 : m 16 p = nI (vN (m 16 p)) := vp_nI h16a (by omega)
      have h16b : vN (m 16 p) < nlN m := vp_nat h16a
      refine lv_aload_n hx hb dL_isScanned_37 rfl (lv_at hl 2 rfl) ?_
      refine lv_bipush (v := nI 31) hx hb dL_isScanned_38 (by decide) ?_
      refine lv_bipush (v := nI 8) hx hb dL_isScanned_40 (by decide) ?_
      refine lv_aload_n hx hb dL_isScanned_42 rfl (lv_at hl 1 rfl) ?_
      refine lv_iload hx hb dL_isScanned_43 (lv_at hl 5 rfl) ?_
      refine j_w0 (As := [.int (nI p)]) (rest := [.int (nI 8), .int (nI 31), .ref (an)]) (v := nI (vN (m 16 p))) C0 hN hH ho (lW_rides (nI p) hJ.own hJ.obj (cN_X10_rides l hlt G _ _ b c hJ.rest hwc (nI p) (v_rd hS hw hwc hp h116)) (fun E h9 z => absurd ((v_rd hS hw hwc hp h116).symm.trans z.1) (fun y => nomatch y))) (fun r h9 z => z.elim (fun y => ⟨y.2.1.trans ((v_16 hS hw hp h116).trans e16), y.2.2⟩) (fun ⟨E, y, _⟩ => absurd ((v_rd hS hw hwc hp h116).symm.trans y.1) (fun q => nomatch q))) ms_L_rides ml_L_155 rfl ⟨Nat.le_of_ble_eq_true rfl, Nat.le_of_ble_eq_true rfl⟩ hl.1 rfl (Nat.le_of_ble_eq_true rfl) dL_isScanned_45 ⟨by show _ ≤ 8 + (UC (cScn c (nI p) (nI y)) - UC c); omega, by show _ ≤ 48 + (US (cScn c (nI p) (nI y)) - US c); omega⟩ (fun H locs hH => ?_)
      refine lv_imul hx hb dL_isScanned_48 ?_
      rw [show nI 8 * nI (vN (m 16 p)) = nI (8 * (vN (m 16 p))) from nI_mul]
      refine lv_iadd hx hb dL_isScanned_49 ?_
      rw [show nI 31 + nI (8 * (vN (m 16 p))) = nI (31 + 8 * (vN (m 16 p))) from nI_add _ _]
      refine j_ld C0 hH hJ hL (ix := 31 + 8 * (vN (m 16 p))) (by omega) (by decide) (v := nI y) ((hT.ln h16b 1 (by omega) (by omega)).trans hdf) dL_isScanned_50 ?_
      refine lv_goto (tgt := 60) hx hb dL_isScanned_51 (by decide) ?_
      refine lv_istore (lv' := [(6, .int (nI y)), (5, .int (m 28 p)), (0, .ref (o)), (1, .ref (an)), (2, .ref (Sc.1)), (3, .int (nI i0)), (4, .int (nI p))]) hx hb dL_isScanned_60 hl (by decide) rfl (fun ls hl => ?_)
      exact TL H locs hH ls (lv_sub hl [0, 1, 2, 3, 4, 5, 6] rfl)
  · replace c14_37 : inN Sc i0 4 = 0 := (nI_eq (a := inN Sc i0 4) (b := 0) (by omega) (by omega)).mp c14_37
    rw [if_pos c14_37] at hdf
    refine lv_aload_n hx hb dL_isScanned_17 rfl (lv_at hl 3 rfl) ?_
    refine lv_iload_n hx hb dL_isScanned_18 rfl (lv_at hl 4 rfl) ?_
    refine lv_iconst (v := nI 1) hx hb dL_isScanned_19 (by decide) ?_
    refine lv_iadd hx hb dL_isScanned_20 ?_
    rw [show nI i0 + nI 1 = nI (i0 + 1) from nI_add _ _]
    refine lv_aload_n hx hb dL_isScanned_21 rfl (lv_at hl 2 rfl) ?_
    refine lv_iconst (v := nI 0) hx hb dL_isScanned_22 (by decide) ?_
    refine j_ld C0 hH hJ hL (ix := 0) (by omega) (by decide) (v := nI (nhN m)) hT.h0 dL_isScanned_23 ?_
    refine k_i hH (k_lS (rest := []) C0 hN hH (lL_in l Sc G A _ (i0 + 1) (nhN m) (by omega) (by omega) (by omega)) mv_L_in ml_L_106 rfl ⟨Nat.le_of_ble_eq_true rfl, Nat.le_of_ble_eq_true rfl⟩ hl.1 rfl (Nat.le_of_ble_eq_true rfl) dL_isScanned_24 ⟨by show _ ≤ 8 + (UC (cScn c (nI p) (nI y)) - UC c); omega, by show _ ≤ 48 + (US (cScn c (nI p) (nI y)) - US c); omega⟩) (fun rr h1 H locs hp0 hH => ?_)
    obtain ⟨ea, eh⟩ := hp0
    rw [eh] at hH
    rw [ea, hdf]
    refine lv_goto (tgt := 60) hx hb dL_isScanned_27 (by decide) ?_
    refine lv_istore (lv' := [(6, .int (nI y)), (5, .int (m 28 p)), (0, .ref (o)), (1, .ref (an)), (2, .ref (Sc.1)), (3, .int (nI i0)), (4, .int (nI p))]) hx hb dL_isScanned_60 hl (by decide) rfl (fun ls hl => ?_)
    exact TL H locs hH ls (lv_sub hl [0, 1, 2, 3, 4, 5, 6] rfl)
set_option maxHeartbeats 4000000 in
set_option maxRecDepth 100000 in
theorem lL_isScanned_X (l : Launch) (hlt : l.stackTraces = false) (Sc : SCR) (G : GT) (A : Nat → Prop) (h : AH) (b : BA) (c m : MM) (n : Nat) (L : LNum) (M : LRef) (o : Nat) (hJ : JW G.2.2.1 h b c L M) (ho : b 14 0 = o) (hwc : WFc c) (hS : Sim n c m) (hw : WFa m) (hI : IV m) (hn : n < 512) (i0 : Nat) (hi0 : i0 < 2 ^ 19) (h2 : 2 ≤ nhN m) (p : Nat) (hp : p < npN m) (y : Nat) (hy : y < nhN m) (hdf : if inN Sc i0 4 = 0 then inN Sc (i0 + 1) (nhN m) = y else if m 28 p = 116 then m 3 (vN (m 16 p)) = nI y else m 15 p = nI y) (hs : Int32) (hhx : hs = nI 100 ∨ hs = nI 104) (z1 : m 28 p = hs) (an : Nat) (f : Nat → Int32) (hL : L an = some (700, f)) (hT : NT f m) : lcI l Sc G A yL_isScanned cL_isScanned 11 (Option.some FieldType.boolean) 13 445 8 48 [.ref (o), .ref (an), .ref (Sc.1), .int (nI i0), .int (nI p)] h (fun r h' => r = nI 1 ∧ ∃ b' f' m' n', JW G.2.2.1 h' b' (c) (setL L an 700 f') M ∧ b' 14 0 = o ∧ WFc (c) ∧ n' ≤ n + 1 ∧ Stt n' (c) m' ∧ NT f' m' ∧ Kp m m' ∧ UC c ≤ UC (c) ∧ US c ≤ US (c)) := by
  refine lm_of rfl (Nat.le_of_ble_eq_true rfl) ?_
  intro pr e s m9 below meth c9 C0 hN hr hH ls hl
  obtain ⟨hx, hb, hml, hown, hts, hK, hA, -⟩ := id C0
  have hl : lv_has ls 11 [(0, .ref (o)), (1, .ref (an)), (2, .ref (Sc.1)), (3, .int (nI i0)), (4, .int (nI p))] := hl
  have n40 := hw.np.2
  have n6 := hw.nh.2
  have nl12 := hw.nl.2
  have hNP := hT.pa hp
  have hxa := d_scanX (y := y) ⟨hS, hw, hI⟩ hwc hp hy (by rw [z1]; exact hhx)
  have hh1 : ¬ hs = 116 := by rcases hhx with e | e <;> rw [e] <;> decide
  have hh2 : hs ≠ 116 := hh1
  refine lv_aload_n hx hb dL_isScanned_0 rfl (lv_at hl 0 rfl) ?_
  refine lv_iload hx hb dL_isScanned_1 (lv_at hl 4 rfl) ?_
  refine j_w0 (As := [.int (nI p)]) (rest := []) (v := hs) C0 hN hH ho (lW_state (nI p) hJ.own hJ.obj (cN_X10_state l hlt G _ _ b c hJ.rest hwc (nI p) (v_nar28 hS hw hp) (v_pX hS hw hwc hp)) (fun E h9 z => absurd ((v_pX hS hw hwc hp).symm.trans z.1) (fun y => nomatch y))) (fun r h9 z => z.elim (fun y => ⟨y.2.1.trans ((v_pk hS hw hp (k := 28) rfl).trans z1), y.2.2⟩) (fun ⟨E, y, _⟩ => absurd ((v_pX hS hw hwc hp).symm.trans y.1) (fun q => nomatch q))) ms_L_state ml_L_147 rfl ⟨Nat.le_of_ble_eq_true rfl, Nat.le_of_ble_eq_true rfl⟩ hl.1 rfl (Nat.le_of_ble_eq_true rfl) dL_isScanned_3 ⟨by show _ ≤ 8; omega, by show _ ≤ 48; omega⟩ (fun H locs hH => ?_)
  refine lv_istore (lv' := [(5, .int (hs)), (0, .ref (o)), (1, .ref (an)), (2, .ref (Sc.1)), (3, .int (nI i0)), (4, .int (nI p))]) hx hb dL_isScanned_6 hl (by decide) rfl (fun ls hl => ?_)
  have TL : ∀ (H : Heap) (locs : List Loc) (hH : HS G.1 G.2.1 A s.heap h H locs) (ls : Array Slot), lv_has ls 11 [(6, .int (nI y)), (5, .int (hs)), (0, .ref (o)), (1, .ref (an)), (2, .ref (Sc.1)), (3, .int (nI i0)), (4, .int (nI p))] → W pr l e (rmm 13 445 8 48) s m9 ([.ref (o), .ref (an), .ref (Sc.1), .int (nI i0), .int (nI p)] : List Value).toArray below meth c9 H locs 0 0 (MQ below (va_Qi (fun r h' => r = nI 1 ∧ ∃ b' f' m' n', JW G.2.2.1 h' b' (c) (setL L an 700 f') M ∧ b' 14 0 = o ∧ WFc (c) ∧ n' ≤ n + 1 ∧ Stt n' (c) m' ∧ NT f' m' ∧ Kp m m' ∧ UC c ≤ UC (c) ∧ US c ≤ US (c)) (fun h' t => HW G.1 G.2.1 A h' t.heap) A) ([.ref (o), .ref (an), .ref (Sc.1), .int (nI i0), .int (nI p)] : List Value).toArray s 8 48 A) (F0 m9 62 ls []) := by
    intro H locs hH ls hl
    refine lv_sipush (v := nI 140) hx hb dL_isScanned_62 (by decide) ?_
    refine lv_bipush (v := nI 12) hx hb dL_isScanned_65 (by decide) ?_
    refine lv_iload hx hb dL_isScanned_67 (lv_at hl 6 rfl) ?_
    refine lv_imul hx hb dL_isScanned_69 ?_
    rw [show nI 12 * nI p = nI (12 * p) from nI_mul]
    refine lv_iadd hx hb dL_isScanned_70 ?_
    rw [show nI 140 + nI (12 * p) = nI (140 + 12 * p) from nI_add _ _]
    refine lv_istore (lv' := [(7, .int (nI (140 + 12 * p))), (6, .int (nI y)), (5, .int (hs)), (0, .ref (o)), (1, .ref (an)), (2, .ref (Sc.1)), (3, .int (nI i0)), (4, .int (nI p))]) hx hb dL_isScanned_71 hl (by decide) rfl (fun ls hl => ?_)
    refine lv_iload hx hb dL_isScanned_73 (lv_at hl 2 rfl) ?_
    refine lv_bipush (v := nI 116) hx hb dL_isScanned_75 (by decide) ?_
    refine lv_icmp_eq (tgt := 95) hx hb dL_isScanned_77 (by decide) (fun c77_1 => ?_) (fun c77_1 => ?_)
    · exact absurd c77_1 hh1
    · refine lv_aload_n hx hb dL_isScanned_80 rfl (lv_at hl 3 rfl) ?_
      refine lv_iload hx hb dL_isScanned_81 (lv_at hl 7 rfl) ?_
      refine j_w0 (As := [.int (nI p)]) (rest := []) (v := m 15 p) C0 hN hH ho (lW_at (nI p) hJ.own hJ.obj (cN_X10_at l hlt G _ _ b c hJ.rest hwc (nI p) (v_at hS hw hwc hp (by rw [z1]; exact hh1))) (fun E h9 z => absurd ((v_at hS hw hwc hp (by rw [z1]; exact hh1)).symm.trans z.1) (fun y => nomatch y))) (fun r h9 z => z.elim (fun y => ⟨y.2.1.trans ((v_pk hS hw hp (k := 15) rfl).trans rfl), y.2.2⟩) (fun ⟨E, y, _⟩ => absurd ((v_at hS hw hwc hp (by rw [z1]; exact hh1)).symm.trans y.1) (fun q => nomatch q))) ms_L_at ml_L_149 rfl ⟨Nat.le_of_ble_eq_true rfl, Nat.le_of_ble_eq_true rfl⟩ hl.1 rfl (Nat.le_of_ble_eq_true rfl) dL_isScanned_83 ⟨by show _ ≤ 8; omega, by show _ ≤ 48; omega⟩ (fun H locs hH => ?_)
      refine lv_iload hx hb dL_isScanned_86 (lv_at hl 1 rfl) ?_
      refine lv_icmp_ne (tgt := 95) hx hb dL_isScanned_88 (by decide) (fun c88_2 => ?_) (fun c88_2 => ?_)
      · refine lv_iconst (v := nI 0) hx hb dL_isScanned_95 (by decide) ?_
        refine lv_istore (lv' := [(8, .int (nI 0)), (7, .int (nI (140 + 12 * p))), (6, .int (nI y)), (5, .int (hs)), (0, .ref (o)), (1, .ref (an)), (2, .ref (Sc.1)), (3, .int (nI i0)), (4, .int (nI p))]) hx hb dL_isScanned_96 hl (by decide) rfl (fun ls hl => ?_)
        refine lv_iload hx hb dL_isScanned_98 (lv_at hl 3 rfl) ?_
        refine lv_bipush (v := nI 100) hx hb dL_isScanned_100 (by decide) ?_
        refine lv_icmp_eq (tgt := 112) hx hb dL_isScanned_102 (by decide) (fun c102_3 => ?_) (fun c102_3 => ?_)
        · refine lv_ldc hx hb hown (hts _ kl_L_20) dL_isScanned_112 ?_
          refine lv_goto (tgt := 157) hx hb dL_isScanned_114 (by decide) ?_
          refine lv_istore (lv' := [(9, .int (-900002)), (8, .int (nI 0)), (7, .int (nI (140 + 12 * p))), (6, .int (nI y)), (5, .int (hs)), (0, .ref (o)), (1, .ref (an)), (2, .ref (Sc.1)), (3, .int (nI i0)), (4, .int (nI p))]) hx hb dL_isScanned_157 hl (by decide) rfl (fun ls hl => ?_)
          refine lv_aload_n hx hb dL_isScanned_159 rfl (lv_at hl 6 rfl) ?_
          refine lv_iload hx hb dL_isScanned_160 (lv_at hl 2 rfl) ?_
          refine lv_bipush (v := nI 6) hx hb dL_isScanned_162 (by decide) ?_
          refine lv_iadd hx hb dL_isScanned_164 ?_
          rw [show nI (140 + 12 * p) + nI 6 = nI (140 + 12 * p + 6) from nI_add _ _]
          refine lv_dup2_11 hx hb dL_isScanned_165 rfl rfl ?_
          refine j_ld C0 hH hJ hL (ix := 140 + 12 * p + 6) (by omega) (by decide) (v := m 22 p) hNP.g6 dL_isScanned_166 ?_
          refine lv_iload hx hb dL_isScanned_167 (lv_at hl 0 rfl) ?_
          refine lv_bipush (v := nI 109) hx hb dL_isScanned_169 (by decide) ?_
          refine lv_icmp_eq (tgt := 181) hx hb dL_isScanned_171 (by decide) (fun c171_4 => ?_) (fun c171_4 => ?_)
          · exact absurd c171_4 (by decide)
          · refine lv_iload hx hb dL_isScanned_174 (lv_at hl 0 rfl) ?_
            refine lv_bipush (v := nI 104) hx hb dL_isScanned_176 (by decide) ?_
            refine lv_icmp_ne (tgt := 185) hx hb dL_isScanned_178 (by decide) (fun c178_5 => ?_) (fun c178_5 => ?_)
            · refine lv_iconst (v := nI 0) hx hb dL_isScanned_185 (by decide) ?_
              refine lv_iadd hx hb dL_isScanned_186 ?_
              refine j_st C0 hH hJ hL (ix := 140 + 12 * p + 6) (by omega) (by decide) dL_isScanned_187 (fun h H locs hH hJ => ?_)
              obtain ⟨f_6, hf_6⟩ : ∃ z, z = upF f (140 + 12 * p + 6) ((m 22 p) + (nI 0)) := ⟨_, rfl⟩
              obtain ⟨L_7, hL_7⟩ : ∃ z, z = setL L an 700 f_6 := ⟨_, rfl⟩
              rw [← hf_6, ← hL_7] at hJ
              have hL_L_7 : L_7 an = some (700, f_6) := by rw [hL_7]; exact setL_s _ _ _ _
              refine lv_iload hx hb dL_isScanned_188 (lv_at hl 0 rfl) ?_
              refine lv_bipush (v := nI 111) hx hb dL_isScanned_190 (by decide) ?_
              refine lv_icmp_eq (tgt := 202) hx hb dL_isScanned_192 (by decide) (fun c192_8 => ?_) (fun c192_8 => ?_)
              · exact absurd c192_8 (by decide)
              · refine lv_iload hx hb dL_isScanned_195 (lv_at hl 0 rfl) ?_
                refine lv_bipush (v := nI 109) hx hb dL_isScanned_197 (by decide) ?_
                refine lv_icmp_ne (tgt := 211) hx hb dL_isScanned_199 (by decide) (fun c199_9 => ?_) (fun c199_9 => ?_)
                · refine lv_iload hx hb dL_isScanned_211 (lv_at hl 0 rfl) ?_
                  refine lv_ldc hx hb hown (hts _ kl_L_20) dL_isScanned_213 ?_
                  refine lv_icmp_ne (tgt := 222) hx hb dL_isScanned_215 (by decide) (fun c215_10 => ?_) (fun c215_10 => ?_)
                  · exact absurd (by decide) c215_10
                  · refine lv_iconst (v := nI 1) hx hb dL_isScanned_218 (by decide) ?_
                    refine lv_goto (tgt := 223) hx hb dL_isScanned_219 (by decide) ?_
                    refine lv_istore (lv' := [(10, .int (nI 1)), (9, .int (-900002)), (8, .int (nI 0)), (7, .int (nI (140 + 12 * p))), (6, .int (nI y)), (5, .int (hs)), (0, .ref (o)), (1, .ref (an)), (2, .ref (Sc.1)), (3, .int (nI i0)), (4, .int (nI p))]) hx hb dL_isScanned_223 hl (by decide) rfl (fun ls hl => ?_)
                    refine lv_aload_n hx hb dL_isScanned_225 rfl (lv_at hl 6 rfl) ?_
                    refine lv_iload hx hb dL_isScanned_226 (lv_at hl 10 rfl) ?_
                    refine lv_iload hx hb dL_isScanned_228 (lv_at hl 4 rfl) ?_
                    refine j_w0 (As := [.int (nI p), .int (nI y)]) (rest := []) (v := -900002) C0 hN hH ho (lW_scan (nI p) (nI y) hJ.own hJ.obj (cC_X10_scan_no l hlt G _ _ b c hJ.rest hwc (nI p) (nI y) (by rw [hxa]; exact fun z => nomatch z)) (hin_x hxa (fun E h9 z => z.1) ⟨_, List.mem_cons_of_mem _ List.mem_cons_self⟩)) (hv_x0 hxa rfl (fun r h9 z => z.1)) ms_L_scan ml_L_161 rfl ⟨Nat.le_of_ble_eq_true rfl, Nat.le_of_ble_eq_true rfl⟩ hl.1 rfl (Nat.le_of_ble_eq_true rfl) dL_isScanned_230 ⟨by show _ ≤ 8; omega, by show _ ≤ 48; omega⟩ (fun H locs hH => ?_)
                    refine lv_iload hx hb dL_isScanned_233 (lv_at hl 1 rfl) ?_
                    refine lv_icmp_ne (tgt := 297) hx hb dL_isScanned_235 (by decide) (fun c235_11 => ?_) (fun c235_11 => ?_)
                    · exact absurd (by decide) c235_11
                    · refine lv_aload_n hx hb dL_isScanned_238 rfl (lv_at hl 6 rfl) ?_
                      refine lv_iload hx hb dL_isScanned_239 (lv_at hl 10 rfl) ?_
                      refine j_q0 (rest := []) C0 hH hJ ho (cN_X10_misroutes l hlt G _ _ b c hJ.rest hwc (nI p) (v_pX hS hw hwc hp)) (v_pX hS hw hwc hp) (v := m 22 p + nI 0) ((v_pk hS hw hp (k := 22) rfl).trans (Int32.add_zero _).symm) mv_X10_misroutes ml_L_163 rfl ⟨Nat.le_of_ble_eq_true rfl, Nat.le_of_ble_eq_true rfl⟩ hl.1 rfl (Nat.le_of_ble_eq_true rfl) dL_isScanned_241 ⟨by show _ ≤ 8; omega, by show _ ≤ 48; omega⟩ (fun H locs hH => ?_)
                      refine lv_aload_n hx hb dL_isScanned_244 rfl (lv_at hl 7 rfl) ?_
                      refine lv_iload hx hb dL_isScanned_245 (lv_at hl 3 rfl) ?_
                      refine lv_bipush (v := nI 6) hx hb dL_isScanned_247 (by decide) ?_
                      refine lv_iadd hx hb dL_isScanned_249 ?_
                      rw [show nI (140 + 12 * p) + nI 6 = nI (140 + 12 * p + 6) from nI_add _ _]
                      refine j_ld C0 hH hJ hL_L_7 (ix := 140 + 12 * p + 6) (by omega) (by decide) (v := (m 22 p) + (nI 0)) (by rw [hf_6]; unfold upF; exact if_pos rfl) dL_isScanned_250 ?_
                      refine lv_icmp_ne (tgt := 297) hx hb dL_isScanned_251 (by decide) (fun c251_12 => ?_) (fun c251_12 => ?_)
                      · exact absurd rfl c251_12
                      · refine lv_iload hx hb dL_isScanned_254 (lv_at hl 0 rfl) ?_
                        refine lv_if_ne (tgt := 293) hx hb dL_isScanned_256 (by decide) (fun c256_13 => ?_) (fun c256_13 => ?_)
                        · refine lv_iconst (v := nI 1) hx hb dL_isScanned_293 (by decide) ?_
                          refine lv_goto (tgt := 298) hx hb dL_isScanned_294 (by decide) ?_
                          rw [hL_7] at hJ
                          have ef : f_6 = f := by rw [hf_6]; exact upF_id (hNP.g6.trans (Int32.add_zero _).symm)
                          rw [ef] at hJ
                          exact e_Z C0 hr (by decide) hH ⟨rfl, b, f, m, n, hJ, ho, hwc, by omega, ⟨hS, hw, hI⟩, hT, ⟨rfl, Nat.le_refl _, rfl⟩, ⟨Nat.le_refl _, Nat.le_refl _⟩⟩ (by omega) (by omega) dL_isScanned_298
                        · exact absurd c256_13 (by decide)
                · exact absurd c199_9 (by decide)
            · exact absurd c178_5 (by decide)
        · refine lv_iload hx hb dL_isScanned_105 (lv_at hl 3 rfl) ?_
          refine lv_bipush (v := nI 104) hx hb dL_isScanned_107 (by decide) ?_
          refine lv_icmp_ne (tgt := 117) hx hb dL_isScanned_109 (by decide) (fun c109_14 => ?_) (fun c109_14 => ?_)
          · exact absurd (hhx.resolve_left c102_3) c109_14
          · refine lv_ldc hx hb hown (hts _ kl_L_20) dL_isScanned_112 ?_
            refine lv_goto (tgt := 157) hx hb dL_isScanned_114 (by decide) ?_
            refine lv_istore (lv' := [(9, .int (-900002)), (8, .int (nI 0)), (7, .int (nI (140 + 12 * p))), (6, .int (nI y)), (5, .int (hs)), (0, .ref (o)), (1, .ref (an)), (2, .ref (Sc.1)), (3, .int (nI i0)), (4, .int (nI p))]) hx hb dL_isScanned_157 hl (by decide) rfl (fun ls hl => ?_)
            refine lv_aload_n hx hb dL_isScanned_159 rfl (lv_at hl 6 rfl) ?_
            refine lv_iload hx hb dL_isScanned_160 (lv_at hl 2 rfl) ?_
            refine lv_bipush (v := nI 6) hx hb dL_isScanned_162 (by decide) ?_
            refine lv_iadd hx hb dL_isScanned_164 ?_
            rw [show nI (140 + 12 * p) + nI 6 = nI (140 + 12 * p + 6) from nI_add _ _]
            refine lv_dup2_11 hx hb dL_isScanned_165 rfl rfl ?_
            refine j_ld C0 hH hJ hL (ix := 140 + 12 * p + 6) (by omega) (by decide) (v := m 22 p) hNP.g6 dL_isScanned_166 ?_
            refine lv_iload hx hb dL_isScanned_167 (lv_at hl 0 rfl) ?_
            refine lv_bipush (v := nI 109) hx hb dL_isScanned_169 (by decide) ?_
            refine lv_icmp_eq (tgt := 181) hx hb dL_isScanned_171 (by decide) (fun c171_15 => ?_) (fun c171_15 => ?_)
            · exact absurd c171_15 (by decide)
            · refine lv_iload hx hb dL_isScanned_174 (lv_at hl 0 rfl) ?_
              refine lv_bipush (v := nI 104) hx hb dL_isScanned_176 (by decide) ?_
              refine lv_icmp_ne (tgt := 185) hx hb dL_isScanned_178 (by decide) (fun c178_16 => ?_) (fun c178_16 => ?_)
              · refine lv_iconst (v := nI 0) hx hb dL_isScanned_185 (by decide) ?_
                refine lv_iadd hx hb dL_isScanned_186 ?_
                refine j_st C0 hH hJ hL (ix := 140 + 12 * p + 6) (by omega) (by decide) dL_isScanned_187 (fun h H locs hH hJ => ?_)
                obtain ⟨f_17, hf_17⟩ : ∃ z, z = upF f (140 + 12 * p + 6) ((m 22 p) + (nI 0)) := ⟨_, rfl⟩
                obtain ⟨L_18, hL_18⟩ : ∃ z, z = setL L an 700 f_17 := ⟨_, rfl⟩
                rw [← hf_17, ← hL_18] at hJ
                have hL_L_18 : L_18 an = some (700, f_17) := by rw [hL_18]; exact setL_s _ _ _ _
                refine lv_iload hx hb dL_isScanned_188 (lv_at hl 0 rfl) ?_
                refine lv_bipush (v := nI 111) hx hb dL_isScanned_190 (by decide) ?_
                refine lv_icmp_eq (tgt := 202) hx hb dL_isScanned_192 (by decide) (fun c192_19 => ?_) (fun c192_19 => ?_)
                · exact absurd c192_19 (by decide)
                · refine lv_iload hx hb dL_isScanned_195 (lv_at hl 0 rfl) ?_
                  refine lv_bipush (v := nI 109) hx hb dL_isScanned_197 (by decide) ?_
                  refine lv_icmp_ne (tgt := 211) hx hb dL_isScanned_199 (by decide) (fun c199_20 => ?_) (fun c199_20 => ?_)
                  · refine lv_iload hx hb dL_isScanned_211 (lv_at hl 0 rfl) ?_
                    refine lv_ldc hx hb hown (hts _ kl_L_20) dL_isScanned_213 ?_
                    refine lv_icmp_ne (tgt := 222) hx hb dL_isScanned_215 (by decide) (fun c215_21 => ?_) (fun c215_21 => ?_)
                    · exact absurd (by decide) c215_21
                    · refine lv_iconst (v := nI 1) hx hb dL_isScanned_218 (by decide) ?_
                      refine lv_goto (tgt := 223) hx hb dL_isScanned_219 (by decide) ?_
                      refine lv_istore (lv' := [(10, .int (nI 1)), (9, .int (-900002)), (8, .int (nI 0)), (7, .int (nI (140 + 12 * p))), (6, .int (nI y)), (5, .int (hs)), (0, .ref (o)), (1, .ref (an)), (2, .ref (Sc.1)), (3, .int (nI i0)), (4, .int (nI p))]) hx hb dL_isScanned_223 hl (by decide) rfl (fun ls hl => ?_)
                      refine lv_aload_n hx hb dL_isScanned_225 rfl (lv_at hl 6 rfl) ?_
                      refine lv_iload hx hb dL_isScanned_226 (lv_at hl 10 rfl) ?_
                      refine lv_iload hx hb dL_isScanned_228 (lv_at hl 4 rfl) ?_
                      refine j_w0 (As := [.int (nI p), .int (nI y)]) (rest := []) (v := -900002) C0 hN hH ho (lW_scan (nI p) (nI y) hJ.own hJ.obj (cC_X10_scan_no l hlt G _ _ b c hJ.rest hwc (nI p) (nI y) (by rw [hxa]; exact fun z => nomatch z)) (hin_x hxa (fun E h9 z => z.1) ⟨_, List.mem_cons_of_mem _ List.mem_cons_self⟩)) (hv_x0 hxa rfl (fun r h9 z => z.1)) ms_L_scan ml_L_161 rfl ⟨Nat.le_of_ble_eq_true rfl, Nat.le_of_ble_eq_true rfl⟩ hl.1 rfl (Nat.le_of_ble_eq_true rfl) dL_isScanned_230 ⟨by show _ ≤ 8; omega, by show _ ≤ 48; omega⟩ (fun H locs hH => ?_)
                      refine lv_iload hx hb dL_isScanned_233 (lv_at hl 1 rfl) ?_
                      refine lv_icmp_ne (tgt := 297) hx hb dL_isScanned_235 (by decide) (fun c235_22 => ?_) (fun c235_22 => ?_)
                      · exact absurd (by decide) c235_22
                      · refine lv_aload_n hx hb dL_isScanned_238 rfl (lv_at hl 6 rfl) ?_
                        refine lv_iload hx hb dL_isScanned_239 (lv_at hl 10 rfl) ?_
                        refine j_q0 (rest := []) C0 hH hJ ho (cN_X10_misroutes l hlt G _ _ b c hJ.rest hwc (nI p) (v_pX hS hw hwc hp)) (v_pX hS hw hwc hp) (v := m 22 p + nI 0) ((v_pk hS hw hp (k := 22) rfl).trans (Int32.add_zero _).symm) mv_X10_misroutes ml_L_163 rfl ⟨Nat.le_of_ble_eq_true rfl, Nat.le_of_ble_eq_true rfl⟩ hl.1 rfl (Nat.le_of_ble_eq_true rfl) dL_isScanned_241 ⟨by show _ ≤ 8; omega, by show _ ≤ 48; omega⟩ (fun H locs hH => ?_)
                        refine lv_aload_n hx hb dL_isScanned_244 rfl (lv_at hl 7 rfl) ?_
                        refine lv_iload hx hb dL_isScanned_245 (lv_at hl 3 rfl) ?_
                        refine lv_bipush (v := nI 6) hx hb dL_isScanned_247 (by decide) ?_
                        refine lv_iadd hx hb dL_isScanned_249 ?_
                        rw [show nI (140 + 12 * p) + nI 6 = nI (140 + 12 * p + 6) from nI_add _ _]
                        refine j_ld C0 hH hJ hL_L_18 (ix := 140 + 12 * p + 6) (by omega) (by decide) (v := (m 22 p) + (nI 0)) (by rw [hf_17]; unfold upF; exact if_pos rfl) dL_isScanned_250 ?_
                        refine lv_icmp_ne (tgt := 297) hx hb dL_isScanned_251 (by decide) (fun c251_23 => ?_) (fun c251_23 => ?_)
                        · exact absurd rfl c251_23
                        · refine lv_iload hx hb dL_isScanned_254 (lv_at hl 0 rfl) ?_
                          refine lv_if_ne (tgt := 293) hx hb dL_isScanned_256 (by decide) (fun c256_24 => ?_) (fun c256_24 => ?_)
                          · refine lv_iconst (v := nI 1) hx hb dL_isScanned_293 (by decide) ?_
                            refine lv_goto (tgt := 298) hx hb dL_isScanned_294 (by decide) ?_
                            rw [hL_18] at hJ
                            have ef : f_17 = f := by rw [hf_17]; exact upF_id (hNP.g6.trans (Int32.add_zero _).symm)
                            rw [ef] at hJ
                            exact e_Z C0 hr (by decide) hH ⟨rfl, b, f, m, n, hJ, ho, hwc, by omega, ⟨hS, hw, hI⟩, hT, ⟨rfl, Nat.le_refl _, rfl⟩, ⟨Nat.le_refl _, Nat.le_refl _⟩⟩ (by omega) (by omega) dL_isScanned_298
                          · exact absurd c256_24 (by decide)
                  · exact absurd c199_20 (by decide)
              · exact absurd c178_16 (by decide)
      · refine lv_iconst (v := nI 1) hx hb dL_isScanned_91 (by decide) ?_
        refine lv_goto (tgt := 96) hx hb dL_isScanned_92 (by decide) ?_
        refine lv_istore (lv' := [(8, .int (nI 1)), (7, .int (nI (140 + 12 * p))), (6, .int (nI y)), (5, .int (hs)), (0, .ref (o)), (1, .ref (an)), (2, .ref (Sc.1)), (3, .int (nI i0)), (4, .int (nI p))]) hx hb dL_isScanned_96 hl (by decide) rfl (fun ls hl => ?_)
        refine lv_iload hx hb dL_isScanned_98 (lv_at hl 3 rfl) ?_
        refine lv_bipush (v := nI 100) hx hb dL_isScanned_100 (by decide) ?_
        refine lv_icmp_eq (tgt := 112) hx hb dL_isScanned_102 (by decide) (fun c102_25 => ?_) (fun c102_25 => ?_)
        · refine lv_ldc hx hb hown (hts _ kl_L_20) dL_isScanned_112 ?_
          refine lv_goto (tgt := 157) hx hb dL_isScanned_114 (by decide) ?_
          refine lv_istore (lv' := [(9, .int (-900002)), (8, .int (nI 1)), (7, .int (nI (140 + 12 * p))), (6, .int (nI y)), (5, .int (hs)), (0, .ref (o)), (1, .ref (an)), (2, .ref (Sc.1)), (3, .int (nI i0)), (4, .int (nI p))]) hx hb dL_isScanned_157 hl (by decide) rfl (fun ls hl => ?_)
          refine lv_aload_n hx hb dL_isScanned_159 rfl (lv_at hl 6 rfl) ?_
          refine lv_iload hx hb dL_isScanned_160 (lv_at hl 2 rfl) ?_
          refine lv_bipush (v := nI 6) hx hb dL_isScanned_162 (by decide) ?_
          refine lv_iadd hx hb dL_isScanned_164 ?_
          rw [show nI (140 + 12 * p) + nI 6 = nI (140 + 12 * p + 6) from nI_add _ _]
          refine lv_dup2_11 hx hb dL_isScanned_165 rfl rfl ?_
          refine j_ld C0 hH hJ hL (ix := 140 + 12 * p + 6) (by omega) (by decide) (v := m 22 p) hNP.g6 dL_isScanned_166 ?_
          refine lv_iload hx hb dL_isScanned_167 (lv_at hl 0 rfl) ?_
          refine lv_bipush (v := nI 109) hx hb dL_isScanned_169 (by decide) ?_
          refine lv_icmp_eq (tgt := 181) hx hb dL_isScanned_171 (by decide) (fun c171_26 => ?_) (fun c171_26 => ?_)
          · exact absurd c171_26 (by decide)
          · refine lv_iload hx hb dL_isScanned_174 (lv_at hl 0 rfl) ?_
            refine lv_bipush (v := nI 104) hx hb dL_isScanned_176 (by decide) ?_
            refine lv_icmp_ne (tgt := 185) hx hb dL_isScanned_178 (by decide) (fun c178_27 => ?_) (fun c178_27 => ?_)
            · refine lv_iconst (v := nI 0) hx hb dL_isScanned_185 (by decide) ?_
              refine lv_iadd hx hb dL_isScanned_186 ?_
              refine j_st C0 hH hJ hL (ix := 140 + 12 * p + 6) (by omega) (by decide) dL_isScanned_187 (fun h H locs hH hJ => ?_)
              obtain ⟨f_28, hf_28⟩ : ∃ z, z = upF f (140 + 12 * p + 6) ((m 22 p) + (nI 0)) := ⟨_, rfl⟩
              obtain ⟨L_29, hL_29⟩ : ∃ z, z = setL L an 700 f_28 := ⟨_, rfl⟩
              rw [← hf_28, ← hL_29] at hJ
              have hL_L_29 : L_29 an = some (700, f_28) := by rw [hL_29]; exact setL_s _ _ _ _
              refine lv_iload hx hb dL_isScanned_188 (lv_at hl 0 rfl) ?_
              refine lv_bipush (v := nI 111) hx hb dL_isScanned_190 (by decide) ?_
              refine lv_icmp_eq (tgt := 202) hx hb dL_isScanned_192 (by decide) (fun c192_30 => ?_) (fun c192_30 => ?_)
              · exact absurd c192_30 (by decide)
              · refine lv_iload hx hb dL_isScanned_195 (lv_at hl 0 rfl) ?_
                refine lv_bipush (v := nI 109) hx hb dL_isScanned_197 (by decide) ?_
                refine lv_icmp_ne (tgt := 211) hx hb dL_isScanned_199 (by decide) (fun c199_31 => ?_) (fun c199_31 => ?_)
                · refine lv_iload hx hb dL_isScanned_211 (lv_at hl 0 rfl) ?_
                  refine lv_ldc hx hb hown (hts _ kl_L_20) dL_isScanned_213 ?_
                  refine lv_icmp_ne (tgt := 222) hx hb dL_isScanned_215 (by decide) (fun c215_32 => ?_) (fun c215_32 => ?_)
                  · exact absurd (by decide) c215_32
                  · refine lv_iconst (v := nI 1) hx hb dL_isScanned_218 (by decide) ?_
                    refine lv_goto (tgt := 223) hx hb dL_isScanned_219 (by decide) ?_
                    refine lv_istore (lv' := [(10, .int (nI 1)), (9, .int (-900002)), (8, .int (nI 1)), (7, .int (nI (140 + 12 * p))), (6, .int (nI y)), (5, .int (hs)), (0, .ref (o)), (1, .ref (an)), (2, .ref (Sc.1)), (3, .int (nI i0)), (4, .int (nI p))]) hx hb dL_isScanned_223 hl (by decide) rfl (fun ls hl => ?_)
                    refine lv_aload_n hx hb dL_isScanned_225 rfl (lv_at hl 6 rfl) ?_
                    refine lv_iload hx hb dL_isScanned_226 (lv_at hl 10 rfl) ?_
                    refine lv_iload hx hb dL_isScanned_228 (lv_at hl 4 rfl) ?_
                    refine j_w0 (As := [.int (nI p), .int (nI y)]) (rest := []) (v := -900002) C0 hN hH ho (lW_scan (nI p) (nI y) hJ.own hJ.obj (cC_X10_scan_no l hlt G _ _ b c hJ.rest hwc (nI p) (nI y) (by rw [hxa]; exact fun z => nomatch z)) (hin_x hxa (fun E h9 z => z.1) ⟨_, List.mem_cons_of_mem _ List.mem_cons_self⟩)) (hv_x0 hxa rfl (fun r h9 z => z.1)) ms_L_scan ml_L_161 rfl ⟨Nat.le_of_ble_eq_true rfl, Nat.le_of_ble_eq_true rfl⟩ hl.1 rfl (Nat.le_of_ble_eq_true rfl) dL_isScanned_230 ⟨by show _ ≤ 8; omega, by show _ ≤ 48; omega⟩ (fun H locs hH => ?_)
                    refine lv_iload hx hb dL_isScanned_233 (lv_at hl 1 rfl) ?_
                    refine lv_icmp_ne (tgt := 297) hx hb dL_isScanned_235 (by decide) (fun c235_33 => ?_) (fun c235_33 => ?_)
                    · exact absurd (by decide) c235_33
                    · refine lv_aload_n hx hb dL_isScanned_238 rfl (lv_at hl 6 rfl) ?_
                      refine lv_iload hx hb dL_isScanned_239 (lv_at hl 10 rfl) ?_
                      refine j_q0 (rest := []) C0 hH hJ ho (cN_X10_misroutes l hlt G _ _ b c hJ.rest hwc (nI p) (v_pX hS hw hwc hp)) (v_pX hS hw hwc hp) (v := m 22 p + nI 0) ((v_pk hS hw hp (k := 22) rfl).trans (Int32.add_zero _).symm) mv_X10_misroutes ml_L_163 rfl ⟨Nat.le_of_ble_eq_true rfl, Nat.le_of_ble_eq_true rfl⟩ hl.1 rfl (Nat.le_of_ble_eq_true rfl) dL_isScanned_241 ⟨by show _ ≤ 8; omega, by show _ ≤ 48; omega⟩ (fun H locs hH => ?_)
                      refine lv_aload_n hx hb dL_isScanned_244 rfl (lv_at hl 7 rfl) ?_
                      refine lv_iload hx hb dL_isScanned_245 (lv_at hl 3 rfl) ?_
                      refine lv_bipush (v := nI 6) hx hb dL_isScanned_247 (by decide) ?_
                      refine lv_iadd hx hb dL_isScanned_249 ?_
                      rw [show nI (140 + 12 * p) + nI 6 = nI (140 + 12 * p + 6) from nI_add _ _]
                      refine j_ld C0 hH hJ hL_L_29 (ix := 140 + 12 * p + 6) (by omega) (by decide) (v := (m 22 p) + (nI 0)) (by rw [hf_28]; unfold upF; exact if_pos rfl) dL_isScanned_250 ?_
                      refine lv_icmp_ne (tgt := 297) hx hb dL_isScanned_251 (by decide) (fun c251_34 => ?_) (fun c251_34 => ?_)
                      · exact absurd rfl c251_34
                      · refine lv_iload hx hb dL_isScanned_254 (lv_at hl 0 rfl) ?_
                        refine lv_if_ne (tgt := 293) hx hb dL_isScanned_256 (by decide) (fun c256_35 => ?_) (fun c256_35 => ?_)
                        · refine lv_iconst (v := nI 1) hx hb dL_isScanned_293 (by decide) ?_
                          refine lv_goto (tgt := 298) hx hb dL_isScanned_294 (by decide) ?_
                          rw [hL_29] at hJ
                          have ef : f_28 = f := by rw [hf_28]; exact upF_id (hNP.g6.trans (Int32.add_zero _).symm)
                          rw [ef] at hJ
                          exact e_Z C0 hr (by decide) hH ⟨rfl, b, f, m, n, hJ, ho, hwc, by omega, ⟨hS, hw, hI⟩, hT, ⟨rfl, Nat.le_refl _, rfl⟩, ⟨Nat.le_refl _, Nat.le_refl _⟩⟩ (by omega) (by omega) dL_isScanned_298
                        · exact absurd c256_35 (by decide)
                · exact absurd c199_31 (by decide)
            · exact absurd c178_27 (by decide)
        · refine lv_iload hx hb dL_isScanned_105 (lv_at hl 3 rfl) ?_
          refine lv_bipush (v := nI 104) hx hb dL_isScanned_107 (by decide) ?_
          refine lv_icmp_ne (tgt := 117) hx hb dL_isScanned_109 (by decide) (fun c109_36 => ?_) (fun c109_36 => ?_)
          · exact absurd (hhx.resolve_left c102_25) c109_36
          · refine lv_ldc hx hb hown (hts _ kl_L_20) dL_isScanned_112 ?_
            refine lv_goto (tgt := 157) hx hb dL_isScanned_114 (by decide) ?_
            refine lv_istore (lv' := [(9, .int (-900002)), (8, .int (nI 1)), (7, .int (nI (140 + 12 * p))), (6, .int (nI y)), (5, .int (hs)), (0, .ref (o)), (1, .ref (an)), (2, .ref (Sc.1)), (3, .int (nI i0)), (4, .int (nI p))]) hx hb dL_isScanned_157 hl (by decide) rfl (fun ls hl => ?_)
            refine lv_aload_n hx hb dL_isScanned_159 rfl (lv_at hl 6 rfl) ?_
            refine lv_iload hx hb dL_isScanned_160 (lv_at hl 2 rfl) ?_
            refine lv_bipush (v := nI 6) hx hb dL_isScanned_162 (by decide) ?_
            refine lv_iadd hx hb dL_isScanned_164 ?_
            rw [show nI (140 + 12 * p) + nI 6 = nI (140 + 12 * p + 6) from nI_add _ _]
            refine lv_dup2_11 hx hb dL_isScanned_165 rfl rfl ?_
            refine j_ld C0 hH hJ hL (ix := 140 + 12 * p + 6) (by omega) (by decide) (v := m 22 p) hNP.g6 dL_isScanned_166 ?_
            refine lv_iload hx hb dL_isScanned_167 (lv_at hl 0 rfl) ?_
            refine lv_bipush (v := nI 109) hx hb dL_isScanned_169 (by decide) ?_
            refine lv_icmp_eq (tgt := 181) hx hb dL_isScanned_171 (by decide) (fun c171_37 => ?_) (fun c171_37 => ?_)
            · exact absurd c171_37 (by decide)
            · refine lv_iload hx hb dL_isScanned_174 (lv_at hl 0 rfl) ?_
              refine lv_bipush (v := nI 104) hx hb dL_isScanned_176 (by decide) ?_
              refine lv_icmp_ne (tgt := 185) hx hb dL_isScanned_178 (by decide) (fun c178_38 => ?_) (fun c178_38 => ?_)
              · refine lv_iconst (v := nI 0) hx hb dL_isScanned_185 (by decide) ?_
                refine lv_iadd hx hb dL_isScanned_186 ?_
                refine j_st C0 hH hJ hL (ix := 140 + 12 * p + 6) (by omega) (by decide) dL_isScanned_187 (fun h H locs hH hJ => ?_)
                obtain ⟨f_39, hf_39⟩ : ∃ z, z = upF f (140 + 12 * p + 6) ((m 22 p) + (nI 0)) := ⟨_, rfl⟩
                obtain ⟨L_40, hL_40⟩ : ∃ z, z = setL L an 700 f_39 := ⟨_, rfl⟩
                rw [← hf_39, ← hL_40] at hJ
                have hL_L_40 : L_40 an = some (700, f_39) := by rw [hL_40]; exact setL_s _ _ _ _
                refine lv_iload hx hb dL_isScanned_188 (lv_at hl 0 rfl) ?_
                refine lv_bipush (v := nI 111) hx hb dL_isScanned_190 (by decide) ?_
                refine lv_icmp_eq (tgt := 202) hx hb dL_isScanned_192 (by decide) (fun c192_41 => ?_) (fun c192_41 => ?_)
                · exact absurd c192_41 (by decide)
                · refine lv_iload hx hb dL_isScanned_195 (lv_at hl 0 rfl) ?_
                  refine lv_bipush (v := nI 109) hx hb dL_isScanned_197 (by decide) ?_
                  refine lv_icmp_ne (tgt := 211) hx hb dL_isScanned_199 (by decide) (fun c199_42 => ?_) (fun c199_42 => ?_)
                  · refine lv_iload hx hb dL_isScanned_211 (lv_at hl 0 rfl) ?_
                    refine lv_ldc hx hb hown (hts _ kl_L_20) dL_isScanned_213 ?_
                    refine lv_icmp_ne (tgt := 222) hx hb dL_isScanned_215 (by decide) (fun c215_43 => ?_) (fun c215_43 => ?_)
                    · exact absurd (by decide) c215_43
                    · refine lv_iconst (v := nI 1) hx hb dL_isScanned_218 (by decide) ?_
                      refine lv_goto (tgt := 223) hx hb dL_isScanned_219 (by decide) ?_
                      refine lv_istore (lv' := [(10, .int (nI 1)), (9, .int (-900002)), (8, .int (nI 1)), (7, .int (nI (140 + 12 * p))), (6, .int (nI y)), (5, .int (hs)), (0, .ref (o)), (1, .ref (an)), (2, .ref (Sc.1)), (3, .int (nI i0)), (4, .int (nI p))]) hx hb dL_isScanned_223 hl (by decide) rfl (fun ls hl => ?_)
                      refine lv_aload_n hx hb dL_isScanned_225 rfl (lv_at hl 6 rfl) ?_
                      refine lv_iload hx hb dL_isScanned_226 (lv_at hl 10 rfl) ?_
                      refine lv_iload hx hb dL_isScanned_228 (lv_at hl 4 rfl) ?_
                      refine j_w0 (As := [.int (nI p), .int (nI y)]) (rest := []) (v := -900002) C0 hN hH ho (lW_scan (nI p) (nI y) hJ.own hJ.obj (cC_X10_scan_no l hlt G _ _ b c hJ.rest hwc (nI p) (nI y) (by rw [hxa]; exact fun z => nomatch z)) (hin_x hxa (fun E h9 z => z.1) ⟨_, List.mem_cons_of_mem _ List.mem_cons_self⟩)) (hv_x0 hxa rfl (fun r h9 z => z.1)) ms_L_scan ml_L_161 rfl ⟨Nat.le_of_ble_eq_true rfl, Nat.le_of_ble_eq_true rfl⟩ hl.1 rfl (Nat.le_of_ble_eq_true rfl) dL_isScanned_230 ⟨by show _ ≤ 8; omega, by show _ ≤ 48; omega⟩ (fun H locs hH => ?_)
                      refine lv_iload hx hb dL_isScanned_233 (lv_at hl 1 rfl) ?_
                      refine lv_icmp_ne (tgt := 297) hx hb dL_isScanned_235 (by decide) (fun c235_44 => ?_) (fun c235_44 => ?_)
                      · exact absurd (by decide) c235_44
                      · refine lv_aload_n hx hb dL_isScanned_238 rfl (lv_at hl 6 rfl) ?_
                        refine lv_iload hx hb dL_isScanned_239 (lv_at hl 10 rfl) ?_
                        refine j_q0 (rest := []) C0 hH hJ ho (cN_X10_misroutes l hlt G _ _ b c hJ.rest hwc (nI p) (v_pX hS hw hwc hp)) (v_pX hS hw hwc hp) (v := m 22 p + nI 0) ((v_pk hS hw hp (k := 22) rfl).trans (Int32.add_zero _).symm) mv_X10_misroutes ml_L_163 rfl ⟨Nat.le_of_ble_eq_true rfl, Nat.le_of_ble_eq_true rfl⟩ hl.1 rfl (Nat.le_of_ble_eq_true rfl) dL_isScanned_241 ⟨by show _ ≤ 8; omega, by show _ ≤ 48; omega⟩ (fun H locs hH => ?_)
                        refine lv_aload_n hx hb dL_isScanned_244 rfl (lv_at hl 7 rfl) ?_
                        refine lv_iload hx hb dL_isScanned_245 (lv_at hl 3 rfl) ?_
                        refine lv_bipush (v := nI 6) hx hb dL_isScanned_247 (by decide) ?_
                        refine lv_iadd hx hb dL_isScanned_249 ?_
                        rw [show nI (140 + 12 * p) + nI 6 = nI (140 + 12 * p + 6) from nI_add _ _]
                        refine j_ld C0 hH hJ hL_L_40 (ix := 140 + 12 * p + 6) (by omega) (by decide) (v := (m 22 p) + (nI 0)) (by rw [hf_39]; unfold upF; exact if_pos rfl) dL_isScanned_250 ?_
                        refine lv_icmp_ne (tgt := 297) hx hb dL_isScanned_251 (by decide) (fun c251_45 => ?_) (fun c251_45 => ?_)
                        · exact absurd rfl c251_45
                        · refine lv_iload hx hb dL_isScanned_254 (lv_at hl 0 rfl) ?_
                          refine lv_if_ne (tgt := 293) hx hb dL_isScanned_256 (by decide) (fun c256_46 => ?_) (fun c256_46 => ?_)
                          · refine lv_iconst (v := nI 1) hx hb dL_isScanned_293 (by decide) ?_
                            refine lv_goto (tgt := 298) hx hb dL_isScanned_294 (by decide) ?_
                            rw [hL_40] at hJ
                            have ef : f_39 = f := by rw [hf_39]; exact upF_id (hNP.g6.trans (Int32.add_zero _).symm)
                            rw [ef] at hJ
                            exact e_Z C0 hr (by decide) hH ⟨rfl, b, f, m, n, hJ, ho, hwc, by omega, ⟨hS, hw, hI⟩, hT, ⟨rfl, Nat.le_refl _, rfl⟩, ⟨Nat.le_refl _, Nat.le_refl _⟩⟩ (by omega) (by omega) dL_isScanned_298
                          · exact absurd c256_46 (by decide)
                  · exact absurd c199_42 (by decide)
              · exact absurd c178_38 (by decide)
  refine lv_aload_n hx hb dL_isScanned_8 rfl (lv_at hl 3 rfl) ?_
  refine lv_iload_n hx hb dL_isScanned_9 rfl (lv_at hl 4 rfl) ?_
  refine lv_iconst (v := nI 4) hx hb dL_isScanned_10 (by decide) ?_
  have hin4 := inN_lt Sc i0 (n := 4) (by omega)
  refine k_i hH (k_lS (rest := []) C0 hN hH (lL_in l Sc G A _ i0 4 (by omega) (by omega) (by omega)) mv_L_in ml_L_106 rfl ⟨Nat.le_of_ble_eq_true rfl, Nat.le_of_ble_eq_true rfl⟩ hl.1 rfl (Nat.le_of_ble_eq_true rfl) dL_isScanned_11 ⟨by show _ ≤ 8; omega, by show _ ≤ 48; omega⟩) (fun rr h1 H locs hp0 hH => ?_)
  obtain ⟨ea, eh⟩ := hp0
  rw [eh] at hH
  rw [ea]
  refine lv_if_ne (tgt := 30) hx hb dL_isScanned_14 (by decide) (fun c14_47 => ?_) (fun c14_47 => ?_)
  · replace c14_47 : ¬ (inN Sc i0 4 = 0) := fun z => c14_47 ((nI_eq (a := inN Sc i0 4) (b := 0) (by omega) (by omega)).mpr z)
    rw [if_neg c14_47] at hdf
    refine lv_iload hx hb dL_isScanned_30 (lv_at hl 0 rfl) ?_
    refine lv_bipush (v := nI 116) hx hb dL_isScanned_32 (by decide) ?_
    refine lv_icmp_ne (tgt := 54) hx hb dL_isScanned_34 (by decide) (fun c34_48 => ?_) (fun c34_48 => ?_)
    · have hn116 : ¬ m 28 p = 116 := (by rw [z1]; exact hh1)
      rw [if_neg hn116] at hdf
      refine lv_aload_n hx hb dL_isScanned_54 rfl (lv_at hl 1 rfl) ?_
      refine lv_iload hx hb dL_isScanned_55 (lv_at hl 5 rfl) ?_
      refine j_w0 (As := [.int (nI p)]) (rest := []) (v := nI y) C0 hN hH ho (lW_at (nI p) hJ.own hJ.obj (cN_X10_at l hlt G _ _ b c hJ.rest hwc (nI p) (v_at hS hw hwc hp hn116)) (fun E h9 z => absurd ((v_at hS hw hwc hp hn116).symm.trans z.1) (fun y => nomatch y))) (fun r h9 z => z.elim (fun y => ⟨y.2.1.trans ((v_pk hS hw hp (k := 15) rfl).trans hdf), y.2.2⟩) (fun ⟨E, y, _⟩ => absurd ((v_at hS hw hwc hp hn116).symm.trans y.1) (fun q => nomatch q))) ms_L_at ml_L_149 rfl ⟨Nat.le_of_ble_eq_true rfl, Nat.le_of_ble_eq_true rfl⟩ hl.1 rfl (Nat.le_of_ble_eq_true rfl) dL_isScanned_57 ⟨by show _ ≤ 8; omega, by show _ ≤ 48; omega⟩ (fun H locs hH => ?_)
      refine lv_istore (lv' := [(6, .int (nI y)), (5, .int (hs)), (0, .ref (o)), (1, .ref (an)), (2, .ref (Sc.1)), (3, .int (nI i0)), (4, .int (nI p))]) hx hb dL_isScanned_60 hl (by decide) rfl (fun ls hl => ?_)
      exact TL H locs hH ls (lv_sub hl [0, 1, 2, 3, 4, 5, 6] rfl)
    · exact absurd c34_48 hh1
  · replace c14_47 : inN Sc i0 4 = 0 := (nI_eq (a := inN Sc i0 4) (b := 0) (by omega) (by omega)).mp c14_47
    rw [if_pos c14_47] at hdf
    refine lv_aload_n hx hb dL_isScanned_17 rfl (lv_at hl 3 rfl) ?_
    refine lv_iload_n hx hb dL_isScanned_18 rfl (lv_at hl 4 rfl) ?_
    refine lv_iconst (v := nI 1) hx hb dL_isScanned_19 (by decide) ?_
    refine lv_iadd hx hb dL_isScanned_20 ?_
    rw [show nI i0 + nI 1 = nI (i0 + 1) from nI_add _ _]
    refine lv_aload_n hx hb dL_isScanned_21 rfl (lv_at hl 2 rfl) ?_
    refine lv_iconst (v := nI 0) hx hb dL_isScanned_22 (by decide) ?_
    refine j_ld C0 hH hJ hL (ix := 0) (by omega) (by decide) (v := nI (nhN m)) hT.h0 dL_isScanned_23 ?_
    refine k_i hH (k_lS (rest := []) C0 hN hH (lL_in l Sc G A _ (i0 + 1) (nhN m) (by omega) (by omega) (by omega)) mv_L_in ml_L_106 rfl ⟨Nat.le_of_ble_eq_true rfl, Nat.le_of_ble_eq_true rfl⟩ hl.1 rfl (Nat.le_of_ble_eq_true rfl) dL_isScanned_24 ⟨by show _ ≤ 8; omega, by show _ ≤ 48; omega⟩) (fun rr h1 H locs hp0 hH => ?_)
    obtain ⟨ea, eh⟩ := hp0
    rw [eh] at hH
    rw [ea, hdf]
    refine lv_goto (tgt := 60) hx hb dL_isScanned_27 (by decide) ?_
    refine lv_istore (lv' := [(6, .int (nI y)), (5, .int (hs)), (0, .ref (o)), (1, .ref (an)), (2, .ref (Sc.1)), (3, .int (nI i0)), (4, .int (nI p))]) hx hb dL_isScanned_60 hl (by decide) rfl (fun ls hl => ?_)
    exact TL H locs hH ls (lv_sub hl [0, 1, 2, 3, 4, 5, 6] rfl)
