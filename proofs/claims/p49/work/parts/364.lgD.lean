set_option maxHeartbeats 1600000 in
set_option maxRecDepth 100000 in
theorem lL_isOrdered (l : Launch) (hlt : l.stackTraces = false) (Sc : SCR) (G : GT) (A : Nat → Prop) (h : AH) (b : BA) (c m : MM) (n : Nat) (L : LNum) (M : LRef) (o : Nat) (hJ : JW G.2.2.1 h b c L M) (ho : b 14 0 = o) (hwc : WFc c) (hS : Sim n c m) (hw : WFa m) (hI : IV m) (an : Nat) (f : Nat → Int32) (hL : L an = some (700, f)) (hT : NT f m) (l0 : Nat) (hl0 : l0 < nlN m) (hb2 : vp_in (m 2 l0) (nhN m)) : lcI l Sc G A yL_isOrdered cL_isOrdered 7 (Option.some FieldType.boolean) 10 271 (6 + (UC (ordC l0 (rowC m l0) c) - UC c)) (164 + (US (ordC l0 (rowC m l0) c) - US c)) [.ref (o), .ref (an), .int (nI l0)] h (fun r h' => r = nI 1 ∧ ∃ b', JW G.2.2.1 h' b' (ordC l0 (rowC m l0) c) L M ∧ b' 14 0 = o ∧ WFc (ordC l0 (rowC m l0) c)) := by
  refine lm_of rfl (Nat.le_of_ble_eq_true rfl) ?_
  intro pr e s m9 below meth c9 C0 hN hr hH ls hl
  obtain ⟨hx, hb, hml, hown, hts, hK, hA, -⟩ := id C0
  have hl : lv_has ls 7 [(0, .ref (o)), (1, .ref (an)), (2, .int (nI l0))] := hl
  have n40 := hw.np.2
  have n6 := hw.nh.2
  have nl12 := hw.nl.2
  have hwc00 := hwc
  have hSt : Stt n c m := ⟨hS, hw, hI⟩
  obtain ⟨hrow, hrC⟩ := hSt.row hwc hl0
  obtain ⟨nb, nb40, nb1, nb2, na, na1, na2, na3⟩ := need_eq hSt hwc hl0 (fun _ => 0)
  have hUF := (lg_ord0 (c := c) (l := l0) (n := rowC m l0)).leU hwc.lw
  refine lv_iconst (v := nI 0) hx hb dL_isOrdered_0 (by decide) ?_
  refine lv_istore_n (lv' := [(3, .int (nI 0)), (0, .ref (o)), (1, .ref (an)), (2, .int (nI l0))]) hx hb dL_isOrdered_1 rfl hl (by decide) rfl (fun ls hl => ?_)
  refine lv_iconst (v := nI 0) hx hb dL_isOrdered_2 (by decide) ?_
  refine lv_istore (lv' := [(4, .int (nI 0)), (3, .int (nI 0)), (0, .ref (o)), (1, .ref (an)), (2, .int (nI l0))]) hx hb dL_isOrdered_3 hl (by decide) rfl (fun ls hl => ?_)
  have TL : ∀ (H : Heap) (locs : List Loc) (hH : HS G.1 G.2.1 A s.heap h H locs) (ls : Array Slot), lv_has ls 7 [(3, .int (nI (rowC m l0))), (0, .ref (o)), (1, .ref (an)), (2, .int (nI l0))] → W pr l e (rmm 10 271 (6 + (UC (ordC l0 (rowC m l0) c) - UC c)) (164 + (US (ordC l0 (rowC m l0) c) - US c))) s m9 ([.ref (o), .ref (an), .int (nI l0)] : List Value).toArray below meth c9 H locs 0 0 (MQ below (va_Qi (fun r h' => r = nI 1 ∧ ∃ b', JW G.2.2.1 h' b' (ordC l0 (rowC m l0) c) L M ∧ b' 14 0 = o ∧ WFc (ordC l0 (rowC m l0) c)) (fun h' t => HW G.1 G.2.1 A h' t.heap) A) ([.ref (o), .ref (an), .int (nI l0)] : List Value).toArray s (6 + (UC (ordC l0 (rowC m l0) c) - UC c)) (164 + (US (ordC l0 (rowC m l0) c) - US c)) A) (F0 m9 48 ls []) := by
    intro H locs hH ls hl
    refine lv_aload_n hx hb dL_isOrdered_48 rfl (lv_at hl 1 rfl) ?_
    refine lv_iload_n hx hb dL_isOrdered_49 rfl (lv_at hl 3 rfl) ?_
    refine j_q0 (rest := []) C0 hH hJ ho (cN_X10_waiting l hlt G _ _ b c hJ.rest hwc (nI l0) (v_lX hS hw hwc hl0)) (v_lX hS hw hwc hl0) (v := nI (rowC m l0)) ((v_wait hS (nI l0)).trans (waits_row m l0)) mv_X10_waiting ml_L_193 rfl ⟨Nat.le_of_ble_eq_true rfl, Nat.le_of_ble_eq_true rfl⟩ hl.1 rfl (Nat.le_of_ble_eq_true rfl) dL_isOrdered_50 ⟨by show _ ≤ 6 + (UC (ordC l0 (rowC m l0) c) - UC c); omega, by show _ ≤ 164 + (US (ordC l0 (rowC m l0) c) - US c); omega⟩ (fun H locs hH => ?_)
    refine lv_iload_n hx hb dL_isOrdered_53 rfl (lv_at hl 0 rfl) ?_
    refine lv_icmp_ne (tgt := 72) hx hb dL_isOrdered_54 (by decide) (fun c54_5 => ?_) (fun c54_5 => ?_)
    · exact absurd rfl c54_5
    · replace c54_5 : rowC m l0 = rowC m l0 := (nI_eq (a := rowC m l0) (b := rowC m l0) (by omega) (by omega)).mp c54_5
      refine lv_aload_n hx hb dL_isOrdered_57 rfl (lv_at hl 1 rfl) ?_
      refine lv_iload_n hx hb dL_isOrdered_58 rfl (lv_at hl 3 rfl) ?_
      refine lv_iload_n hx hb dL_isOrdered_59 rfl (lv_at hl 0 rfl) ?_
      have hmn0 := (lg_ord (c := c) (l := l0) (n := rowC m l0) (r := 1) (by unfold oR; split <;> omega)).leU (wtI_wfc hwc00 l0 1).lw
      rw [wtI_s, show wtI l0 0 c = c from rfl] at hmn0
      have hwc0 := hwc
      have hg2 := (gm_wt hwc0 (nI l0)).1
      refine j_w1 (As := [.int (nI l0), .int (nI (rowC m l0))]) (rest := []) (v := -900002) (c' := cWt c (nI l0)) C0 hN hH hJ ho (lW_waitingAt (nI l0) (nI (rowC m l0)) hJ.own hJ.obj (cC_X10_waitingAt l hlt G _ _ b c hJ.rest hwc (nI l0) (nI (rowC m l0))) (hin_x (v_wtX hS hw hwc hl0) (fun E h9 z => z.1) ⟨_, List.mem_cons_of_mem _ List.mem_cons_self⟩)) (hv_x (v_wtX hS hw hwc hl0) rfl (fun r h9 z => z.1)) ms_L_waitingAt ml_L_201 rfl ⟨Nat.le_of_ble_eq_true rfl, Nat.le_of_ble_eq_true rfl⟩ hl.1 rfl (Nat.le_of_ble_eq_true rfl) dL_isOrdered_60 ⟨by show _ ≤ 6 + (UC (ordC l0 (rowC m l0) c) - UC c); omega, by show _ ≤ 164 + (US (ordC l0 (rowC m l0) c) - US c); omega⟩ (fun h b H locs hH hJ ho hwc => ?_)
      have hS2 := v_wtS hS hw hwc0 hl0
      obtain ⟨cs, hcs2⟩ : ∃ z, z = cWt c (nI l0) := ⟨_, rfl⟩
      rw [← hcs2] at hJ hwc hS2 hg2 ⊢
      refine lv_ldc hx hb hown (hts _ kl_L_20) dL_isOrdered_63 ?_
      refine lv_icmp_ne (tgt := 72) hx hb dL_isOrdered_65 (by decide) (fun c65_6 => ?_) (fun c65_6 => ?_)
      · exact absurd (by decide) c65_6
      · refine lv_iconst (v := nI 1) hx hb dL_isOrdered_68 (by decide) ?_
        refine lv_goto (tgt := 73) hx hb dL_isOrdered_69 (by decide) ?_
        refine lv_istore (lv' := [(4, .int (nI 1)), (3, .int (nI (rowC m l0))), (0, .ref (o)), (1, .ref (an)), (2, .int (nI l0))]) hx hb dL_isOrdered_73 hl (by decide) rfl (fun ls hl => ?_)
        refine lv_iconst (v := nI 0) hx hb dL_isOrdered_75 (by decide) ?_
        refine lv_istore (lv' := [(5, .int (nI 0)), (4, .int (nI 1)), (3, .int (nI (rowC m l0))), (0, .ref (o)), (1, .ref (an)), (2, .int (nI l0))]) hx hb dL_isOrdered_76 hl (by decide) rfl (fun ls hl => ?_)
        have ecs0 : cs = wtI l0 (oR 0) c := hcs2
        have K2 : ∀ (k r : Nat) (cs : MM), r + k = rowC m l0 → Sim n cs m → WFc cs → cs = wtI l0 (oR r) c → ∀ (h : AH) (b : BA) (H : Heap) (locs : List Loc) (hH : HS G.1 G.2.1 A s.heap h H locs) (hJ : JW G.2.2.1 h b cs L M) (ho : b 14 0 = o) (ls : Array Slot), lv_has ls 7 [(5, .int (nI r)), (4, .int (nI 1)), (3, .int (nI (rowC m l0))), (0, .ref (o)), (1, .ref (an)), (2, .int (nI l0))] → W pr l e (rmm 10 271 (6 + (UC (ordC l0 (rowC m l0) c) - UC c)) (164 + (US (ordC l0 (rowC m l0) c) - US c))) s m9 ([.ref (o), .ref (an), .int (nI l0)] : List Value).toArray below meth c9 H locs (4 + (UC cs - UC c)) (24 + (US cs - US c)) (MQ below (va_Qi (fun r h' => r = nI 1 ∧ ∃ b', JW G.2.2.1 h' b' (ordC l0 (rowC m l0) c) L M ∧ b' 14 0 = o ∧ WFc (ordC l0 (rowC m l0) c)) (fun h' t => HW G.1 G.2.1 A h' t.heap) A) ([.ref (o), .ref (an), .int (nI l0)] : List Value).toArray s (6 + (UC (ordC l0 (rowC m l0) c) - UC c)) (164 + (US (ordC l0 (rowC m l0) c) - US c)) A) (F0 m9 78 ls []) := by
          intro k
          induction k with
          | zero =>
            intro r cs hk hS hwc ecs h b H locs hH hJ ho ls hl
            have hgw := (lg_wtI l0 (oR r)).leU hwc00.lw
            rw [← ecs] at hgw
            have er : r = rowC m l0 := by omega
            rw [er] at ecs hl
            have hm1 := (lg_ord (c := c) (l := l0) (n := rowC m l0) (r := oR (rowC m l0) + rowC m l0) (Nat.le_refl _)).leU (wtI_wfc hwc00 l0 _).lw
            have hm2 := (lg_wtL (c := c) l0 (show oR (rowC m l0) ≤ oR (rowC m l0) + rowC m l0 by omega)).leU (wtI_wfc hwc00 l0 _).lw
            rw [← ecs] at hm2
            rw [← wtI_add, ← ecs] at hm1 hm2
            refine lv_iload hx hb dL_isOrdered_78 (lv_at hl 0 rfl) ?_
            refine lv_iload_n hx hb dL_isOrdered_80 rfl (lv_at hl 2 rfl) ?_
            refine lv_icmp_ge (tgt := 154) hx hb dL_isOrdered_81 (by decide) (fun c81_7 => ?_) (fun c81_7 => ?_)
            · replace c81_7 : rowC m l0 ≤ rowC m l0 := (nI_leI (a := rowC m l0) (b := rowC m l0) (by omega) (by omega)).mp c81_7
              refine lv_aload_n hx hb dL_isOrdered_154 rfl (lv_at hl 3 rfl) ?_
              refine lv_aload_n hx hb dL_isOrdered_155 rfl (lv_at hl 4 rfl) ?_
              refine lv_iload_n hx hb dL_isOrdered_156 rfl (lv_at hl 5 rfl) ?_
              refine lv_iconst (v := (-1)) hx hb dL_isOrdered_157 (by decide) ?_
              refine lv_bipush (v := nI 45) hx hb dL_isOrdered_158 (by decide) ?_
              refine lv_bipush (v := nI 40) hx hb dL_isOrdered_160 (by decide) ?_
              refine j_new (rest := [.int (nI 45), .int (-1), .int (nI l0), .ref (an), .ref (o)]) C0 hH hJ (k := 40) (by decide) dL_isOrdered_162 (by show _ ≤ 6 + (UC (ordC l0 (rowC m l0) c) - UC c); omega) (by show _ ≤ 164 + (US (ordC l0 (rowC m l0) c) - US c); omega) (fun ra h H locs hH hJ hq_ra hm_ra _ => ?_)
              obtain ⟨L_8, hL_8⟩ : ∃ z, z = setL L ra 40 (fun _ => 0) := ⟨_, rfl⟩
              rw [← hL_8] at hJ
              have hne_an_ra : an ≠ ra := fun z => by rw [← z, hL] at hq_ra; exact nomatch hq_ra
              have hL_L_8 : L_8 an = some (700, f) := by rw [hL_8, setL_o hne_an_ra]; exact hL
              have hLra_L_8 : L_8 ra = some (40, fun _ => 0) := by rw [hL_8]; exact setL_s _ _ _ _
              have hwc0q := hwc
              have hr9 := hrow
              refine k_q hH (k_lS (rest := []) C0 hN hH (lL_bagged l hlt Sc G A _ _ cs m n _ _ o hJ ho hwc hS hw hI an f hL_L_8 hT l0 hl0 hrow hrC hb2 (-1) 45 (Nat.le_refl _) ra (fun _ => 0) hLra_L_8 hne_an_ra) mv_L_bagged ml_L_209 rfl ⟨Nat.le_of_ble_eq_true rfl, Nat.le_of_ble_eq_true rfl⟩ hl.1 rfl (Nat.le_of_ble_eq_true rfl) dL_isOrdered_164 ⟨by show _ ≤ 6 + (UC (ordC l0 (rowC m l0) c) - UC c); omega, by show _ ≤ 164 + (US (ordC l0 (rowC m l0) c) - US c); omega⟩) (fun rq h1 H locs hp hH => ?_)
              obtain ⟨q, eq9, hq_q, -, b, hJ, ho, hwc⟩ := hp
              rw [eq9]
              have hS2 := wtI_sim hS hw hwc0q hl0 (rowC m l0)
              have hqra : q ≠ ra := fun z => by rw [z, hLra_L_8] at hq_q; exact nomatch hq_q
              have hqan : q ≠ an := fun z => by rw [z, hL_L_8] at hq_q; exact nomatch hq_q
              have hlessL : ∀ a x, L a = some x → setL (setL L_8 ra 40 (bgAll m (-1) l0 45 (fun _ => 0)).2) q 100 (bgAll m (-1) l0 45 (fun _ => 0)).1 a = some x := fun a x z => by
                have na : a ≠ ra := fun y => by rw [y, hq_ra] at z; exact nomatch z
                have nq : a ≠ q := fun y => by rw [hL_8, setL_o hqra] at hq_q; rw [y, hq_q] at z; exact nomatch z
                rw [setL_o nq, setL_o na, hL_8, setL_o na]; exact z
              have hLq : setL (setL L_8 ra 40 (bgAll m (-1) l0 45 (fun _ => 0)).2) q 100 (bgAll m (-1) l0 45 (fun _ => 0)).1 q = some (100, (bgAll m (-1) l0 45 (fun _ => 0)).1) := setL_s _ _ _ _
              obtain ⟨L9, hL9⟩ : ∃ z, z = setL (setL L_8 ra 40 (bgAll m (-1) l0 45 (fun _ => 0)).2) q 100 (bgAll m (-1) l0 45 (fun _ => 0)).1 := ⟨_, rfl⟩
              rw [← hL9] at hJ hlessL hLq
              obtain ⟨cs2, hcs2⟩ : ∃ z, z = wtI l0 (rowC m l0) cs := ⟨_, rfl⟩
              rw [← hcs2] at hJ hwc hS2 hm1 hm2 ⊢
              refine lv_iconst (v := nI 0) hx hb dL_isOrdered_167 (by decide) ?_
              refine j_ld C0 hH hJ hLq (ix := 0) (by omega) (by decide) (v := nI nb) nb1 dL_isOrdered_168 ?_
              refine lv_istore (lv' := [(5, .int (nI nb)), (4, .int (nI 1)), (3, .int (nI (rowC m l0))), (0, .ref (o)), (1, .ref (an)), (2, .int (nI l0))]) hx hb dL_isOrdered_169 hl (by decide) rfl (fun ls hl => ?_)
              refine lv_iload hx hb dL_isOrdered_171 (lv_at hl 1 rfl) ?_
              refine lv_if_eq (tgt := 226) hx hb dL_isOrdered_173 (by decide) (fun c173_9 => ?_) (fun c173_9 => ?_)
              · exact absurd c173_9 (by decide)
              · refine lv_aload_n hx hb dL_isOrdered_176 rfl (lv_at hl 3 rfl) ?_
                refine lv_iload_n hx hb dL_isOrdered_177 rfl (lv_at hl 5 rfl) ?_
                have hgb := (lg_bn (u := cs2) (x := nI l0)).leU hwc.lw
                have ec9 : ordC l0 (rowC m l0) c = cBn cs2 (nI l0) := by unfold ordC; rw [hcs2, ← wtI_add, ← ecs]
                rw [ec9] at hm1
                refine j_q1 (X := none) (As := [.int (nI l0)]) (rest := []) (v := nI nb) (c' := cBn cs2 (nI l0)) C0 hH hJ ho (cN_X10_bagsNeeded l hlt G _ _ b cs2 hJ.rest hwc (nI l0) (v_lX hS2 hw hwc hl0)) (fun r h9 z => hv_in (nms := []) (v_lX hS2 hw hwc hl0) ((v_bn hS2 hw hwc hl0).trans nb2) (xp := fun E h8 => xLn cs2 (nI l0) = some E) (fun E h8 y => y) r h9 (Or.inl z)) (fun E h9 z => absurd ((v_lX hS2 hw hwc hl0).symm.trans z.1) (fun y => nomatch y)) mv_X10_bagsNeeded ml_L_213 rfl ⟨Nat.le_of_ble_eq_true rfl, Nat.le_of_ble_eq_true rfl⟩ hl.1 rfl (Nat.le_of_ble_eq_true rfl) dL_isOrdered_178 ⟨by show _ ≤ 6 + (UC (ordC l0 (rowC m l0) c) - UC c); rw [ec9]; omega, by show _ ≤ 164 + (US (ordC l0 (rowC m l0) c) - US c); rw [ec9]; omega⟩ (fun h b H locs hH hJ ho hwc9 => ?_)
                have hS3 := v_bnS hS2 hw hwc (nI l0)
                obtain ⟨cs3, hcs3⟩ : ∃ z, z = cBn cs2 (nI l0) := ⟨_, rfl⟩
                rw [← hcs3] at hJ hwc9 hS3 hgb ec9 hm1 ⊢
                refine lv_iload hx hb dL_isOrdered_181 (lv_at hl 0 rfl) ?_
                refine lv_icmp_ne (tgt := 226) hx hb dL_isOrdered_183 (by decide) (fun c183_10 => ?_) (fun c183_10 => ?_)
                · exact absurd rfl c183_10
                · replace c183_10 : nb = nb := (nI_eq (a := nb) (b := nb) (by omega) (by omega)).mp c183_10
                  refine lv_aload_n hx hb dL_isOrdered_186 rfl (lv_at hl 3 rfl) ?_
                  refine lv_iload_n hx hb dL_isOrdered_187 rfl (lv_at hl 5 rfl) ?_
                  refine j_q0 (rest := []) C0 hH hJ ho (cN_X10_bagsAtLeast l hlt G _ _ b cs3 hJ.rest hwc9 (nI l0) (v_lX hS3 hw hwc9 hl0)) (v_lX hS3 hw hwc9 hl0) (v := nI na) ((v_bal hS3 hw hwc9 hl0).trans na2) mv_X10_bagsAtLeast ml_L_216 rfl ⟨Nat.le_of_ble_eq_true rfl, Nat.le_of_ble_eq_true rfl⟩ hl.1 rfl (Nat.le_of_ble_eq_true rfl) dL_isOrdered_188 ⟨by show _ ≤ 6 + (UC (ordC l0 (rowC m l0) c) - UC c); rw [ec9]; omega, by show _ ≤ 164 + (US (ordC l0 (rowC m l0) c) - US c); rw [ec9]; omega⟩ (fun H locs hH => ?_)
                  refine lv_iload hx hb dL_isOrdered_191 (lv_at hl 0 rfl) ?_
                  refine lv_icmp_gt (tgt := 226) hx hb dL_isOrdered_193 (by decide) (fun c193_11 => ?_) (fun c193_11 => ?_)
                  · exact absurd ((nI_ltI (by omega) (by omega)).mp c193_11) (by omega)
                  · replace c193_11 : ¬ (nb < na) := fun z => c193_11 ((nI_ltI (a := nb) (b := na) (by omega) (by omega)).mpr z)
                    refine lv_aload_n hx hb dL_isOrdered_196 rfl (lv_at hl 3 rfl) ?_
                    refine lv_iload_n hx hb dL_isOrdered_197 rfl (lv_at hl 5 rfl) ?_
                    refine j_q0 (rest := []) C0 hH hJ ho (cN_X10_bagsAtLeast l hlt G _ _ b cs3 hJ.rest hwc9 (nI l0) (v_lX hS3 hw hwc9 hl0)) (v_lX hS3 hw hwc9 hl0) (v := nI na) ((v_bal hS3 hw hwc9 hl0).trans na2) mv_X10_bagsAtLeast ml_L_216 rfl ⟨Nat.le_of_ble_eq_true rfl, Nat.le_of_ble_eq_true rfl⟩ hl.1 rfl (Nat.le_of_ble_eq_true rfl) dL_isOrdered_198 ⟨by show _ ≤ 6 + (UC (ordC l0 (rowC m l0) c) - UC c); rw [ec9]; omega, by show _ ≤ 164 + (US (ordC l0 (rowC m l0) c) - US c); rw [ec9]; omega⟩ (fun H locs hH => ?_)
                    refine lv_if_ne (tgt := 208) hx hb dL_isOrdered_201 (by decide) (fun c201_12 => ?_) (fun c201_12 => ?_)
                    · replace c201_12 : ¬ (na = 0) := fun z => c201_12 ((nI_eq (a := na) (b := 0) (by omega) (by omega)).mpr z)
                      refine lv_iconst (v := nI 0) hx hb dL_isOrdered_208 (by decide) ?_
                      refine lv_iload hx hb dL_isOrdered_209 (lv_at hl 0 rfl) ?_
                      refine lv_if_ne (tgt := 218) hx hb dL_isOrdered_211 (by decide) (fun c211_13 => ?_) (fun c211_13 => ?_)
                      · replace c211_13 : ¬ (nb = 0) := fun z => c211_13 ((nI_eq (a := nb) (b := 0) (by omega) (by omega)).mpr z)
                        refine lv_iconst (v := nI 0) hx hb dL_isOrdered_218 (by decide) ?_
                        refine lv_icmp_ne (tgt := 226) hx hb dL_isOrdered_219 (by decide) (fun c219_14 => ?_) (fun c219_14 => ?_)
                        · exact absurd (by decide) c219_14
                        · refine lv_iconst (v := nI 1) hx hb dL_isOrdered_222 (by decide) ?_
                          refine lv_goto (tgt := 227) hx hb dL_isOrdered_223 (by decide) ?_
                          exact e_Z C0 hr (by decide) hH ⟨rfl, b, by rw [ec9]; exact hJ.less hlessL (fun _ _ z => z), ho, by rw [ec9]; exact hwc9⟩ (by rw [ec9]; omega) (by rw [ec9]; omega) dL_isOrdered_227
                      · exfalso; have q2 := (nI_eq (a := nb) (b := 0) (by omega) (by omega)); exact c201_12 (na3.mpr (q2.mp c211_13))
                    · replace c201_12 : na = 0 := (nI_eq (a := na) (b := 0) (by omega) (by omega)).mp c201_12
                      refine lv_iconst (v := nI 1) hx hb dL_isOrdered_204 (by decide) ?_
                      refine lv_goto (tgt := 209) hx hb dL_isOrdered_205 (by decide) ?_
                      refine lv_iload hx hb dL_isOrdered_209 (lv_at hl 0 rfl) ?_
                      refine lv_if_ne (tgt := 218) hx hb dL_isOrdered_211 (by decide) (fun c211_15 => ?_) (fun c211_15 => ?_)
                      · exfalso; have q2 := (nI_eq (a := nb) (b := 0) (by omega) (by omega)); exact c211_15 (q2.mpr (na3.mp c201_12))
                      · replace c211_15 : nb = 0 := (nI_eq (a := nb) (b := 0) (by omega) (by omega)).mp c211_15
                        refine lv_iconst (v := nI 1) hx hb dL_isOrdered_214 (by decide) ?_
                        refine lv_goto (tgt := 219) hx hb dL_isOrdered_215 (by decide) ?_
                        refine lv_icmp_ne (tgt := 226) hx hb dL_isOrdered_219 (by decide) (fun c219_16 => ?_) (fun c219_16 => ?_)
                        · exact absurd (by decide) c219_16
                        · refine lv_iconst (v := nI 1) hx hb dL_isOrdered_222 (by decide) ?_
                          refine lv_goto (tgt := 227) hx hb dL_isOrdered_223 (by decide) ?_
                          exact e_Z C0 hr (by decide) hH ⟨rfl, b, by rw [ec9]; exact hJ.less hlessL (fun _ _ z => z), ho, by rw [ec9]; exact hwc9⟩ (by rw [ec9]; omega) (by rw [ec9]; omega) dL_isOrdered_227
            · exact absurd ((nI_leI (by omega) (by omega)).mpr (Nat.le_refl (rowC m l0))) c81_7
          | succ k ih =>
            intro r cs hk hS hwc ecs h b H locs hH hJ ho ls hl
            have hgw := (lg_wtI l0 (oR r)).leU hwc00.lw
            rw [← ecs] at hgw
            have hrr : r < rowC m l0 := by omega
            obtain ⟨hpp, -, hp28, hp19⟩ := hrow.1 r hrr
            obtain ⟨p0, hp0⟩ : ∃ z, z = rowN m l0 r := ⟨_, rfl⟩
            rw [← hp0] at hpp hp28 hp19
            have hor : oR r + 2 ≤ oR (rowC m l0) + rowC m l0 := by unfold oR; split <;> split <;> omega
            have hm1 := (lg_ord (c := c) (l := l0) (n := rowC m l0) (r := oR r + 1) (by omega)).leU (wtI_wfc hwc00 l0 _).lw
            rw [wtI_s, ← ecs] at hm1
            have hm2 := (lg_ord (c := c) (l := l0) (n := rowC m l0) (r := oR r + 2) hor).leU (wtI_wfc hwc00 l0 _).lw
            rw [show oR r + 2 = oR r + 1 + 1 from rfl, wtI_s, wtI_s, ← ecs] at hm2
            refine lv_iload hx hb dL_isOrdered_78 (lv_at hl 0 rfl) ?_
            refine lv_iload_n hx hb dL_isOrdered_80 rfl (lv_at hl 2 rfl) ?_
            refine lv_icmp_ge (tgt := 154) hx hb dL_isOrdered_81 (by decide) (fun c81_17 => ?_) (fun c81_17 => ?_)
            · exact absurd ((nI_leI (by omega) (by omega)).mp c81_17) (by omega)
            · replace c81_17 : ¬ (rowC m l0 ≤ r) := fun z => c81_17 ((nI_leI (a := rowC m l0) (b := r) (by omega) (by omega)).mpr z)
              refine lv_aload_n hx hb dL_isOrdered_84 rfl (lv_at hl 3 rfl) ?_
              refine lv_iload_n hx hb dL_isOrdered_85 rfl (lv_at hl 5 rfl) ?_
              refine lv_iload hx hb dL_isOrdered_86 (lv_at hl 0 rfl) ?_
              have hwc0 := hwc
              have hg2 := (gm_wt hwc0 (nI l0)).1
              refine j_w1 (As := [.int (nI l0), .int (nI r)]) (rest := []) (v := nI p0) (c' := cWt cs (nI l0)) C0 hN hH hJ ho (lW_waitingAt (nI l0) (nI r) hJ.own hJ.obj (cN_X10_waitingAt l hlt G _ _ b cs hJ.rest hwc (nI l0) (nI r) (v_wtV hS hw hwc hl0 hrr hrow).1) (hin_n (v_wtV hS hw hwc hl0 hrr hrow).1 (fun E h9 z => z.1))) (hv_in (v_wtV hS hw hwc hl0 hrr hrow).1 (by rw [hp0]; exact (v_wtV hS hw hwc hl0 hrr hrow).2) (fun E h9 z => z.1)) ms_L_waitingAt ml_L_201 rfl ⟨Nat.le_of_ble_eq_true rfl, Nat.le_of_ble_eq_true rfl⟩ hl.1 rfl (Nat.le_of_ble_eq_true rfl) dL_isOrdered_88 ⟨by show _ ≤ 6 + (UC (ordC l0 (rowC m l0) c) - UC c); omega, by show _ ≤ 164 + (US (ordC l0 (rowC m l0) c) - US c); omega⟩ (fun h b H locs hH hJ ho hwc => ?_)
              have hS2 := v_wtS hS hw hwc0 hl0
              obtain ⟨cs2, hcs2⟩ : ∃ z, z = cWt cs (nI l0) := ⟨_, rfl⟩
              rw [← hcs2] at hJ hwc hS2 hg2 ⊢
              have ecs2 : cs2 = wtI l0 (oR r + 1) c := by rw [hcs2, ecs, wtI_s]
              rw [← hcs2] at hm1 hm2
              refine lv_istore (lv' := [(6, .int (nI p0)), (5, .int (nI r)), (4, .int (nI 1)), (3, .int (nI (rowC m l0))), (0, .ref (o)), (1, .ref (an)), (2, .int (nI l0))]) hx hb dL_isOrdered_91 hl (by decide) rfl (fun ls hl => ?_)
              refine lv_iload hx hb dL_isOrdered_93 (lv_at hl 2 rfl) ?_
              refine lv_aload_n hx hb dL_isOrdered_95 rfl (lv_at hl 4 rfl) ?_
              refine lv_iload hx hb dL_isOrdered_96 (lv_at hl 0 rfl) ?_
              refine j_w0 (As := [.int (nI p0)]) (rest := [.int (nI 1)]) (v := nI 115) C0 hN hH ho (lW_state (nI p0) hJ.own hJ.obj (cN_X10_state l hlt G _ _ b cs2 hJ.rest hwc (nI p0) (v_nar28 hS2 hw hpp) (v_pX hS2 hw hwc hpp)) (fun E h9 z => absurd ((v_pX hS2 hw hwc hpp).symm.trans z.1) (fun y => nomatch y))) (fun r h9 z => z.elim (fun y => ⟨y.2.1.trans ((v_pk hS2 hw hpp (k := 28) rfl).trans (hp28.trans rfl)), y.2.2⟩) (fun ⟨E, y, _⟩ => absurd ((v_pX hS2 hw hwc hpp).symm.trans y.1) (fun q => nomatch q))) ms_L_state ml_L_147 rfl ⟨Nat.le_of_ble_eq_true rfl, Nat.le_of_ble_eq_true rfl⟩ hl.1 rfl (Nat.le_of_ble_eq_true rfl) dL_isOrdered_98 ⟨by show _ ≤ 6 + (UC (ordC l0 (rowC m l0) c) - UC c); omega, by show _ ≤ 164 + (US (ordC l0 (rowC m l0) c) - US c); omega⟩ (fun H locs hH => ?_)
              refine lv_bipush (v := nI 115) hx hb dL_isOrdered_101 (by decide) ?_
              refine lv_icmp_ne (tgt := 144) hx hb dL_isOrdered_103 (by decide) (fun c103_18 => ?_) (fun c103_18 => ?_)
              · exact absurd (by decide) c103_18
              · refine lv_aload_n hx hb dL_isOrdered_106 rfl (lv_at hl 4 rfl) ?_
                refine lv_iload hx hb dL_isOrdered_107 (lv_at hl 0 rfl) ?_
                refine j_w0 (As := [.int (nI p0)]) (rest := [.int (nI 1)]) (v := nI l0) C0 hN hH ho (lW_nextLine (nI p0) hJ.own hJ.obj (cN_X10_nextLine l hlt G _ _ b cs2 hJ.rest hwc (nI p0) (v_sc hS2 hw hwc hpp hp28)) (fun E h9 z => absurd ((v_sc hS2 hw hwc hpp hp28).symm.trans z.1) (fun y => nomatch y))) (fun r h9 z => z.elim (fun y => ⟨y.2.1.trans ((v_pk hS2 hw hpp (k := 19) rfl).trans hp19), y.2.2⟩) (fun ⟨E, y, _⟩ => absurd ((v_sc hS2 hw hwc hpp hp28).symm.trans y.1) (fun q => nomatch q))) ms_L_nextLine ml_L_203 rfl ⟨Nat.le_of_ble_eq_true rfl, Nat.le_of_ble_eq_true rfl⟩ hl.1 rfl (Nat.le_of_ble_eq_true rfl) dL_isOrdered_109 ⟨by show _ ≤ 6 + (UC (ordC l0 (rowC m l0) c) - UC c); omega, by show _ ≤ 164 + (US (ordC l0 (rowC m l0) c) - US c); omega⟩ (fun H locs hH => ?_)
                refine lv_iload_n hx hb dL_isOrdered_112 rfl (lv_at hl 6 rfl) ?_
                refine lv_icmp_ne (tgt := 144) hx hb dL_isOrdered_113 (by decide) (fun c113_19 => ?_) (fun c113_19 => ?_)
                · exact absurd rfl c113_19
                · replace c113_19 : l0 = l0 := (nI_eq (a := l0) (b := l0) (by omega) (by omega)).mp c113_19
                  refine lv_iload hx hb dL_isOrdered_116 (lv_at hl 1 rfl) ?_
                  refine lv_if_eq (tgt := 140) hx hb dL_isOrdered_118 (by decide) (fun c118_20 => ?_) (fun c118_20 => ?_)
                  · replace c118_20 : r = 0 := (nI_eq (a := r) (b := 0) (by omega) (by omega)).mp c118_20
                    refine lv_iconst (v := nI 1) hx hb dL_isOrdered_140 (by decide) ?_
                    refine lv_goto (tgt := 145) hx hb dL_isOrdered_141 (by decide) ?_
                    refine lv_iand hx hb dL_isOrdered_145 ?_
                    rw [show nI 1 &&& nI 1 = nI 1 by decide]
                    refine lv_istore (lv' := [(4, .int (nI 1)), (6, .int (nI p0)), (5, .int (nI r)), (3, .int (nI (rowC m l0))), (0, .ref (o)), (1, .ref (an)), (2, .int (nI l0))]) hx hb dL_isOrdered_146 hl (by decide) rfl (fun ls hl => ?_)
                    refine lv_iinc (v := nI (r + 1)) (lv' := [(5, .int (nI (r + 1))), (4, .int (nI 1)), (6, .int (nI p0)), (3, .int (nI (rowC m l0))), (0, .ref (o)), (1, .ref (an)), (2, .int (nI l0))]) hx hb dL_isOrdered_148 hl (k := 2) rfl (nI_add (r) 1) (by decide) rfl (fun ls hl => ?_)
                    refine lv_goto (tgt := 78) hx hb dL_isOrdered_151 (by decide) ?_
                    refine W.widen (k := 4 + (UC cs2 - UC c)) (n := 24 + (US cs2 - US c)) (by omega) (by omega) ?_
                    exact ih (r + 1) cs2 (by omega) hS2 hwc (by rw [ecs2, show r = 0 by omega]; rfl) h b H locs hH hJ ho ls (lv_sub hl [0, 1, 3, 4, 5, 6] rfl)
                  · replace c118_20 : ¬ (r = 0) := fun z => c118_20 ((nI_eq (a := r) (b := 0) (by omega) (by omega)).mpr z)
                    refine lv_aload_n hx hb dL_isOrdered_121 rfl (lv_at hl 4 rfl) ?_
                    refine lv_aload_n hx hb dL_isOrdered_122 rfl (lv_at hl 5 rfl) ?_
                    refine lv_aload_n hx hb dL_isOrdered_123 rfl (lv_at hl 4 rfl) ?_
                    refine lv_iload_n hx hb dL_isOrdered_124 rfl (lv_at hl 6 rfl) ?_
                    refine lv_iload hx hb dL_isOrdered_125 (lv_at hl 1 rfl) ?_
                    refine lv_iconst (v := nI 1) hx hb dL_isOrdered_127 (by decide) ?_
                    refine lv_isub hx hb dL_isOrdered_128 ?_
                    rw [show nI r - nI 1 = nI (r - 1) from nI_sub (by omega)]
                    have hr1 : r - 1 < rowC m l0 := by omega
                    obtain ⟨hpq, -, hq28, hq19⟩ := hrow.1 (r - 1) hr1
                    have hah := row_ahead hSt hwc00 (l := l0) (r := r - 1) hl0 (by omega)
                    rw [show r - 1 + 1 = r by omega, ← hp0] at hah
                    have hcs2b := hcs2
                    have hwc0 := hwc
                    have hg2 := (gm_wt hwc0 (nI l0)).1
                    refine j_w1 (As := [.int (nI l0), .int (nI (r - 1))]) (rest := [.ref (an), .ref (o), .int (nI 1)]) (v := nI (rowN m l0 (r - 1))) (c' := cWt cs2 (nI l0)) C0 hN hH hJ ho (lW_waitingAt (nI l0) (nI (r - 1)) hJ.own hJ.obj (cN_X10_waitingAt l hlt G _ _ b cs2 hJ.rest hwc (nI l0) (nI (r - 1)) (v_wtV hS2 hw hwc hl0 hr1 hrow).1) (hin_n (v_wtV hS2 hw hwc hl0 hr1 hrow).1 (fun E h9 z => z.1))) (hv_in (v_wtV hS2 hw hwc hl0 hr1 hrow).1 (v_wtV hS2 hw hwc hl0 hr1 hrow).2 (fun E h9 z => z.1)) ms_L_waitingAt ml_L_201 rfl ⟨Nat.le_of_ble_eq_true rfl, Nat.le_of_ble_eq_true rfl⟩ hl.1 rfl (Nat.le_of_ble_eq_true rfl) dL_isOrdered_129 ⟨by show _ ≤ 6 + (UC (ordC l0 (rowC m l0) c) - UC c); omega, by show _ ≤ 164 + (US (ordC l0 (rowC m l0) c) - US c); omega⟩ (fun h b H locs hH hJ ho hwc => ?_)
                    have hS2 := v_wtS hS2 hw hwc0 hl0
                    obtain ⟨cs3, hcs2⟩ : ∃ z, z = cWt cs2 (nI l0) := ⟨_, rfl⟩
                    rw [← hcs2] at hJ hwc hS2 hg2 ⊢
                    rw [← hcs2] at hm2
                    refine lv_iload hx hb dL_isOrdered_132 (lv_at hl 0 rfl) ?_
                    refine k_i hH (k_lS (rest := [.int (nI 1)]) C0 hN hH (lL_isAhead l hlt Sc G A _ _ cs3 m n _ _ o hJ ho hwc hS2 hw an f hL hT (rowN m l0 (r - 1)) p0 hpq hpp) mv_L_isAhead ml_L_205 rfl ⟨Nat.le_of_ble_eq_true rfl, Nat.le_of_ble_eq_true rfl⟩ hl.1 rfl (Nat.le_of_ble_eq_true rfl) dL_isOrdered_134 ⟨by show _ ≤ 6 + (UC (ordC l0 (rowC m l0) c) - UC c); omega, by show _ ≤ 164 + (US (ordC l0 (rowC m l0) c) - US c); omega⟩) (fun ra h1 H locs hp hH => ?_)
                    obtain ⟨ea, eh⟩ := hp
                    rw [eh] at hH
                    rw [ea, hah]
                    refine lv_if_eq (tgt := 144) hx hb dL_isOrdered_137 (by decide) (fun c137_21 => ?_) (fun c137_21 => ?_)
                    · exact absurd c137_21 (by decide)
                    · refine lv_iconst (v := nI 1) hx hb dL_isOrdered_140 (by decide) ?_
                      refine lv_goto (tgt := 145) hx hb dL_isOrdered_141 (by decide) ?_
                      refine lv_iand hx hb dL_isOrdered_145 ?_
                      rw [show nI 1 &&& nI 1 = nI 1 by decide]
                      refine lv_istore (lv' := [(4, .int (nI 1)), (6, .int (nI p0)), (5, .int (nI r)), (3, .int (nI (rowC m l0))), (0, .ref (o)), (1, .ref (an)), (2, .int (nI l0))]) hx hb dL_isOrdered_146 hl (by decide) rfl (fun ls hl => ?_)
                      refine lv_iinc (v := nI (r + 1)) (lv' := [(5, .int (nI (r + 1))), (4, .int (nI 1)), (6, .int (nI p0)), (3, .int (nI (rowC m l0))), (0, .ref (o)), (1, .ref (an)), (2, .int (nI l0))]) hx hb dL_isOrdered_148 hl (k := 2) rfl (nI_add (r) 1) (by decide) rfl (fun ls hl => ?_)
                      refine lv_goto (tgt := 78) hx hb dL_isOrdered_151 (by decide) ?_
                      refine W.widen (k := 4 + (UC cs3 - UC c)) (n := 24 + (US cs3 - US c)) (by omega) (by omega) ?_
                      exact ih (r + 1) cs3 (by omega) hS2 hwc (by rw [hcs2, ecs2, oR_s, ← wtI_s]; congr 1; unfold oR; rw [if_neg (by omega)]) h b H locs hH hJ ho ls (lv_sub hl [0, 1, 3, 4, 5, 6] rfl)
        refine W.widen (k := 4 + (UC cs - UC c)) (n := 24 + (US cs - US c)) (by omega) (by omega) ?_
        exact K2 (rowC m l0) 0 cs (by omega) hS2 hwc ecs0 h b H locs hH hJ ho ls (lv_sub hl [0, 1, 2, 3, 4, 5] rfl)
  have K : ∀ (k p a : Nat), p + k = npN m → sS m (nI l0) (fun _ => 1) k p a = rowC m l0 → a ≤ p → ∀ (H : Heap) (locs : List Loc) (hH : HS G.1 G.2.1 A s.heap h H locs) (ls : Array Slot), lv_has ls 7 [(4, .int (nI p)), (3, .int (nI a)), (0, .ref (o)), (1, .ref (an)), (2, .int (nI l0))] → W pr l e (rmm 10 271 (6 + (UC (ordC l0 (rowC m l0) c) - UC c)) (164 + (US (ordC l0 (rowC m l0) c) - US c))) s m9 ([.ref (o), .ref (an), .int (nI l0)] : List Value).toArray below meth c9 H locs 0 0 (MQ below (va_Qi (fun r h' => r = nI 1 ∧ ∃ b', JW G.2.2.1 h' b' (ordC l0 (rowC m l0) c) L M ∧ b' 14 0 = o ∧ WFc (ordC l0 (rowC m l0) c)) (fun h' t => HW G.1 G.2.1 A h' t.heap) A) ([.ref (o), .ref (an), .int (nI l0)] : List Value).toArray s (6 + (UC (ordC l0 (rowC m l0) c) - UC c)) (164 + (US (ordC l0 (rowC m l0) c) - US c)) A) (F0 m9 5 ls []) := by
    intro k
    induction k with
    | zero =>
      intro p a hk hE hap H locs hH ls hl
      refine lv_iload hx hb dL_isOrdered_5 (lv_at hl 0 rfl) ?_
      refine lv_aload_n hx hb dL_isOrdered_7 rfl (lv_at hl 3 rfl) ?_
      refine lv_iconst (v := nI 2) hx hb dL_isOrdered_8 (by decide) ?_
      refine j_ld C0 hH hJ hL (ix := 2) (by omega) (by decide) (v := nI (npN m)) hT.p0 dL_isOrdered_9 ?_
      refine lv_icmp_ge (tgt := 48) hx hb dL_isOrdered_10 (by decide) (fun c10_1 => ?_) (fun c10_1 => ?_)
      · replace c10_1 : npN m ≤ p := (nI_leI (a := npN m) (b := p) (by omega) (by omega)).mp c10_1
        have ea : a = rowC m l0 := hE
        rw [ea] at hl
        exact TL H locs hH ls (lv_sub hl [1, 2, 3, 4] rfl)
      · exact absurd ((nI_leI (by omega) (by omega)).mpr (show npN m ≤ p by omega)) c10_1
    | succ k ih =>
      intro p a hk hE hap H locs hH ls hl
      have hp : p < npN m := by omega
      refine lv_iload hx hb dL_isOrdered_5 (lv_at hl 0 rfl) ?_
      refine lv_aload_n hx hb dL_isOrdered_7 rfl (lv_at hl 3 rfl) ?_
      refine lv_iconst (v := nI 2) hx hb dL_isOrdered_8 (by decide) ?_
      refine j_ld C0 hH hJ hL (ix := 2) (by omega) (by decide) (v := nI (npN m)) hT.p0 dL_isOrdered_9 ?_
      refine lv_icmp_ge (tgt := 48) hx hb dL_isOrdered_10 (by decide) (fun c10_2 => ?_) (fun c10_2 => ?_)
      · exact absurd ((nI_leI (by omega) (by omega)).mp c10_2) (by omega)
      · replace c10_2 : ¬ (npN m ≤ p) := fun z => c10_2 ((nI_leI (a := npN m) (b := p) (by omega) (by omega)).mpr z)
        refine lv_iload_n hx hb dL_isOrdered_13 rfl (lv_at hl 1 rfl) ?_
        refine lv_aload_n hx hb dL_isOrdered_14 rfl (lv_at hl 2 rfl) ?_
        refine lv_iload hx hb dL_isOrdered_15 (lv_at hl 0 rfl) ?_
        refine j_w0 (As := [.int (nI p)]) (rest := [.int (nI a)]) (v := m 28 p) C0 hN hH ho (lW_state (nI p) hJ.own hJ.obj (cN_X10_state l hlt G _ _ b c hJ.rest hwc (nI p) (v_nar28 hS hw hp) (v_pX hS hw hwc hp)) (fun E h9 z => absurd ((v_pX hS hw hwc hp).symm.trans z.1) (fun y => nomatch y))) (fun r h9 z => z.elim (fun y => ⟨y.2.1.trans (v_pk hS hw hp (k := 28) rfl), y.2.2⟩) (fun ⟨E, y, _⟩ => absurd ((v_pX hS hw hwc hp).symm.trans y.1) (fun q => nomatch q))) ms_L_state ml_L_147 rfl ⟨Nat.le_of_ble_eq_true rfl, Nat.le_of_ble_eq_true rfl⟩ hl.1 rfl (Nat.le_of_ble_eq_true rfl) dL_isOrdered_17 ⟨by show _ ≤ 6 + (UC (ordC l0 (rowC m l0) c) - UC c); omega, by show _ ≤ 164 + (US (ordC l0 (rowC m l0) c) - US c); omega⟩ (fun H locs hH => ?_)
        refine lv_bipush (v := nI 115) hx hb dL_isOrdered_20 (by decide) ?_
        refine lv_icmp_ne (tgt := 39) hx hb dL_isOrdered_22 (by decide) (fun c22_3 => ?_) (fun c22_3 => ?_)
        · refine lv_iconst (v := nI 0) hx hb dL_isOrdered_39 (by decide) ?_
          refine lv_iadd hx hb dL_isOrdered_40 ?_
          rw [show nI a + nI 0 = nI (a + 0) from nI_add _ _]
          refine lv_istore_n (lv' := [(3, .int (nI (a + 0))), (4, .int (nI p)), (0, .ref (o)), (1, .ref (an)), (2, .int (nI l0))]) hx hb dL_isOrdered_41 rfl hl (by decide) rfl (fun ls hl => ?_)
          refine lv_iinc (v := nI (p + 1)) (lv' := [(4, .int (nI (p + 1))), (3, .int (nI (a + 0))), (0, .ref (o)), (1, .ref (an)), (2, .int (nI l0))]) hx hb dL_isOrdered_42 hl (k := 1) rfl (nI_add (p) 1) (by decide) rfl (fun ls hl => ?_)
          refine lv_goto (tgt := 5) hx hb dL_isOrdered_45 (by decide) ?_
          exact ih (p + 1) (a + 0) (by omega) (by rw [← hE]; show _ = sS m (nI l0) (fun _ => 1) k (p + 1) (if m 28 p = 115 ∧ m 19 p = nI l0 then a + 1 else a); rw [if_neg (fun z => c22_3 z.1)]; rfl) (by omega) H locs hH ls (lv_sub hl [0, 1, 2, 3, 4] rfl)
        · refine lv_aload_n hx hb dL_isOrdered_25 rfl (lv_at hl 2 rfl) ?_
          refine lv_iload hx hb dL_isOrdered_26 (lv_at hl 0 rfl) ?_
          refine j_w0 (As := [.int (nI p)]) (rest := [.int (nI a)]) (v := m 19 p) C0 hN hH ho (lW_nextLine (nI p) hJ.own hJ.obj (cN_X10_nextLine l hlt G _ _ b c hJ.rest hwc (nI p) (v_sc hS hw hwc hp c22_3)) (fun E h9 z => absurd ((v_sc hS hw hwc hp c22_3).symm.trans z.1) (fun y => nomatch y))) (fun r h9 z => z.elim (fun y => ⟨y.2.1.trans (v_pk hS hw hp (k := 19) rfl), y.2.2⟩) (fun ⟨E, y, _⟩ => absurd ((v_sc hS hw hwc hp c22_3).symm.trans y.1) (fun q => nomatch q))) ms_L_nextLine ml_L_203 rfl ⟨Nat.le_of_ble_eq_true rfl, Nat.le_of_ble_eq_true rfl⟩ hl.1 rfl (Nat.le_of_ble_eq_true rfl) dL_isOrdered_28 ⟨by show _ ≤ 6 + (UC (ordC l0 (rowC m l0) c) - UC c); omega, by show _ ≤ 164 + (US (ordC l0 (rowC m l0) c) - US c); omega⟩ (fun H locs hH => ?_)
          refine lv_iload_n hx hb dL_isOrdered_31 rfl (lv_at hl 4 rfl) ?_
          refine lv_icmp_ne (tgt := 39) hx hb dL_isOrdered_32 (by decide) (fun c32_4 => ?_) (fun c32_4 => ?_)
          · refine lv_iconst (v := nI 0) hx hb dL_isOrdered_39 (by decide) ?_
            refine lv_iadd hx hb dL_isOrdered_40 ?_
            rw [show nI a + nI 0 = nI (a + 0) from nI_add _ _]
            refine lv_istore_n (lv' := [(3, .int (nI (a + 0))), (4, .int (nI p)), (0, .ref (o)), (1, .ref (an)), (2, .int (nI l0))]) hx hb dL_isOrdered_41 rfl hl (by decide) rfl (fun ls hl => ?_)
            refine lv_iinc (v := nI (p + 1)) (lv' := [(4, .int (nI (p + 1))), (3, .int (nI (a + 0))), (0, .ref (o)), (1, .ref (an)), (2, .int (nI l0))]) hx hb dL_isOrdered_42 hl (k := 1) rfl (nI_add (p) 1) (by decide) rfl (fun ls hl => ?_)
            refine lv_goto (tgt := 5) hx hb dL_isOrdered_45 (by decide) ?_
            exact ih (p + 1) (a + 0) (by omega) (by rw [← hE]; show _ = sS m (nI l0) (fun _ => 1) k (p + 1) (if m 28 p = 115 ∧ m 19 p = nI l0 then a + 1 else a); rw [if_neg (fun z => c32_4 z.2)]; rfl) (by omega) H locs hH ls (lv_sub hl [0, 1, 2, 3, 4] rfl)
          · refine lv_iconst (v := nI 1) hx hb dL_isOrdered_35 (by decide) ?_
            refine lv_goto (tgt := 40) hx hb dL_isOrdered_36 (by decide) ?_
            refine lv_iadd hx hb dL_isOrdered_40 ?_
            rw [show nI a + nI 1 = nI (a + 1) from nI_add _ _]
            refine lv_istore_n (lv' := [(3, .int (nI (a + 1))), (4, .int (nI p)), (0, .ref (o)), (1, .ref (an)), (2, .int (nI l0))]) hx hb dL_isOrdered_41 rfl hl (by decide) rfl (fun ls hl => ?_)
            refine lv_iinc (v := nI (p + 1)) (lv' := [(4, .int (nI (p + 1))), (3, .int (nI (a + 1))), (0, .ref (o)), (1, .ref (an)), (2, .int (nI l0))]) hx hb dL_isOrdered_42 hl (k := 1) rfl (nI_add (p) 1) (by decide) rfl (fun ls hl => ?_)
            refine lv_goto (tgt := 5) hx hb dL_isOrdered_45 (by decide) ?_
            exact ih (p + 1) (a + 1) (by omega) (by rw [← hE]; show _ = sS m (nI l0) (fun _ => 1) k (p + 1) (if m 28 p = 115 ∧ m 19 p = nI l0 then a + 1 else a); rw [if_pos ⟨c22_3, c32_4⟩]) (by omega) H locs hH ls (lv_sub hl [0, 1, 2, 3, 4] rfl)
  exact K (npN m) 0 0 (by omega) (by unfold rowC fLin; rw [lin_cnt]) (Nat.le_refl _) _ _ hH ls (lv_sub hl [0, 1, 2, 3, 4] rfl)
