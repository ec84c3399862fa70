set_option maxHeartbeats 1600000 in
set_option maxRecDepth 100000 in
theorem lL_bagged (l : Launch) (hlt : l.stackTraces = false) (Sc : SCR) (G : GT) (A : Nat → Prop) (h : AH) (b : BA) (c m : MM) (n : Nat) (L : LNum) (M : LRef) (o : Nat) (hJ : JW G.2.2.1 h b c L M) (ho : b 14 0 = o) (hwc : WFc c) (hS : Sim n c m) (hw : WFa m) (hI : IV m) (an : Nat) (f : Nat → Int32) (hL : L an = some (700, f)) (hT : NT f m) (l0 : Nat) (hl0 : l0 < nlN m) (hrow : RowI m l0) (hrC : rowC m l0 ≤ npN m) (hb2 : vp_in (m 2 l0) (nhN m)) (mi : Int32) (most : Nat) (hmost : most ≤ 45) (ra : Nat) (R : Nat → Int32) (hR : L ra = some (40, R)) (hra : an ≠ ra) : lcQ l Sc G A yL_bagged cL_bagged 12 (Option.some (FieldType.array FieldType.int)) 9 240 (1 + (UC (wtI l0 (rowC m l0) c) - UC c)) (100 + (US (wtI l0 (rowC m l0) c) - US c)) [.ref (o), .ref (an), .int (nI l0), .int (mi), .int (nI most), .ref (ra)] h (fun r h' => ∃ q, r = some q ∧ L q = none ∧ M q = none ∧ ∃ b', JW G.2.2.1 h' b' (wtI l0 (rowC m l0) c) (setL (setL L ra 40 (bgAll m mi l0 most R).2) q 100 (bgAll m mi l0 most R).1) M ∧ b' 14 0 = o ∧ WFc (wtI l0 (rowC m l0) c)) := by
  refine lm_of rfl (Nat.le_of_ble_eq_true rfl) ?_
  intro pr e s m9 below meth c9 C0 hN hr hH ls hl
  obtain ⟨hx, hb, hml, hown, hts, hK, hA, -⟩ := id C0
  have hl : lv_has ls 12 [(0, .ref (o)), (1, .ref (an)), (2, .int (nI l0)), (3, .int (mi)), (4, .int (nI most)), (5, .ref (ra))] := hl
  have n40 := hw.np.2
  have n6 := hw.nh.2
  have nl12 := hw.nl.2
  have hv2 : vN (m 2 l0) < nhN m := vp_nat hb2
  have e2 : m 2 l0 = nI (vN (m 2 l0)) := vp_nI hb2 (by omega)
  have hwc00 := hwc
  refine lv_bipush (v := nI 100) hx hb dL_bagged_0 (by decide) ?_
  refine j_new (rest := []) C0 hH hJ (k := 100) (by decide) dL_bagged_2 (by show _ ≤ 1 + (UC (wtI l0 (rowC m l0) c) - UC c); omega) (by show _ ≤ 100 + (US (wtI l0 (rowC m l0) c) - US c); omega) (fun q h H locs hH hJ hq_q hm_q _ => ?_)
  obtain ⟨L_1, hL_1⟩ : ∃ z, z = setL L q 100 (fun _ => 0) := ⟨_, rfl⟩
  rw [← hL_1] at hJ
  have hne_an_q : an ≠ q := fun z => by rw [← z, hL] at hq_q; exact nomatch hq_q
  have hL_L_1 : L_1 an = some (700, f) := by rw [hL_1, setL_o hne_an_q]; exact hL
  have hne_ra_q : ra ≠ q := fun z => by rw [← z, hR] at hq_q; exact nomatch hq_q
  have hR_L_1 : L_1 ra = some (40, R) := by rw [hL_1, setL_o hne_ra_q]; exact hR
  have hLq_L_1 : L_1 q = some (100, fun _ => 0) := by rw [hL_1]; exact setL_s _ _ _ _
  refine lv_astore (lv' := [(6, .ref (q)), (0, .ref (o)), (1, .ref (an)), (2, .int (nI l0)), (3, .int (mi)), (4, .int (nI most)), (5, .ref (ra))]) hx hb dL_bagged_4 hl (by decide) rfl (fun ls hl => ?_)
  refine lv_iconst (v := nI 0) hx hb dL_bagged_6 (by decide) ?_
  refine lv_istore (lv' := [(7, .int (nI 0)), (6, .ref (q)), (0, .ref (o)), (1, .ref (an)), (2, .int (nI l0)), (3, .int (mi)), (4, .int (nI most)), (5, .ref (ra))]) hx hb dL_bagged_7 hl (by decide) rfl (fun ls hl => ?_)
  have hqa : q ≠ ra := fun z => by rw [z, hR] at hq_q; exact nomatch hq_q
  have hqn : q ≠ an := fun z => by rw [z, hL] at hq_q; exact nomatch hq_q
  have K : ∀ (k r : Nat) (g R1 : Nat → Int32) (cs : MM), r + k = rowC m l0 → bgL m mi l0 most k r (g, R1) = bgAll m mi l0 most R → g 0 = nI (bgN9 g) → bgN9 g ≤ most → Sim n cs m → WFc cs → cs = wtI l0 r c → (UC c ≤ UC cs ∧ US c ≤ US cs) → ∀ (h : AH) (b : BA) (H : Heap) (locs : List Loc) (hH : HS G.1 G.2.1 A s.heap h H locs) (hJ : JW G.2.2.1 h b cs (setL (setL L ra 40 R1) q 100 g) M) (ho : b 14 0 = o) (ls : Array Slot), lv_has ls 12 [(7, .int (nI r)), (6, .ref (q)), (0, .ref (o)), (1, .ref (an)), (2, .int (nI l0)), (3, .int (mi)), (4, .int (nI most)), (5, .ref (ra))] → W pr l e (rmm 9 240 (1 + (UC (wtI l0 (rowC m l0) c) - UC c)) (100 + (US (wtI l0 (rowC m l0) c) - US c))) s m9 ([.ref (o), .ref (an), .int (nI l0), .int (mi), .int (nI most), .ref (ra)] : List Value).toArray below meth c9 H locs (1 + (UC cs - UC c)) (100 + (US cs - US c)) (MQ below (va_Qq (fun r h' => ∃ q, r = some q ∧ L q = none ∧ M q = none ∧ ∃ b', JW G.2.2.1 h' b' (wtI l0 (rowC m l0) c) (setL (setL L ra 40 (bgAll m mi l0 most R).2) q 100 (bgAll m mi l0 most R).1) M ∧ b' 14 0 = o ∧ WFc (wtI l0 (rowC m l0) c)) (fun h' t => HW G.1 G.2.1 A h' t.heap) A) ([.ref (o), .ref (an), .int (nI l0), .int (mi), .int (nI most), .ref (ra)] : List Value).toArray s (1 + (UC (wtI l0 (rowC m l0) c) - UC c)) (100 + (US (wtI l0 (rowC m l0) c) - US c)) A) (F0 m9 9 ls []) := by
    intro k
    induction k with
    | zero =>
      intro r g R1 cs hk hE hg0 hgm hS hwc ecs hgw h b H locs hH hJ ho ls hl
      have hmn := wtI_mono hwc00 l0 (show r ≤ rowC m l0 by omega)
      rw [← ecs] at hmn
      have hLq : setL (setL L ra 40 R1) q 100 g q = some (100, g) := setL_s _ _ _ _
      have hLr : setL (setL L ra 40 R1) q 100 g ra = some (40, R1) := by rw [setL_o (Ne.symm hqa)]; exact setL_s _ _ _ _
      have hLn : setL (setL L ra 40 R1) q 100 g an = some (700, f) := by rw [setL_o (Ne.symm hqn), setL_o hra]; exact hL
      have hne_ra_q := hqa.symm
      have hne_q_ra := hqa
      have hne_an_q := hqn.symm
      have hne_q_an := hqn
      obtain ⟨L0, hL0⟩ : ∃ z, z = setL (setL L ra 40 R1) q 100 g := ⟨_, rfl⟩
      rw [← hL0] at hJ hLq hLr hLn
      refine lv_iload hx hb dL_bagged_9 (lv_at hl 0 rfl) ?_
      refine lv_aload_n hx hb dL_bagged_11 rfl (lv_at hl 2 rfl) ?_
      refine lv_iload_n hx hb dL_bagged_12 rfl (lv_at hl 4 rfl) ?_
      refine j_q0 (rest := [.int (nI r)]) C0 hH hJ ho (cN_X10_waiting l hlt G _ _ b cs hJ.rest hwc (nI l0) (v_lX hS hw hwc hl0)) (v_lX hS hw hwc hl0) (v := nI (rowC m l0)) ((v_wait hS (nI l0)).trans (waits_row m l0)) mv_X10_waiting ml_L_193 rfl ⟨Nat.le_of_ble_eq_true rfl, Nat.le_of_ble_eq_true rfl⟩ hl.1 rfl (Nat.le_of_ble_eq_true rfl) dL_bagged_13 ⟨by show _ ≤ 1 + (UC (wtI l0 (rowC m l0) c) - UC c); omega, by show _ ≤ 100 + (US (wtI l0 (rowC m l0) c) - US c); omega⟩ (fun H locs hH => ?_)
      refine lv_icmp_ge (tgt := 240) hx hb dL_bagged_16 (by decide) (fun c16_2 => ?_) (fun c16_2 => ?_)
      · replace c16_2 : rowC m l0 ≤ r := (nI_leI (a := rowC m l0) (b := r) (by omega) (by omega)).mp c16_2
        refine lv_aload hx hb dL_bagged_240 (lv_at hl 1 rfl) ?_
        have er : r = rowC m l0 := by omega
        have e1 : (g, R1) = bgAll m mi l0 most R := hE
        rw [hL0] at hJ
        rw [er] at ecs
        rw [← ecs] at hmn ⊢
        rw [← e1]
        exact e_Q (v := some q) C0 hr (Or.inr ⟨_, rfl⟩) hH ⟨q, rfl, hq_q, hm_q, b, hJ, ho, hwc⟩ (by omega) (by omega) dL_bagged_242
      · exact absurd (show nI (rowC m l0) ≤ nI r from (nI_leI (by omega) (by omega)).mpr (by omega)) c16_2
    | succ k ih =>
      intro r g R1 cs hk hE hg0 hgm hS hwc ecs hgw h b H locs hH hJ ho ls hl
      have hmn := wtI_mono hwc00 l0 (show r ≤ rowC m l0 by omega)
      rw [← ecs] at hmn
      have hLq : setL (setL L ra 40 R1) q 100 g q = some (100, g) := setL_s _ _ _ _
      have hLr : setL (setL L ra 40 R1) q 100 g ra = some (40, R1) := by rw [setL_o (Ne.symm hqa)]; exact setL_s _ _ _ _
      have hLn : setL (setL L ra 40 R1) q 100 g an = some (700, f) := by rw [setL_o (Ne.symm hqn), setL_o hra]; exact hL
      have hne_ra_q := hqa.symm
      have hne_q_ra := hqa
      have hne_an_q := hqn.symm
      have hne_q_an := hqn
      obtain ⟨L0, hL0⟩ : ∃ z, z = setL (setL L ra 40 R1) q 100 g := ⟨_, rfl⟩
      rw [← hL0] at hJ hLq hLr hLn
      have hrr : r < rowC m l0 := by omega
      obtain ⟨hpp, -, hp28, hp19⟩ := hrow.1 r hrr
      obtain ⟨p0, hp0⟩ : ∃ z, z = rowN m l0 r := ⟨_, rfl⟩
      rw [← hp0] at hpp hp28 hp19
      have hmn2 : UC (cWt cs (nI l0)) ≤ UC (wtI l0 (rowC m l0) c) ∧ US (cWt cs (nI l0)) ≤ US (wtI l0 (rowC m l0) c) := by rw [ecs]; exact wtI_mono1 hwc00 l0 hrr
      refine lv_iload hx hb dL_bagged_9 (lv_at hl 0 rfl) ?_
      refine lv_aload_n hx hb dL_bagged_11 rfl (lv_at hl 2 rfl) ?_
      refine lv_iload_n hx hb dL_bagged_12 rfl (lv_at hl 4 rfl) ?_
      refine j_q0 (rest := [.int (nI r)]) C0 hH hJ ho (cN_X10_waiting l hlt G _ _ b cs hJ.rest hwc (nI l0) (v_lX hS hw hwc hl0)) (v_lX hS hw hwc hl0) (v := nI (rowC m l0)) ((v_wait hS (nI l0)).trans (waits_row m l0)) mv_X10_waiting ml_L_193 rfl ⟨Nat.le_of_ble_eq_true rfl, Nat.le_of_ble_eq_true rfl⟩ hl.1 rfl (Nat.le_of_ble_eq_true rfl) dL_bagged_13 ⟨by show _ ≤ 1 + (UC (wtI l0 (rowC m l0) c) - UC c); omega, by show _ ≤ 100 + (US (wtI l0 (rowC m l0) c) - US c); omega⟩ (fun H locs hH => ?_)
      refine lv_icmp_ge (tgt := 240) hx hb dL_bagged_16 (by decide) (fun c16_3 => ?_) (fun c16_3 => ?_)
      · exact absurd ((nI_leI (by omega) (by omega)).mp (show nI (rowC m l0) ≤ nI r from c16_3)) (by omega)
      · replace c16_3 : ¬ (rowC m l0 ≤ r) := fun z => c16_3 ((nI_leI (a := rowC m l0) (b := r) (by omega) (by omega)).mpr z)
        refine lv_aload_n hx hb dL_bagged_19 rfl (lv_at hl 2 rfl) ?_
        refine lv_iload_n hx hb dL_bagged_20 rfl (lv_at hl 4 rfl) ?_
        refine lv_iload hx hb dL_bagged_21 (lv_at hl 0 rfl) ?_
        have hwc0 := hwc
        have hg2 := (gm_wt hwc0 (nI l0)).1
        refine j_w1 (As := [.int (nI l0), .int (nI r)]) (rest := []) (v := nI p0) (c' := cWt cs (nI l0)) C0 hN hH hJ ho (lW_waitingAt (nI l0) (nI r) hJ.own hJ.obj (cN_X10_waitingAt l hlt G _ _ b cs hJ.rest hwc (nI l0) (nI r) (v_wtV hS hw hwc hl0 hrr hrow).1) (hin_n (v_wtV hS hw hwc hl0 hrr hrow).1 (fun E h9 z => z.1))) (hv_in (v_wtV hS hw hwc hl0 hrr hrow).1 (by rw [hp0]; exact (v_wtV hS hw hwc hl0 hrr hrow).2) (fun E h9 z => z.1)) ms_L_waitingAt ml_L_201 rfl ⟨Nat.le_of_ble_eq_true rfl, Nat.le_of_ble_eq_true rfl⟩ hl.1 rfl (Nat.le_of_ble_eq_true rfl) dL_bagged_23 ⟨by show _ ≤ 1 + (UC (wtI l0 (rowC m l0) c) - UC c); omega, by show _ ≤ 100 + (US (wtI l0 (rowC m l0) c) - US c); omega⟩ (fun h b H locs hH hJ ho hwc => ?_)
        have hS2 := v_wtS hS hw hwc0 hl0
        obtain ⟨cs2, hcs2⟩ : ∃ z, z = cWt cs (nI l0) := ⟨_, rfl⟩
        rw [← hcs2] at hJ hwc hS2 hg2 ⊢
        refine lv_istore (lv' := [(8, .int (nI p0)), (7, .int (nI r)), (6, .ref (q)), (0, .ref (o)), (1, .ref (an)), (2, .int (nI l0)), (3, .int (mi)), (4, .int (nI most)), (5, .ref (ra))]) hx hb dL_bagged_26 hl (by decide) rfl (fun ls hl => ?_)
        have hg3 := wtI_mono hwc00 l0 (show r + 1 ≤ rowC m l0 by omega)
        have ecs2 : cs2 = wtI l0 (r + 1) c := by rw [hcs2, ecs, wtI_s]
        rw [← ecs2] at hg3
        refine lv_sipush (v := nI 140) hx hb dL_bagged_28 (by decide) ?_
        refine lv_bipush (v := nI 12) hx hb dL_bagged_31 (by decide) ?_
        refine lv_iload hx hb dL_bagged_33 (lv_at hl 0 rfl) ?_
        refine lv_imul hx hb dL_bagged_35 ?_
        rw [show nI 12 * nI p0 = nI (12 * p0) from nI_mul]
        refine lv_iadd hx hb dL_bagged_36 ?_
        rw [show nI 140 + nI (12 * p0) = nI (140 + 12 * p0) from nI_add _ _]
        refine lv_istore (lv' := [(9, .int (nI (140 + 12 * p0))), (8, .int (nI p0)), (7, .int (nI r)), (6, .ref (q)), (0, .ref (o)), (1, .ref (an)), (2, .int (nI l0)), (3, .int (mi)), (4, .int (nI most)), (5, .ref (ra))]) hx hb dL_bagged_37 hl (by decide) rfl (fun ls hl => ?_)
        have hU : bgL m mi l0 most (k + 1) r (g, R1) = bgL m mi l0 most k (r + 1) (if bgC m mi l0 p0 then bgS m l0 most p0 (g, R1) else (g, R1)) := by rw [hp0, bgL_s]
        rw [hU] at hE
        obtain ⟨kF, hkF⟩ : ∃ z, z = bgF m g p0 := ⟨_, rfl⟩
        have hkl := bgF_le m g p0
        rw [← hkF] at hkl
        have TT : bgC m mi l0 p0 → ∀ (H : Heap) (locs : List Loc) (hH : HS G.1 G.2.1 A s.heap h H locs) (ls : Array Slot), lv_has ls 12 [(10, .int (nI kF)), (9, .int (nI (140 + 12 * p0))), (8, .int (nI p0)), (7, .int (nI r)), (6, .ref (q)), (0, .ref (o)), (1, .ref (an)), (2, .int (nI l0)), (3, .int (mi)), (4, .int (nI most)), (5, .ref (ra))] → W pr l e (rmm 9 240 (1 + (UC (wtI l0 (rowC m l0) c) - UC c)) (100 + (US (wtI l0 (rowC m l0) c) - US c))) s m9 ([.ref (o), .ref (an), .int (nI l0), .int (mi), .int (nI most), .ref (ra)] : List Value).toArray below meth c9 H locs (1 + (UC cs - UC c) + (UC cs2 - UC cs)) (100 + (US cs - US c) + (US cs2 - US cs)) (MQ below (va_Qq (fun r h' => ∃ q, r = some q ∧ L q = none ∧ M q = none ∧ ∃ b', JW G.2.2.1 h' b' (wtI l0 (rowC m l0) c) (setL (setL L ra 40 (bgAll m mi l0 most R).2) q 100 (bgAll m mi l0 most R).1) M ∧ b' 14 0 = o ∧ WFc (wtI l0 (rowC m l0) c)) (fun h' t => HW G.1 G.2.1 A h' t.heap) A) ([.ref (o), .ref (an), .int (nI l0), .int (mi), .int (nI most), .ref (ra)] : List Value).toArray s (1 + (UC (wtI l0 (rowC m l0) c) - UC c)) (100 + (US (wtI l0 (rowC m l0) c) - US c)) A) (F0 m9 125 ls []) := by
          intro hbc H locs hH ls hl
          refine lv_iload hx hb dL_bagged_125 (lv_at hl 0 rfl) ?_
          refine lv_iload hx hb dL_bagged_127 (lv_at hl 9 rfl) ?_
          refine lv_icmp_ge (tgt := 136) hx hb dL_bagged_129 (by decide) (fun c129_4 => ?_) (fun c129_4 => ?_)
          · replace c129_4 : most ≤ kF := (nI_leI (a := most) (b := kF) (by omega) (by omega)).mp c129_4
            refine lv_iconst (v := nI 0) hx hb dL_bagged_136 (by decide) ?_
            refine lv_istore (lv' := [(11, .int (nI 0)), (10, .int (nI kF)), (9, .int (nI (140 + 12 * p0))), (8, .int (nI p0)), (7, .int (nI r)), (6, .ref (q)), (0, .ref (o)), (1, .ref (an)), (2, .int (nI l0)), (3, .int (mi)), (4, .int (nI most)), (5, .ref (ra))]) hx hb dL_bagged_137 hl (by decide) rfl (fun ls hl => ?_)
            refine lv_aload hx hb dL_bagged_139 (lv_at hl 5 rfl) ?_
            refine lv_iconst (v := nI 0) hx hb dL_bagged_141 (by decide) ?_
            refine lv_iload hx hb dL_bagged_142 (lv_at hl 0 rfl) ?_
            refine lv_if_eq (tgt := 163) hx hb dL_bagged_144 (by decide) (fun c144_5 => ?_) (fun c144_5 => ?_)
            · refine lv_aload hx hb dL_bagged_163 (lv_at hl 5 rfl) ?_
              refine lv_iconst (v := nI 0) hx hb dL_bagged_165 (by decide) ?_
              refine j_ld C0 hH hJ hLq (ix := 0) (by omega) (by decide) (v := nI (bgN9 g)) hg0 dL_bagged_166 ?_
              refine j_st C0 hH hJ hLq (ix := 0) (by omega) (by decide) dL_bagged_167 (fun h H locs hH hJ => ?_)
              obtain ⟨f_6, hf_6⟩ : ∃ z, z = upF g 0 (nI (bgN9 g)) := ⟨_, rfl⟩
              obtain ⟨L_7, hL_7⟩ : ∃ z, z = setL L0 q 100 f_6 := ⟨_, rfl⟩
              rw [← hf_6, ← hL_7] at hJ
              have hLn_L_7 : L_7 an = some (700, f) := by rw [hL_7, setL_o hne_an_q]; exact hLn
              have hLr_L_7 : L_7 ra = some (40, R1) := by rw [hL_7, setL_o hne_ra_q]; exact hLr
              have hLq_L_7 : L_7 q = some (100, f_6) := by rw [hL_7]; exact setL_s _ _ _ _
              refine lv_aload hx hb dL_bagged_168 (lv_at hl 5 rfl) ?_
              refine lv_iconst (v := nI 1) hx hb dL_bagged_170 (by decide) ?_
              refine lv_iconst (v := nI 2) hx hb dL_bagged_171 (by decide) ?_
              refine lv_iload hx hb dL_bagged_172 (lv_at hl 1 rfl) ?_
              refine lv_imul hx hb dL_bagged_174 ?_
              rw [show nI 2 * nI kF = nI (2 * kF) from nI_mul]
              refine lv_iadd hx hb dL_bagged_175 ?_
              rw [show nI 1 + nI (2 * kF) = nI (1 + 2 * kF) from nI_add _ _]
              refine lv_iload hx hb dL_bagged_176 (lv_at hl 0 rfl) ?_
              refine lv_if_eq (tgt := 190) hx hb dL_bagged_178 (by decide) (fun c178_8 => ?_) (fun c178_8 => ?_)
              · refine lv_iconst (v := nI 0) hx hb dL_bagged_190 (by decide) ?_
                refine j_st C0 hH hJ hLq_L_7 (ix := 1 + 2 * kF) (by omega) (by decide) dL_bagged_191 (fun h H locs hH hJ => ?_)
                obtain ⟨f_9, hf_9⟩ : ∃ z, z = upF f_6 (1 + 2 * kF) (nI 0) := ⟨_, rfl⟩
                obtain ⟨L_10, hL_10⟩ : ∃ z, z = setL L_7 q 100 f_9 := ⟨_, rfl⟩
                rw [← hf_9, ← hL_10] at hJ
                have hLn_L_7_L_10 : L_10 an = some (700, f) := by rw [hL_10, setL_o hne_an_q]; exact hLn_L_7
                have hLr_L_7_L_10 : L_10 ra = some (40, R1) := by rw [hL_10, setL_o hne_ra_q]; exact hLr_L_7
                have hLq_L_7_L_10 : L_10 q = some (100, f_9) := by rw [hL_10]; exact setL_s _ _ _ _
                refine lv_aload hx hb dL_bagged_192 (lv_at hl 5 rfl) ?_
                refine lv_iconst (v := nI 2) hx hb dL_bagged_194 (by decide) ?_
                refine lv_iconst (v := nI 2) hx hb dL_bagged_195 (by decide) ?_
                refine lv_iload hx hb dL_bagged_196 (lv_at hl 1 rfl) ?_
                refine lv_imul hx hb dL_bagged_198 ?_
                rw [show nI 2 * nI kF = nI (2 * kF) from nI_mul]
                refine lv_iadd hx hb dL_bagged_199 ?_
                rw [show nI 2 + nI (2 * kF) = nI (2 + 2 * kF) from nI_add _ _]
                refine lv_dup2_11 hx hb dL_bagged_200 rfl rfl ?_
                refine j_ld C0 hH hJ hLq_L_7_L_10 (ix := 2 + 2 * kF) (by omega) (by decide) (v := g (2 + 2 * kF)) (by rw [hf_9, hf_6]; unfold upF; rw [if_neg (by omega), if_neg (by omega)]) dL_bagged_201 ?_
                refine lv_iload hx hb dL_bagged_202 (lv_at hl 0 rfl) ?_
                refine lv_if_eq (tgt := 214) hx hb dL_bagged_204 (by decide) (fun c204_11 => ?_) (fun c204_11 => ?_)
                · refine lv_iconst (v := nI 0) hx hb dL_bagged_214 (by decide) ?_
                  refine lv_iadd hx hb dL_bagged_215 ?_
                  refine j_st C0 hH hJ hLq_L_7_L_10 (ix := 2 + 2 * kF) (by omega) (by decide) dL_bagged_216 (fun h H locs hH hJ => ?_)
                  obtain ⟨f_12, hf_12⟩ : ∃ z, z = upF f_9 (2 + 2 * kF) ((g (2 + 2 * kF)) + (nI 0)) := ⟨_, rfl⟩
                  obtain ⟨L_13, hL_13⟩ : ∃ z, z = setL L_10 q 100 f_12 := ⟨_, rfl⟩
                  rw [← hf_12, ← hL_13] at hJ
                  have hLn_L_7_L_10_L_13 : L_13 an = some (700, f) := by rw [hL_13, setL_o hne_an_q]; exact hLn_L_7_L_10
                  have hLr_L_7_L_10_L_13 : L_13 ra = some (40, R1) := by rw [hL_13, setL_o hne_ra_q]; exact hLr_L_7_L_10
                  have hLq_L_7_L_10_L_13 : L_13 q = some (100, f_12) := by rw [hL_13]; exact setL_s _ _ _ _
                  refine lv_aload hx hb dL_bagged_217 (lv_at hl 11 rfl) ?_
                  refine lv_iload hx hb dL_bagged_219 (lv_at hl 3 rfl) ?_
                  refine lv_iload hx hb dL_bagged_221 (lv_at hl 0 rfl) ?_
                  refine lv_if_eq (tgt := 232) hx hb dL_bagged_223 (by decide) (fun c223_14 => ?_) (fun c223_14 => ?_)
                  · refine lv_iconst (v := (-1)) hx hb dL_bagged_232 (by decide) ?_
                    refine j_st C0 hH hJ hLr_L_7_L_10_L_13 (ix := p0) (by omega) (by decide) dL_bagged_233 (fun h H locs hH hJ => ?_)
                    obtain ⟨f_15, hf_15⟩ : ∃ z, z = upF R1 p0 (-1) := ⟨_, rfl⟩
                    obtain ⟨L_16, hL_16⟩ : ∃ z, z = setL L_13 ra 40 f_15 := ⟨_, rfl⟩
                    rw [← hf_15, ← hL_16] at hJ
                    have hLn_L_7_L_10_L_13_L_16 : L_16 an = some (700, f) := by rw [hL_16, setL_o hra]; exact hLn_L_7_L_10_L_13
                    have hLr_L_7_L_10_L_13_L_16 : L_16 ra = some (40, f_15) := by rw [hL_16]; exact setL_s _ _ _ _
                    have hLq_L_7_L_10_L_13_L_16 : L_16 q = some (100, f_12) := by rw [hL_16, setL_o hne_q_ra]; exact hLq_L_7_L_10_L_13
                    refine lv_iinc (v := nI (r + 1)) (lv' := [(7, .int (nI (r + 1))), (11, .int (nI 0)), (10, .int (nI kF)), (9, .int (nI (140 + 12 * p0))), (8, .int (nI p0)), (6, .ref (q)), (0, .ref (o)), (1, .ref (an)), (2, .int (nI l0)), (3, .int (mi)), (4, .int (nI most)), (5, .ref (ra))]) hx hb dL_bagged_234 hl (k := 4) rfl (nI_add (r) 1) (by decide) rfl (fun ls hl => ?_)
                    refine lv_goto (tgt := 9) hx hb dL_bagged_237 (by decide) ?_
                    have e3 : f_12 = bgPut m p0 most g := by rw [hf_12, hf_9, hf_6]; unfold bgPut; rw [← hkF, if_neg (show ¬ (kF < most ∧ kF = bgN9 g) from fun z => Nat.not_lt.mpr c129_4 z.1), hg0, if_neg (show ¬ kF < most by omega), if_neg (show ¬ kF < most by omega)]; rfl
                    have e4 : f_15 = upF R1 p0 (if bgF m g p0 < most then nI (1 + l0) else -1) := by rw [hf_15, ← hkF, if_neg (show ¬ kF < most by omega)]
                    have hz := bgPut_0 (m := m) (p := p0) hg0 hgm hmost
                    refine W.widen (k := 1 + (UC cs2 - UC c)) (n := 100 + (US cs2 - US c)) (by omega) (by omega) ?_
                    exact ih (r + 1) (bgPut m p0 most g) (upF R1 p0 (if bgF m g p0 < most then nI (1 + l0) else -1)) cs2 (by omega) (by rw [← hE, if_pos hbc]; rfl) hz.1 hz.2 hS2 hwc ecs2 (by omega) h b H locs hH (by rw [← e3, ← e4]; rw [hL_16, hL_13, hL_10, hL_7, hL0, setL_2, setL_2, setL_2, setL_3 hqa] at hJ; exact hJ) ho ls (lv_sub hl [0, 5, 6, 7, 8, 9, 10, 11] rfl)
                  · exact absurd (by decide) c223_14
                · exact absurd (by decide) c204_11
              · exact absurd (by decide) c178_8
            · exact absurd (by decide) c144_5
          · replace c129_4 : ¬ (most ≤ kF) := fun z => c129_4 ((nI_leI (a := most) (b := kF) (by omega) (by omega)).mpr z)
            refine lv_iconst (v := nI 1) hx hb dL_bagged_132 (by decide) ?_
            refine lv_goto (tgt := 137) hx hb dL_bagged_133 (by decide) ?_
            refine lv_istore (lv' := [(11, .int (nI 1)), (10, .int (nI kF)), (9, .int (nI (140 + 12 * p0))), (8, .int (nI p0)), (7, .int (nI r)), (6, .ref (q)), (0, .ref (o)), (1, .ref (an)), (2, .int (nI l0)), (3, .int (mi)), (4, .int (nI most)), (5, .ref (ra))]) hx hb dL_bagged_137 hl (by decide) rfl (fun ls hl => ?_)
            refine lv_aload hx hb dL_bagged_139 (lv_at hl 5 rfl) ?_
            refine lv_iconst (v := nI 0) hx hb dL_bagged_141 (by decide) ?_
            refine lv_iload hx hb dL_bagged_142 (lv_at hl 0 rfl) ?_
            refine lv_if_eq (tgt := 163) hx hb dL_bagged_144 (by decide) (fun c144_17 => ?_) (fun c144_17 => ?_)
            · exact absurd c144_17 (by decide)
            · refine lv_iload hx hb dL_bagged_147 (lv_at hl 1 rfl) ?_
              refine lv_aload hx hb dL_bagged_149 (lv_at hl 5 rfl) ?_
              refine lv_iconst (v := nI 0) hx hb dL_bagged_151 (by decide) ?_
              refine j_ld C0 hH hJ hLq (ix := 0) (by omega) (by decide) (v := nI (bgN9 g)) hg0 dL_bagged_152 ?_
              refine lv_icmp_ne (tgt := 163) hx hb dL_bagged_153 (by decide) (fun c153_18 => ?_) (fun c153_18 => ?_)
              · replace c153_18 : ¬ (kF = bgN9 g) := fun z => c153_18 ((nI_eq (a := kF) (b := bgN9 g) (by omega) (by omega)).mpr z)
                refine lv_aload hx hb dL_bagged_163 (lv_at hl 5 rfl) ?_
                refine lv_iconst (v := nI 0) hx hb dL_bagged_165 (by decide) ?_
                refine j_ld C0 hH hJ hLq (ix := 0) (by omega) (by decide) (v := nI (bgN9 g)) hg0 dL_bagged_166 ?_
                refine j_st C0 hH hJ hLq (ix := 0) (by omega) (by decide) dL_bagged_167 (fun h H locs hH hJ => ?_)
                obtain ⟨f_19, hf_19⟩ : ∃ z, z = upF g 0 (nI (bgN9 g)) := ⟨_, rfl⟩
                obtain ⟨L_20, hL_20⟩ : ∃ z, z = setL L0 q 100 f_19 := ⟨_, rfl⟩
                rw [← hf_19, ← hL_20] at hJ
                have hLn_L_20 : L_20 an = some (700, f) := by rw [hL_20, setL_o hne_an_q]; exact hLn
                have hLr_L_20 : L_20 ra = some (40, R1) := by rw [hL_20, setL_o hne_ra_q]; exact hLr
                have hLq_L_20 : L_20 q = some (100, f_19) := by rw [hL_20]; exact setL_s _ _ _ _
                refine lv_aload hx hb dL_bagged_168 (lv_at hl 5 rfl) ?_
                refine lv_iconst (v := nI 1) hx hb dL_bagged_170 (by decide) ?_
                refine lv_iconst (v := nI 2) hx hb dL_bagged_171 (by decide) ?_
                refine lv_iload hx hb dL_bagged_172 (lv_at hl 1 rfl) ?_
                refine lv_imul hx hb dL_bagged_174 ?_
                rw [show nI 2 * nI kF = nI (2 * kF) from nI_mul]
                refine lv_iadd hx hb dL_bagged_175 ?_
                rw [show nI 1 + nI (2 * kF) = nI (1 + 2 * kF) from nI_add _ _]
                refine lv_iload hx hb dL_bagged_176 (lv_at hl 0 rfl) ?_
                refine lv_if_eq (tgt := 190) hx hb dL_bagged_178 (by decide) (fun c178_21 => ?_) (fun c178_21 => ?_)
                · exact absurd c178_21 (by decide)
                · refine lv_aload_n hx hb dL_bagged_181 rfl (lv_at hl 6 rfl) ?_
                  refine lv_iload hx hb dL_bagged_182 (lv_at hl 3 rfl) ?_
                  refine j_q0 (rest := [.int (nI (1 + 2 * kF)), .ref (q)]) C0 hH hJ ho (cN_X10_destination l hlt G _ _ b cs2 hJ.rest hwc (nI p0) (v_pX hS2 hw hwc hpp)) (v_pX hS2 hw hwc hpp) (v := m 14 p0) (v_pk hS2 hw hpp (k := 14) rfl) mv_X10_destination ml_L_128 rfl ⟨Nat.le_of_ble_eq_true rfl, Nat.le_of_ble_eq_true rfl⟩ hl.1 rfl (Nat.le_of_ble_eq_true rfl) dL_bagged_184 ⟨by show _ ≤ 1 + (UC (wtI l0 (rowC m l0) c) - UC c); omega, by show _ ≤ 100 + (US (wtI l0 (rowC m l0) c) - US c); omega⟩ (fun H locs hH => ?_)
                  refine lv_goto (tgt := 191) hx hb dL_bagged_187 (by decide) ?_
                  refine j_st C0 hH hJ hLq_L_20 (ix := 1 + 2 * kF) (by omega) (by decide) dL_bagged_191 (fun h H locs hH hJ => ?_)
                  obtain ⟨f_22, hf_22⟩ : ∃ z, z = upF f_19 (1 + 2 * kF) (m 14 p0) := ⟨_, rfl⟩
                  obtain ⟨L_23, hL_23⟩ : ∃ z, z = setL L_20 q 100 f_22 := ⟨_, rfl⟩
                  rw [← hf_22, ← hL_23] at hJ
                  have hLn_L_20_L_23 : L_23 an = some (700, f) := by rw [hL_23, setL_o hne_an_q]; exact hLn_L_20
                  have hLr_L_20_L_23 : L_23 ra = some (40, R1) := by rw [hL_23, setL_o hne_ra_q]; exact hLr_L_20
                  have hLq_L_20_L_23 : L_23 q = some (100, f_22) := by rw [hL_23]; exact setL_s _ _ _ _
                  refine lv_aload hx hb dL_bagged_192 (lv_at hl 5 rfl) ?_
                  refine lv_iconst (v := nI 2) hx hb dL_bagged_194 (by decide) ?_
                  refine lv_iconst (v := nI 2) hx hb dL_bagged_195 (by decide) ?_
                  refine lv_iload hx hb dL_bagged_196 (lv_at hl 1 rfl) ?_
                  refine lv_imul hx hb dL_bagged_198 ?_
                  rw [show nI 2 * nI kF = nI (2 * kF) from nI_mul]
                  refine lv_iadd hx hb dL_bagged_199 ?_
                  rw [show nI 2 + nI (2 * kF) = nI (2 + 2 * kF) from nI_add _ _]
                  refine lv_dup2_11 hx hb dL_bagged_200 rfl rfl ?_
                  refine j_ld C0 hH hJ hLq_L_20_L_23 (ix := 2 + 2 * kF) (by omega) (by decide) (v := g (2 + 2 * kF)) (by rw [hf_22, hf_19]; unfold upF; rw [if_neg (by omega), if_neg (by omega)]) dL_bagged_201 ?_
                  refine lv_iload hx hb dL_bagged_202 (lv_at hl 0 rfl) ?_
                  refine lv_if_eq (tgt := 214) hx hb dL_bagged_204 (by decide) (fun c204_24 => ?_) (fun c204_24 => ?_)
                  · exact absurd c204_24 (by decide)
                  · refine lv_aload_n hx hb dL_bagged_207 rfl (lv_at hl 7 rfl) ?_
                    refine lv_iload hx hb dL_bagged_208 (lv_at hl 2 rfl) ?_
                    refine j_ld C0 hH hJ hLn_L_20_L_23 (ix := 140 + 12 * p0) (by omega) (by decide) (v := m 11 p0) (hT.pa hpp).g0 dL_bagged_210 ?_
                    refine lv_goto (tgt := 215) hx hb dL_bagged_211 (by decide) ?_
                    refine lv_iadd hx hb dL_bagged_215 ?_
                    refine j_st C0 hH hJ hLq_L_20_L_23 (ix := 2 + 2 * kF) (by omega) (by decide) dL_bagged_216 (fun h H locs hH hJ => ?_)
                    obtain ⟨f_25, hf_25⟩ : ∃ z, z = upF f_22 (2 + 2 * kF) ((g (2 + 2 * kF)) + (m 11 p0)) := ⟨_, rfl⟩
                    obtain ⟨L_26, hL_26⟩ : ∃ z, z = setL L_23 q 100 f_25 := ⟨_, rfl⟩
                    rw [← hf_25, ← hL_26] at hJ
                    have hLn_L_20_L_23_L_26 : L_26 an = some (700, f) := by rw [hL_26, setL_o hne_an_q]; exact hLn_L_20_L_23
                    have hLr_L_20_L_23_L_26 : L_26 ra = some (40, R1) := by rw [hL_26, setL_o hne_ra_q]; exact hLr_L_20_L_23
                    have hLq_L_20_L_23_L_26 : L_26 q = some (100, f_25) := by rw [hL_26]; exact setL_s _ _ _ _
                    refine lv_aload hx hb dL_bagged_217 (lv_at hl 11 rfl) ?_
                    refine lv_iload hx hb dL_bagged_219 (lv_at hl 3 rfl) ?_
                    refine lv_iload hx hb dL_bagged_221 (lv_at hl 0 rfl) ?_
                    refine lv_if_eq (tgt := 232) hx hb dL_bagged_223 (by decide) (fun c223_27 => ?_) (fun c223_27 => ?_)
                    · exact absurd c223_27 (by decide)
                    · refine lv_iconst (v := nI 1) hx hb dL_bagged_226 (by decide) ?_
                      refine lv_iload_n hx hb dL_bagged_227 rfl (lv_at hl 8 rfl) ?_
                      refine lv_iadd hx hb dL_bagged_228 ?_
                      rw [show nI 1 + nI l0 = nI (1 + l0) from nI_add _ _]
                      refine lv_goto (tgt := 233) hx hb dL_bagged_229 (by decide) ?_
                      refine j_st C0 hH hJ hLr_L_20_L_23_L_26 (ix := p0) (by omega) (by decide) dL_bagged_233 (fun h H locs hH hJ => ?_)
                      obtain ⟨f_28, hf_28⟩ : ∃ z, z = upF R1 p0 (nI (1 + l0)) := ⟨_, rfl⟩
                      obtain ⟨L_29, hL_29⟩ : ∃ z, z = setL L_26 ra 40 f_28 := ⟨_, rfl⟩
                      rw [← hf_28, ← hL_29] at hJ
                      have hLn_L_20_L_23_L_26_L_29 : L_29 an = some (700, f) := by rw [hL_29, setL_o hra]; exact hLn_L_20_L_23_L_26
                      have hLr_L_20_L_23_L_26_L_29 : L_29 ra = some (40, f_28) := by rw [hL_29]; exact setL_s _ _ _ _
                      have hLq_L_20_L_23_L_26_L_29 : L_29 q = some (100, f_25) := by rw [hL_29, setL_o hne_q_ra]; exact hLq_L_20_L_23_L_26
                      refine lv_iinc (v := nI (r + 1)) (lv' := [(7, .int (nI (r + 1))), (11, .int (nI 1)), (10, .int (nI kF)), (9, .int (nI (140 + 12 * p0))), (8, .int (nI p0)), (6, .ref (q)), (0, .ref (o)), (1, .ref (an)), (2, .int (nI l0)), (3, .int (mi)), (4, .int (nI most)), (5, .ref (ra))]) hx hb dL_bagged_234 hl (k := 4) rfl (nI_add (r) 1) (by decide) rfl (fun ls hl => ?_)
                      refine lv_goto (tgt := 9) hx hb dL_bagged_237 (by decide) ?_
                      have e3 : f_25 = bgPut m p0 most g := by rw [hf_25, hf_22, hf_19]; unfold bgPut; rw [← hkF, if_neg (show ¬ (kF < most ∧ kF = bgN9 g) from fun z => c153_18 z.2), hg0, if_pos (show kF < most by omega), if_pos (show kF < most by omega)]
                      have e4 : f_28 = upF R1 p0 (if bgF m g p0 < most then nI (1 + l0) else -1) := by rw [hf_28, ← hkF, if_pos (show kF < most by omega)]
                      have hz := bgPut_0 (m := m) (p := p0) hg0 hgm hmost
                      refine W.widen (k := 1 + (UC cs2 - UC c)) (n := 100 + (US cs2 - US c)) (by omega) (by omega) ?_
                      exact ih (r + 1) (bgPut m p0 most g) (upF R1 p0 (if bgF m g p0 < most then nI (1 + l0) else -1)) cs2 (by omega) (by rw [← hE, if_pos hbc]; rfl) hz.1 hz.2 hS2 hwc ecs2 (by omega) h b H locs hH (by rw [← e3, ← e4]; rw [hL_29, hL_26, hL_23, hL_20, hL0, setL_2, setL_2, setL_2, setL_3 hqa] at hJ; exact hJ) ho ls (lv_sub hl [0, 5, 6, 7, 8, 9, 10, 11] rfl)
              · replace c153_18 : kF = bgN9 g := (nI_eq (a := kF) (b := bgN9 g) (by omega) (by omega)).mp c153_18
                refine lv_iload hx hb dL_bagged_156 (lv_at hl 1 rfl) ?_
                refine lv_iconst (v := nI 1) hx hb dL_bagged_158 (by decide) ?_
                refine lv_iadd hx hb dL_bagged_159 ?_
                rw [show nI kF + nI 1 = nI (kF + 1) from nI_add _ _]
                refine lv_goto (tgt := 167) hx hb dL_bagged_160 (by decide) ?_
                refine j_st C0 hH hJ hLq (ix := 0) (by omega) (by decide) dL_bagged_167 (fun h H locs hH hJ => ?_)
                obtain ⟨f_30, hf_30⟩ : ∃ z, z = upF g 0 (nI (kF + 1)) := ⟨_, rfl⟩
                obtain ⟨L_31, hL_31⟩ : ∃ z, z = setL L0 q 100 f_30 := ⟨_, rfl⟩
                rw [← hf_30, ← hL_31] at hJ
                have hLn_L_31 : L_31 an = some (700, f) := by rw [hL_31, setL_o hne_an_q]; exact hLn
                have hLr_L_31 : L_31 ra = some (40, R1) := by rw [hL_31, setL_o hne_ra_q]; exact hLr
                have hLq_L_31 : L_31 q = some (100, f_30) := by rw [hL_31]; exact setL_s _ _ _ _
                refine lv_aload hx hb dL_bagged_168 (lv_at hl 5 rfl) ?_
                refine lv_iconst (v := nI 1) hx hb dL_bagged_170 (by decide) ?_
                refine lv_iconst (v := nI 2) hx hb dL_bagged_171 (by decide) ?_
                refine lv_iload hx hb dL_bagged_172 (lv_at hl 1 rfl) ?_
                refine lv_imul hx hb dL_bagged_174 ?_
                rw [show nI 2 * nI kF = nI (2 * kF) from nI_mul]
                refine lv_iadd hx hb dL_bagged_175 ?_
                rw [show nI 1 + nI (2 * kF) = nI (1 + 2 * kF) from nI_add _ _]
                refine lv_iload hx hb dL_bagged_176 (lv_at hl 0 rfl) ?_
                refine lv_if_eq (tgt := 190) hx hb dL_bagged_178 (by decide) (fun c178_32 => ?_) (fun c178_32 => ?_)
                · exact absurd c178_32 (by decide)
                · refine lv_aload_n hx hb dL_bagged_181 rfl (lv_at hl 6 rfl) ?_
                  refine lv_iload hx hb dL_bagged_182 (lv_at hl 3 rfl) ?_
                  refine j_q0 (rest := [.int (nI (1 + 2 * kF)), .ref (q)]) C0 hH hJ ho (cN_X10_destination l hlt G _ _ b cs2 hJ.rest hwc (nI p0) (v_pX hS2 hw hwc hpp)) (v_pX hS2 hw hwc hpp) (v := m 14 p0) (v_pk hS2 hw hpp (k := 14) rfl) mv_X10_destination ml_L_128 rfl ⟨Nat.le_of_ble_eq_true rfl, Nat.le_of_ble_eq_true rfl⟩ hl.1 rfl (Nat.le_of_ble_eq_true rfl) dL_bagged_184 ⟨by show _ ≤ 1 + (UC (wtI l0 (rowC m l0) c) - UC c); omega, by show _ ≤ 100 + (US (wtI l0 (rowC m l0) c) - US c); omega⟩ (fun H locs hH => ?_)
                  refine lv_goto (tgt := 191) hx hb dL_bagged_187 (by decide) ?_
                  refine j_st C0 hH hJ hLq_L_31 (ix := 1 + 2 * kF) (by omega) (by decide) dL_bagged_191 (fun h H locs hH hJ => ?_)
                  obtain ⟨f_33, hf_33⟩ : ∃ z, z = upF f_30 (1 + 2 * kF) (m 14 p0) := ⟨_, rfl⟩
                  obtain ⟨L_34, hL_34⟩ : ∃ z, z = setL L_31 q 100 f_33 := ⟨_, rfl⟩
                  rw [← hf_33, ← hL_34] at hJ
                  have hLn_L_31_L_34 : L_34 an = some (700, f) := by rw [hL_34, setL_o hne_an_q]; exact hLn_L_31
                  have hLr_L_31_L_34 : L_34 ra = some (40, R1) := by rw [hL_34, setL_o hne_ra_q]; exact hLr_L_31
                  have hLq_L_31_L_34 : L_34 q = some (100, f_33) := by rw [hL_34]; exact setL_s _ _ _ _
                  refine lv_aload hx hb dL_bagged_192 (lv_at hl 5 rfl) ?_
                  refine lv_iconst (v := nI 2) hx hb dL_bagged_194 (by decide) ?_
                  refine lv_iconst (v := nI 2) hx hb dL_bagged_195 (by decide) ?_
                  refine lv_iload hx hb dL_bagged_196 (lv_at hl 1 rfl) ?_
                  refine lv_imul hx hb dL_bagged_198 ?_
                  rw [show nI 2 * nI kF = nI (2 * kF) from nI_mul]
                  refine lv_iadd hx hb dL_bagged_199 ?_
                  rw [show nI 2 + nI (2 * kF) = nI (2 + 2 * kF) from nI_add _ _]
                  refine lv_dup2_11 hx hb dL_bagged_200 rfl rfl ?_
                  refine j_ld C0 hH hJ hLq_L_31_L_34 (ix := 2 + 2 * kF) (by omega) (by decide) (v := g (2 + 2 * kF)) (by rw [hf_33, hf_30]; unfold upF; rw [if_neg (by omega), if_neg (by omega)]) dL_bagged_201 ?_
                  refine lv_iload hx hb dL_bagged_202 (lv_at hl 0 rfl) ?_
                  refine lv_if_eq (tgt := 214) hx hb dL_bagged_204 (by decide) (fun c204_35 => ?_) (fun c204_35 => ?_)
                  · exact absurd c204_35 (by decide)
                  · refine lv_aload_n hx hb dL_bagged_207 rfl (lv_at hl 7 rfl) ?_
                    refine lv_iload hx hb dL_bagged_208 (lv_at hl 2 rfl) ?_
                    refine j_ld C0 hH hJ hLn_L_31_L_34 (ix := 140 + 12 * p0) (by omega) (by decide) (v := m 11 p0) (hT.pa hpp).g0 dL_bagged_210 ?_
                    refine lv_goto (tgt := 215) hx hb dL_bagged_211 (by decide) ?_
                    refine lv_iadd hx hb dL_bagged_215 ?_
                    refine j_st C0 hH hJ hLq_L_31_L_34 (ix := 2 + 2 * kF) (by omega) (by decide) dL_bagged_216 (fun h H locs hH hJ => ?_)
                    obtain ⟨f_36, hf_36⟩ : ∃ z, z = upF f_33 (2 + 2 * kF) ((g (2 + 2 * kF)) + (m 11 p0)) := ⟨_, rfl⟩
                    obtain ⟨L_37, hL_37⟩ : ∃ z, z = setL L_34 q 100 f_36 := ⟨_, rfl⟩
                    rw [← hf_36, ← hL_37] at hJ
                    have hLn_L_31_L_34_L_37 : L_37 an = some (700, f) := by rw [hL_37, setL_o hne_an_q]; exact hLn_L_31_L_34
                    have hLr_L_31_L_34_L_37 : L_37 ra = some (40, R1) := by rw [hL_37, setL_o hne_ra_q]; exact hLr_L_31_L_34
                    have hLq_L_31_L_34_L_37 : L_37 q = some (100, f_36) := by rw [hL_37]; exact setL_s _ _ _ _
                    refine lv_aload hx hb dL_bagged_217 (lv_at hl 11 rfl) ?_
                    refine lv_iload hx hb dL_bagged_219 (lv_at hl 3 rfl) ?_
                    refine lv_iload hx hb dL_bagged_221 (lv_at hl 0 rfl) ?_
                    refine lv_if_eq (tgt := 232) hx hb dL_bagged_223 (by decide) (fun c223_38 => ?_) (fun c223_38 => ?_)
                    · exact absurd c223_38 (by decide)
                    · refine lv_iconst (v := nI 1) hx hb dL_bagged_226 (by decide) ?_
                      refine lv_iload_n hx hb dL_bagged_227 rfl (lv_at hl 8 rfl) ?_
                      refine lv_iadd hx hb dL_bagged_228 ?_
                      rw [show nI 1 + nI l0 = nI (1 + l0) from nI_add _ _]
                      refine lv_goto (tgt := 233) hx hb dL_bagged_229 (by decide) ?_
                      refine j_st C0 hH hJ hLr_L_31_L_34_L_37 (ix := p0) (by omega) (by decide) dL_bagged_233 (fun h H locs hH hJ => ?_)
                      obtain ⟨f_39, hf_39⟩ : ∃ z, z = upF R1 p0 (nI (1 + l0)) := ⟨_, rfl⟩
                      obtain ⟨L_40, hL_40⟩ : ∃ z, z = setL L_37 ra 40 f_39 := ⟨_, rfl⟩
                      rw [← hf_39, ← hL_40] at hJ
                      have hLn_L_31_L_34_L_37_L_40 : L_40 an = some (700, f) := by rw [hL_40, setL_o hra]; exact hLn_L_31_L_34_L_37
                      have hLr_L_31_L_34_L_37_L_40 : L_40 ra = some (40, f_39) := by rw [hL_40]; exact setL_s _ _ _ _
                      have hLq_L_31_L_34_L_37_L_40 : L_40 q = some (100, f_36) := by rw [hL_40, setL_o hne_q_ra]; exact hLq_L_31_L_34_L_37
                      refine lv_iinc (v := nI (r + 1)) (lv' := [(7, .int (nI (r + 1))), (11, .int (nI 1)), (10, .int (nI kF)), (9, .int (nI (140 + 12 * p0))), (8, .int (nI p0)), (6, .ref (q)), (0, .ref (o)), (1, .ref (an)), (2, .int (nI l0)), (3, .int (mi)), (4, .int (nI most)), (5, .ref (ra))]) hx hb dL_bagged_234 hl (k := 4) rfl (nI_add (r) 1) (by decide) rfl (fun ls hl => ?_)
                      refine lv_goto (tgt := 9) hx hb dL_bagged_237 (by decide) ?_
                      have e3 : f_36 = bgPut m p0 most g := by rw [hf_36, hf_33, hf_30]; unfold bgPut; rw [← hkF, if_pos (show kF < most ∧ kF = bgN9 g from ⟨by omega, by omega⟩), if_pos (show kF < most by omega), if_pos (show kF < most by omega)]
                      have e4 : f_39 = upF R1 p0 (if bgF m g p0 < most then nI (1 + l0) else -1) := by rw [hf_39, ← hkF, if_pos (show kF < most by omega)]
                      have hz := bgPut_0 (m := m) (p := p0) hg0 hgm hmost
                      refine W.widen (k := 1 + (UC cs2 - UC c)) (n := 100 + (US cs2 - US c)) (by omega) (by omega) ?_
                      exact ih (r + 1) (bgPut m p0 most g) (upF R1 p0 (if bgF m g p0 < most then nI (1 + l0) else -1)) cs2 (by omega) (by rw [← hE, if_pos hbc]; rfl) hz.1 hz.2 hS2 hwc ecs2 (by omega) h b H locs hH (by rw [← e3, ← e4]; rw [hL_40, hL_37, hL_34, hL_31, hL0, setL_2, setL_2, setL_2, setL_3 hqa] at hJ; exact hJ) ho ls (lv_sub hl [0, 5, 6, 7, 8, 9, 10, 11] rfl)
        have K2 : bgC m mi l0 p0 → ∀ (j k2 : Nat), k2 + j = bgN9 g → bgK m g p0 j k2 = kF → ∀ (H : Heap) (locs : List Loc) (hH : HS G.1 G.2.1 A s.heap h H locs) (ls : Array Slot), lv_has ls 12 [(10, .int (nI k2)), (9, .int (nI (140 + 12 * p0))), (8, .int (nI p0)), (7, .int (nI r)), (6, .ref (q)), (0, .ref (o)), (1, .ref (an)), (2, .int (nI l0)), (3, .int (mi)), (4, .int (nI most)), (5, .ref (ra))] → W pr l e (rmm 9 240 (1 + (UC (wtI l0 (rowC m l0) c) - UC c)) (100 + (US (wtI l0 (rowC m l0) c) - US c))) s m9 ([.ref (o), .ref (an), .int (nI l0), .int (mi), .int (nI most), .ref (ra)] : List Value).toArray below meth c9 H locs (1 + (UC cs - UC c) + (UC cs2 - UC cs)) (100 + (US cs - US c) + (US cs2 - US cs)) (MQ below (va_Qq (fun r h' => ∃ q, r = some q ∧ L q = none ∧ M q = none ∧ ∃ b', JW G.2.2.1 h' b' (wtI l0 (rowC m l0) c) (setL (setL L ra 40 (bgAll m mi l0 most R).2) q 100 (bgAll m mi l0 most R).1) M ∧ b' 14 0 = o ∧ WFc (wtI l0 (rowC m l0) c)) (fun h' t => HW G.1 G.2.1 A h' t.heap) A) ([.ref (o), .ref (an), .int (nI l0), .int (mi), .int (nI most), .ref (ra)] : List Value).toArray s (1 + (UC (wtI l0 (rowC m l0) c) - UC c)) (100 + (US (wtI l0 (rowC m l0) c) - US c)) A) (F0 m9 73 ls []) := by
          intro hbc j
          induction j with
          | zero =>
            intro k2 hk2 hkE H locs hH ls hl
            refine lv_iload hx hb dL_bagged_73 (lv_at hl 0 rfl) ?_
            refine lv_aload hx hb dL_bagged_75 (lv_at hl 4 rfl) ?_
            refine lv_iconst (v := nI 0) hx hb dL_bagged_77 (by decide) ?_
            refine j_ld C0 hH hJ hLq (ix := 0) (by omega) (by decide) (v := nI (bgN9 g)) hg0 dL_bagged_78 ?_
            refine lv_icmp_ge (tgt := 125) hx hb dL_bagged_79 (by decide) (fun c79_41 => ?_) (fun c79_41 => ?_)
            · replace c79_41 : bgN9 g ≤ k2 := (nI_leI (a := bgN9 g) (b := k2) (by omega) (by omega)).mp c79_41
              have e9 : k2 = kF := hkE
              rw [e9] at hl
              exact TT hbc H locs hH ls (lv_sub hl [0, 1, 2, 3, 4, 5, 6, 7, 8, 9, 10] rfl)
            · exact absurd ((nI_leI (by omega) (by omega)).mpr (show bgN9 g ≤ k2 by omega)) c79_41
          | succ j ih2 =>
            intro k2 hk2 hkE H locs hH ls hl
            refine lv_iload hx hb dL_bagged_73 (lv_at hl 0 rfl) ?_
            refine lv_aload hx hb dL_bagged_75 (lv_at hl 4 rfl) ?_
            refine lv_iconst (v := nI 0) hx hb dL_bagged_77 (by decide) ?_
            refine j_ld C0 hH hJ hLq (ix := 0) (by omega) (by decide) (v := nI (bgN9 g)) hg0 dL_bagged_78 ?_
            refine lv_icmp_ge (tgt := 125) hx hb dL_bagged_79 (by decide) (fun c79_42 => ?_) (fun c79_42 => ?_)
            · exact absurd ((nI_leI (by omega) (by omega)).mp c79_42) (by omega)
            · replace c79_42 : ¬ (bgN9 g ≤ k2) := fun z => c79_42 ((nI_leI (a := bgN9 g) (b := k2) (by omega) (by omega)).mpr z)
              refine lv_aload hx hb dL_bagged_82 (lv_at hl 4 rfl) ?_
              refine lv_iconst (v := nI 1) hx hb dL_bagged_84 (by decide) ?_
              refine lv_iconst (v := nI 2) hx hb dL_bagged_85 (by decide) ?_
              refine lv_iload hx hb dL_bagged_86 (lv_at hl 0 rfl) ?_
              refine lv_imul hx hb dL_bagged_88 ?_
              rw [show nI 2 * nI k2 = nI (2 * k2) from nI_mul]
              refine lv_iadd hx hb dL_bagged_89 ?_
              rw [show nI 1 + nI (2 * k2) = nI (1 + 2 * k2) from nI_add _ _]
              refine j_ld C0 hH hJ hLq (ix := 1 + 2 * k2) (by omega) (by decide) (v := g (1 + 2 * k2)) rfl dL_bagged_90 ?_
              refine lv_aload_n hx hb dL_bagged_91 rfl (lv_at hl 5 rfl) ?_
              refine lv_iload hx hb dL_bagged_92 (lv_at hl 2 rfl) ?_
              refine j_q0 (rest := [.int (g (1 + 2 * k2))]) C0 hH hJ ho (cN_X10_destination l hlt G _ _ b cs2 hJ.rest hwc (nI p0) (v_pX hS2 hw hwc hpp)) (v_pX hS2 hw hwc hpp) (v := m 14 p0) (v_pk hS2 hw hpp (k := 14) rfl) mv_X10_destination ml_L_128 rfl ⟨Nat.le_of_ble_eq_true rfl, Nat.le_of_ble_eq_true rfl⟩ hl.1 rfl (Nat.le_of_ble_eq_true rfl) dL_bagged_94 ⟨by show _ ≤ 1 + (UC (wtI l0 (rowC m l0) c) - UC c); omega, by show _ ≤ 100 + (US (wtI l0 (rowC m l0) c) - US c); omega⟩ (fun H locs hH => ?_)
              refine lv_icmp_ne (tgt := 119) hx hb dL_bagged_97 (by decide) (fun c97_43 => ?_) (fun c97_43 => ?_)
              · refine lv_iinc (v := nI (k2 + 1)) (lv' := [(10, .int (nI (k2 + 1))), (9, .int (nI (140 + 12 * p0))), (8, .int (nI p0)), (7, .int (nI r)), (6, .ref (q)), (0, .ref (o)), (1, .ref (an)), (2, .int (nI l0)), (3, .int (mi)), (4, .int (nI most)), (5, .ref (ra))]) hx hb dL_bagged_119 hl (k := 0) rfl (nI_add (k2) 1) (by decide) rfl (fun ls hl => ?_)
                refine lv_goto (tgt := 73) hx hb dL_bagged_122 (by decide) ?_
                exact ih2 (k2 + 1) (by omega) (by rw [← hkE]; show _ = if _ then _ else _; rw [if_pos (show ¬ g (1 + 2 * k2) = m 14 p0 ∨ 12 < g (2 + 2 * k2) + m 11 p0 from Or.inl c97_43)]) H locs hH ls (lv_sub hl [0, 1, 2, 3, 4, 5, 6, 7, 8, 9, 10] rfl)
              · refine lv_aload hx hb dL_bagged_100 (lv_at hl 4 rfl) ?_
                refine lv_iconst (v := nI 2) hx hb dL_bagged_102 (by decide) ?_
                refine lv_iconst (v := nI 2) hx hb dL_bagged_103 (by decide) ?_
                refine lv_iload hx hb dL_bagged_104 (lv_at hl 0 rfl) ?_
                refine lv_imul hx hb dL_bagged_106 ?_
                rw [show nI 2 * nI k2 = nI (2 * k2) from nI_mul]
                refine lv_iadd hx hb dL_bagged_107 ?_
                rw [show nI 2 + nI (2 * k2) = nI (2 + 2 * k2) from nI_add _ _]
                refine j_ld C0 hH hJ hLq (ix := 2 + 2 * k2) (by omega) (by decide) (v := g (2 + 2 * k2)) rfl dL_bagged_108 ?_
                refine lv_aload_n hx hb dL_bagged_109 rfl (lv_at hl 6 rfl) ?_
                refine lv_iload hx hb dL_bagged_110 (lv_at hl 1 rfl) ?_
                refine j_ld C0 hH hJ hLn (ix := 140 + 12 * p0) (by omega) (by decide) (v := m 11 p0) (hT.pa hpp).g0 dL_bagged_112 ?_
                refine lv_iadd hx hb dL_bagged_113 ?_
                refine lv_bipush (v := nI 12) hx hb dL_bagged_114 (by decide) ?_
                refine lv_icmp_le (tgt := 125) hx hb dL_bagged_116 (by decide) (fun c116_44 => ?_) (fun c116_44 => ?_)
                · have e9 : k2 = kF := by rw [← hkE]; show k2 = if _ then _ else _; rw [if_neg (show ¬ (¬ g (1 + 2 * k2) = m 14 p0 ∨ 12 < g (2 + 2 * k2) + m 11 p0) from fun z => z.elim (fun y => y c97_43) (fun y => Int32.not_lt.mpr c116_44 y))]
                  rw [e9] at hl
                  exact TT hbc H locs hH ls (lv_sub hl [0, 1, 2, 3, 4, 5, 6, 7, 8, 9, 10] rfl)
                · refine lv_iinc (v := nI (k2 + 1)) (lv' := [(10, .int (nI (k2 + 1))), (9, .int (nI (140 + 12 * p0))), (8, .int (nI p0)), (7, .int (nI r)), (6, .ref (q)), (0, .ref (o)), (1, .ref (an)), (2, .int (nI l0)), (3, .int (mi)), (4, .int (nI most)), (5, .ref (ra))]) hx hb dL_bagged_119 hl (k := 0) rfl (nI_add (k2) 1) (by decide) rfl (fun ls hl => ?_)
                  refine lv_goto (tgt := 73) hx hb dL_bagged_122 (by decide) ?_
                  exact ih2 (k2 + 1) (by omega) (by rw [← hkE]; show _ = if _ then _ else _; rw [if_pos (show ¬ g (1 + 2 * k2) = m 14 p0 ∨ 12 < g (2 + 2 * k2) + m 11 p0 from Or.inr (Int32.not_le.mp c116_44))]) H locs hH ls (lv_sub hl [0, 1, 2, 3, 4, 5, 6, 7, 8, 9, 10] rfl)
        refine lv_iload_n hx hb dL_bagged_39 rfl (lv_at hl 7 rfl) ?_
        refine lv_if_lt (tgt := 70) hx hb dL_bagged_40 (by decide) (fun c40_45 => ?_) (fun c40_45 => ?_)
        · refine lv_iconst (v := nI 0) hx hb dL_bagged_70 (by decide) ?_
          refine lv_istore (lv' := [(10, .int (nI 0)), (9, .int (nI (140 + 12 * p0))), (8, .int (nI p0)), (7, .int (nI r)), (6, .ref (q)), (0, .ref (o)), (1, .ref (an)), (2, .int (nI l0)), (3, .int (mi)), (4, .int (nI most)), (5, .ref (ra))]) hx hb dL_bagged_71 hl (by decide) rfl (fun ls hl => ?_)
          exact K2 (Or.inl c40_45) (bgN9 g) 0 (by omega) hkF.symm H locs hH ls (lv_sub hl [0, 1, 2, 3, 4, 5, 6, 7, 8, 9, 10] rfl)
        · refine lv_iload_n hx hb dL_bagged_43 rfl (lv_at hl 7 rfl) ?_
          refine lv_aload_n hx hb dL_bagged_44 rfl (lv_at hl 5 rfl) ?_
          refine lv_iload hx hb dL_bagged_45 (lv_at hl 0 rfl) ?_
          refine lv_iconst (v := nI 3) hx hb dL_bagged_47 (by decide) ?_
          refine lv_iadd hx hb dL_bagged_48 ?_
          rw [show nI (140 + 12 * p0) + nI 3 = nI (140 + 12 * p0 + 3) from nI_add _ _]
          refine j_ld C0 hH hJ hLn (ix := 140 + 12 * p0 + 3) (by omega) (by decide) (v := m 18 p0) (hT.pa hpp).g3 dL_bagged_49 ?_
          refine lv_isub hx hb dL_bagged_50 ?_
          refine lv_aload_n hx hb dL_bagged_51 rfl (lv_at hl 5 rfl) ?_
          refine lv_bipush (v := nI 11) hx hb dL_bagged_52 (by decide) ?_
          refine lv_iconst (v := nI 2) hx hb dL_bagged_54 (by decide) ?_
          refine lv_aload_n hx hb dL_bagged_55 rfl (lv_at hl 5 rfl) ?_
          refine lv_bipush (v := nI 30) hx hb dL_bagged_56 (by decide) ?_
          refine lv_bipush (v := nI 8) hx hb dL_bagged_58 (by decide) ?_
          refine lv_iload_n hx hb dL_bagged_60 rfl (lv_at hl 6 rfl) ?_
          refine lv_imul hx hb dL_bagged_61 ?_
          rw [show nI 8 * nI l0 = nI (8 * l0) from nI_mul]
          refine lv_iadd hx hb dL_bagged_62 ?_
          rw [show nI 30 + nI (8 * l0) = nI (30 + 8 * l0) from nI_add _ _]
          refine j_ld C0 hH hJ hLn (ix := 30 + 8 * l0) (by omega) (by decide) (v := nI (vN (m 2 l0))) ((hT.ln hl0 0 (by omega) (by omega)).trans e2) dL_bagged_63 ?_
          refine lv_imul hx hb dL_bagged_64 ?_
          rw [show nI 2 * nI (vN (m 2 l0)) = nI (2 * (vN (m 2 l0))) from nI_mul]
          refine lv_iadd hx hb dL_bagged_65 ?_
          rw [show nI 11 + nI (2 * (vN (m 2 l0))) = nI (11 + 2 * (vN (m 2 l0))) from nI_add _ _]
          refine j_ld C0 hH hJ hLn (ix := 11 + 2 * (vN (m 2 l0))) (by omega) (by decide) (v := m 1 (vN (m 2 l0))) (hT.ct hv2) dL_bagged_66 ?_
          refine lv_icmp_lt (tgt := 234) hx hb dL_bagged_67 (by decide) (fun c67_46 => ?_) (fun c67_46 => ?_)
          · refine lv_iinc (v := nI (r + 1)) (lv' := [(7, .int (nI (r + 1))), (9, .int (nI (140 + 12 * p0))), (8, .int (nI p0)), (6, .ref (q)), (0, .ref (o)), (1, .ref (an)), (2, .int (nI l0)), (3, .int (mi)), (4, .int (nI most)), (5, .ref (ra))]) hx hb dL_bagged_234 hl (k := 2) rfl (nI_add (r) 1) (by decide) rfl (fun ls hl => ?_)
            refine lv_goto (tgt := 9) hx hb dL_bagged_237 (by decide) ?_
            refine W.widen (k := 1 + (UC cs2 - UC c)) (n := 100 + (US cs2 - US c)) (by omega) (by omega) ?_
            exact ih (r + 1) g R1 cs2 (by omega) (by rw [← hE, if_neg (fun z => z.elim c40_45 (fun y => Int32.not_le.mpr c67_46 y))]) hg0 hgm hS2 hwc ecs2 (by omega) h b H locs hH (by rw [← hL0]; exact hJ) ho ls (lv_sub hl [0, 3, 4, 5, 6, 7, 8, 9] rfl)
          · refine lv_iconst (v := nI 0) hx hb dL_bagged_70 (by decide) ?_
            refine lv_istore (lv' := [(10, .int (nI 0)), (9, .int (nI (140 + 12 * p0))), (8, .int (nI p0)), (7, .int (nI r)), (6, .ref (q)), (0, .ref (o)), (1, .ref (an)), (2, .int (nI l0)), (3, .int (mi)), (4, .int (nI most)), (5, .ref (ra))]) hx hb dL_bagged_71 hl (by decide) rfl (fun ls hl => ?_)
            exact K2 (Or.inr (Int32.not_lt.mp c67_46)) (bgN9 g) 0 (by omega) hkF.symm H locs hH ls (lv_sub hl [0, 1, 2, 3, 4, 5, 6, 7, 8, 9, 10] rfl)
  rw [hL_1, show setL L q 100 (fun _ => 0) = setL (setL L ra 40 R) q 100 (fun _ => 0) by rw [setL_id hR]] at hJ
  refine W.widen (k := 1 + (UC c - UC c)) (n := 100 + (US c - US c)) (by omega) (by omega) ?_
  exact K (rowC m l0) 0 (fun _ => 0) R c (by omega) rfl rfl (Nat.zero_le _) hS hwc rfl ⟨Nat.le_refl _, Nat.le_refl _⟩ _ b _ _ hH hJ ho ls (lv_sub hl [0, 1, 2, 3, 4, 5, 6, 7] rfl)
