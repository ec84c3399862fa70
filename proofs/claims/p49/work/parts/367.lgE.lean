set_option maxHeartbeats 1600000 in
set_option maxRecDepth 100000 in
theorem lL_areBagged (l : Launch) (hlt : l.stackTraces = false) (Sc : SCR) (G : GT) (A : Nat → Prop) (h : AH) (b : BA) (c m : MM) (n : Nat) (L : LNum) (M : LRef) (o : Nat) (hJ : JW G.2.2.1 h b c L M) (ho : b 14 0 = o) (hwc : WFc c) (hS : Sim n c m) (hw : WFa m) (an : Nat) (f : Nat → Int32) (hL : L an = some (700, f)) (hT : NT f m) (ba : Nat) (fB : Nat → Option Nat) (hM : M ba = some (12, fB)) (hBg : BgsP m L fB) : lcI l Sc G A yL_areBagged cL_areBagged 7 (Option.some FieldType.boolean) 9 157 24 144 [.ref (o), .ref (an), .ref (ba)] h (fun r h' => r = nI 1 ∧ h' = h) := by
  refine lm_of rfl (Nat.le_of_ble_eq_true rfl) ?_
  intro pr e s m9 below meth c9 C0 hN hr hH ls hl
  obtain ⟨hx, hb, hml, hown, hts, hK, hA, -⟩ := id C0
  have hl : lv_has ls 7 [(0, .ref (o)), (1, .ref (an)), (2, .ref (ba))] := hl
  have n40 := hw.np.2
  have n6 := hw.nh.2
  have nl12 := hw.nl.2
  refine lv_iconst (v := nI 0) hx hb dL_areBagged_0 (by decide) ?_
  refine lv_istore_n (lv' := [(3, .int (nI 0)), (0, .ref (o)), (1, .ref (an)), (2, .ref (ba))]) hx hb dL_areBagged_1 rfl hl (by decide) rfl (fun ls hl => ?_)
  have K : ∀ (j l0 : Nat), l0 + j = nlN m → ∀ (H : Heap) (locs : List Loc) (hH : HS G.1 G.2.1 A s.heap h H locs) (ls : Array Slot), lv_has ls 7 [(3, .int (nI l0)), (0, .ref (o)), (1, .ref (an)), (2, .ref (ba))] → W pr l e (rmm 9 157 24 144) s m9 ([.ref (o), .ref (an), .ref (ba)] : List Value).toArray below meth c9 H locs (2 * l0) (12 * l0) (MQ below (va_Qi (fun r h' => r = nI 1 ∧ h' = h) (fun h' t => HW G.1 G.2.1 A h' t.heap) A) ([.ref (o), .ref (an), .ref (ba)] : List Value).toArray s 24 144 A) (F0 m9 2 ls []) := by
    intro j
    induction j with
    | zero =>
      intro l0 hj H locs hH ls hl
      refine lv_iload_n hx hb dL_areBagged_2 rfl (lv_at hl 0 rfl) ?_
      refine lv_aload_n hx hb dL_areBagged_3 rfl (lv_at hl 2 rfl) ?_
      refine lv_iconst (v := nI 1) hx hb dL_areBagged_4 (by decide) ?_
      refine j_ld C0 hH hJ hL (ix := 1) (by omega) (by decide) (v := nI (nlN m)) hT.l0 dL_areBagged_5 ?_
      refine lv_icmp_ge (tgt := 167) hx hb dL_areBagged_6 (by decide) (fun c6_1 => ?_) (fun c6_1 => ?_)
      · replace c6_1 : nlN m ≤ l0 := (nI_leI (a := nlN m) (b := l0) (by omega) (by omega)).mp c6_1
        refine lv_iconst (v := nI 1) hx hb dL_areBagged_167 (by decide) ?_
        exact e_Z C0 hr (by decide) hH ⟨rfl, rfl⟩ (by omega) (by omega) dL_areBagged_168
      · exact absurd ((nI_leI (by omega) (by omega)).mpr (show nlN m ≤ l0 by omega)) c6_1
    | succ j ih =>
      intro l0 hj H locs hH ls hl
      have hl0 : l0 < nlN m := by omega
      refine lv_iload_n hx hb dL_areBagged_2 rfl (lv_at hl 0 rfl) ?_
      refine lv_aload_n hx hb dL_areBagged_3 rfl (lv_at hl 2 rfl) ?_
      refine lv_iconst (v := nI 1) hx hb dL_areBagged_4 (by decide) ?_
      refine j_ld C0 hH hJ hL (ix := 1) (by omega) (by decide) (v := nI (nlN m)) hT.l0 dL_areBagged_5 ?_
      refine lv_icmp_ge (tgt := 167) hx hb dL_areBagged_6 (by decide) (fun c6_2 => ?_) (fun c6_2 => ?_)
      · exact absurd ((nI_leI (by omega) (by omega)).mp c6_2) (by omega)
      · replace c6_2 : ¬ (nlN m ≤ l0) := fun z => c6_2 ((nI_leI (a := nlN m) (b := l0) (by omega) (by omega)).mpr z)
        refine lv_iconst (v := nI 0) hx hb dL_areBagged_9 (by decide) ?_
        refine lv_istore (lv' := [(4, .int (nI 0)), (3, .int (nI l0)), (0, .ref (o)), (1, .ref (an)), (2, .ref (ba))]) hx hb dL_areBagged_10 hl (by decide) rfl (fun ls hl => ?_)
        refine lv_iconst (v := nI 0) hx hb dL_areBagged_12 (by decide) ?_
        refine lv_istore (lv' := [(5, .int (nI 0)), (4, .int (nI 0)), (3, .int (nI l0)), (0, .ref (o)), (1, .ref (an)), (2, .ref (ba))]) hx hb dL_areBagged_13 hl (by decide) rfl (fun ls hl => ?_)
        have hrd := rdN_le m (nI l0) (npN m) 0 0
        have TL : ∀ (H : Heap) (locs : List Loc) (hH : HS G.1 G.2.1 A s.heap h H locs) (ls : Array Slot), lv_has ls 7 [(4, .int (nI (rdN m (nI l0) (npN m) 0 0))), (3, .int (nI l0)), (0, .ref (o)), (1, .ref (an)), (2, .ref (ba))] → W pr l e (rmm 9 157 24 144) s m9 ([.ref (o), .ref (an), .ref (ba)] : List Value).toArray below meth c9 H locs (2 * l0) (12 * l0) (MQ below (va_Qi (fun r h' => r = nI 1 ∧ h' = h) (fun h' t => HW G.1 G.2.1 A h' t.heap) A) ([.ref (o), .ref (an), .ref (ba)] : List Value).toArray s 24 144 A) (F0 m9 65 ls []) := by
          intro H locs hH ls hl
          refine lv_aload_n hx hb dL_areBagged_65 rfl (lv_at hl 2 rfl) ?_
          refine lv_iload_n hx hb dL_areBagged_66 rfl (lv_at hl 1 rfl) ?_
          refine j_q0 (rest := []) C0 hH hJ ho (cN_X10_riding l hlt G _ _ b c hJ.rest hwc (nI l0) (v_lX hS hw hwc hl0)) (v_lX hS hw hwc hl0) (v := nI (rdN m (nI l0) (npN m) 0 0)) ((v_rdg hS (nI l0)).trans (rdN_eq m (nI l0) (npN m) 0 0)) mv_X10_riding ml_L_238 rfl ⟨Nat.le_of_ble_eq_true rfl, Nat.le_of_ble_eq_true rfl⟩ hl.1 rfl (Nat.le_of_ble_eq_true rfl) dL_areBagged_67 ⟨by show _ ≤ 24; omega, by show _ ≤ 144; omega⟩ (fun H locs hH => ?_)
          refine lv_iload hx hb dL_areBagged_70 (lv_at hl 0 rfl) ?_
          refine lv_icmp_eq (tgt := 77) hx hb dL_areBagged_72 (by decide) (fun c72_3 => ?_) (fun c72_3 => ?_)
          · replace c72_3 : rdN m (nI l0) (npN m) 0 0 = rdN m (nI l0) (npN m) 0 0 := (nI_eq (a := rdN m (nI l0) (npN m) 0 0) (b := rdN m (nI l0) (npN m) 0 0) (by omega) (by omega)).mp c72_3
            rcases hBg l0 hl0 with hb0 | ⟨q, g, bn, hb0, hLq, hbn, hg0, hgb⟩
            · refine lv_aload_n hx hb dL_areBagged_77 rfl (lv_at hl 4 rfl) ?_
              refine lv_iload_n hx hb dL_areBagged_78 rfl (lv_at hl 1 rfl) ?_
              refine j_ldM C0 hH hJ hM (ix := l0) (by omega) (by decide) (v := none) hb0 dL_areBagged_79 ?_
              refine lv_ifnonnullN hx hb dL_areBagged_80 ?_
              refine lv_iconst (v := nI 0) hx hb dL_areBagged_83 (by decide) ?_
              refine lv_goto (tgt := 92) hx hb dL_areBagged_84 (by decide) ?_
              refine lv_istore (lv' := [(5, .int (nI 0)), (4, .int (nI (rdN m (nI l0) (npN m) 0 0))), (3, .int (nI l0)), (0, .ref (o)), (1, .ref (an)), (2, .ref (ba))]) hx hb dL_areBagged_92 hl (by decide) rfl (fun ls hl => ?_)
              refine lv_iload hx hb dL_areBagged_94 (lv_at hl 0 rfl) ?_
              refine lv_if_le (tgt := 123) hx hb dL_areBagged_96 (by decide) (fun c96_4 => ?_) (fun c96_4 => ?_)
              · refine lv_iconst (v := nI 0) hx hb dL_areBagged_123 (by decide) ?_
                refine lv_istore (lv' := [(6, .int (nI 0)), (5, .int (nI 0)), (4, .int (nI (rdN m (nI l0) (npN m) 0 0))), (3, .int (nI l0)), (0, .ref (o)), (1, .ref (an)), (2, .ref (ba))]) hx hb dL_areBagged_124 hl (by decide) rfl (fun ls hl => ?_)
                refine lv_iload hx hb dL_areBagged_126 (lv_at hl 0 rfl) ?_
                refine lv_iload hx hb dL_areBagged_128 (lv_at hl 1 rfl) ?_
                refine lv_icmp_ge (tgt := 161) hx hb dL_areBagged_130 (by decide) (fun c130_5 => ?_) (fun c130_5 => ?_)
                · refine lv_iinc (v := nI (l0 + 1)) (lv' := [(3, .int (nI (l0 + 1))), (6, .int (nI 0)), (5, .int (nI 0)), (4, .int (nI (rdN m (nI l0) (npN m) 0 0))), (0, .ref (o)), (1, .ref (an)), (2, .ref (ba))]) hx hb dL_areBagged_161 hl (k := 3) rfl (nI_add (l0) 1) (by decide) rfl (fun ls hl => ?_)
                  refine lv_goto (tgt := 2) hx hb dL_areBagged_164 (by decide) ?_
                  refine W.widen (k := 2 * (l0 + 1)) (n := 12 * (l0 + 1)) (by omega) (by omega) ?_
                  exact ih (l0 + 1) (by omega) H locs hH ls (lv_sub hl [0, 4, 5, 6] rfl)
                · exact absurd (by decide) c130_5
              · exact absurd (by decide) c96_4
            · refine lv_aload_n hx hb dL_areBagged_77 rfl (lv_at hl 4 rfl) ?_
              refine lv_iload_n hx hb dL_areBagged_78 rfl (lv_at hl 1 rfl) ?_
              refine j_ldM C0 hH hJ hM (ix := l0) (by omega) (by decide) (v := some q) hb0 dL_areBagged_79 ?_
              refine lv_ifnonnull (tgt := 87) hx hb dL_areBagged_80 (by decide) ?_
              refine lv_aload_n hx hb dL_areBagged_87 rfl (lv_at hl 4 rfl) ?_
              refine lv_iload_n hx hb dL_areBagged_88 rfl (lv_at hl 1 rfl) ?_
              refine j_ldM C0 hH hJ hM (ix := l0) (by omega) (by decide) (v := some q) hb0 dL_areBagged_89 ?_
              refine lv_iconst (v := nI 0) hx hb dL_areBagged_90 (by decide) ?_
              refine j_ld C0 hH hJ hLq (ix := 0) (by omega) (by decide) (v := nI bn) hg0 dL_areBagged_91 ?_
              refine lv_istore (lv' := [(5, .int (nI bn)), (4, .int (nI (rdN m (nI l0) (npN m) 0 0))), (3, .int (nI l0)), (0, .ref (o)), (1, .ref (an)), (2, .ref (ba))]) hx hb dL_areBagged_92 hl (by decide) rfl (fun ls hl => ?_)
              refine lv_iload hx hb dL_areBagged_94 (lv_at hl 0 rfl) ?_
              refine lv_if_le (tgt := 123) hx hb dL_areBagged_96 (by decide) (fun c96_6 => ?_) (fun c96_6 => ?_)
              · replace c96_6 : bn ≤ 0 := (nI_leI (a := bn) (b := 0) (by omega) (by omega)).mp c96_6
                refine lv_iconst (v := nI 0) hx hb dL_areBagged_123 (by decide) ?_
                refine lv_istore (lv' := [(6, .int (nI 0)), (5, .int (nI bn)), (4, .int (nI (rdN m (nI l0) (npN m) 0 0))), (3, .int (nI l0)), (0, .ref (o)), (1, .ref (an)), (2, .ref (ba))]) hx hb dL_areBagged_124 hl (by decide) rfl (fun ls hl => ?_)
                refine lv_iload hx hb dL_areBagged_126 (lv_at hl 0 rfl) ?_
                refine lv_iload hx hb dL_areBagged_128 (lv_at hl 1 rfl) ?_
                refine lv_icmp_ge (tgt := 161) hx hb dL_areBagged_130 (by decide) (fun c130_7 => ?_) (fun c130_7 => ?_)
                · replace c130_7 : bn ≤ 0 := (nI_leI (a := bn) (b := 0) (by omega) (by omega)).mp c130_7
                  refine lv_iinc (v := nI (l0 + 1)) (lv' := [(3, .int (nI (l0 + 1))), (6, .int (nI 0)), (5, .int (nI bn)), (4, .int (nI (rdN m (nI l0) (npN m) 0 0))), (0, .ref (o)), (1, .ref (an)), (2, .ref (ba))]) hx hb dL_areBagged_161 hl (k := 3) rfl (nI_add (l0) 1) (by decide) rfl (fun ls hl => ?_)
                  refine lv_goto (tgt := 2) hx hb dL_areBagged_164 (by decide) ?_
                  refine W.widen (k := 2 * (l0 + 1)) (n := 12 * (l0 + 1)) (by omega) (by omega) ?_
                  exact ih (l0 + 1) (by omega) H locs hH ls (lv_sub hl [0, 4, 5, 6] rfl)
                · exact absurd ((nI_leI (by omega) (by omega)).mpr (show bn ≤ 0 by omega)) c130_7
              · replace c96_6 : ¬ (bn ≤ 0) := fun z => c96_6 ((nI_leI (a := bn) (b := 0) (by omega) (by omega)).mpr z)
                obtain ⟨e8, e10⟩ := hgb (by omega)
                refine lv_aload_n hx hb dL_areBagged_99 rfl (lv_at hl 3 rfl) ?_
                refine lv_iload_n hx hb dL_areBagged_100 rfl (lv_at hl 2 rfl) ?_
                refine j_q0 (rest := []) C0 hH hJ ho (cN_X10_bags l hlt G _ _ b c hJ.rest hwc (nI l0) (v_lX hS hw hwc hl0)) (v_lX hS hw hwc hl0) (v := nI bn) ((v_bags hS hw hl0).trans e8) mv_X10_bags ml_L_241 rfl ⟨Nat.le_of_ble_eq_true rfl, Nat.le_of_ble_eq_true rfl⟩ hl.1 rfl (Nat.le_of_ble_eq_true rfl) dL_areBagged_101 ⟨by show _ ≤ 24; omega, by show _ ≤ 144; omega⟩ (fun H locs hH => ?_)
                refine lv_iload hx hb dL_areBagged_104 (lv_at hl 0 rfl) ?_
                refine lv_icmp_ne (tgt := 121) hx hb dL_areBagged_106 (by decide) (fun c106_8 => ?_) (fun c106_8 => ?_)
                · exact absurd rfl c106_8
                · replace c106_8 : bn = bn := (nI_eq (a := bn) (b := bn) (by omega) (by omega)).mp c106_8
                  refine lv_aload_n hx hb dL_areBagged_109 rfl (lv_at hl 3 rfl) ?_
                  refine lv_iload_n hx hb dL_areBagged_110 rfl (lv_at hl 2 rfl) ?_
                  refine lv_iload hx hb dL_areBagged_111 (lv_at hl 0 rfl) ?_
                  have hbx := v_bvX hS hw hwc hl0
                  rw [e8, show vN (nI bn) = bn from nI_clamp (by omega)] at hbx
                  refine j_w0 (As := [.int (nI l0), .int (nI bn)]) (rest := []) (v := -900002) C0 hN hH ho (lW_bagVolume (nI l0) (nI bn) hJ.own hJ.obj (cC_X10_bagVolume l hlt G _ _ b c hJ.rest hwc (nI l0) (nI bn)) (hin_x hbx (fun E h9 z => z.1) ⟨_, List.mem_cons_of_mem _ List.mem_cons_self⟩)) (hv_x0 hbx rfl (fun r h9 z => z.1)) ms_L_bagVolume ml_L_244 rfl ⟨Nat.le_of_ble_eq_true rfl, Nat.le_of_ble_eq_true rfl⟩ hl.1 rfl (Nat.le_of_ble_eq_true rfl) dL_areBagged_113 ⟨by show _ ≤ 24; omega, by show _ ≤ 144; omega⟩ (fun H locs hH => ?_)
                  refine lv_ldc hx hb hown (hts _ kl_L_20) dL_areBagged_116 ?_
                  refine lv_icmp_eq (tgt := 123) hx hb dL_areBagged_118 (by decide) (fun c118_9 => ?_) (fun c118_9 => ?_)
                  · refine lv_iconst (v := nI 0) hx hb dL_areBagged_123 (by decide) ?_
                    refine lv_istore (lv' := [(6, .int (nI 0)), (5, .int (nI bn)), (4, .int (nI (rdN m (nI l0) (npN m) 0 0))), (3, .int (nI l0)), (0, .ref (o)), (1, .ref (an)), (2, .ref (ba))]) hx hb dL_areBagged_124 hl (by decide) rfl (fun ls hl => ?_)
                    have K3 : ∀ (j3 k : Nat), k + j3 = bn → ∀ (H : Heap) (locs : List Loc) (hH : HS G.1 G.2.1 A s.heap h H locs) (ls : Array Slot), lv_has ls 7 [(6, .int (nI k)), (5, .int (nI bn)), (4, .int (nI (rdN m (nI l0) (npN m) 0 0))), (3, .int (nI l0)), (0, .ref (o)), (1, .ref (an)), (2, .ref (ba))] → W pr l e (rmm 9 157 24 144) s m9 ([.ref (o), .ref (an), .ref (ba)] : List Value).toArray below meth c9 H locs (2 * l0 + 2) (12 * l0 + 12) (MQ below (va_Qi (fun r h' => r = nI 1 ∧ h' = h) (fun h' t => HW G.1 G.2.1 A h' t.heap) A) ([.ref (o), .ref (an), .ref (ba)] : List Value).toArray s 24 144 A) (F0 m9 126 ls []) := by
                      intro j3
                      induction j3 with
                      | zero =>
                        intro k hk H locs hH ls hl
                        refine lv_iload hx hb dL_areBagged_126 (lv_at hl 0 rfl) ?_
                        refine lv_iload hx hb dL_areBagged_128 (lv_at hl 1 rfl) ?_
                        refine lv_icmp_ge (tgt := 161) hx hb dL_areBagged_130 (by decide) (fun c130_10 => ?_) (fun c130_10 => ?_)
                        · replace c130_10 : bn ≤ k := (nI_leI (a := bn) (b := k) (by omega) (by omega)).mp c130_10
                          refine lv_iinc (v := nI (l0 + 1)) (lv' := [(3, .int (nI (l0 + 1))), (6, .int (nI k)), (5, .int (nI bn)), (4, .int (nI (rdN m (nI l0) (npN m) 0 0))), (0, .ref (o)), (1, .ref (an)), (2, .ref (ba))]) hx hb dL_areBagged_161 hl (k := 3) rfl (nI_add (l0) 1) (by decide) rfl (fun ls hl => ?_)
                          refine lv_goto (tgt := 2) hx hb dL_areBagged_164 (by decide) ?_
                          refine W.widen (k := 2 * (l0 + 1)) (n := 12 * (l0 + 1)) (by omega) (by omega) ?_
                          exact ih (l0 + 1) (by omega) H locs hH ls (lv_sub hl [0, 4, 5, 6] rfl)
                        · exact absurd ((nI_leI (by omega) (by omega)).mpr (show bn ≤ k by omega)) c130_10
                      | succ j3 ih3 =>
                        intro k hk H locs hH ls hl
                        refine lv_iload hx hb dL_areBagged_126 (lv_at hl 0 rfl) ?_
                        refine lv_iload hx hb dL_areBagged_128 (lv_at hl 1 rfl) ?_
                        refine lv_icmp_ge (tgt := 161) hx hb dL_areBagged_130 (by decide) (fun c130_11 => ?_) (fun c130_11 => ?_)
                        · exact absurd ((nI_leI (by omega) (by omega)).mp c130_11) (by omega)
                        · replace c130_11 : ¬ (bn ≤ k) := fun z => c130_11 ((nI_leI (a := bn) (b := k) (by omega) (by omega)).mpr z)
                          refine lv_aload_n hx hb dL_areBagged_133 rfl (lv_at hl 4 rfl) ?_
                          refine lv_iload_n hx hb dL_areBagged_134 rfl (lv_at hl 3 rfl) ?_
                          refine lv_iload hx hb dL_areBagged_135 (lv_at hl 0 rfl) ?_
                          have hbv := v_bv hS hw hwc hl0 (k := k) (by rw [e8, show vN (nI bn) = bn from nI_clamp (by omega)]; omega)
                          refine j_w0 (As := [.int (nI l0), .int (nI k)]) (rest := []) (v := g (2 + 2 * k)) C0 hN hH ho (lW_bagVolume (nI l0) (nI k) hJ.own hJ.obj (cN_X10_bagVolume l hlt G _ _ b c hJ.rest hwc (nI l0) (nI k) hbv.1) (hin_n hbv.1 (fun E h9 z => z.1))) (fun r h9 z => z.elim (fun y => ⟨y.2.1.trans (hbv.2.trans (e10 k (by omega))), y.2.2⟩) (fun ⟨E, y, _⟩ => absurd (hbv.1.symm.trans y.1) (fun q => nomatch q))) ms_L_bagVolume ml_L_244 rfl ⟨Nat.le_of_ble_eq_true rfl, Nat.le_of_ble_eq_true rfl⟩ hl.1 rfl (Nat.le_of_ble_eq_true rfl) dL_areBagged_137 ⟨by show _ ≤ 24; omega, by show _ ≤ 144; omega⟩ (fun H locs hH => ?_)
                          refine lv_aload_n hx hb dL_areBagged_140 rfl (lv_at hl 6 rfl) ?_
                          refine lv_iload_n hx hb dL_areBagged_141 rfl (lv_at hl 3 rfl) ?_
                          refine j_ldM C0 hH hJ hM (ix := l0) (by omega) (by decide) (v := some q) hb0 dL_areBagged_142 ?_
                          refine lv_iconst (v := nI 2) hx hb dL_areBagged_143 (by decide) ?_
                          refine lv_iconst (v := nI 2) hx hb dL_areBagged_144 (by decide) ?_
                          refine lv_iload hx hb dL_areBagged_145 (lv_at hl 0 rfl) ?_
                          refine lv_imul hx hb dL_areBagged_147 ?_
                          rw [show nI 2 * nI k = nI (2 * k) from nI_mul]
                          refine lv_iadd hx hb dL_areBagged_148 ?_
                          rw [show nI 2 + nI (2 * k) = nI (2 + 2 * k) from nI_add _ _]
                          refine j_ld C0 hH hJ hLq (ix := 2 + 2 * k) (by omega) (by decide) (v := g (2 + 2 * k)) rfl dL_areBagged_149 ?_
                          refine lv_icmp_eq (tgt := 155) hx hb dL_areBagged_150 (by decide) (fun c150_12 => ?_) (fun c150_12 => ?_)
                          · refine lv_iinc (v := nI (k + 1)) (lv' := [(6, .int (nI (k + 1))), (5, .int (nI bn)), (4, .int (nI (rdN m (nI l0) (npN m) 0 0))), (3, .int (nI l0)), (0, .ref (o)), (1, .ref (an)), (2, .ref (ba))]) hx hb dL_areBagged_155 hl (k := 0) rfl (nI_add (k) 1) (by decide) rfl (fun ls hl => ?_)
                            refine lv_goto (tgt := 126) hx hb dL_areBagged_158 (by decide) ?_
                            exact ih3 (k + 1) (by omega) H locs hH ls (lv_sub hl [0, 1, 2, 3, 4, 5, 6] rfl)
                          · exact absurd rfl c150_12
                    exact K3 bn 0 (by omega) H locs hH ls (lv_sub hl [0, 1, 2, 3, 4, 5, 6] rfl)
                  · exact absurd (by decide) c118_9
          · exact absurd rfl c72_3
        have K1 : ∀ (k p a : Nat), p + k = npN m → rdN m (nI l0) k p a = rdN m (nI l0) (npN m) 0 0 → a ≤ p → ∀ (H : Heap) (locs : List Loc) (hH : HS G.1 G.2.1 A s.heap h H locs) (ls : Array Slot), lv_has ls 7 [(5, .int (nI p)), (4, .int (nI a)), (3, .int (nI l0)), (0, .ref (o)), (1, .ref (an)), (2, .ref (ba))] → W pr l e (rmm 9 157 24 144) s m9 ([.ref (o), .ref (an), .ref (ba)] : List Value).toArray below meth c9 H locs (2 * l0) (12 * l0) (MQ below (va_Qi (fun r h' => r = nI 1 ∧ h' = h) (fun h' t => HW G.1 G.2.1 A h' t.heap) A) ([.ref (o), .ref (an), .ref (ba)] : List Value).toArray s 24 144 A) (F0 m9 15 ls []) := by
          intro k
          induction k with
          | zero =>
            intro p a hk hE hap H locs hH ls hl
            refine lv_iload hx hb dL_areBagged_15 (lv_at hl 0 rfl) ?_
            refine lv_aload_n hx hb dL_areBagged_17 rfl (lv_at hl 4 rfl) ?_
            refine lv_iconst (v := nI 2) hx hb dL_areBagged_18 (by decide) ?_
            refine j_ld C0 hH hJ hL (ix := 2) (by omega) (by decide) (v := nI (npN m)) hT.p0 dL_areBagged_19 ?_
            refine lv_icmp_ge (tgt := 65) hx hb dL_areBagged_20 (by decide) (fun c20_13 => ?_) (fun c20_13 => ?_)
            · replace c20_13 : npN m ≤ p := (nI_leI (a := npN m) (b := p) (by omega) (by omega)).mp c20_13
              have ea : a = rdN m (nI l0) (npN m) 0 0 := hE
              rw [ea] at hl
              exact TL H locs hH ls (lv_sub hl [1, 2, 3, 4, 5] rfl)
            · exact absurd ((nI_leI (by omega) (by omega)).mpr (show npN m ≤ p by omega)) c20_13
          | succ k ih1 =>
            intro p a hk hE hap H locs hH ls hl
            have hp : p < npN m := by omega
            refine lv_iload hx hb dL_areBagged_15 (lv_at hl 0 rfl) ?_
            refine lv_aload_n hx hb dL_areBagged_17 rfl (lv_at hl 4 rfl) ?_
            refine lv_iconst (v := nI 2) hx hb dL_areBagged_18 (by decide) ?_
            refine j_ld C0 hH hJ hL (ix := 2) (by omega) (by decide) (v := nI (npN m)) hT.p0 dL_areBagged_19 ?_
            refine lv_icmp_ge (tgt := 65) hx hb dL_areBagged_20 (by decide) (fun c20_14 => ?_) (fun c20_14 => ?_)
            · exact absurd ((nI_leI (by omega) (by omega)).mp c20_14) (by omega)
            · replace c20_14 : ¬ (npN m ≤ p) := fun z => c20_14 ((nI_leI (a := npN m) (b := p) (by omega) (by omega)).mpr z)
              refine lv_iload hx hb dL_areBagged_23 (lv_at hl 1 rfl) ?_
              refine lv_aload_n hx hb dL_areBagged_25 rfl (lv_at hl 3 rfl) ?_
              refine lv_iload hx hb dL_areBagged_26 (lv_at hl 0 rfl) ?_
              refine j_w0 (As := [.int (nI p)]) (rest := [.int (nI a)]) (v := m 28 p) C0 hN hH ho (lW_state (nI p) hJ.own hJ.obj (cN_X10_state l hlt G _ _ b c hJ.rest hwc (nI p) (v_nar28 hS hw hp) (v_pX hS hw hwc hp)) (fun E h9 z => absurd ((v_pX hS hw hwc hp).symm.trans z.1) (fun y => nomatch y))) (fun r h9 z => z.elim (fun y => ⟨y.2.1.trans (v_pk hS hw hp (k := 28) rfl), y.2.2⟩) (fun ⟨E, y, _⟩ => absurd ((v_pX hS hw hwc hp).symm.trans y.1) (fun q => nomatch q))) ms_L_state ml_L_147 rfl ⟨Nat.le_of_ble_eq_true rfl, Nat.le_of_ble_eq_true rfl⟩ hl.1 rfl (Nat.le_of_ble_eq_true rfl) dL_areBagged_28 ⟨by show _ ≤ 24; omega, by show _ ≤ 144; omega⟩ (fun H locs hH => ?_)
              refine lv_bipush (v := nI 116) hx hb dL_areBagged_31 (by decide) ?_
              refine lv_icmp_ne (tgt := 55) hx hb dL_areBagged_33 (by decide) (fun c33_15 => ?_) (fun c33_15 => ?_)
              · refine lv_iconst (v := nI 0) hx hb dL_areBagged_55 (by decide) ?_
                refine lv_iadd hx hb dL_areBagged_56 ?_
                rw [show nI a + nI 0 = nI (a + 0) from nI_add _ _]
                refine lv_istore (lv' := [(4, .int (nI (a + 0))), (5, .int (nI p)), (3, .int (nI l0)), (0, .ref (o)), (1, .ref (an)), (2, .ref (ba))]) hx hb dL_areBagged_57 hl (by decide) rfl (fun ls hl => ?_)
                refine lv_iinc (v := nI (p + 1)) (lv' := [(5, .int (nI (p + 1))), (4, .int (nI (a + 0))), (3, .int (nI l0)), (0, .ref (o)), (1, .ref (an)), (2, .ref (ba))]) hx hb dL_areBagged_59 hl (k := 1) rfl (nI_add (p) 1) (by decide) rfl (fun ls hl => ?_)
                refine lv_goto (tgt := 15) hx hb dL_areBagged_62 (by decide) ?_
                exact ih1 (p + 1) (a + 0) (by omega) (by rw [← hE]; show _ = rdN m (nI l0) k (p + 1) (if m 28 p = 116 ∧ m 16 p = nI l0 then a + 1 else a); rw [if_neg (fun z => c33_15 z.1)]; rfl) (by omega) H locs hH ls (lv_sub hl [0, 1, 2, 3, 4, 5] rfl)
              · have h116 : m 28 p = 116 := c33_15
                refine lv_aload_n hx hb dL_areBagged_36 rfl (lv_at hl 4 rfl) ?_
                refine lv_sipush (v := nI 145) hx hb dL_areBagged_37 (by decide) ?_
                refine lv_bipush (v := nI 12) hx hb dL_areBagged_40 (by decide) ?_
                refine lv_iload hx hb dL_areBagged_42 (lv_at hl 0 rfl) ?_
                refine lv_imul hx hb dL_areBagged_44 ?_
                rw [show nI 12 * nI p = nI (12 * p) from nI_mul]
                refine lv_iadd hx hb dL_areBagged_45 ?_
                rw [show nI 145 + nI (12 * p) = nI (145 + 12 * p) from nI_add _ _]
                refine j_ld C0 hH hJ hL (ix := 145 + 12 * p) (by omega) (by decide) (v := m 16 p) ((congrArg f (show 145 + 12 * p = 140 + 12 * p + 5 by omega)).trans ((hT.pa hp).g5 h116)) dL_areBagged_46 ?_
                refine lv_iload_n hx hb dL_areBagged_47 rfl (lv_at hl 2 rfl) ?_
                refine lv_icmp_ne (tgt := 55) hx hb dL_areBagged_48 (by decide) (fun c48_16 => ?_) (fun c48_16 => ?_)
                · refine lv_iconst (v := nI 0) hx hb dL_areBagged_55 (by decide) ?_
                  refine lv_iadd hx hb dL_areBagged_56 ?_
                  rw [show nI a + nI 0 = nI (a + 0) from nI_add _ _]
                  refine lv_istore (lv' := [(4, .int (nI (a + 0))), (5, .int (nI p)), (3, .int (nI l0)), (0, .ref (o)), (1, .ref (an)), (2, .ref (ba))]) hx hb dL_areBagged_57 hl (by decide) rfl (fun ls hl => ?_)
                  refine lv_iinc (v := nI (p + 1)) (lv' := [(5, .int (nI (p + 1))), (4, .int (nI (a + 0))), (3, .int (nI l0)), (0, .ref (o)), (1, .ref (an)), (2, .ref (ba))]) hx hb dL_areBagged_59 hl (k := 1) rfl (nI_add (p) 1) (by decide) rfl (fun ls hl => ?_)
                  refine lv_goto (tgt := 15) hx hb dL_areBagged_62 (by decide) ?_
                  exact ih1 (p + 1) (a + 0) (by omega) (by rw [← hE]; show _ = rdN m (nI l0) k (p + 1) (if m 28 p = 116 ∧ m 16 p = nI l0 then a + 1 else a); rw [if_neg (fun z => c48_16 z.2)]; rfl) (by omega) H locs hH ls (lv_sub hl [0, 1, 2, 3, 4, 5] rfl)
                · refine lv_iconst (v := nI 1) hx hb dL_areBagged_51 (by decide) ?_
                  refine lv_goto (tgt := 56) hx hb dL_areBagged_52 (by decide) ?_
                  refine lv_iadd hx hb dL_areBagged_56 ?_
                  rw [show nI a + nI 1 = nI (a + 1) from nI_add _ _]
                  refine lv_istore (lv' := [(4, .int (nI (a + 1))), (5, .int (nI p)), (3, .int (nI l0)), (0, .ref (o)), (1, .ref (an)), (2, .ref (ba))]) hx hb dL_areBagged_57 hl (by decide) rfl (fun ls hl => ?_)
                  refine lv_iinc (v := nI (p + 1)) (lv' := [(5, .int (nI (p + 1))), (4, .int (nI (a + 1))), (3, .int (nI l0)), (0, .ref (o)), (1, .ref (an)), (2, .ref (ba))]) hx hb dL_areBagged_59 hl (k := 1) rfl (nI_add (p) 1) (by decide) rfl (fun ls hl => ?_)
                  refine lv_goto (tgt := 15) hx hb dL_areBagged_62 (by decide) ?_
                  exact ih1 (p + 1) (a + 1) (by omega) (by rw [← hE]; show _ = rdN m (nI l0) k (p + 1) (if m 28 p = 116 ∧ m 16 p = nI l0 then a + 1 else a); rw [if_pos ⟨c33_15, c48_16⟩]) (by omega) H locs hH ls (lv_sub hl [0, 1, 2, 3, 4, 5] rfl)
        exact K1 (npN m) 0 0 (by omega) rfl (Nat.le_refl _) H locs hH ls (lv_sub hl [0, 1, 2, 3, 4, 5] rfl)
  exact K (nlN m) 0 (by omega) _ _ hH ls (lv_sub hl [0, 1, 2, 3] rfl)
