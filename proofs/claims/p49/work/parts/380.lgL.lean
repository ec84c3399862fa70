theorem xLat_ae {c : MM} {E : String} (h : xLat c = some E) : E = aeC := by
  unfold xLat at h
  split at h
  · exact (Option.some.inj h).symm
  · exact nomatch h
theorem xMea_ae {c : MM} {E : String} (h : xMea c = some E) : E = aeC := by
  unfold xMea at h
  split at h
  · exact (Option.some.inj h).symm
  · exact nomatch h
set_option maxHeartbeats 1600000 in
set_option maxRecDepth 100000 in
theorem lL_isTold (l : Launch) (hlt : l.stackTraces = false) (Sc : SCR) (G : GT) (A : Nat → Prop) (h : AH) (b : BA) (c m : MM) (n : Nat) (L : LNum) (M : LRef) (o : Nat) (hJ : JW G.2.2.1 h b c L M) (ho : b 14 0 = o) (hwc : WFc c) (hS : Sim n c m) (hw : WFa m) (hI : IV m) (an : Nat) (f : Nat → Int32) (hL : L an = some (700, f)) (hT : NT f m) : lcI l Sc G A yL_isTold cL_isTold 9 (Option.some FieldType.boolean) 8 135 2 12 [.ref (o), .ref (an)] h (fun r h' => r = nI 1 ∧ h' = h) := by
  refine lm_of rfl (Nat.le_of_ble_eq_true rfl) ?_
  intro pr e s m9 below meth c9 C0 hN hr hH ls hl
  obtain ⟨hx, hb, hml, hown, hts, hK, hA, -⟩ := id C0
  have hl : lv_has ls 9 [(0, .ref (o)), (1, .ref (an))] := hl
  have n40 := hw.np.2
  have n6 := hw.nh.2
  have nl12 := hw.nl.2
  refine lv_iconst (v := nI 0) hx hb dL_isTold_0 (by decide) ?_
  refine lv_istore_n (lv' := [(2, .int (nI 0)), (0, .ref (o)), (1, .ref (an))]) hx hb dL_isTold_1 rfl hl (by decide) rfl (fun ls hl => ?_)
  refine lv_iconst (v := nI 0) hx hb dL_isTold_2 (by decide) ?_
  refine lv_istore_n (lv' := [(3, .int (nI 0)), (2, .int (nI 0)), (0, .ref (o)), (1, .ref (an))]) hx hb dL_isTold_3 rfl hl (by decide) rfl (fun ls hl => ?_)
  refine lv_iconst (v := nI 0) hx hb dL_isTold_4 (by decide) ?_
  refine lv_istore (lv' := [(4, .int (nI 0)), (3, .int (nI 0)), (2, .int (nI 0)), (0, .ref (o)), (1, .ref (an))]) hx hb dL_isTold_5 hl (by decide) rfl (fun ls hl => ?_)
  refine lv_iconst (v := nI 0) hx hb dL_isTold_7 (by decide) ?_
  refine lv_istore (lv' := [(5, .int (nI 0)), (4, .int (nI 0)), (3, .int (nI 0)), (2, .int (nI 0)), (0, .ref (o)), (1, .ref (an))]) hx hb dL_isTold_8 hl (by decide) rfl (fun ls hl => ?_)
  have hl9 := lateN_le m (npN m) 0 0
  have hm9 := manyN_le m (npN m) 0 0
  have TL : ∀ (H : Heap) (locs : List Loc) (hH : HS G.1 G.2.1 A s.heap h H locs) (ls : Array Slot), lv_has ls 9 [(4, .int (sumT m (npN m) 0 0)), (3, .int (nI (manyN m (npN m) 0 0))), (2, .int (nI (lateN m (npN m) 0 0))), (0, .ref (o)), (1, .ref (an))] → W pr l e (rmm 8 135 2 12) s m9 ([.ref (o), .ref (an)] : List Value).toArray below meth c9 H locs 0 0 (MQ below (va_Qi (fun r h' => r = nI 1 ∧ h' = h) (fun h' t => HW G.1 G.2.1 A h' t.heap) A) ([.ref (o), .ref (an)] : List Value).toArray s 2 12 A) (F0 m9 167 ls []) := by
    intro H locs hH ls hl
    refine lv_aload_n hx hb dL_isTold_167 rfl (lv_at hl 4 rfl) ?_
    refine lv_iconst (v := nI 2) hx hb dL_isTold_168 (by decide) ?_
    refine j_ld C0 hH hJ hL (ix := 2) (by omega) (by decide) (v := nI (npN m)) hT.p0 dL_isTold_169 ?_
    refine lv_if_ne (tgt := 178) hx hb dL_isTold_170 (by decide) (fun c170_1 => ?_) (fun c170_1 => ?_)
    · replace c170_1 : ¬ (npN m = 0) := fun z => c170_1 ((nI_eq (a := npN m) (b := 0) (by omega) (by omega)).mpr z)
      refine lv_iload_n hx hb dL_isTold_178 rfl (lv_at hl 2 rfl) ?_
      refine lv_i2f hx hb dL_isTold_179 ?_
      refine lv_aload_n hx hb dL_isTold_180 rfl (lv_at hl 4 rfl) ?_
      refine lv_iconst (v := nI 2) hx hb dL_isTold_181 (by decide) ?_
      refine j_ld C0 hH hJ hL (ix := 2) (by omega) (by decide) (v := nI (npN m)) hT.p0 dL_isTold_182 ?_
      refine lv_i2f hx hb dL_isTold_183 ?_
      refine lv_fdiv hx hb dL_isTold_184 (share_num2 (by omega) (by omega) n40) ?_
      refine lv_fstore (lv' := [(5, .float (FP.fdiv (FP.i2f (nI (lateN m (npN m) 0 0))) (FP.i2f (nI (npN m))))), (4, .int (sumT m (npN m) 0 0)), (3, .int (nI (manyN m (npN m) 0 0))), (2, .int (nI (lateN m (npN m) 0 0))), (0, .ref (o)), (1, .ref (an))]) hx hb dL_isTold_185 hl (by decide) rfl (fun ls hl => ?_)
      refine lv_iload_n hx hb dL_isTold_187 rfl (lv_at hl 2 rfl) ?_
      refine lv_if_ne (tgt := 197) hx hb dL_isTold_188 (by decide) (fun c188_2 => ?_) (fun c188_2 => ?_)
      · replace c188_2 : ¬ (manyN m (npN m) 0 0 = 0) := fun z => c188_2 ((nI_eq (a := manyN m (npN m) 0 0) (b := 0) (by omega) (by omega)).mpr z)
        refine lv_iload hx hb dL_isTold_197 (lv_at hl 1 rfl) ?_
        refine lv_i2d hx hb dL_isTold_199 ?_
        refine lv_iload_n hx hb dL_isTold_200 rfl (lv_at hl 2 rfl) ?_
        refine lv_i2d hx hb dL_isTold_201 ?_
        refine lv_ddiv hx hb dL_isTold_202 (mean_num2 _ (by omega) (by omega)) ?_
        refine lv_dstore (lv' := [(6, .double (FP.ddiv (FP.i2d (sumT m (npN m) 0 0)) (FP.i2d (nI (manyN m (npN m) 0 0))))), (5, .float (FP.fdiv (FP.i2f (nI (lateN m (npN m) 0 0))) (FP.i2f (nI (npN m))))), (4, .int (sumT m (npN m) 0 0)), (3, .int (nI (manyN m (npN m) 0 0))), (2, .int (nI (lateN m (npN m) 0 0))), (0, .ref (o)), (1, .ref (an))]) hx hb dL_isTold_203 hl (by decide) rfl (fun ls hl => ?_)
        refine lv_aload_n hx hb dL_isTold_205 rfl (lv_at hl 5 rfl) ?_
        obtain ⟨l1, l2, -, l4, -⟩ := call_lateShare hS hw
        have e39 : m 39 0 = nI (npN m) := hw.np.1
        have hxl : xLat c = none := by rw [l4, if_neg (fun z => c170_1 ((nI_eq (a := npN m) (b := 0) (by omega) (by omega)).mp (by rw [← e39]; exact z)))]
        have hcl : cLsL c (npN c) 0 0 = nI (lateN m (npN m) 0 0) := l1.trans (lateN_eq m (npN m) 0 0)
        have hnc : nI (npN c) = nI (npN m) := l2.trans e39
        refine j_wf (rest := []) (v := (FP.fdiv (FP.i2f (nI (lateN m (npN m) 0 0))) (FP.i2f (nI (npN m))))) C0 hN hH ho (lW_lateShare hJ.own hJ.obj (cC_X10_lateShare l hlt G _ _ b c hJ.rest hwc) (fun E h9 z => xLat_ae z.1)) (fun r h1 z => z.elim (fun y => ⟨by rw [y.2.1, hcl, hnc], y.2.2⟩) (fun y => absurd (hxl.symm.trans y.1.1) (fun q => nomatch q))) ms_L_lateShare ml_L_249 rfl ⟨Nat.le_of_ble_eq_true rfl, Nat.le_of_ble_eq_true rfl⟩ hl.1 (Nat.le_of_ble_eq_true rfl) dL_isTold_206 ⟨by show _ ≤ 2; omega, by show _ ≤ 12; omega⟩ (fun H locs hH => ?_)
        refine lv_fload hx hb dL_isTold_209 (lv_at hl 1 rfl) ?_
        refine lv_fcmp hx hb dL_isTold_211 ?_
        have hfc : FP.fcmp (FP.fdiv (FP.i2f (nI (lateN m (npN m) 0 0))) (FP.i2f (nI (npN m)))) (FP.fdiv (FP.i2f (nI (lateN m (npN m) 0 0))) (FP.i2f (nI (npN m)))) = some .eq := share_cmp2 (by omega) (by omega) n40
        rw [hfc, show Op.cmpValue (some .eq) .l = nI 0 from rfl]
        refine lv_if_ne (tgt := 259) hx hb dL_isTold_212 (by decide) (fun c212_3 => ?_) (fun c212_3 => ?_)
        · exact absurd (by decide) c212_3
        · refine lv_aload_n hx hb dL_isTold_215 rfl (lv_at hl 5 rfl) ?_
          obtain ⟨k1, -, k4, -⟩ := call_meanTime hS
          have em1 : (fMnT m).1.1 = nI (manyN m (npN m) 0 0) := manyN_eq m (npN m) 0 0 0
          have em2 : (fMnT m).1.2 = sumT m (npN m) 0 0 := sumT_eq m (npN m) 0 0 0
          have hxm : xMea c = none := by rw [k4, if_neg (fun z => c188_2 ((nI_eq (a := manyN m (npN m) 0 0) (b := 0) (by omega) (by omega)).mp (by rw [← em1]; exact z)))]
          refine j_wd (rest := []) (v := (FP.ddiv (FP.i2d (sumT m (npN m) 0 0)) (FP.i2d (nI (manyN m (npN m) 0 0))))) C0 hN hH ho (lW_meanTime hJ.own hJ.obj (cC_X10_meanTime l hlt G _ _ b c hJ.rest hwc) (fun E h9 z => xMea_ae z.1)) (fun r h1 z => z.elim (fun y => ⟨by rw [y.2.1, k1, em1, em2], y.2.2⟩) (fun y => absurd (hxm.symm.trans y.1.1) (fun q => nomatch q))) ms_L_meanTime ml_L_252 rfl ⟨Nat.le_of_ble_eq_true rfl, Nat.le_of_ble_eq_true rfl⟩ hl.1 (Nat.le_of_ble_eq_true rfl) dL_isTold_216 ⟨by show _ ≤ 2; omega, by show _ ≤ 12; omega⟩ (fun H locs hH => ?_)
          refine lv_dload hx hb dL_isTold_219 (lv_at hl 0 rfl) ?_
          refine lv_dcmp hx hb dL_isTold_221 ?_
          have hdc : FP.dcmp (FP.ddiv (FP.i2d (sumT m (npN m) 0 0)) (FP.i2d (nI (manyN m (npN m) 0 0)))) (FP.ddiv (FP.i2d (sumT m (npN m) 0 0)) (FP.i2d (nI (manyN m (npN m) 0 0)))) = some .eq := dcmp_self (mean_num2 _ (by omega) (by omega))
          rw [hdc, show Op.cmpValue (some .eq) .l = nI 0 from rfl]
          refine lv_if_ne (tgt := 259) hx hb dL_isTold_222 (by decide) (fun c222_4 => ?_) (fun c222_4 => ?_)
          · exact absurd (by decide) c222_4
          · refine lv_aload_n hx hb dL_isTold_225 rfl (lv_at hl 5 rfl) ?_
            refine j_q0m (rest := []) C0 hH hJ ho (cC_X10_parcels l G _ _ b c hJ.rest hwc) (v := nI (npN m)) (v_np hS) mv_X10_parcels ml_L_255 rfl ⟨Nat.le_of_ble_eq_true rfl, Nat.le_of_ble_eq_true rfl⟩ hl.1 rfl (Nat.le_of_ble_eq_true rfl) dL_isTold_226 ⟨by show _ ≤ 2; omega, by show _ ≤ 12; omega⟩ (fun H locs hH => ?_)
            refine lv_aload_n hx hb dL_isTold_229 rfl (lv_at hl 6 rfl) ?_
            refine lv_iconst (v := nI 2) hx hb dL_isTold_230 (by decide) ?_
            refine j_ld C0 hH hJ hL (ix := 2) (by omega) (by decide) (v := nI (npN m)) hT.p0 dL_isTold_231 ?_
            refine lv_icmp_ne (tgt := 259) hx hb dL_isTold_232 (by decide) (fun c232_5 => ?_) (fun c232_5 => ?_)
            · exact absurd rfl c232_5
            · replace c232_5 : npN m = npN m := (nI_eq (a := npN m) (b := npN m) (by omega) (by omega)).mp c232_5
              refine lv_aload_n hx hb dL_isTold_235 rfl (lv_at hl 5 rfl) ?_
              refine j_q0m (rest := []) C0 hH hJ ho (cC_X10_lines l G _ _ b c hJ.rest hwc) (v := nI (nlN m)) (v_nl hS) mv_X10_lines ml_L_258 rfl ⟨Nat.le_of_ble_eq_true rfl, Nat.le_of_ble_eq_true rfl⟩ hl.1 rfl (Nat.le_of_ble_eq_true rfl) dL_isTold_236 ⟨by show _ ≤ 2; omega, by show _ ≤ 12; omega⟩ (fun H locs hH => ?_)
              refine lv_aload_n hx hb dL_isTold_239 rfl (lv_at hl 6 rfl) ?_
              refine lv_iconst (v := nI 1) hx hb dL_isTold_240 (by decide) ?_
              refine j_ld C0 hH hJ hL (ix := 1) (by omega) (by decide) (v := nI (nlN m)) hT.l0 dL_isTold_241 ?_
              refine lv_icmp_ne (tgt := 259) hx hb dL_isTold_242 (by decide) (fun c242_6 => ?_) (fun c242_6 => ?_)
              · exact absurd rfl c242_6
              · replace c242_6 : nlN m = nlN m := (nI_eq (a := nlN m) (b := nlN m) (by omega) (by omega)).mp c242_6
                refine lv_aload_n hx hb dL_isTold_245 rfl (lv_at hl 5 rfl) ?_
                refine j_q0m (rest := []) C0 hH hJ ho (cC_X10_hubs l G _ _ b c hJ.rest hwc) (v := nI (nhN m)) (v_nh hS) mv_X10_hubs ml_L_261 rfl ⟨Nat.le_of_ble_eq_true rfl, Nat.le_of_ble_eq_true rfl⟩ hl.1 rfl (Nat.le_of_ble_eq_true rfl) dL_isTold_246 ⟨by show _ ≤ 2; omega, by show _ ≤ 12; omega⟩ (fun H locs hH => ?_)
                refine lv_aload_n hx hb dL_isTold_249 rfl (lv_at hl 6 rfl) ?_
                refine lv_iconst (v := nI 0) hx hb dL_isTold_250 (by decide) ?_
                refine j_ld C0 hH hJ hL (ix := 0) (by omega) (by decide) (v := nI (nhN m)) hT.h0 dL_isTold_251 ?_
                refine lv_icmp_ne (tgt := 259) hx hb dL_isTold_252 (by decide) (fun c252_7 => ?_) (fun c252_7 => ?_)
                · exact absurd rfl c252_7
                · replace c252_7 : nhN m = nhN m := (nI_eq (a := nhN m) (b := nhN m) (by omega) (by omega)).mp c252_7
                  refine lv_iconst (v := nI 1) hx hb dL_isTold_255 (by decide) ?_
                  refine lv_goto (tgt := 260) hx hb dL_isTold_256 (by decide) ?_
                  exact e_Z C0 hr (by decide) hH ⟨rfl, rfl⟩ (by omega) (by omega) dL_isTold_260
      · replace c188_2 : manyN m (npN m) 0 0 = 0 := (nI_eq (a := manyN m (npN m) 0 0) (b := 0) (by omega) (by omega)).mp c188_2
        refine lv_ldc2d (v := 13919350198670196736) hx hb hown (hts _ kd_L_97) dL_isTold_191 ?_
        refine lv_goto (tgt := 203) hx hb dL_isTold_194 (by decide) ?_
        refine lv_dstore (lv' := [(6, .double (13919350198670196736)), (5, .float (FP.fdiv (FP.i2f (nI (lateN m (npN m) 0 0))) (FP.i2f (nI (npN m))))), (4, .int (sumT m (npN m) 0 0)), (3, .int (nI (manyN m (npN m) 0 0))), (2, .int (nI (lateN m (npN m) 0 0))), (0, .ref (o)), (1, .ref (an))]) hx hb dL_isTold_203 hl (by decide) rfl (fun ls hl => ?_)
        refine lv_aload_n hx hb dL_isTold_205 rfl (lv_at hl 5 rfl) ?_
        obtain ⟨l1, l2, -, l4, -⟩ := call_lateShare hS hw
        have e39 : m 39 0 = nI (npN m) := hw.np.1
        have hxl : xLat c = none := by rw [l4, if_neg (fun z => c170_1 ((nI_eq (a := npN m) (b := 0) (by omega) (by omega)).mp (by rw [← e39]; exact z)))]
        have hcl : cLsL c (npN c) 0 0 = nI (lateN m (npN m) 0 0) := l1.trans (lateN_eq m (npN m) 0 0)
        have hnc : nI (npN c) = nI (npN m) := l2.trans e39
        refine j_wf (rest := []) (v := (FP.fdiv (FP.i2f (nI (lateN m (npN m) 0 0))) (FP.i2f (nI (npN m))))) C0 hN hH ho (lW_lateShare hJ.own hJ.obj (cC_X10_lateShare l hlt G _ _ b c hJ.rest hwc) (fun E h9 z => xLat_ae z.1)) (fun r h1 z => z.elim (fun y => ⟨by rw [y.2.1, hcl, hnc], y.2.2⟩) (fun y => absurd (hxl.symm.trans y.1.1) (fun q => nomatch q))) ms_L_lateShare ml_L_249 rfl ⟨Nat.le_of_ble_eq_true rfl, Nat.le_of_ble_eq_true rfl⟩ hl.1 (Nat.le_of_ble_eq_true rfl) dL_isTold_206 ⟨by show _ ≤ 2; omega, by show _ ≤ 12; omega⟩ (fun H locs hH => ?_)
        refine lv_fload hx hb dL_isTold_209 (lv_at hl 1 rfl) ?_
        refine lv_fcmp hx hb dL_isTold_211 ?_
        have hfc : FP.fcmp (FP.fdiv (FP.i2f (nI (lateN m (npN m) 0 0))) (FP.i2f (nI (npN m)))) (FP.fdiv (FP.i2f (nI (lateN m (npN m) 0 0))) (FP.i2f (nI (npN m)))) = some .eq := share_cmp2 (by omega) (by omega) n40
        rw [hfc, show Op.cmpValue (some .eq) .l = nI 0 from rfl]
        refine lv_if_ne (tgt := 259) hx hb dL_isTold_212 (by decide) (fun c212_8 => ?_) (fun c212_8 => ?_)
        · exact absurd (by decide) c212_8
        · refine lv_aload_n hx hb dL_isTold_215 rfl (lv_at hl 5 rfl) ?_
          obtain ⟨k1, -, k4, -⟩ := call_meanTime hS
          have em1 : (fMnT m).1.1 = nI (manyN m (npN m) 0 0) := manyN_eq m (npN m) 0 0 0
          have em2 : (fMnT m).1.2 = sumT m (npN m) 0 0 := sumT_eq m (npN m) 0 0 0
          have hxm : xMea c = some aeC := by rw [k4, if_pos (by rw [em1, c188_2]; rfl)]
          refine j_wd (rest := []) (v := 13919350198670196736) C0 hN hH ho (lW_meanTime hJ.own hJ.obj (cC_X10_meanTime l hlt G _ _ b c hJ.rest hwc) (fun E h9 z => xMea_ae z.1)) (fun r h1 z => z.elim (fun y => absurd (hxm.symm.trans y.1) (fun q => nomatch q)) (fun y => ⟨y.2, y.1.2⟩)) ms_L_meanTime ml_L_252 rfl ⟨Nat.le_of_ble_eq_true rfl, Nat.le_of_ble_eq_true rfl⟩ hl.1 (Nat.le_of_ble_eq_true rfl) dL_isTold_216 ⟨by show _ ≤ 2; omega, by show _ ≤ 12; omega⟩ (fun H locs hH => ?_)
          refine lv_dload hx hb dL_isTold_219 (lv_at hl 0 rfl) ?_
          refine lv_dcmp hx hb dL_isTold_221 ?_
          have hdc : FP.dcmp 13919350198670196736 13919350198670196736 = some .eq := by decide
          rw [hdc, show Op.cmpValue (some .eq) .l = nI 0 from rfl]
          refine lv_if_ne (tgt := 259) hx hb dL_isTold_222 (by decide) (fun c222_9 => ?_) (fun c222_9 => ?_)
          · exact absurd (by decide) c222_9
          · refine lv_aload_n hx hb dL_isTold_225 rfl (lv_at hl 5 rfl) ?_
            refine j_q0m (rest := []) C0 hH hJ ho (cC_X10_parcels l G _ _ b c hJ.rest hwc) (v := nI (npN m)) (v_np hS) mv_X10_parcels ml_L_255 rfl ⟨Nat.le_of_ble_eq_true rfl, Nat.le_of_ble_eq_true rfl⟩ hl.1 rfl (Nat.le_of_ble_eq_true rfl) dL_isTold_226 ⟨by show _ ≤ 2; omega, by show _ ≤ 12; omega⟩ (fun H locs hH => ?_)
            refine lv_aload_n hx hb dL_isTold_229 rfl (lv_at hl 6 rfl) ?_
            refine lv_iconst (v := nI 2) hx hb dL_isTold_230 (by decide) ?_
            refine j_ld C0 hH hJ hL (ix := 2) (by omega) (by decide) (v := nI (npN m)) hT.p0 dL_isTold_231 ?_
            refine lv_icmp_ne (tgt := 259) hx hb dL_isTold_232 (by decide) (fun c232_10 => ?_) (fun c232_10 => ?_)
            · exact absurd rfl c232_10
            · replace c232_10 : npN m = npN m := (nI_eq (a := npN m) (b := npN m) (by omega) (by omega)).mp c232_10
              refine lv_aload_n hx hb dL_isTold_235 rfl (lv_at hl 5 rfl) ?_
              refine j_q0m (rest := []) C0 hH hJ ho (cC_X10_lines l G _ _ b c hJ.rest hwc) (v := nI (nlN m)) (v_nl hS) mv_X10_lines ml_L_258 rfl ⟨Nat.le_of_ble_eq_true rfl, Nat.le_of_ble_eq_true rfl⟩ hl.1 rfl (Nat.le_of_ble_eq_true rfl) dL_isTold_236 ⟨by show _ ≤ 2; omega, by show _ ≤ 12; omega⟩ (fun H locs hH => ?_)
              refine lv_aload_n hx hb dL_isTold_239 rfl (lv_at hl 6 rfl) ?_
              refine lv_iconst (v := nI 1) hx hb dL_isTold_240 (by decide) ?_
              refine j_ld C0 hH hJ hL (ix := 1) (by omega) (by decide) (v := nI (nlN m)) hT.l0 dL_isTold_241 ?_
              refine lv_icmp_ne (tgt := 259) hx hb dL_isTold_242 (by decide) (fun c242_11 => ?_) (fun c242_11 => ?_)
              · exact absurd rfl c242_11
              · replace c242_11 : nlN m = nlN m := (nI_eq (a := nlN m) (b := nlN m) (by omega) (by omega)).mp c242_11
                refine lv_aload_n hx hb dL_isTold_245 rfl (lv_at hl 5 rfl) ?_
                refine j_q0m (rest := []) C0 hH hJ ho (cC_X10_hubs l G _ _ b c hJ.rest hwc) (v := nI (nhN m)) (v_nh hS) mv_X10_hubs ml_L_261 rfl ⟨Nat.le_of_ble_eq_true rfl, Nat.le_of_ble_eq_true rfl⟩ hl.1 rfl (Nat.le_of_ble_eq_true rfl) dL_isTold_246 ⟨by show _ ≤ 2; omega, by show _ ≤ 12; omega⟩ (fun H locs hH => ?_)
                refine lv_aload_n hx hb dL_isTold_249 rfl (lv_at hl 6 rfl) ?_
                refine lv_iconst (v := nI 0) hx hb dL_isTold_250 (by decide) ?_
                refine j_ld C0 hH hJ hL (ix := 0) (by omega) (by decide) (v := nI (nhN m)) hT.h0 dL_isTold_251 ?_
                refine lv_icmp_ne (tgt := 259) hx hb dL_isTold_252 (by decide) (fun c252_12 => ?_) (fun c252_12 => ?_)
                · exact absurd rfl c252_12
                · replace c252_12 : nhN m = nhN m := (nI_eq (a := nhN m) (b := nhN m) (by omega) (by omega)).mp c252_12
                  refine lv_iconst (v := nI 1) hx hb dL_isTold_255 (by decide) ?_
                  refine lv_goto (tgt := 260) hx hb dL_isTold_256 (by decide) ?_
                  exact e_Z C0 hr (by decide) hH ⟨rfl, rfl⟩ (by omega) (by omega) dL_isTold_260
    · replace c170_1 : npN m = 0 := (nI_eq (a := npN m) (b := 0) (by omega) (by omega)).mp c170_1
      refine lv_ldcf (v := 3378231824) hx hb hown (hts _ kf_L_92) dL_isTold_173 ?_
      refine lv_goto (tgt := 185) hx hb dL_isTold_175 (by decide) ?_
      refine lv_fstore (lv' := [(5, .float (3378231824)), (4, .int (sumT m (npN m) 0 0)), (3, .int (nI (manyN m (npN m) 0 0))), (2, .int (nI (lateN m (npN m) 0 0))), (0, .ref (o)), (1, .ref (an))]) hx hb dL_isTold_185 hl (by decide) rfl (fun ls hl => ?_)
      refine lv_iload_n hx hb dL_isTold_187 rfl (lv_at hl 2 rfl) ?_
      refine lv_if_ne (tgt := 197) hx hb dL_isTold_188 (by decide) (fun c188_13 => ?_) (fun c188_13 => ?_)
      · replace c188_13 : ¬ (manyN m (npN m) 0 0 = 0) := fun z => c188_13 ((nI_eq (a := manyN m (npN m) 0 0) (b := 0) (by omega) (by omega)).mpr z)
        refine lv_iload hx hb dL_isTold_197 (lv_at hl 1 rfl) ?_
        refine lv_i2d hx hb dL_isTold_199 ?_
        refine lv_iload_n hx hb dL_isTold_200 rfl (lv_at hl 2 rfl) ?_
        refine lv_i2d hx hb dL_isTold_201 ?_
        refine lv_ddiv hx hb dL_isTold_202 (mean_num2 _ (by omega) (by omega)) ?_
        refine lv_dstore (lv' := [(6, .double (FP.ddiv (FP.i2d (sumT m (npN m) 0 0)) (FP.i2d (nI (manyN m (npN m) 0 0))))), (5, .float (3378231824)), (4, .int (sumT m (npN m) 0 0)), (3, .int (nI (manyN m (npN m) 0 0))), (2, .int (nI (lateN m (npN m) 0 0))), (0, .ref (o)), (1, .ref (an))]) hx hb dL_isTold_203 hl (by decide) rfl (fun ls hl => ?_)
        refine lv_aload_n hx hb dL_isTold_205 rfl (lv_at hl 5 rfl) ?_
        obtain ⟨l1, l2, -, l4, -⟩ := call_lateShare hS hw
        have e39 : m 39 0 = nI (npN m) := hw.np.1
        have hxl : xLat c = some aeC := by rw [l4, if_pos (by rw [e39, c170_1]; rfl)]
        refine j_wf (rest := []) (v := 3378231824) C0 hN hH ho (lW_lateShare hJ.own hJ.obj (cC_X10_lateShare l hlt G _ _ b c hJ.rest hwc) (fun E h9 z => xLat_ae z.1)) (fun r h1 z => z.elim (fun y => absurd (hxl.symm.trans y.1) (fun q => nomatch q)) (fun y => ⟨y.2, y.1.2⟩)) ms_L_lateShare ml_L_249 rfl ⟨Nat.le_of_ble_eq_true rfl, Nat.le_of_ble_eq_true rfl⟩ hl.1 (Nat.le_of_ble_eq_true rfl) dL_isTold_206 ⟨by show _ ≤ 2; omega, by show _ ≤ 12; omega⟩ (fun H locs hH => ?_)
        refine lv_fload hx hb dL_isTold_209 (lv_at hl 1 rfl) ?_
        refine lv_fcmp hx hb dL_isTold_211 ?_
        have hfc : FP.fcmp 3378231824 3378231824 = some .eq := by decide
        rw [hfc, show Op.cmpValue (some .eq) .l = nI 0 from rfl]
        refine lv_if_ne (tgt := 259) hx hb dL_isTold_212 (by decide) (fun c212_14 => ?_) (fun c212_14 => ?_)
        · exact absurd (by decide) c212_14
        · refine lv_aload_n hx hb dL_isTold_215 rfl (lv_at hl 5 rfl) ?_
          obtain ⟨k1, -, k4, -⟩ := call_meanTime hS
          have em1 : (fMnT m).1.1 = nI (manyN m (npN m) 0 0) := manyN_eq m (npN m) 0 0 0
          have em2 : (fMnT m).1.2 = sumT m (npN m) 0 0 := sumT_eq m (npN m) 0 0 0
          have hxm : xMea c = none := by rw [k4, if_neg (fun z => c188_13 ((nI_eq (a := manyN m (npN m) 0 0) (b := 0) (by omega) (by omega)).mp (by rw [← em1]; exact z)))]
          refine j_wd (rest := []) (v := (FP.ddiv (FP.i2d (sumT m (npN m) 0 0)) (FP.i2d (nI (manyN m (npN m) 0 0))))) C0 hN hH ho (lW_meanTime hJ.own hJ.obj (cC_X10_meanTime l hlt G _ _ b c hJ.rest hwc) (fun E h9 z => xMea_ae z.1)) (fun r h1 z => z.elim (fun y => ⟨by rw [y.2.1, k1, em1, em2], y.2.2⟩) (fun y => absurd (hxm.symm.trans y.1.1) (fun q => nomatch q))) ms_L_meanTime ml_L_252 rfl ⟨Nat.le_of_ble_eq_true rfl, Nat.le_of_ble_eq_true rfl⟩ hl.1 (Nat.le_of_ble_eq_true rfl) dL_isTold_216 ⟨by show _ ≤ 2; omega, by show _ ≤ 12; omega⟩ (fun H locs hH => ?_)
          refine lv_dload hx hb dL_isTold_219 (lv_at hl 0 rfl) ?_
          refine lv_dcmp hx hb dL_isTold_221 ?_
          have hdc : FP.dcmp (FP.ddiv (FP.i2d (sumT m (npN m) 0 0)) (FP.i2d (nI (manyN m (npN m) 0 0)))) (FP.ddiv (FP.i2d (sumT m (npN m) 0 0)) (FP.i2d (nI (manyN m (npN m) 0 0)))) = some .eq := dcmp_self (mean_num2 _ (by omega) (by omega))
          rw [hdc, show Op.cmpValue (some .eq) .l = nI 0 from rfl]
          refine lv_if_ne (tgt := 259) hx hb dL_isTold_222 (by decide) (fun c222_15 => ?_) (fun c222_15 => ?_)
          · exact absurd (by decide) c222_15
          · refine lv_aload_n hx hb dL_isTold_225 rfl (lv_at hl 5 rfl) ?_
            refine j_q0m (rest := []) C0 hH hJ ho (cC_X10_parcels l G _ _ b c hJ.rest hwc) (v := nI (npN m)) (v_np hS) mv_X10_parcels ml_L_255 rfl ⟨Nat.le_of_ble_eq_true rfl, Nat.le_of_ble_eq_true rfl⟩ hl.1 rfl (Nat.le_of_ble_eq_true rfl) dL_isTold_226 ⟨by show _ ≤ 2; omega, by show _ ≤ 12; omega⟩ (fun H locs hH => ?_)
            refine lv_aload_n hx hb dL_isTold_229 rfl (lv_at hl 6 rfl) ?_
            refine lv_iconst (v := nI 2) hx hb dL_isTold_230 (by decide) ?_
            refine j_ld C0 hH hJ hL (ix := 2) (by omega) (by decide) (v := nI (npN m)) hT.p0 dL_isTold_231 ?_
            refine lv_icmp_ne (tgt := 259) hx hb dL_isTold_232 (by decide) (fun c232_16 => ?_) (fun c232_16 => ?_)
            · exact absurd rfl c232_16
            · replace c232_16 : npN m = npN m := (nI_eq (a := npN m) (b := npN m) (by omega) (by omega)).mp c232_16
              refine lv_aload_n hx hb dL_isTold_235 rfl (lv_at hl 5 rfl) ?_
              refine j_q0m (rest := []) C0 hH hJ ho (cC_X10_lines l G _ _ b c hJ.rest hwc) (v := nI (nlN m)) (v_nl hS) mv_X10_lines ml_L_258 rfl ⟨Nat.le_of_ble_eq_true rfl, Nat.le_of_ble_eq_true rfl⟩ hl.1 rfl (Nat.le_of_ble_eq_true rfl) dL_isTold_236 ⟨by show _ ≤ 2; omega, by show _ ≤ 12; omega⟩ (fun H locs hH => ?_)
              refine lv_aload_n hx hb dL_isTold_239 rfl (lv_at hl 6 rfl) ?_
              refine lv_iconst (v := nI 1) hx hb dL_isTold_240 (by decide) ?_
              refine j_ld C0 hH hJ hL (ix := 1) (by omega) (by decide) (v := nI (nlN m)) hT.l0 dL_isTold_241 ?_
              refine lv_icmp_ne (tgt := 259) hx hb dL_isTold_242 (by decide) (fun c242_17 => ?_) (fun c242_17 => ?_)
              · exact absurd rfl c242_17
              · replace c242_17 : nlN m = nlN m := (nI_eq (a := nlN m) (b := nlN m) (by omega) (by omega)).mp c242_17
                refine lv_aload_n hx hb dL_isTold_245 rfl (lv_at hl 5 rfl) ?_
                refine j_q0m (rest := []) C0 hH hJ ho (cC_X10_hubs l G _ _ b c hJ.rest hwc) (v := nI (nhN m)) (v_nh hS) mv_X10_hubs ml_L_261 rfl ⟨Nat.le_of_ble_eq_true rfl, Nat.le_of_ble_eq_true rfl⟩ hl.1 rfl (Nat.le_of_ble_eq_true rfl) dL_isTold_246 ⟨by show _ ≤ 2; omega, by show _ ≤ 12; omega⟩ (fun H locs hH => ?_)
                refine lv_aload_n hx hb dL_isTold_249 rfl (lv_at hl 6 rfl) ?_
                refine lv_iconst (v := nI 0) hx hb dL_isTold_250 (by decide) ?_
                refine j_ld C0 hH hJ hL (ix := 0) (by omega) (by decide) (v := nI (nhN m)) hT.h0 dL_isTold_251 ?_
                refine lv_icmp_ne (tgt := 259) hx hb dL_isTold_252 (by decide) (fun c252_18 => ?_) (fun c252_18 => ?_)
                · exact absurd rfl c252_18
                · replace c252_18 : nhN m = nhN m := (nI_eq (a := nhN m) (b := nhN m) (by omega) (by omega)).mp c252_18
                  refine lv_iconst (v := nI 1) hx hb dL_isTold_255 (by decide) ?_
                  refine lv_goto (tgt := 260) hx hb dL_isTold_256 (by decide) ?_
                  exact e_Z C0 hr (by decide) hH ⟨rfl, rfl⟩ (by omega) (by omega) dL_isTold_260
      · replace c188_13 : manyN m (npN m) 0 0 = 0 := (nI_eq (a := manyN m (npN m) 0 0) (b := 0) (by omega) (by omega)).mp c188_13
        refine lv_ldc2d (v := 13919350198670196736) hx hb hown (hts _ kd_L_97) dL_isTold_191 ?_
        refine lv_goto (tgt := 203) hx hb dL_isTold_194 (by decide) ?_
        refine lv_dstore (lv' := [(6, .double (13919350198670196736)), (5, .float (3378231824)), (4, .int (sumT m (npN m) 0 0)), (3, .int (nI (manyN m (npN m) 0 0))), (2, .int (nI (lateN m (npN m) 0 0))), (0, .ref (o)), (1, .ref (an))]) hx hb dL_isTold_203 hl (by decide) rfl (fun ls hl => ?_)
        refine lv_aload_n hx hb dL_isTold_205 rfl (lv_at hl 5 rfl) ?_
        obtain ⟨l1, l2, -, l4, -⟩ := call_lateShare hS hw
        have e39 : m 39 0 = nI (npN m) := hw.np.1
        have hxl : xLat c = some aeC := by rw [l4, if_pos (by rw [e39, c170_1]; rfl)]
        refine j_wf (rest := []) (v := 3378231824) C0 hN hH ho (lW_lateShare hJ.own hJ.obj (cC_X10_lateShare l hlt G _ _ b c hJ.rest hwc) (fun E h9 z => xLat_ae z.1)) (fun r h1 z => z.elim (fun y => absurd (hxl.symm.trans y.1) (fun q => nomatch q)) (fun y => ⟨y.2, y.1.2⟩)) ms_L_lateShare ml_L_249 rfl ⟨Nat.le_of_ble_eq_true rfl, Nat.le_of_ble_eq_true rfl⟩ hl.1 (Nat.le_of_ble_eq_true rfl) dL_isTold_206 ⟨by show _ ≤ 2; omega, by show _ ≤ 12; omega⟩ (fun H locs hH => ?_)
        refine lv_fload hx hb dL_isTold_209 (lv_at hl 1 rfl) ?_
        refine lv_fcmp hx hb dL_isTold_211 ?_
        have hfc : FP.fcmp 3378231824 3378231824 = some .eq := by decide
        rw [hfc, show Op.cmpValue (some .eq) .l = nI 0 from rfl]
        refine lv_if_ne (tgt := 259) hx hb dL_isTold_212 (by decide) (fun c212_19 => ?_) (fun c212_19 => ?_)
        · exact absurd (by decide) c212_19
        · refine lv_aload_n hx hb dL_isTold_215 rfl (lv_at hl 5 rfl) ?_
          obtain ⟨k1, -, k4, -⟩ := call_meanTime hS
          have em1 : (fMnT m).1.1 = nI (manyN m (npN m) 0 0) := manyN_eq m (npN m) 0 0 0
          have em2 : (fMnT m).1.2 = sumT m (npN m) 0 0 := sumT_eq m (npN m) 0 0 0
          have hxm : xMea c = some aeC := by rw [k4, if_pos (by rw [em1, c188_13]; rfl)]
          refine j_wd (rest := []) (v := 13919350198670196736) C0 hN hH ho (lW_meanTime hJ.own hJ.obj (cC_X10_meanTime l hlt G _ _ b c hJ.rest hwc) (fun E h9 z => xMea_ae z.1)) (fun r h1 z => z.elim (fun y => absurd (hxm.symm.trans y.1) (fun q => nomatch q)) (fun y => ⟨y.2, y.1.2⟩)) ms_L_meanTime ml_L_252 rfl ⟨Nat.le_of_ble_eq_true rfl, Nat.le_of_ble_eq_true rfl⟩ hl.1 (Nat.le_of_ble_eq_true rfl) dL_isTold_216 ⟨by show _ ≤ 2; omega, by show _ ≤ 12; omega⟩ (fun H locs hH => ?_)
          refine lv_dload hx hb dL_isTold_219 (lv_at hl 0 rfl) ?_
          refine lv_dcmp hx hb dL_isTold_221 ?_
          have hdc : FP.dcmp 13919350198670196736 13919350198670196736 = some .eq := by decide
          rw [hdc, show Op.cmpValue (some .eq) .l = nI 0 from rfl]
          refine lv_if_ne (tgt := 259) hx hb dL_isTold_222 (by decide) (fun c222_20 => ?_) (fun c222_20 => ?_)
          · exact absurd (by decide) c222_20
          · refine lv_aload_n hx hb dL_isTold_225 rfl (lv_at hl 5 rfl) ?_
            refine j_q0m (rest := []) C0 hH hJ ho (cC_X10_parcels l G _ _ b c hJ.rest hwc) (v := nI (npN m)) (v_np hS) mv_X10_parcels ml_L_255 rfl ⟨Nat.le_of_ble_eq_true rfl, Nat.le_of_ble_eq_true rfl⟩ hl.1 rfl (Nat.le_of_ble_eq_true rfl) dL_isTold_226 ⟨by show _ ≤ 2; omega, by show _ ≤ 12; omega⟩ (fun H locs hH => ?_)
            refine lv_aload_n hx hb dL_isTold_229 rfl (lv_at hl 6 rfl) ?_
            refine lv_iconst (v := nI 2) hx hb dL_isTold_230 (by decide) ?_
            refine j_ld C0 hH hJ hL (ix := 2) (by omega) (by decide) (v := nI (npN m)) hT.p0 dL_isTold_231 ?_
            refine lv_icmp_ne (tgt := 259) hx hb dL_isTold_232 (by decide) (fun c232_21 => ?_) (fun c232_21 => ?_)
            · exact absurd rfl c232_21
            · replace c232_21 : npN m = npN m := (nI_eq (a := npN m) (b := npN m) (by omega) (by omega)).mp c232_21
              refine lv_aload_n hx hb dL_isTold_235 rfl (lv_at hl 5 rfl) ?_
              refine j_q0m (rest := []) C0 hH hJ ho (cC_X10_lines l G _ _ b c hJ.rest hwc) (v := nI (nlN m)) (v_nl hS) mv_X10_lines ml_L_258 rfl ⟨Nat.le_of_ble_eq_true rfl, Nat.le_of_ble_eq_true rfl⟩ hl.1 rfl (Nat.le_of_ble_eq_true rfl) dL_isTold_236 ⟨by show _ ≤ 2; omega, by show _ ≤ 12; omega⟩ (fun H locs hH => ?_)
              refine lv_aload_n hx hb dL_isTold_239 rfl (lv_at hl 6 rfl) ?_
              refine lv_iconst (v := nI 1) hx hb dL_isTold_240 (by decide) ?_
              refine j_ld C0 hH hJ hL (ix := 1) (by omega) (by decide) (v := nI (nlN m)) hT.l0 dL_isTold_241 ?_
              refine lv_icmp_ne (tgt := 259) hx hb dL_isTold_242 (by decide) (fun c242_22 => ?_) (fun c242_22 => ?_)
              · exact absurd rfl c242_22
              · replace c242_22 : nlN m = nlN m := (nI_eq (a := nlN m) (b := nlN m) (by omega) (by omega)).mp c242_22
                refine lv_aload_n hx hb dL_isTold_245 rfl (lv_at hl 5 rfl) ?_
                refine j_q0m (rest := []) C0 hH hJ ho (cC_X10_hubs l G _ _ b c hJ.rest hwc) (v := nI (nhN m)) (v_nh hS) mv_X10_hubs ml_L_261 rfl ⟨Nat.le_of_ble_eq_true rfl, Nat.le_of_ble_eq_true rfl⟩ hl.1 rfl (Nat.le_of_ble_eq_true rfl) dL_isTold_246 ⟨by show _ ≤ 2; omega, by show _ ≤ 12; omega⟩ (fun H locs hH => ?_)
                refine lv_aload_n hx hb dL_isTold_249 rfl (lv_at hl 6 rfl) ?_
                refine lv_iconst (v := nI 0) hx hb dL_isTold_250 (by decide) ?_
                refine j_ld C0 hH hJ hL (ix := 0) (by omega) (by decide) (v := nI (nhN m)) hT.h0 dL_isTold_251 ?_
                refine lv_icmp_ne (tgt := 259) hx hb dL_isTold_252 (by decide) (fun c252_23 => ?_) (fun c252_23 => ?_)
                · exact absurd rfl c252_23
                · replace c252_23 : nhN m = nhN m := (nI_eq (a := nhN m) (b := nhN m) (by omega) (by omega)).mp c252_23
                  refine lv_iconst (v := nI 1) hx hb dL_isTold_255 (by decide) ?_
                  refine lv_goto (tgt := 260) hx hb dL_isTold_256 (by decide) ?_
                  exact e_Z C0 hr (by decide) hH ⟨rfl, rfl⟩ (by omega) (by omega) dL_isTold_260
  have K : ∀ (k p a2 a3 : Nat) (t : Int32), p + k = npN m → lateN m k p a2 = lateN m (npN m) 0 0 → manyN m k p a3 = manyN m (npN m) 0 0 → sumT m k p t = sumT m (npN m) 0 0 → a2 ≤ p → a3 ≤ p → ∀ (H : Heap) (locs : List Loc) (hH : HS G.1 G.2.1 A s.heap h H locs) (ls : Array Slot), lv_has ls 9 [(5, .int (nI p)), (4, .int (t)), (3, .int (nI a3)), (2, .int (nI a2)), (0, .ref (o)), (1, .ref (an))] → W pr l e (rmm 8 135 2 12) s m9 ([.ref (o), .ref (an)] : List Value).toArray below meth c9 H locs 0 0 (MQ below (va_Qi (fun r h' => r = nI 1 ∧ h' = h) (fun h' t => HW G.1 G.2.1 A h' t.heap) A) ([.ref (o), .ref (an)] : List Value).toArray s 2 12 A) (F0 m9 10 ls []) := by
    intro k
    induction k with
    | zero =>
      intro p a2 a3 t hk hE2 hE3 hE4 h2p h3p H locs hH ls hl
      refine lv_iload hx hb dL_isTold_10 (lv_at hl 0 rfl) ?_
      refine lv_aload_n hx hb dL_isTold_12 rfl (lv_at hl 5 rfl) ?_
      refine lv_iconst (v := nI 2) hx hb dL_isTold_13 (by decide) ?_
      refine j_ld C0 hH hJ hL (ix := 2) (by omega) (by decide) (v := nI (npN m)) hT.p0 dL_isTold_14 ?_
      refine lv_icmp_ge (tgt := 167) hx hb dL_isTold_15 (by decide) (fun c15_24 => ?_) (fun c15_24 => ?_)
      · replace c15_24 : npN m ≤ p := (nI_leI (a := npN m) (b := p) (by omega) (by omega)).mp c15_24
        have e2 : a2 = lateN m (npN m) 0 0 := hE2
        have e3 : a3 = manyN m (npN m) 0 0 := hE3
        have e4 : t = sumT m (npN m) 0 0 := hE4
        rw [e2, e3, e4] at hl
        exact TL H locs hH ls (lv_sub hl [1, 2, 3, 4, 5] rfl)
      · exact absurd ((nI_leI (by omega) (by omega)).mpr (show npN m ≤ p by omega)) c15_24
    | succ k ih =>
      intro p a2 a3 t hk hE2 hE3 hE4 h2p h3p H locs hH ls hl
      have hp : p < npN m := by omega
      have hdi := dlv_iff (hI p hp)
      refine lv_iload hx hb dL_isTold_10 (lv_at hl 0 rfl) ?_
      refine lv_aload_n hx hb dL_isTold_12 rfl (lv_at hl 5 rfl) ?_
      refine lv_iconst (v := nI 2) hx hb dL_isTold_13 (by decide) ?_
      refine j_ld C0 hH hJ hL (ix := 2) (by omega) (by decide) (v := nI (npN m)) hT.p0 dL_isTold_14 ?_
      refine lv_icmp_ge (tgt := 167) hx hb dL_isTold_15 (by decide) (fun c15_25 => ?_) (fun c15_25 => ?_)
      · exact absurd ((nI_leI (by omega) (by omega)).mp c15_25) (by omega)
      · replace c15_25 : ¬ (npN m ≤ p) := fun z => c15_25 ((nI_leI (a := npN m) (b := p) (by omega) (by omega)).mpr z)
        refine lv_sipush (v := nI 140) hx hb dL_isTold_18 (by decide) ?_
        refine lv_bipush (v := nI 12) hx hb dL_isTold_21 (by decide) ?_
        refine lv_iload hx hb dL_isTold_23 (lv_at hl 0 rfl) ?_
        refine lv_imul hx hb dL_isTold_25 ?_
        rw [show nI 12 * nI p = nI (12 * p) from nI_mul]
        refine lv_iadd hx hb dL_isTold_26 ?_
        rw [show nI 140 + nI (12 * p) = nI (140 + 12 * p) from nI_add _ _]
        refine lv_istore (lv' := [(6, .int (nI (140 + 12 * p))), (5, .int (nI p)), (4, .int (t)), (3, .int (nI a3)), (2, .int (nI a2)), (0, .ref (o)), (1, .ref (an))]) hx hb dL_isTold_27 hl (by decide) rfl (fun ls hl => ?_)
        refine lv_aload_n hx hb dL_isTold_29 rfl (lv_at hl 5 rfl) ?_
        refine lv_iload hx hb dL_isTold_30 (lv_at hl 1 rfl) ?_
        refine j_q0 (rest := []) C0 hH hJ ho (cN_X10_promise l hlt G _ _ b c hJ.rest hwc (nI p) (v_pX hS hw hwc hp)) (v_pX hS hw hwc hp) (v := m 20 p) (v_pk hS hw hp (k := 20) rfl) mv_X10_promise ml_L_142 rfl ⟨Nat.le_of_ble_eq_true rfl, Nat.le_of_ble_eq_true rfl⟩ hl.1 rfl (Nat.le_of_ble_eq_true rfl) dL_isTold_32 ⟨by show _ ≤ 2; omega, by show _ ≤ 12; omega⟩ (fun H locs hH => ?_)
        refine lv_istore (lv' := [(7, .int (m 20 p)), (6, .int (nI (140 + 12 * p))), (5, .int (nI p)), (4, .int (t)), (3, .int (nI a3)), (2, .int (nI a2)), (0, .ref (o)), (1, .ref (an))]) hx hb dL_isTold_35 hl (by decide) rfl (fun ls hl => ?_)
        refine lv_iload hx hb dL_isTold_37 (lv_at hl 0 rfl) ?_
        refine lv_if_lt (tgt := 80) hx hb dL_isTold_39 (by decide) (fun c39_26 => ?_) (fun c39_26 => ?_)
        · refine lv_iconst (v := nI 0) hx hb dL_isTold_80 (by decide) ?_
          refine lv_istore (lv' := [(8, .int (nI 0)), (7, .int (m 20 p)), (6, .int (nI (140 + 12 * p))), (5, .int (nI p)), (4, .int (t)), (3, .int (nI a3)), (2, .int (nI a2)), (0, .ref (o)), (1, .ref (an))]) hx hb dL_isTold_81 hl (by decide) rfl (fun ls hl => ?_)
          refine lv_aload_n hx hb dL_isTold_83 rfl (lv_at hl 7 rfl) ?_
          refine lv_iload hx hb dL_isTold_84 (lv_at hl 3 rfl) ?_
          have hlt9 : bi (late m p) = nI 0 := bi_f (fun z => Int32.not_lt.mpr z.1 c39_26)
          refine j_q0 (rest := []) C0 hH hJ ho (cN_X10_isLate l hlt G _ _ b c hJ.rest hwc (nI p) (v_pX hS hw hwc hp)) (v_pX hS hw hwc hp) (v := nI 0) ((v_late hS hw hp).trans hlt9) mv_X10_isLate ml_L_246 rfl ⟨Nat.le_of_ble_eq_true rfl, Nat.le_of_ble_eq_true rfl⟩ hl.1 rfl (Nat.le_of_ble_eq_true rfl) dL_isTold_86 ⟨by show _ ≤ 2; omega, by show _ ≤ 12; omega⟩ (fun H locs hH => ?_)
          refine lv_iload hx hb dL_isTold_89 (lv_at hl 0 rfl) ?_
          refine lv_icmp_eq (tgt := 96) hx hb dL_isTold_91 (by decide) (fun c91_27 => ?_) (fun c91_27 => ?_)
          · refine lv_iload_n hx hb dL_isTold_96 rfl (lv_at hl 6 rfl) ?_
            refine lv_iload hx hb dL_isTold_97 (lv_at hl 0 rfl) ?_
            refine lv_if_eq (tgt := 106) hx hb dL_isTold_99 (by decide) (fun c99_28 => ?_) (fun c99_28 => ?_)
            · refine lv_iconst (v := nI 0) hx hb dL_isTold_106 (by decide) ?_
              refine lv_iadd hx hb dL_isTold_107 ?_
              rw [show nI a2 + nI 0 = nI (a2 + 0) from nI_add _ _]
              refine lv_istore_n (lv' := [(2, .int (nI (a2 + 0))), (8, .int (nI 0)), (7, .int (m 20 p)), (6, .int (nI (140 + 12 * p))), (5, .int (nI p)), (4, .int (t)), (3, .int (nI a3)), (0, .ref (o)), (1, .ref (an))]) hx hb dL_isTold_108 rfl hl (by decide) rfl (fun ls hl => ?_)
              refine lv_iload_n hx hb dL_isTold_109 rfl (lv_at hl 6 rfl) ?_
              refine lv_aload_n hx hb dL_isTold_110 rfl (lv_at hl 8 rfl) ?_
              refine lv_iload hx hb dL_isTold_111 (lv_at hl 3 rfl) ?_
              refine lv_bipush (v := nI 11) hx hb dL_isTold_113 (by decide) ?_
              refine lv_iadd hx hb dL_isTold_115 ?_
              rw [show nI (140 + 12 * p) + nI 11 = nI (140 + 12 * p + 11) from nI_add _ _]
              refine j_ld C0 hH hJ hL (ix := 140 + 12 * p + 11) (by omega) (by decide) (v := if m 28 p = 100 then m 26 p else -1) (hT.pa hp).g11 dL_isTold_116 ?_
              refine lv_if_ge (tgt := 124) hx hb dL_isTold_117 (by decide) (fun c117_29 => ?_) (fun c117_29 => ?_)
              · refine lv_iconst (v := nI 1) hx hb dL_isTold_124 (by decide) ?_
                refine lv_iadd hx hb dL_isTold_125 ?_
                rw [show nI a3 + nI 1 = nI (a3 + 1) from nI_add _ _]
                refine lv_istore_n (lv' := [(3, .int (nI (a3 + 1))), (2, .int (nI (a2 + 0))), (8, .int (nI 0)), (7, .int (m 20 p)), (6, .int (nI (140 + 12 * p))), (5, .int (nI p)), (4, .int (t)), (0, .ref (o)), (1, .ref (an))]) hx hb dL_isTold_126 rfl hl (by decide) rfl (fun ls hl => ?_)
                refine lv_iload hx hb dL_isTold_127 (lv_at hl 6 rfl) ?_
                refine lv_aload_n hx hb dL_isTold_129 rfl (lv_at hl 8 rfl) ?_
                refine lv_iload hx hb dL_isTold_130 (lv_at hl 4 rfl) ?_
                refine lv_bipush (v := nI 11) hx hb dL_isTold_132 (by decide) ?_
                refine lv_iadd hx hb dL_isTold_134 ?_
                rw [show nI (140 + 12 * p) + nI 11 = nI (140 + 12 * p + 11) from nI_add _ _]
                refine j_ld C0 hH hJ hL (ix := 140 + 12 * p + 11) (by omega) (by decide) (v := if m 28 p = 100 then m 26 p else -1) (hT.pa hp).g11 dL_isTold_135 ?_
                refine lv_if_ge (tgt := 143) hx hb dL_isTold_136 (by decide) (fun c136_30 => ?_) (fun c136_30 => ?_)
                · refine lv_aload_n hx hb dL_isTold_143 rfl (lv_at hl 8 rfl) ?_
                  refine lv_iload hx hb dL_isTold_144 (lv_at hl 4 rfl) ?_
                  refine lv_bipush (v := nI 11) hx hb dL_isTold_146 (by decide) ?_
                  refine lv_iadd hx hb dL_isTold_148 ?_
                  rw [show nI (140 + 12 * p) + nI 11 = nI (140 + 12 * p + 11) from nI_add _ _]
                  refine j_ld C0 hH hJ hL (ix := 140 + 12 * p + 11) (by omega) (by decide) (v := if m 28 p = 100 then m 26 p else -1) (hT.pa hp).g11 dL_isTold_149 ?_
                  refine lv_aload_n hx hb dL_isTold_150 rfl (lv_at hl 8 rfl) ?_
                  refine lv_iload hx hb dL_isTold_151 (lv_at hl 4 rfl) ?_
                  refine lv_bipush (v := nI 9) hx hb dL_isTold_153 (by decide) ?_
                  refine lv_iadd hx hb dL_isTold_155 ?_
                  rw [show nI (140 + 12 * p) + nI 9 = nI (140 + 12 * p + 9) from nI_add _ _]
                  refine j_ld C0 hH hJ hL (ix := 140 + 12 * p + 9) (by omega) (by decide) (v := m 25 p) (hT.pa hp).g9 dL_isTold_156 ?_
                  refine lv_isub hx hb dL_isTold_157 ?_
                  refine lv_iadd hx hb dL_isTold_158 ?_
                  refine lv_istore (lv' := [(4, .int (t + ((if m 28 p = 100 then m 26 p else -1) - (m 25 p)))), (3, .int (nI (a3 + 1))), (2, .int (nI (a2 + 0))), (8, .int (nI 0)), (7, .int (m 20 p)), (6, .int (nI (140 + 12 * p))), (5, .int (nI p)), (0, .ref (o)), (1, .ref (an))]) hx hb dL_isTold_159 hl (by decide) rfl (fun ls hl => ?_)
                  refine lv_iinc (v := nI (p + 1)) (lv' := [(5, .int (nI (p + 1))), (4, .int (t + ((if m 28 p = 100 then m 26 p else -1) - (m 25 p)))), (3, .int (nI (a3 + 1))), (2, .int (nI (a2 + 0))), (8, .int (nI 0)), (7, .int (m 20 p)), (6, .int (nI (140 + 12 * p))), (0, .ref (o)), (1, .ref (an))]) hx hb dL_isTold_161 hl (k := 6) rfl (nI_add (p) 1) (by decide) rfl (fun ls hl => ?_)
                  refine lv_goto (tgt := 10) hx hb dL_isTold_164 (by decide) ?_
                  exact ih (p + 1) (a2 + 0) (a3 + 1) _ (by omega) (by rw [← hE2]; show _ = lateN m k (p + 1) (if late m p then a2 + 1 else a2); rw [if_neg (bi_0.mp hlt9)]; rfl) (by rw [← hE3]; show _ = manyN m k (p + 1) (if m 28 p = 100 then a3 + 1 else a3); rw [if_pos (hdi.mp c117_29)]) (by rw [← hE4]; show _ = sumT m k (p + 1) (t + (if m 28 p = 100 then m 26 p - m 25 p else 0)); rw [if_pos (hdi.mp c117_29), if_pos (hdi.mp c117_29)]) (by omega) (by omega) H locs hH ls (lv_sub hl [0, 1, 2, 3, 7, 8] rfl)
                · exact absurd c117_29 c136_30
              · refine lv_iconst (v := nI 0) hx hb dL_isTold_120 (by decide) ?_
                refine lv_goto (tgt := 125) hx hb dL_isTold_121 (by decide) ?_
                refine lv_iadd hx hb dL_isTold_125 ?_
                rw [show nI a3 + nI 0 = nI (a3 + 0) from nI_add _ _]
                refine lv_istore_n (lv' := [(3, .int (nI (a3 + 0))), (2, .int (nI (a2 + 0))), (8, .int (nI 0)), (7, .int (m 20 p)), (6, .int (nI (140 + 12 * p))), (5, .int (nI p)), (4, .int (t)), (0, .ref (o)), (1, .ref (an))]) hx hb dL_isTold_126 rfl hl (by decide) rfl (fun ls hl => ?_)
                refine lv_iload hx hb dL_isTold_127 (lv_at hl 6 rfl) ?_
                refine lv_aload_n hx hb dL_isTold_129 rfl (lv_at hl 8 rfl) ?_
                refine lv_iload hx hb dL_isTold_130 (lv_at hl 4 rfl) ?_
                refine lv_bipush (v := nI 11) hx hb dL_isTold_132 (by decide) ?_
                refine lv_iadd hx hb dL_isTold_134 ?_
                rw [show nI (140 + 12 * p) + nI 11 = nI (140 + 12 * p + 11) from nI_add _ _]
                refine j_ld C0 hH hJ hL (ix := 140 + 12 * p + 11) (by omega) (by decide) (v := if m 28 p = 100 then m 26 p else -1) (hT.pa hp).g11 dL_isTold_135 ?_
                refine lv_if_ge (tgt := 143) hx hb dL_isTold_136 (by decide) (fun c136_31 => ?_) (fun c136_31 => ?_)
                · exact absurd c136_31 c117_29
                · refine lv_iconst (v := nI 0) hx hb dL_isTold_139 (by decide) ?_
                  refine lv_goto (tgt := 158) hx hb dL_isTold_140 (by decide) ?_
                  refine lv_iadd hx hb dL_isTold_158 ?_
                  refine lv_istore (lv' := [(4, .int (t + (nI 0))), (3, .int (nI (a3 + 0))), (2, .int (nI (a2 + 0))), (8, .int (nI 0)), (7, .int (m 20 p)), (6, .int (nI (140 + 12 * p))), (5, .int (nI p)), (0, .ref (o)), (1, .ref (an))]) hx hb dL_isTold_159 hl (by decide) rfl (fun ls hl => ?_)
                  refine lv_iinc (v := nI (p + 1)) (lv' := [(5, .int (nI (p + 1))), (4, .int (t + (nI 0))), (3, .int (nI (a3 + 0))), (2, .int (nI (a2 + 0))), (8, .int (nI 0)), (7, .int (m 20 p)), (6, .int (nI (140 + 12 * p))), (0, .ref (o)), (1, .ref (an))]) hx hb dL_isTold_161 hl (k := 6) rfl (nI_add (p) 1) (by decide) rfl (fun ls hl => ?_)
                  refine lv_goto (tgt := 10) hx hb dL_isTold_164 (by decide) ?_
                  exact ih (p + 1) (a2 + 0) (a3 + 0) _ (by omega) (by rw [← hE2]; show _ = lateN m k (p + 1) (if late m p then a2 + 1 else a2); rw [if_neg (bi_0.mp hlt9)]; rfl) (by rw [← hE3]; show _ = manyN m k (p + 1) (if m 28 p = 100 then a3 + 1 else a3); rw [if_neg (fun z => c117_29 (hdi.mpr z))]; rfl) (by rw [← hE4]; show _ = sumT m k (p + 1) (t + (if m 28 p = 100 then m 26 p - m 25 p else 0)); rw [if_neg (fun z => c117_29 (hdi.mpr z))]; rfl) (by omega) (by omega) H locs hH ls (lv_sub hl [0, 1, 2, 3, 7, 8] rfl)
            · exact absurd (by decide) c99_28
          · exact absurd (by decide) c91_27
        · refine lv_aload_n hx hb dL_isTold_42 rfl (lv_at hl 7 rfl) ?_
          refine lv_iload hx hb dL_isTold_43 (lv_at hl 1 rfl) ?_
          refine lv_bipush (v := nI 8) hx hb dL_isTold_45 (by decide) ?_
          refine lv_iadd hx hb dL_isTold_47 ?_
          rw [show nI (140 + 12 * p) + nI 8 = nI (140 + 12 * p + 8) from nI_add _ _]
          refine j_ld C0 hH hJ hL (ix := 140 + 12 * p + 8) (by omega) (by decide) (v := m 21 p) (hT.pa hp).g8 dL_isTold_48 ?_
          refine lv_if_ge (tgt := 64) hx hb dL_isTold_49 (by decide) (fun c49_32 => ?_) (fun c49_32 => ?_)
          · refine lv_aload_n hx hb dL_isTold_64 rfl (lv_at hl 7 rfl) ?_
            refine lv_iload hx hb dL_isTold_65 (lv_at hl 1 rfl) ?_
            refine lv_bipush (v := nI 8) hx hb dL_isTold_67 (by decide) ?_
            refine lv_iadd hx hb dL_isTold_69 ?_
            rw [show nI (140 + 12 * p) + nI 8 = nI (140 + 12 * p + 8) from nI_add _ _]
            refine j_ld C0 hH hJ hL (ix := 140 + 12 * p + 8) (by omega) (by decide) (v := m 21 p) (hT.pa hp).g8 dL_isTold_70 ?_
            refine lv_iload hx hb dL_isTold_71 (lv_at hl 0 rfl) ?_
            refine lv_icmp_le (tgt := 80) hx hb dL_isTold_73 (by decide) (fun c73_33 => ?_) (fun c73_33 => ?_)
            · refine lv_iconst (v := nI 0) hx hb dL_isTold_80 (by decide) ?_
              refine lv_istore (lv' := [(8, .int (nI 0)), (7, .int (m 20 p)), (6, .int (nI (140 + 12 * p))), (5, .int (nI p)), (4, .int (t)), (3, .int (nI a3)), (2, .int (nI a2)), (0, .ref (o)), (1, .ref (an))]) hx hb dL_isTold_81 hl (by decide) rfl (fun ls hl => ?_)
              refine lv_aload_n hx hb dL_isTold_83 rfl (lv_at hl 7 rfl) ?_
              refine lv_iload hx hb dL_isTold_84 (lv_at hl 3 rfl) ?_
              have hlt9 : bi (late m p) = nI 0 := bi_f (fun z => by have y := z.2; rw [if_pos c49_32] at y; exact Int32.not_le.mpr y c73_33)
              refine j_q0 (rest := []) C0 hH hJ ho (cN_X10_isLate l hlt G _ _ b c hJ.rest hwc (nI p) (v_pX hS hw hwc hp)) (v_pX hS hw hwc hp) (v := nI 0) ((v_late hS hw hp).trans hlt9) mv_X10_isLate ml_L_246 rfl ⟨Nat.le_of_ble_eq_true rfl, Nat.le_of_ble_eq_true rfl⟩ hl.1 rfl (Nat.le_of_ble_eq_true rfl) dL_isTold_86 ⟨by show _ ≤ 2; omega, by show _ ≤ 12; omega⟩ (fun H locs hH => ?_)
              refine lv_iload hx hb dL_isTold_89 (lv_at hl 0 rfl) ?_
              refine lv_icmp_eq (tgt := 96) hx hb dL_isTold_91 (by decide) (fun c91_34 => ?_) (fun c91_34 => ?_)
              · refine lv_iload_n hx hb dL_isTold_96 rfl (lv_at hl 6 rfl) ?_
                refine lv_iload hx hb dL_isTold_97 (lv_at hl 0 rfl) ?_
                refine lv_if_eq (tgt := 106) hx hb dL_isTold_99 (by decide) (fun c99_35 => ?_) (fun c99_35 => ?_)
                · refine lv_iconst (v := nI 0) hx hb dL_isTold_106 (by decide) ?_
                  refine lv_iadd hx hb dL_isTold_107 ?_
                  rw [show nI a2 + nI 0 = nI (a2 + 0) from nI_add _ _]
                  refine lv_istore_n (lv' := [(2, .int (nI (a2 + 0))), (8, .int (nI 0)), (7, .int (m 20 p)), (6, .int (nI (140 + 12 * p))), (5, .int (nI p)), (4, .int (t)), (3, .int (nI a3)), (0, .ref (o)), (1, .ref (an))]) hx hb dL_isTold_108 rfl hl (by decide) rfl (fun ls hl => ?_)
                  refine lv_iload_n hx hb dL_isTold_109 rfl (lv_at hl 6 rfl) ?_
                  refine lv_aload_n hx hb dL_isTold_110 rfl (lv_at hl 8 rfl) ?_
                  refine lv_iload hx hb dL_isTold_111 (lv_at hl 3 rfl) ?_
                  refine lv_bipush (v := nI 11) hx hb dL_isTold_113 (by decide) ?_
                  refine lv_iadd hx hb dL_isTold_115 ?_
                  rw [show nI (140 + 12 * p) + nI 11 = nI (140 + 12 * p + 11) from nI_add _ _]
                  refine j_ld C0 hH hJ hL (ix := 140 + 12 * p + 11) (by omega) (by decide) (v := if m 28 p = 100 then m 26 p else -1) (hT.pa hp).g11 dL_isTold_116 ?_
                  refine lv_if_ge (tgt := 124) hx hb dL_isTold_117 (by decide) (fun c117_36 => ?_) (fun c117_36 => ?_)
                  · refine lv_iconst (v := nI 1) hx hb dL_isTold_124 (by decide) ?_
                    refine lv_iadd hx hb dL_isTold_125 ?_
                    rw [show nI a3 + nI 1 = nI (a3 + 1) from nI_add _ _]
                    refine lv_istore_n (lv' := [(3, .int (nI (a3 + 1))), (2, .int (nI (a2 + 0))), (8, .int (nI 0)), (7, .int (m 20 p)), (6, .int (nI (140 + 12 * p))), (5, .int (nI p)), (4, .int (t)), (0, .ref (o)), (1, .ref (an))]) hx hb dL_isTold_126 rfl hl (by decide) rfl (fun ls hl => ?_)
                    refine lv_iload hx hb dL_isTold_127 (lv_at hl 6 rfl) ?_
                    refine lv_aload_n hx hb dL_isTold_129 rfl (lv_at hl 8 rfl) ?_
                    refine lv_iload hx hb dL_isTold_130 (lv_at hl 4 rfl) ?_
                    refine lv_bipush (v := nI 11) hx hb dL_isTold_132 (by decide) ?_
                    refine lv_iadd hx hb dL_isTold_134 ?_
                    rw [show nI (140 + 12 * p) + nI 11 = nI (140 + 12 * p + 11) from nI_add _ _]
                    refine j_ld C0 hH hJ hL (ix := 140 + 12 * p + 11) (by omega) (by decide) (v := if m 28 p = 100 then m 26 p else -1) (hT.pa hp).g11 dL_isTold_135 ?_
                    refine lv_if_ge (tgt := 143) hx hb dL_isTold_136 (by decide) (fun c136_37 => ?_) (fun c136_37 => ?_)
                    · refine lv_aload_n hx hb dL_isTold_143 rfl (lv_at hl 8 rfl) ?_
                      refine lv_iload hx hb dL_isTold_144 (lv_at hl 4 rfl) ?_
                      refine lv_bipush (v := nI 11) hx hb dL_isTold_146 (by decide) ?_
                      refine lv_iadd hx hb dL_isTold_148 ?_
                      rw [show nI (140 + 12 * p) + nI 11 = nI (140 + 12 * p + 11) from nI_add _ _]
                      refine j_ld C0 hH hJ hL (ix := 140 + 12 * p + 11) (by omega) (by decide) (v := if m 28 p = 100 then m 26 p else -1) (hT.pa hp).g11 dL_isTold_149 ?_
                      refine lv_aload_n hx hb dL_isTold_150 rfl (lv_at hl 8 rfl) ?_
                      refine lv_iload hx hb dL_isTold_151 (lv_at hl 4 rfl) ?_
                      refine lv_bipush (v := nI 9) hx hb dL_isTold_153 (by decide) ?_
                      refine lv_iadd hx hb dL_isTold_155 ?_
                      rw [show nI (140 + 12 * p) + nI 9 = nI (140 + 12 * p + 9) from nI_add _ _]
                      refine j_ld C0 hH hJ hL (ix := 140 + 12 * p + 9) (by omega) (by decide) (v := m 25 p) (hT.pa hp).g9 dL_isTold_156 ?_
                      refine lv_isub hx hb dL_isTold_157 ?_
                      refine lv_iadd hx hb dL_isTold_158 ?_
                      refine lv_istore (lv' := [(4, .int (t + ((if m 28 p = 100 then m 26 p else -1) - (m 25 p)))), (3, .int (nI (a3 + 1))), (2, .int (nI (a2 + 0))), (8, .int (nI 0)), (7, .int (m 20 p)), (6, .int (nI (140 + 12 * p))), (5, .int (nI p)), (0, .ref (o)), (1, .ref (an))]) hx hb dL_isTold_159 hl (by decide) rfl (fun ls hl => ?_)
                      refine lv_iinc (v := nI (p + 1)) (lv' := [(5, .int (nI (p + 1))), (4, .int (t + ((if m 28 p = 100 then m 26 p else -1) - (m 25 p)))), (3, .int (nI (a3 + 1))), (2, .int (nI (a2 + 0))), (8, .int (nI 0)), (7, .int (m 20 p)), (6, .int (nI (140 + 12 * p))), (0, .ref (o)), (1, .ref (an))]) hx hb dL_isTold_161 hl (k := 6) rfl (nI_add (p) 1) (by decide) rfl (fun ls hl => ?_)
                      refine lv_goto (tgt := 10) hx hb dL_isTold_164 (by decide) ?_
                      exact ih (p + 1) (a2 + 0) (a3 + 1) _ (by omega) (by rw [← hE2]; show _ = lateN m k (p + 1) (if late m p then a2 + 1 else a2); rw [if_neg (bi_0.mp hlt9)]; rfl) (by rw [← hE3]; show _ = manyN m k (p + 1) (if m 28 p = 100 then a3 + 1 else a3); rw [if_pos (hdi.mp c117_36)]) (by rw [← hE4]; show _ = sumT m k (p + 1) (t + (if m 28 p = 100 then m 26 p - m 25 p else 0)); rw [if_pos (hdi.mp c117_36), if_pos (hdi.mp c117_36)]) (by omega) (by omega) H locs hH ls (lv_sub hl [0, 1, 2, 3, 7, 8] rfl)
                    · exact absurd c117_36 c136_37
                  · refine lv_iconst (v := nI 0) hx hb dL_isTold_120 (by decide) ?_
                    refine lv_goto (tgt := 125) hx hb dL_isTold_121 (by decide) ?_
                    refine lv_iadd hx hb dL_isTold_125 ?_
                    rw [show nI a3 + nI 0 = nI (a3 + 0) from nI_add _ _]
                    refine lv_istore_n (lv' := [(3, .int (nI (a3 + 0))), (2, .int (nI (a2 + 0))), (8, .int (nI 0)), (7, .int (m 20 p)), (6, .int (nI (140 + 12 * p))), (5, .int (nI p)), (4, .int (t)), (0, .ref (o)), (1, .ref (an))]) hx hb dL_isTold_126 rfl hl (by decide) rfl (fun ls hl => ?_)
                    refine lv_iload hx hb dL_isTold_127 (lv_at hl 6 rfl) ?_
                    refine lv_aload_n hx hb dL_isTold_129 rfl (lv_at hl 8 rfl) ?_
                    refine lv_iload hx hb dL_isTold_130 (lv_at hl 4 rfl) ?_
                    refine lv_bipush (v := nI 11) hx hb dL_isTold_132 (by decide) ?_
                    refine lv_iadd hx hb dL_isTold_134 ?_
                    rw [show nI (140 + 12 * p) + nI 11 = nI (140 + 12 * p + 11) from nI_add _ _]
                    refine j_ld C0 hH hJ hL (ix := 140 + 12 * p + 11) (by omega) (by decide) (v := if m 28 p = 100 then m 26 p else -1) (hT.pa hp).g11 dL_isTold_135 ?_
                    refine lv_if_ge (tgt := 143) hx hb dL_isTold_136 (by decide) (fun c136_38 => ?_) (fun c136_38 => ?_)
                    · exact absurd c136_38 c117_36
                    · refine lv_iconst (v := nI 0) hx hb dL_isTold_139 (by decide) ?_
                      refine lv_goto (tgt := 158) hx hb dL_isTold_140 (by decide) ?_
                      refine lv_iadd hx hb dL_isTold_158 ?_
                      refine lv_istore (lv' := [(4, .int (t + (nI 0))), (3, .int (nI (a3 + 0))), (2, .int (nI (a2 + 0))), (8, .int (nI 0)), (7, .int (m 20 p)), (6, .int (nI (140 + 12 * p))), (5, .int (nI p)), (0, .ref (o)), (1, .ref (an))]) hx hb dL_isTold_159 hl (by decide) rfl (fun ls hl => ?_)
                      refine lv_iinc (v := nI (p + 1)) (lv' := [(5, .int (nI (p + 1))), (4, .int (t + (nI 0))), (3, .int (nI (a3 + 0))), (2, .int (nI (a2 + 0))), (8, .int (nI 0)), (7, .int (m 20 p)), (6, .int (nI (140 + 12 * p))), (0, .ref (o)), (1, .ref (an))]) hx hb dL_isTold_161 hl (k := 6) rfl (nI_add (p) 1) (by decide) rfl (fun ls hl => ?_)
                      refine lv_goto (tgt := 10) hx hb dL_isTold_164 (by decide) ?_
                      exact ih (p + 1) (a2 + 0) (a3 + 0) _ (by omega) (by rw [← hE2]; show _ = lateN m k (p + 1) (if late m p then a2 + 1 else a2); rw [if_neg (bi_0.mp hlt9)]; rfl) (by rw [← hE3]; show _ = manyN m k (p + 1) (if m 28 p = 100 then a3 + 1 else a3); rw [if_neg (fun z => c117_36 (hdi.mpr z))]; rfl) (by rw [← hE4]; show _ = sumT m k (p + 1) (t + (if m 28 p = 100 then m 26 p - m 25 p else 0)); rw [if_neg (fun z => c117_36 (hdi.mpr z))]; rfl) (by omega) (by omega) H locs hH ls (lv_sub hl [0, 1, 2, 3, 7, 8] rfl)
                · exact absurd (by decide) c99_35
              · exact absurd (by decide) c91_34
            · refine lv_iconst (v := nI 1) hx hb dL_isTold_76 (by decide) ?_
              refine lv_goto (tgt := 81) hx hb dL_isTold_77 (by decide) ?_
              refine lv_istore (lv' := [(8, .int (nI 1)), (7, .int (m 20 p)), (6, .int (nI (140 + 12 * p))), (5, .int (nI p)), (4, .int (t)), (3, .int (nI a3)), (2, .int (nI a2)), (0, .ref (o)), (1, .ref (an))]) hx hb dL_isTold_81 hl (by decide) rfl (fun ls hl => ?_)
              refine lv_aload_n hx hb dL_isTold_83 rfl (lv_at hl 7 rfl) ?_
              refine lv_iload hx hb dL_isTold_84 (lv_at hl 3 rfl) ?_
              have hlt9 : bi (late m p) = nI 1 := bi_t ⟨Int32.not_lt.mp c39_26, by rw [if_pos c49_32]; exact Int32.not_le.mp c73_33⟩
              refine j_q0 (rest := []) C0 hH hJ ho (cN_X10_isLate l hlt G _ _ b c hJ.rest hwc (nI p) (v_pX hS hw hwc hp)) (v_pX hS hw hwc hp) (v := nI 1) ((v_late hS hw hp).trans hlt9) mv_X10_isLate ml_L_246 rfl ⟨Nat.le_of_ble_eq_true rfl, Nat.le_of_ble_eq_true rfl⟩ hl.1 rfl (Nat.le_of_ble_eq_true rfl) dL_isTold_86 ⟨by show _ ≤ 2; omega, by show _ ≤ 12; omega⟩ (fun H locs hH => ?_)
              refine lv_iload hx hb dL_isTold_89 (lv_at hl 0 rfl) ?_
              refine lv_icmp_eq (tgt := 96) hx hb dL_isTold_91 (by decide) (fun c91_39 => ?_) (fun c91_39 => ?_)
              · refine lv_iload_n hx hb dL_isTold_96 rfl (lv_at hl 6 rfl) ?_
                refine lv_iload hx hb dL_isTold_97 (lv_at hl 0 rfl) ?_
                refine lv_if_eq (tgt := 106) hx hb dL_isTold_99 (by decide) (fun c99_40 => ?_) (fun c99_40 => ?_)
                · exact absurd c99_40 (by decide)
                · refine lv_iconst (v := nI 1) hx hb dL_isTold_102 (by decide) ?_
                  refine lv_goto (tgt := 107) hx hb dL_isTold_103 (by decide) ?_
                  refine lv_iadd hx hb dL_isTold_107 ?_
                  rw [show nI a2 + nI 1 = nI (a2 + 1) from nI_add _ _]
                  refine lv_istore_n (lv' := [(2, .int (nI (a2 + 1))), (8, .int (nI 1)), (7, .int (m 20 p)), (6, .int (nI (140 + 12 * p))), (5, .int (nI p)), (4, .int (t)), (3, .int (nI a3)), (0, .ref (o)), (1, .ref (an))]) hx hb dL_isTold_108 rfl hl (by decide) rfl (fun ls hl => ?_)
                  refine lv_iload_n hx hb dL_isTold_109 rfl (lv_at hl 6 rfl) ?_
                  refine lv_aload_n hx hb dL_isTold_110 rfl (lv_at hl 8 rfl) ?_
                  refine lv_iload hx hb dL_isTold_111 (lv_at hl 3 rfl) ?_
                  refine lv_bipush (v := nI 11) hx hb dL_isTold_113 (by decide) ?_
                  refine lv_iadd hx hb dL_isTold_115 ?_
                  rw [show nI (140 + 12 * p) + nI 11 = nI (140 + 12 * p + 11) from nI_add _ _]
                  refine j_ld C0 hH hJ hL (ix := 140 + 12 * p + 11) (by omega) (by decide) (v := if m 28 p = 100 then m 26 p else -1) (hT.pa hp).g11 dL_isTold_116 ?_
                  refine lv_if_ge (tgt := 124) hx hb dL_isTold_117 (by decide) (fun c117_41 => ?_) (fun c117_41 => ?_)
                  · refine lv_iconst (v := nI 1) hx hb dL_isTold_124 (by decide) ?_
                    refine lv_iadd hx hb dL_isTold_125 ?_
                    rw [show nI a3 + nI 1 = nI (a3 + 1) from nI_add _ _]
                    refine lv_istore_n (lv' := [(3, .int (nI (a3 + 1))), (2, .int (nI (a2 + 1))), (8, .int (nI 1)), (7, .int (m 20 p)), (6, .int (nI (140 + 12 * p))), (5, .int (nI p)), (4, .int (t)), (0, .ref (o)), (1, .ref (an))]) hx hb dL_isTold_126 rfl hl (by decide) rfl (fun ls hl => ?_)
                    refine lv_iload hx hb dL_isTold_127 (lv_at hl 6 rfl) ?_
                    refine lv_aload_n hx hb dL_isTold_129 rfl (lv_at hl 8 rfl) ?_
                    refine lv_iload hx hb dL_isTold_130 (lv_at hl 4 rfl) ?_
                    refine lv_bipush (v := nI 11) hx hb dL_isTold_132 (by decide) ?_
                    refine lv_iadd hx hb dL_isTold_134 ?_
                    rw [show nI (140 + 12 * p) + nI 11 = nI (140 + 12 * p + 11) from nI_add _ _]
                    refine j_ld C0 hH hJ hL (ix := 140 + 12 * p + 11) (by omega) (by decide) (v := if m 28 p = 100 then m 26 p else -1) (hT.pa hp).g11 dL_isTold_135 ?_
                    refine lv_if_ge (tgt := 143) hx hb dL_isTold_136 (by decide) (fun c136_42 => ?_) (fun c136_42 => ?_)
                    · refine lv_aload_n hx hb dL_isTold_143 rfl (lv_at hl 8 rfl) ?_
                      refine lv_iload hx hb dL_isTold_144 (lv_at hl 4 rfl) ?_
                      refine lv_bipush (v := nI 11) hx hb dL_isTold_146 (by decide) ?_
                      refine lv_iadd hx hb dL_isTold_148 ?_
                      rw [show nI (140 + 12 * p) + nI 11 = nI (140 + 12 * p + 11) from nI_add _ _]
                      refine j_ld C0 hH hJ hL (ix := 140 + 12 * p + 11) (by omega) (by decide) (v := if m 28 p = 100 then m 26 p else -1) (hT.pa hp).g11 dL_isTold_149 ?_
                      refine lv_aload_n hx hb dL_isTold_150 rfl (lv_at hl 8 rfl) ?_
                      refine lv_iload hx hb dL_isTold_151 (lv_at hl 4 rfl) ?_
                      refine lv_bipush (v := nI 9) hx hb dL_isTold_153 (by decide) ?_
                      refine lv_iadd hx hb dL_isTold_155 ?_
                      rw [show nI (140 + 12 * p) + nI 9 = nI (140 + 12 * p + 9) from nI_add _ _]
                      refine j_ld C0 hH hJ hL (ix := 140 + 12 * p + 9) (by omega) (by decide) (v := m 25 p) (hT.pa hp).g9 dL_isTold_156 ?_
                      refine lv_isub hx hb dL_isTold_157 ?_
                      refine lv_iadd hx hb dL_isTold_158 ?_
                      refine lv_istore (lv' := [(4, .int (t + ((if m 28 p = 100 then m 26 p else -1) - (m 25 p)))), (3, .int (nI (a3 + 1))), (2, .int (nI (a2 + 1))), (8, .int (nI 1)), (7, .int (m 20 p)), (6, .int (nI (140 + 12 * p))), (5, .int (nI p)), (0, .ref (o)), (1, .ref (an))]) hx hb dL_isTold_159 hl (by decide) rfl (fun ls hl => ?_)
                      refine lv_iinc (v := nI (p + 1)) (lv' := [(5, .int (nI (p + 1))), (4, .int (t + ((if m 28 p = 100 then m 26 p else -1) - (m 25 p)))), (3, .int (nI (a3 + 1))), (2, .int (nI (a2 + 1))), (8, .int (nI 1)), (7, .int (m 20 p)), (6, .int (nI (140 + 12 * p))), (0, .ref (o)), (1, .ref (an))]) hx hb dL_isTold_161 hl (k := 6) rfl (nI_add (p) 1) (by decide) rfl (fun ls hl => ?_)
                      refine lv_goto (tgt := 10) hx hb dL_isTold_164 (by decide) ?_
                      exact ih (p + 1) (a2 + 1) (a3 + 1) _ (by omega) (by rw [← hE2]; show _ = lateN m k (p + 1) (if late m p then a2 + 1 else a2); rw [if_pos (bi_n0.mp (by rw [hlt9]; decide))]) (by rw [← hE3]; show _ = manyN m k (p + 1) (if m 28 p = 100 then a3 + 1 else a3); rw [if_pos (hdi.mp c117_41)]) (by rw [← hE4]; show _ = sumT m k (p + 1) (t + (if m 28 p = 100 then m 26 p - m 25 p else 0)); rw [if_pos (hdi.mp c117_41), if_pos (hdi.mp c117_41)]) (by omega) (by omega) H locs hH ls (lv_sub hl [0, 1, 2, 3, 7, 8] rfl)
                    · exact absurd c117_41 c136_42
                  · refine lv_iconst (v := nI 0) hx hb dL_isTold_120 (by decide) ?_
                    refine lv_goto (tgt := 125) hx hb dL_isTold_121 (by decide) ?_
                    refine lv_iadd hx hb dL_isTold_125 ?_
                    rw [show nI a3 + nI 0 = nI (a3 + 0) from nI_add _ _]
                    refine lv_istore_n (lv' := [(3, .int (nI (a3 + 0))), (2, .int (nI (a2 + 1))), (8, .int (nI 1)), (7, .int (m 20 p)), (6, .int (nI (140 + 12 * p))), (5, .int (nI p)), (4, .int (t)), (0, .ref (o)), (1, .ref (an))]) hx hb dL_isTold_126 rfl hl (by decide) rfl (fun ls hl => ?_)
                    refine lv_iload hx hb dL_isTold_127 (lv_at hl 6 rfl) ?_
                    refine lv_aload_n hx hb dL_isTold_129 rfl (lv_at hl 8 rfl) ?_
                    refine lv_iload hx hb dL_isTold_130 (lv_at hl 4 rfl) ?_
                    refine lv_bipush (v := nI 11) hx hb dL_isTold_132 (by decide) ?_
                    refine lv_iadd hx hb dL_isTold_134 ?_
                    rw [show nI (140 + 12 * p) + nI 11 = nI (140 + 12 * p + 11) from nI_add _ _]
                    refine j_ld C0 hH hJ hL (ix := 140 + 12 * p + 11) (by omega) (by decide) (v := if m 28 p = 100 then m 26 p else -1) (hT.pa hp).g11 dL_isTold_135 ?_
                    refine lv_if_ge (tgt := 143) hx hb dL_isTold_136 (by decide) (fun c136_43 => ?_) (fun c136_43 => ?_)
                    · exact absurd c136_43 c117_41
                    · refine lv_iconst (v := nI 0) hx hb dL_isTold_139 (by decide) ?_
                      refine lv_goto (tgt := 158) hx hb dL_isTold_140 (by decide) ?_
                      refine lv_iadd hx hb dL_isTold_158 ?_
                      refine lv_istore (lv' := [(4, .int (t + (nI 0))), (3, .int (nI (a3 + 0))), (2, .int (nI (a2 + 1))), (8, .int (nI 1)), (7, .int (m 20 p)), (6, .int (nI (140 + 12 * p))), (5, .int (nI p)), (0, .ref (o)), (1, .ref (an))]) hx hb dL_isTold_159 hl (by decide) rfl (fun ls hl => ?_)
                      refine lv_iinc (v := nI (p + 1)) (lv' := [(5, .int (nI (p + 1))), (4, .int (t + (nI 0))), (3, .int (nI (a3 + 0))), (2, .int (nI (a2 + 1))), (8, .int (nI 1)), (7, .int (m 20 p)), (6, .int (nI (140 + 12 * p))), (0, .ref (o)), (1, .ref (an))]) hx hb dL_isTold_161 hl (k := 6) rfl (nI_add (p) 1) (by decide) rfl (fun ls hl => ?_)
                      refine lv_goto (tgt := 10) hx hb dL_isTold_164 (by decide) ?_
                      exact ih (p + 1) (a2 + 1) (a3 + 0) _ (by omega) (by rw [← hE2]; show _ = lateN m k (p + 1) (if late m p then a2 + 1 else a2); rw [if_pos (bi_n0.mp (by rw [hlt9]; decide))]) (by rw [← hE3]; show _ = manyN m k (p + 1) (if m 28 p = 100 then a3 + 1 else a3); rw [if_neg (fun z => c117_41 (hdi.mpr z))]; rfl) (by rw [← hE4]; show _ = sumT m k (p + 1) (t + (if m 28 p = 100 then m 26 p - m 25 p else 0)); rw [if_neg (fun z => c117_41 (hdi.mpr z))]; rfl) (by omega) (by omega) H locs hH ls (lv_sub hl [0, 1, 2, 3, 7, 8] rfl)
              · exact absurd (by decide) c91_39
          · refine lv_iload hx hb dL_isTold_52 (lv_at hl 0 rfl) ?_
            refine lv_aload_n hx hb dL_isTold_54 rfl (lv_at hl 6 rfl) ?_
            refine j_q0m (rest := [.int (m 20 p)]) C0 hH hJ ho (cC_X10_minute l G _ _ b c hJ.rest hwc) (v := m 41 0) (v_min hS) mv_X10_minute ml_L_124 rfl ⟨Nat.le_of_ble_eq_true rfl, Nat.le_of_ble_eq_true rfl⟩ hl.1 rfl (Nat.le_of_ble_eq_true rfl) dL_isTold_55 ⟨by show _ ≤ 2; omega, by show _ ≤ 12; omega⟩ (fun H locs hH => ?_)
            refine lv_icmp_ge (tgt := 80) hx hb dL_isTold_58 (by decide) (fun c58_44 => ?_) (fun c58_44 => ?_)
            · refine lv_iconst (v := nI 0) hx hb dL_isTold_80 (by decide) ?_
              refine lv_istore (lv' := [(8, .int (nI 0)), (7, .int (m 20 p)), (6, .int (nI (140 + 12 * p))), (5, .int (nI p)), (4, .int (t)), (3, .int (nI a3)), (2, .int (nI a2)), (0, .ref (o)), (1, .ref (an))]) hx hb dL_isTold_81 hl (by decide) rfl (fun ls hl => ?_)
              refine lv_aload_n hx hb dL_isTold_83 rfl (lv_at hl 7 rfl) ?_
              refine lv_iload hx hb dL_isTold_84 (lv_at hl 3 rfl) ?_
              have hlt9 : bi (late m p) = nI 0 := bi_f (fun z => by have y := z.2; rw [if_neg c49_32] at y; exact Int32.not_le.mpr y c58_44)
              refine j_q0 (rest := []) C0 hH hJ ho (cN_X10_isLate l hlt G _ _ b c hJ.rest hwc (nI p) (v_pX hS hw hwc hp)) (v_pX hS hw hwc hp) (v := nI 0) ((v_late hS hw hp).trans hlt9) mv_X10_isLate ml_L_246 rfl ⟨Nat.le_of_ble_eq_true rfl, Nat.le_of_ble_eq_true rfl⟩ hl.1 rfl (Nat.le_of_ble_eq_true rfl) dL_isTold_86 ⟨by show _ ≤ 2; omega, by show _ ≤ 12; omega⟩ (fun H locs hH => ?_)
              refine lv_iload hx hb dL_isTold_89 (lv_at hl 0 rfl) ?_
              refine lv_icmp_eq (tgt := 96) hx hb dL_isTold_91 (by decide) (fun c91_45 => ?_) (fun c91_45 => ?_)
              · refine lv_iload_n hx hb dL_isTold_96 rfl (lv_at hl 6 rfl) ?_
                refine lv_iload hx hb dL_isTold_97 (lv_at hl 0 rfl) ?_
                refine lv_if_eq (tgt := 106) hx hb dL_isTold_99 (by decide) (fun c99_46 => ?_) (fun c99_46 => ?_)
                · refine lv_iconst (v := nI 0) hx hb dL_isTold_106 (by decide) ?_
                  refine lv_iadd hx hb dL_isTold_107 ?_
                  rw [show nI a2 + nI 0 = nI (a2 + 0) from nI_add _ _]
                  refine lv_istore_n (lv' := [(2, .int (nI (a2 + 0))), (8, .int (nI 0)), (7, .int (m 20 p)), (6, .int (nI (140 + 12 * p))), (5, .int (nI p)), (4, .int (t)), (3, .int (nI a3)), (0, .ref (o)), (1, .ref (an))]) hx hb dL_isTold_108 rfl hl (by decide) rfl (fun ls hl => ?_)
                  refine lv_iload_n hx hb dL_isTold_109 rfl (lv_at hl 6 rfl) ?_
                  refine lv_aload_n hx hb dL_isTold_110 rfl (lv_at hl 8 rfl) ?_
                  refine lv_iload hx hb dL_isTold_111 (lv_at hl 3 rfl) ?_
                  refine lv_bipush (v := nI 11) hx hb dL_isTold_113 (by decide) ?_
                  refine lv_iadd hx hb dL_isTold_115 ?_
                  rw [show nI (140 + 12 * p) + nI 11 = nI (140 + 12 * p + 11) from nI_add _ _]
                  refine j_ld C0 hH hJ hL (ix := 140 + 12 * p + 11) (by omega) (by decide) (v := if m 28 p = 100 then m 26 p else -1) (hT.pa hp).g11 dL_isTold_116 ?_
                  refine lv_if_ge (tgt := 124) hx hb dL_isTold_117 (by decide) (fun c117_47 => ?_) (fun c117_47 => ?_)
                  · refine lv_iconst (v := nI 1) hx hb dL_isTold_124 (by decide) ?_
                    refine lv_iadd hx hb dL_isTold_125 ?_
                    rw [show nI a3 + nI 1 = nI (a3 + 1) from nI_add _ _]
                    refine lv_istore_n (lv' := [(3, .int (nI (a3 + 1))), (2, .int (nI (a2 + 0))), (8, .int (nI 0)), (7, .int (m 20 p)), (6, .int (nI (140 + 12 * p))), (5, .int (nI p)), (4, .int (t)), (0, .ref (o)), (1, .ref (an))]) hx hb dL_isTold_126 rfl hl (by decide) rfl (fun ls hl => ?_)
                    refine lv_iload hx hb dL_isTold_127 (lv_at hl 6 rfl) ?_
                    refine lv_aload_n hx hb dL_isTold_129 rfl (lv_at hl 8 rfl) ?_
                    refine lv_iload hx hb dL_isTold_130 (lv_at hl 4 rfl) ?_
                    refine lv_bipush (v := nI 11) hx hb dL_isTold_132 (by decide) ?_
                    refine lv_iadd hx hb dL_isTold_134 ?_
                    rw [show nI (140 + 12 * p) + nI 11 = nI (140 + 12 * p + 11) from nI_add _ _]
                    refine j_ld C0 hH hJ hL (ix := 140 + 12 * p + 11) (by omega) (by decide) (v := if m 28 p = 100 then m 26 p else -1) (hT.pa hp).g11 dL_isTold_135 ?_
                    refine lv_if_ge (tgt := 143) hx hb dL_isTold_136 (by decide) (fun c136_48 => ?_) (fun c136_48 => ?_)
                    · refine lv_aload_n hx hb dL_isTold_143 rfl (lv_at hl 8 rfl) ?_
                      refine lv_iload hx hb dL_isTold_144 (lv_at hl 4 rfl) ?_
                      refine lv_bipush (v := nI 11) hx hb dL_isTold_146 (by decide) ?_
                      refine lv_iadd hx hb dL_isTold_148 ?_
                      rw [show nI (140 + 12 * p) + nI 11 = nI (140 + 12 * p + 11) from nI_add _ _]
                      refine j_ld C0 hH hJ hL (ix := 140 + 12 * p + 11) (by omega) (by decide) (v := if m 28 p = 100 then m 26 p else -1) (hT.pa hp).g11 dL_isTold_149 ?_
                      refine lv_aload_n hx hb dL_isTold_150 rfl (lv_at hl 8 rfl) ?_
                      refine lv_iload hx hb dL_isTold_151 (lv_at hl 4 rfl) ?_
                      refine lv_bipush (v := nI 9) hx hb dL_isTold_153 (by decide) ?_
                      refine lv_iadd hx hb dL_isTold_155 ?_
                      rw [show nI (140 + 12 * p) + nI 9 = nI (140 + 12 * p + 9) from nI_add _ _]
                      refine j_ld C0 hH hJ hL (ix := 140 + 12 * p + 9) (by omega) (by decide) (v := m 25 p) (hT.pa hp).g9 dL_isTold_156 ?_
                      refine lv_isub hx hb dL_isTold_157 ?_
                      refine lv_iadd hx hb dL_isTold_158 ?_
                      refine lv_istore (lv' := [(4, .int (t + ((if m 28 p = 100 then m 26 p else -1) - (m 25 p)))), (3, .int (nI (a3 + 1))), (2, .int (nI (a2 + 0))), (8, .int (nI 0)), (7, .int (m 20 p)), (6, .int (nI (140 + 12 * p))), (5, .int (nI p)), (0, .ref (o)), (1, .ref (an))]) hx hb dL_isTold_159 hl (by decide) rfl (fun ls hl => ?_)
                      refine lv_iinc (v := nI (p + 1)) (lv' := [(5, .int (nI (p + 1))), (4, .int (t + ((if m 28 p = 100 then m 26 p else -1) - (m 25 p)))), (3, .int (nI (a3 + 1))), (2, .int (nI (a2 + 0))), (8, .int (nI 0)), (7, .int (m 20 p)), (6, .int (nI (140 + 12 * p))), (0, .ref (o)), (1, .ref (an))]) hx hb dL_isTold_161 hl (k := 6) rfl (nI_add (p) 1) (by decide) rfl (fun ls hl => ?_)
                      refine lv_goto (tgt := 10) hx hb dL_isTold_164 (by decide) ?_
                      exact ih (p + 1) (a2 + 0) (a3 + 1) _ (by omega) (by rw [← hE2]; show _ = lateN m k (p + 1) (if late m p then a2 + 1 else a2); rw [if_neg (bi_0.mp hlt9)]; rfl) (by rw [← hE3]; show _ = manyN m k (p + 1) (if m 28 p = 100 then a3 + 1 else a3); rw [if_pos (hdi.mp c117_47)]) (by rw [← hE4]; show _ = sumT m k (p + 1) (t + (if m 28 p = 100 then m 26 p - m 25 p else 0)); rw [if_pos (hdi.mp c117_47), if_pos (hdi.mp c117_47)]) (by omega) (by omega) H locs hH ls (lv_sub hl [0, 1, 2, 3, 7, 8] rfl)
                    · exact absurd c117_47 c136_48
                  · refine lv_iconst (v := nI 0) hx hb dL_isTold_120 (by decide) ?_
                    refine lv_goto (tgt := 125) hx hb dL_isTold_121 (by decide) ?_
                    refine lv_iadd hx hb dL_isTold_125 ?_
                    rw [show nI a3 + nI 0 = nI (a3 + 0) from nI_add _ _]
                    refine lv_istore_n (lv' := [(3, .int (nI (a3 + 0))), (2, .int (nI (a2 + 0))), (8, .int (nI 0)), (7, .int (m 20 p)), (6, .int (nI (140 + 12 * p))), (5, .int (nI p)), (4, .int (t)), (0, .ref (o)), (1, .ref (an))]) hx hb dL_isTold_126 rfl hl (by decide) rfl (fun ls hl => ?_)
                    refine lv_iload hx hb dL_isTold_127 (lv_at hl 6 rfl) ?_
                    refine lv_aload_n hx hb dL_isTold_129 rfl (lv_at hl 8 rfl) ?_
                    refine lv_iload hx hb dL_isTold_130 (lv_at hl 4 rfl) ?_
                    refine lv_bipush (v := nI 11) hx hb dL_isTold_132 (by decide) ?_
                    refine lv_iadd hx hb dL_isTold_134 ?_
                    rw [show nI (140 + 12 * p) + nI 11 = nI (140 + 12 * p + 11) from nI_add _ _]
                    refine j_ld C0 hH hJ hL (ix := 140 + 12 * p + 11) (by omega) (by decide) (v := if m 28 p = 100 then m 26 p else -1) (hT.pa hp).g11 dL_isTold_135 ?_
                    refine lv_if_ge (tgt := 143) hx hb dL_isTold_136 (by decide) (fun c136_49 => ?_) (fun c136_49 => ?_)
                    · exact absurd c136_49 c117_47
                    · refine lv_iconst (v := nI 0) hx hb dL_isTold_139 (by decide) ?_
                      refine lv_goto (tgt := 158) hx hb dL_isTold_140 (by decide) ?_
                      refine lv_iadd hx hb dL_isTold_158 ?_
                      refine lv_istore (lv' := [(4, .int (t + (nI 0))), (3, .int (nI (a3 + 0))), (2, .int (nI (a2 + 0))), (8, .int (nI 0)), (7, .int (m 20 p)), (6, .int (nI (140 + 12 * p))), (5, .int (nI p)), (0, .ref (o)), (1, .ref (an))]) hx hb dL_isTold_159 hl (by decide) rfl (fun ls hl => ?_)
                      refine lv_iinc (v := nI (p + 1)) (lv' := [(5, .int (nI (p + 1))), (4, .int (t + (nI 0))), (3, .int (nI (a3 + 0))), (2, .int (nI (a2 + 0))), (8, .int (nI 0)), (7, .int (m 20 p)), (6, .int (nI (140 + 12 * p))), (0, .ref (o)), (1, .ref (an))]) hx hb dL_isTold_161 hl (k := 6) rfl (nI_add (p) 1) (by decide) rfl (fun ls hl => ?_)
                      refine lv_goto (tgt := 10) hx hb dL_isTold_164 (by decide) ?_
                      exact ih (p + 1) (a2 + 0) (a3 + 0) _ (by omega) (by rw [← hE2]; show _ = lateN m k (p + 1) (if late m p then a2 + 1 else a2); rw [if_neg (bi_0.mp hlt9)]; rfl) (by rw [← hE3]; show _ = manyN m k (p + 1) (if m 28 p = 100 then a3 + 1 else a3); rw [if_neg (fun z => c117_47 (hdi.mpr z))]; rfl) (by rw [← hE4]; show _ = sumT m k (p + 1) (t + (if m 28 p = 100 then m 26 p - m 25 p else 0)); rw [if_neg (fun z => c117_47 (hdi.mpr z))]; rfl) (by omega) (by omega) H locs hH ls (lv_sub hl [0, 1, 2, 3, 7, 8] rfl)
                · exact absurd (by decide) c99_46
              · exact absurd (by decide) c91_45
            · refine lv_goto (tgt := 76) hx hb dL_isTold_61 (by decide) ?_
              refine lv_iconst (v := nI 1) hx hb dL_isTold_76 (by decide) ?_
              refine lv_goto (tgt := 81) hx hb dL_isTold_77 (by decide) ?_
              refine lv_istore (lv' := [(8, .int (nI 1)), (7, .int (m 20 p)), (6, .int (nI (140 + 12 * p))), (5, .int (nI p)), (4, .int (t)), (3, .int (nI a3)), (2, .int (nI a2)), (0, .ref (o)), (1, .ref (an))]) hx hb dL_isTold_81 hl (by decide) rfl (fun ls hl => ?_)
              refine lv_aload_n hx hb dL_isTold_83 rfl (lv_at hl 7 rfl) ?_
              refine lv_iload hx hb dL_isTold_84 (lv_at hl 3 rfl) ?_
              have hlt9 : bi (late m p) = nI 1 := bi_t ⟨Int32.not_lt.mp c39_26, by rw [if_neg c49_32]; exact Int32.not_le.mp c58_44⟩
              refine j_q0 (rest := []) C0 hH hJ ho (cN_X10_isLate l hlt G _ _ b c hJ.rest hwc (nI p) (v_pX hS hw hwc hp)) (v_pX hS hw hwc hp) (v := nI 1) ((v_late hS hw hp).trans hlt9) mv_X10_isLate ml_L_246 rfl ⟨Nat.le_of_ble_eq_true rfl, Nat.le_of_ble_eq_true rfl⟩ hl.1 rfl (Nat.le_of_ble_eq_true rfl) dL_isTold_86 ⟨by show _ ≤ 2; omega, by show _ ≤ 12; omega⟩ (fun H locs hH => ?_)
              refine lv_iload hx hb dL_isTold_89 (lv_at hl 0 rfl) ?_
              refine lv_icmp_eq (tgt := 96) hx hb dL_isTold_91 (by decide) (fun c91_50 => ?_) (fun c91_50 => ?_)
              · refine lv_iload_n hx hb dL_isTold_96 rfl (lv_at hl 6 rfl) ?_
                refine lv_iload hx hb dL_isTold_97 (lv_at hl 0 rfl) ?_
                refine lv_if_eq (tgt := 106) hx hb dL_isTold_99 (by decide) (fun c99_51 => ?_) (fun c99_51 => ?_)
                · exact absurd c99_51 (by decide)
                · refine lv_iconst (v := nI 1) hx hb dL_isTold_102 (by decide) ?_
                  refine lv_goto (tgt := 107) hx hb dL_isTold_103 (by decide) ?_
                  refine lv_iadd hx hb dL_isTold_107 ?_
                  rw [show nI a2 + nI 1 = nI (a2 + 1) from nI_add _ _]
                  refine lv_istore_n (lv' := [(2, .int (nI (a2 + 1))), (8, .int (nI 1)), (7, .int (m 20 p)), (6, .int (nI (140 + 12 * p))), (5, .int (nI p)), (4, .int (t)), (3, .int (nI a3)), (0, .ref (o)), (1, .ref (an))]) hx hb dL_isTold_108 rfl hl (by decide) rfl (fun ls hl => ?_)
                  refine lv_iload_n hx hb dL_isTold_109 rfl (lv_at hl 6 rfl) ?_
                  refine lv_aload_n hx hb dL_isTold_110 rfl (lv_at hl 8 rfl) ?_
                  refine lv_iload hx hb dL_isTold_111 (lv_at hl 3 rfl) ?_
                  refine lv_bipush (v := nI 11) hx hb dL_isTold_113 (by decide) ?_
                  refine lv_iadd hx hb dL_isTold_115 ?_
                  rw [show nI (140 + 12 * p) + nI 11 = nI (140 + 12 * p + 11) from nI_add _ _]
                  refine j_ld C0 hH hJ hL (ix := 140 + 12 * p + 11) (by omega) (by decide) (v := if m 28 p = 100 then m 26 p else -1) (hT.pa hp).g11 dL_isTold_116 ?_
                  refine lv_if_ge (tgt := 124) hx hb dL_isTold_117 (by decide) (fun c117_52 => ?_) (fun c117_52 => ?_)
                  · refine lv_iconst (v := nI 1) hx hb dL_isTold_124 (by decide) ?_
                    refine lv_iadd hx hb dL_isTold_125 ?_
                    rw [show nI a3 + nI 1 = nI (a3 + 1) from nI_add _ _]
                    refine lv_istore_n (lv' := [(3, .int (nI (a3 + 1))), (2, .int (nI (a2 + 1))), (8, .int (nI 1)), (7, .int (m 20 p)), (6, .int (nI (140 + 12 * p))), (5, .int (nI p)), (4, .int (t)), (0, .ref (o)), (1, .ref (an))]) hx hb dL_isTold_126 rfl hl (by decide) rfl (fun ls hl => ?_)
                    refine lv_iload hx hb dL_isTold_127 (lv_at hl 6 rfl) ?_
                    refine lv_aload_n hx hb dL_isTold_129 rfl (lv_at hl 8 rfl) ?_
                    refine lv_iload hx hb dL_isTold_130 (lv_at hl 4 rfl) ?_
                    refine lv_bipush (v := nI 11) hx hb dL_isTold_132 (by decide) ?_
                    refine lv_iadd hx hb dL_isTold_134 ?_
                    rw [show nI (140 + 12 * p) + nI 11 = nI (140 + 12 * p + 11) from nI_add _ _]
                    refine j_ld C0 hH hJ hL (ix := 140 + 12 * p + 11) (by omega) (by decide) (v := if m 28 p = 100 then m 26 p else -1) (hT.pa hp).g11 dL_isTold_135 ?_
                    refine lv_if_ge (tgt := 143) hx hb dL_isTold_136 (by decide) (fun c136_53 => ?_) (fun c136_53 => ?_)
                    · refine lv_aload_n hx hb dL_isTold_143 rfl (lv_at hl 8 rfl) ?_
                      refine lv_iload hx hb dL_isTold_144 (lv_at hl 4 rfl) ?_
                      refine lv_bipush (v := nI 11) hx hb dL_isTold_146 (by decide) ?_
                      refine lv_iadd hx hb dL_isTold_148 ?_
                      rw [show nI (140 + 12 * p) + nI 11 = nI (140 + 12 * p + 11) from nI_add _ _]
                      refine j_ld C0 hH hJ hL (ix := 140 + 12 * p + 11) (by omega) (by decide) (v := if m 28 p = 100 then m 26 p else -1) (hT.pa hp).g11 dL_isTold_149 ?_
                      refine lv_aload_n hx hb dL_isTold_150 rfl (lv_at hl 8 rfl) ?_
                      refine lv_iload hx hb dL_isTold_151 (lv_at hl 4 rfl) ?_
                      refine lv_bipush (v := nI 9) hx hb dL_isTold_153 (by decide) ?_
                      refine lv_iadd hx hb dL_isTold_155 ?_
                      rw [show nI (140 + 12 * p) + nI 9 = nI (140 + 12 * p + 9) from nI_add _ _]
                      refine j_ld C0 hH hJ hL (ix := 140 + 12 * p + 9) (by omega) (by decide) (v := m 25 p) (hT.pa hp).g9 dL_isTold_156 ?_
                      refine lv_isub hx hb dL_isTold_157 ?_
                      refine lv_iadd hx hb dL_isTold_158 ?_
                      refine lv_istore (lv' := [(4, .int (t + ((if m 28 p = 100 then m 26 p else -1) - (m 25 p)))), (3, .int (nI (a3 + 1))), (2, .int (nI (a2 + 1))), (8, .int (nI 1)), (7, .int (m 20 p)), (6, .int (nI (140 + 12 * p))), (5, .int (nI p)), (0, .ref (o)), (1, .ref (an))]) hx hb dL_isTold_159 hl (by decide) rfl (fun ls hl => ?_)
                      refine lv_iinc (v := nI (p + 1)) (lv' := [(5, .int (nI (p + 1))), (4, .int (t + ((if m 28 p = 100 then m 26 p else -1) - (m 25 p)))), (3, .int (nI (a3 + 1))), (2, .int (nI (a2 + 1))), (8, .int (nI 1)), (7, .int (m 20 p)), (6, .int (nI (140 + 12 * p))), (0, .ref (o)), (1, .ref (an))]) hx hb dL_isTold_161 hl (k := 6) rfl (nI_add (p) 1) (by decide) rfl (fun ls hl => ?_)
                      refine lv_goto (tgt := 10) hx hb dL_isTold_164 (by decide) ?_
                      exact ih (p + 1) (a2 + 1) (a3 + 1) _ (by omega) (by rw [← hE2]; show _ = lateN m k (p + 1) (if late m p then a2 + 1 else a2); rw [if_pos (bi_n0.mp (by rw [hlt9]; decide))]) (by rw [← hE3]; show _ = manyN m k (p + 1) (if m 28 p = 100 then a3 + 1 else a3); rw [if_pos (hdi.mp c117_52)]) (by rw [← hE4]; show _ = sumT m k (p + 1) (t + (if m 28 p = 100 then m 26 p - m 25 p else 0)); rw [if_pos (hdi.mp c117_52), if_pos (hdi.mp c117_52)]) (by omega) (by omega) H locs hH ls (lv_sub hl [0, 1, 2, 3, 7, 8] rfl)
                    · exact absurd c117_52 c136_53
                  · refine lv_iconst (v := nI 0) hx hb dL_isTold_120 (by decide) ?_
                    refine lv_goto (tgt := 125) hx hb dL_isTold_121 (by decide) ?_
                    refine lv_iadd hx hb dL_isTold_125 ?_
                    rw [show nI a3 + nI 0 = nI (a3 + 0) from nI_add _ _]
                    refine lv_istore_n (lv' := [(3, .int (nI (a3 + 0))), (2, .int (nI (a2 + 1))), (8, .int (nI 1)), (7, .int (m 20 p)), (6, .int (nI (140 + 12 * p))), (5, .int (nI p)), (4, .int (t)), (0, .ref (o)), (1, .ref (an))]) hx hb dL_isTold_126 rfl hl (by decide) rfl (fun ls hl => ?_)
                    refine lv_iload hx hb dL_isTold_127 (lv_at hl 6 rfl) ?_
                    refine lv_aload_n hx hb dL_isTold_129 rfl (lv_at hl 8 rfl) ?_
                    refine lv_iload hx hb dL_isTold_130 (lv_at hl 4 rfl) ?_
                    refine lv_bipush (v := nI 11) hx hb dL_isTold_132 (by decide) ?_
                    refine lv_iadd hx hb dL_isTold_134 ?_
                    rw [show nI (140 + 12 * p) + nI 11 = nI (140 + 12 * p + 11) from nI_add _ _]
                    refine j_ld C0 hH hJ hL (ix := 140 + 12 * p + 11) (by omega) (by decide) (v := if m 28 p = 100 then m 26 p else -1) (hT.pa hp).g11 dL_isTold_135 ?_
                    refine lv_if_ge (tgt := 143) hx hb dL_isTold_136 (by decide) (fun c136_54 => ?_) (fun c136_54 => ?_)
                    · exact absurd c136_54 c117_52
                    · refine lv_iconst (v := nI 0) hx hb dL_isTold_139 (by decide) ?_
                      refine lv_goto (tgt := 158) hx hb dL_isTold_140 (by decide) ?_
                      refine lv_iadd hx hb dL_isTold_158 ?_
                      refine lv_istore (lv' := [(4, .int (t + (nI 0))), (3, .int (nI (a3 + 0))), (2, .int (nI (a2 + 1))), (8, .int (nI 1)), (7, .int (m 20 p)), (6, .int (nI (140 + 12 * p))), (5, .int (nI p)), (0, .ref (o)), (1, .ref (an))]) hx hb dL_isTold_159 hl (by decide) rfl (fun ls hl => ?_)
                      refine lv_iinc (v := nI (p + 1)) (lv' := [(5, .int (nI (p + 1))), (4, .int (t + (nI 0))), (3, .int (nI (a3 + 0))), (2, .int (nI (a2 + 1))), (8, .int (nI 1)), (7, .int (m 20 p)), (6, .int (nI (140 + 12 * p))), (0, .ref (o)), (1, .ref (an))]) hx hb dL_isTold_161 hl (k := 6) rfl (nI_add (p) 1) (by decide) rfl (fun ls hl => ?_)
                      refine lv_goto (tgt := 10) hx hb dL_isTold_164 (by decide) ?_
                      exact ih (p + 1) (a2 + 1) (a3 + 0) _ (by omega) (by rw [← hE2]; show _ = lateN m k (p + 1) (if late m p then a2 + 1 else a2); rw [if_pos (bi_n0.mp (by rw [hlt9]; decide))]) (by rw [← hE3]; show _ = manyN m k (p + 1) (if m 28 p = 100 then a3 + 1 else a3); rw [if_neg (fun z => c117_52 (hdi.mpr z))]; rfl) (by rw [← hE4]; show _ = sumT m k (p + 1) (t + (if m 28 p = 100 then m 26 p - m 25 p else 0)); rw [if_neg (fun z => c117_52 (hdi.mpr z))]; rfl) (by omega) (by omega) H locs hH ls (lv_sub hl [0, 1, 2, 3, 7, 8] rfl)
              · exact absurd (by decide) c91_50
  exact K (npN m) 0 0 0 0 (by omega) rfl rfl rfl (Nat.le_refl _) (Nat.le_refl _) _ _ hH ls (lv_sub hl [0, 1, 2, 3, 4, 5] rfl)
