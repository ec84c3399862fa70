set_option maxHeartbeats 8000000 in
set_option maxRecDepth 100000 in
theorem law_tail {pr : Program} {l : Launch} {e : Env} {s : State} {m9 : MethodId} {below : List Frame} {meth : Method} {c9 : Code} (hlt : l.stackTraces = false) (Sc : SCR) (G : GT) (A : Nat → Prop) (C0 : CX pr l s m9 #[Value.ref Sc.1] meth c9 code 5 "RoutepostLaw" G A) (hN : LX Sc A s) (hA0 : ∀ q, A q → s.heap.size ≤ q) (hr : meth.sig.returnType = ret) (kk : Nat) (h : AH) (b : BA) (c m : MM) (n : Nat) (L : LNum) (M : LRef) (o : Nat) (hJ : JW G.2.2.1 h b c L M) (ho : b 14 0 = o) (hwc : WFc c) (hSt : Stt n c m) (an : Nat) (f : Nat → Int32) (hL : L an = some (700, f)) (hT : NT f m) (h2 : 2 ≤ nhN m) (h00 : m 0 0 = nI (codeN (kk % 6))) {H : Heap} {locs : List Loc} (hH : HS G.1 G.2.1 A s.heap h H locs) {ls : Array Slot} (hl : lv_has ls 5 [(0, .ref (Sc.1)), (1, .ref (an)), (2, .ref (o))]) {cells slots : Nat} (hcc : cells ≤ 500000) (hss : slots ≤ 7000000) : W pr l e room_1 s m9 #[Value.ref Sc.1] below meth c9 H locs cells slots (lw_Z below #[Value.ref Sc.1] s) (F0 m9 104 ls []) := by
  obtain ⟨hx, hb, hml, hown, hts, hK, hA, -, -, hlocks⟩ := id C0
  obtain ⟨hS, hw, hI⟩ := id hSt
  have n6 := hw.nh.2
  have n40 := hw.np.2
  have nl12 := hw.nl.2
  refine lv_aload_n hx hb dL_law_104 rfl (lv_at hl 2 rfl) ?_
  refine lv_bipush (v := nI 10) hx hb dL_law_105 (by decide) ?_
  refine lv_iconst (v := nI 1) hx hb dL_law_107 (by decide) ?_
  have hx1 := t_open1 c
  refine j_w0 (As := [.int (nI 10), .int (nI 1)]) (rest := []) (v := -900001) C0 hN hH ho (lW_openHub (nI 10) (nI 1) hJ.own hJ.obj (cC_X10_openHub_no l hlt G _ _ b c hJ.rest hwc (nI 10) (nI 1) (by rw [hx1]; exact fun z => nomatch z)) (hin_x hx1 (fun E h9 z => z.1) ⟨_, List.mem_cons_self⟩)) (hv_x0 hx1 rfl (fun r h9 z => z.1)) ms_L_openHub ml_L_117 rfl ⟨Nat.le_of_ble_eq_true rfl, Nat.le_of_ble_eq_true rfl⟩ hl.1 rfl (Nat.le_of_ble_eq_true rfl) dL_law_108 ⟨by show _ ≤ 600222; omega, by show _ ≤ 7294950; omega⟩ (fun H locs hH => ?_)
  refine lv_ldc hx hb hown (hts _ kl_L_17) dL_law_111 ?_
  refine lv_icmp_ne (tgt := 319) hx hb dL_law_113 (by decide) (fun c113_1 => ?_) (fun c113_1 => ?_)
  · exact absurd (by decide) c113_1
  · refine lv_aload_n hx hb dL_law_116 rfl (lv_at hl 2 rfl) ?_
    refine lv_sipush (v := nI 1111) hx hb dL_law_117 (by decide) ?_
    refine lv_iconst (v := nI 1) hx hb dL_law_120 (by decide) ?_
    have hx2 := t_open2 c
    refine j_w0 (As := [.int (nI 1111), .int (nI 1)]) (rest := []) (v := -900001) C0 hN hH ho (lW_openHub (nI 1111) (nI 1) hJ.own hJ.obj (cC_X10_openHub_no l hlt G _ _ b c hJ.rest hwc (nI 1111) (nI 1) (by rw [hx2]; exact fun z => nomatch z)) (hin_x hx2 (fun E h9 z => z.1) ⟨_, List.mem_cons_self⟩)) (hv_x0 hx2 rfl (fun r h9 z => z.1)) ms_L_openHub ml_L_117 rfl ⟨Nat.le_of_ble_eq_true rfl, Nat.le_of_ble_eq_true rfl⟩ hl.1 rfl (Nat.le_of_ble_eq_true rfl) dL_law_121 ⟨by show _ ≤ 600222; omega, by show _ ≤ 7294950; omega⟩ (fun H locs hH => ?_)
    refine lv_ldc hx hb hown (hts _ kl_L_17) dL_law_124 ?_
    refine lv_icmp_ne (tgt := 319) hx hb dL_law_126 (by decide) (fun c126_2 => ?_) (fun c126_2 => ?_)
    · exact absurd (by decide) c126_2
    · refine lv_aload_n hx hb dL_law_129 rfl (lv_at hl 2 rfl) ?_
      refine lv_aload_n hx hb dL_law_130 rfl (lv_at hl 1 rfl) ?_
      refine lv_bipush (v := nI 10) hx hb dL_law_131 (by decide) ?_
      refine j_ld C0 hH hJ hL (ix := 10) (by omega) (by decide) (v := m 0 0) ((hT.cd (i := 0) (by omega))) dL_law_133 ?_
      refine lv_iconst (v := nI 1) hx hb dL_law_134 (by decide) ?_
      have hx3 := t_open3 hS h2 h00
      refine j_w0 (As := [.int (m 0 0), .int (nI 1)]) (rest := []) (v := -900002) C0 hN hH ho (lW_openHub (m 0 0) (nI 1) hJ.own hJ.obj (cC_X10_openHub_no l hlt G _ _ b c hJ.rest hwc (m 0 0) (nI 1) (by rw [hx3]; exact fun z => nomatch z)) (hin_x hx3 (fun E h9 z => z.1) ⟨_, List.mem_cons_of_mem _ List.mem_cons_self⟩)) (hv_x0 hx3 rfl (fun r h9 z => z.1)) ms_L_openHub ml_L_117 rfl ⟨Nat.le_of_ble_eq_true rfl, Nat.le_of_ble_eq_true rfl⟩ hl.1 rfl (Nat.le_of_ble_eq_true rfl) dL_law_135 ⟨by show _ ≤ 600222; omega, by show _ ≤ 7294950; omega⟩ (fun H locs hH => ?_)
      refine lv_ldc hx hb hown (hts _ kl_L_20) dL_law_138 ?_
      refine lv_icmp_ne (tgt := 319) hx hb dL_law_140 (by decide) (fun c140_3 => ?_) (fun c140_3 => ?_)
      · exact absurd (by decide) c140_3
      · refine lv_aload_n hx hb dL_law_143 rfl (lv_at hl 2 rfl) ?_
        refine lv_iconst (v := nI 0) hx hb dL_law_144 (by decide) ?_
        refine lv_aload_n hx hb dL_law_145 rfl (lv_at hl 1 rfl) ?_
        refine lv_iconst (v := nI 0) hx hb dL_law_146 (by decide) ?_
        refine j_ld C0 hH hJ hL (ix := 0) (by omega) (by decide) (v := nI (nhN m)) hT.h0 dL_law_147 ?_
        refine lv_iconst (v := nI 0) hx hb dL_law_148 (by decide) ?_
        refine lv_iconst (v := nI 5) hx hb dL_law_149 (by decide) ?_
        refine lv_iconst (v := nI 1) hx hb dL_law_150 (by decide) ?_
        refine lv_iconst (v := nI 1) hx hb dL_law_151 (by decide) ?_
        have hx4 := t_add1 hS hwc h2 hw.nh.2 (nI 0) (nI 5) (nI 1) (nI 1)
        refine j_w0 (As := [.int (nI 0), .int (nI (nhN m)), .int (nI 0), .int (nI 5), .int (nI 1), .int (nI 1)]) (rest := []) (v := -900001) C0 hN hH ho (lW_addLine (nI 0) (nI (nhN m)) (nI 0) (nI 5) (nI 1) (nI 1) hJ.own hJ.obj (cC_X10_addLine_no l hlt G _ _ b c hJ.rest hwc (nI 0) (nI (nhN m)) (nI 0) (nI 5) (nI 1) (nI 1) (by rw [hx4]; exact fun z => nomatch z)) (hin_x hx4 (fun E h9 z => z.1) ⟨_, List.mem_cons_self⟩)) (hv_x0 hx4 rfl (fun r h9 z => z.1)) ms_L_addLine ml_L_110 rfl ⟨Nat.le_of_ble_eq_true rfl, Nat.le_of_ble_eq_true rfl⟩ hl.1 rfl (Nat.le_of_ble_eq_true rfl) dL_law_152 ⟨by show _ ≤ 600222; omega, by show _ ≤ 7294950; omega⟩ (fun H locs hH => ?_)
        refine lv_ldc hx hb hown (hts _ kl_L_17) dL_law_155 ?_
        refine lv_icmp_ne (tgt := 319) hx hb dL_law_157 (by decide) (fun c157_4 => ?_) (fun c157_4 => ?_)
        · exact absurd (by decide) c157_4
        · refine lv_aload_n hx hb dL_law_160 rfl (lv_at hl 2 rfl) ?_
          refine lv_iconst (v := nI 1) hx hb dL_law_161 (by decide) ?_
          refine lv_iconst (v := nI 1) hx hb dL_law_162 (by decide) ?_
          refine lv_iconst (v := nI 0) hx hb dL_law_163 (by decide) ?_
          refine lv_iconst (v := nI 5) hx hb dL_law_164 (by decide) ?_
          refine lv_iconst (v := nI 1) hx hb dL_law_165 (by decide) ?_
          refine lv_iconst (v := nI 1) hx hb dL_law_166 (by decide) ?_
          have hx5 := t_add2 hS hwc h2 hw.nh.2 (nI 0) (nI 5) (nI 1) (nI 1)
          refine j_w0 (As := [.int (nI 1), .int (nI 1), .int (nI 0), .int (nI 5), .int (nI 1), .int (nI 1)]) (rest := []) (v := -900002) C0 hN hH ho (lW_addLine (nI 1) (nI 1) (nI 0) (nI 5) (nI 1) (nI 1) hJ.own hJ.obj (cC_X10_addLine_no l hlt G _ _ b c hJ.rest hwc (nI 1) (nI 1) (nI 0) (nI 5) (nI 1) (nI 1) (by rw [hx5]; exact fun z => nomatch z)) (hin_x hx5 (fun E h9 z => z.1) ⟨_, List.mem_cons_of_mem _ List.mem_cons_self⟩)) (hv_x0 hx5 rfl (fun r h9 z => z.1)) ms_L_addLine ml_L_110 rfl ⟨Nat.le_of_ble_eq_true rfl, Nat.le_of_ble_eq_true rfl⟩ hl.1 rfl (Nat.le_of_ble_eq_true rfl) dL_law_167 ⟨by show _ ≤ 600222; omega, by show _ ≤ 7294950; omega⟩ (fun H locs hH => ?_)
          refine lv_ldc hx hb hown (hts _ kl_L_20) dL_law_170 ?_
          refine lv_icmp_ne (tgt := 319) hx hb dL_law_172 (by decide) (fun c172_5 => ?_) (fun c172_5 => ?_)
          · exact absurd (by decide) c172_5
          · refine lv_aload_n hx hb dL_law_175 rfl (lv_at hl 2 rfl) ?_
            refine lv_iconst (v := nI 0) hx hb dL_law_176 (by decide) ?_
            refine lv_iconst (v := nI 1) hx hb dL_law_177 (by decide) ?_
            refine lv_iconst (v := nI 0) hx hb dL_law_178 (by decide) ?_
            refine lv_iconst (v := nI 4) hx hb dL_law_179 (by decide) ?_
            refine lv_iconst (v := nI 1) hx hb dL_law_180 (by decide) ?_
            refine lv_iconst (v := nI 1) hx hb dL_law_181 (by decide) ?_
            have hx6 := t_add3 hS hwc h2 hw.nh.2 (nI 0) (nI 1) (nI 1)
            refine j_w0 (As := [.int (nI 0), .int (nI 1), .int (nI 0), .int (nI 4), .int (nI 1), .int (nI 1)]) (rest := []) (v := -900002) C0 hN hH ho (lW_addLine (nI 0) (nI 1) (nI 0) (nI 4) (nI 1) (nI 1) hJ.own hJ.obj (cC_X10_addLine_no l hlt G _ _ b c hJ.rest hwc (nI 0) (nI 1) (nI 0) (nI 4) (nI 1) (nI 1) (by rw [hx6]; exact fun z => nomatch z)) (hin_x hx6 (fun E h9 z => z.1) ⟨_, List.mem_cons_of_mem _ List.mem_cons_self⟩)) (hv_x0 hx6 rfl (fun r h9 z => z.1)) ms_L_addLine ml_L_110 rfl ⟨Nat.le_of_ble_eq_true rfl, Nat.le_of_ble_eq_true rfl⟩ hl.1 rfl (Nat.le_of_ble_eq_true rfl) dL_law_182 ⟨by show _ ≤ 600222; omega, by show _ ≤ 7294950; omega⟩ (fun H locs hH => ?_)
            refine lv_ldc hx hb hown (hts _ kl_L_20) dL_law_185 ?_
            refine lv_icmp_ne (tgt := 319) hx hb dL_law_187 (by decide) (fun c187_6 => ?_) (fun c187_6 => ?_)
            · exact absurd (by decide) c187_6
            · refine lv_aload_n hx hb dL_law_190 rfl (lv_at hl 2 rfl) ?_
              refine lv_iconst (v := (-1)) hx hb dL_law_191 (by decide) ?_
              refine lv_sipush (v := nI 1111) hx hb dL_law_192 (by decide) ?_
              refine lv_iconst (v := nI 1) hx hb dL_law_195 (by decide) ?_
              refine lv_iconst (v := nI 0) hx hb dL_law_196 (by decide) ?_
              have hx7 := t_acc1 hS hwc (nI 1111) (nI 1) (nI 0)
              refine j_w0 (As := [.int (-1), .int (nI 1111), .int (nI 1), .int (nI 0)]) (rest := []) (v := -900001) C0 hN hH ho (lW_accept (-1) (nI 1111) (nI 1) (nI 0) hJ.own hJ.obj (cC_X10_accept_no l hlt G _ _ b c hJ.rest hwc (-1) (nI 1111) (nI 1) (nI 0) (by rw [hx7]; exact fun z => nomatch z)) (hin_x hx7 (fun E h9 z => z.1) ⟨_, List.mem_cons_self⟩)) (hv_x0 hx7 rfl (fun r h9 z => z.1)) ms_L_accept ml_L_139 rfl ⟨Nat.le_of_ble_eq_true rfl, Nat.le_of_ble_eq_true rfl⟩ hl.1 rfl (Nat.le_of_ble_eq_true rfl) dL_law_197 ⟨by show _ ≤ 600222; omega, by show _ ≤ 7294950; omega⟩ (fun H locs hH => ?_)
              refine lv_ldc hx hb hown (hts _ kl_L_17) dL_law_200 ?_
              refine lv_icmp_ne (tgt := 319) hx hb dL_law_202 (by decide) (fun c202_7 => ?_) (fun c202_7 => ?_)
              · exact absurd (by decide) c202_7
              · refine lv_aload_n hx hb dL_law_205 rfl (lv_at hl 2 rfl) ?_
                refine lv_iconst (v := nI 0) hx hb dL_law_206 (by decide) ?_
                refine lv_sipush (v := nI 1011) hx hb dL_law_207 (by decide) ?_
                refine lv_iconst (v := nI 1) hx hb dL_law_210 (by decide) ?_
                refine lv_iconst (v := nI 0) hx hb dL_law_211 (by decide) ?_
                have hx8 := t_acc2 hS hwc h2 hw.nh.2 (nI 1) (nI 0)
                refine j_w0 (As := [.int (nI 0), .int (nI 1011), .int (nI 1), .int (nI 0)]) (rest := []) (v := -900002) C0 hN hH ho (lW_accept (nI 0) (nI 1011) (nI 1) (nI 0) hJ.own hJ.obj (cC_X10_accept_no l hlt G _ _ b c hJ.rest hwc (nI 0) (nI 1011) (nI 1) (nI 0) (by rw [hx8]; exact fun z => nomatch z)) (hin_x hx8 (fun E h9 z => z.1) ⟨_, List.mem_cons_of_mem _ List.mem_cons_self⟩)) (hv_x0 hx8 rfl (fun r h9 z => z.1)) ms_L_accept ml_L_139 rfl ⟨Nat.le_of_ble_eq_true rfl, Nat.le_of_ble_eq_true rfl⟩ hl.1 rfl (Nat.le_of_ble_eq_true rfl) dL_law_212 ⟨by show _ ≤ 600222; omega, by show _ ≤ 7294950; omega⟩ (fun H locs hH => ?_)
                refine lv_ldc hx hb hown (hts _ kl_L_20) dL_law_215 ?_
                refine lv_icmp_ne (tgt := 319) hx hb dL_law_217 (by decide) (fun c217_8 => ?_) (fun c217_8 => ?_)
                · exact absurd (by decide) c217_8
                · refine lv_aload_n hx hb dL_law_220 rfl (lv_at hl 2 rfl) ?_
                  refine lv_iconst (v := nI 0) hx hb dL_law_221 (by decide) ?_
                  refine lv_sipush (v := nI 1111) hx hb dL_law_222 (by decide) ?_
                  refine lv_iconst (v := nI 1) hx hb dL_law_225 (by decide) ?_
                  refine lv_iconst (v := nI 3) hx hb dL_law_226 (by decide) ?_
                  have hx9 := t_acc3 hS hwc h2 hw.nh.2 (nI 1111) (nI 1)
                  refine j_w0 (As := [.int (nI 0), .int (nI 1111), .int (nI 1), .int (nI 3)]) (rest := []) (v := -900002) C0 hN hH ho (lW_accept (nI 0) (nI 1111) (nI 1) (nI 3) hJ.own hJ.obj (cC_X10_accept_no l hlt G _ _ b c hJ.rest hwc (nI 0) (nI 1111) (nI 1) (nI 3) (by rw [hx9]; exact fun z => nomatch z)) (hin_x hx9 (fun E h9 z => z.1) ⟨_, List.mem_cons_of_mem _ List.mem_cons_self⟩)) (hv_x0 hx9 rfl (fun r h9 z => z.1)) ms_L_accept ml_L_139 rfl ⟨Nat.le_of_ble_eq_true rfl, Nat.le_of_ble_eq_true rfl⟩ hl.1 rfl (Nat.le_of_ble_eq_true rfl) dL_law_227 ⟨by show _ ≤ 600222; omega, by show _ ≤ 7294950; omega⟩ (fun H locs hH => ?_)
                  refine lv_ldc hx hb hown (hts _ kl_L_20) dL_law_230 ?_
                  refine lv_icmp_ne (tgt := 319) hx hb dL_law_232 (by decide) (fun c232_9 => ?_) (fun c232_9 => ?_)
                  · exact absurd (by decide) c232_9
                  · refine lv_aload_n hx hb dL_law_235 rfl (lv_at hl 2 rfl) ?_
                    refine lv_aload_n hx hb dL_law_236 rfl (lv_at hl 1 rfl) ?_
                    refine lv_iconst (v := nI 2) hx hb dL_law_237 (by decide) ?_
                    refine j_ld C0 hH hJ hL (ix := 2) (by omega) (by decide) (v := nI (npN m)) hT.p0 dL_law_238 ?_
                    refine lv_iconst (v := nI 0) hx hb dL_law_239 (by decide) ?_
                    have hx10 := t_scn hS hwc hw.np.2 (nI 0)
                    refine j_w0 (As := [.int (nI (npN m)), .int (nI 0)]) (rest := []) (v := -900001) C0 hN hH ho (lW_scan (nI (npN m)) (nI 0) hJ.own hJ.obj (cC_X10_scan_no l hlt G _ _ b c hJ.rest hwc (nI (npN m)) (nI 0) (by rw [hx10]; exact fun z => nomatch z)) (hin_x hx10 (fun E h9 z => z.1) ⟨_, List.mem_cons_self⟩)) (hv_x0 hx10 rfl (fun r h9 z => z.1)) ms_L_scan ml_L_161 rfl ⟨Nat.le_of_ble_eq_true rfl, Nat.le_of_ble_eq_true rfl⟩ hl.1 rfl (Nat.le_of_ble_eq_true rfl) dL_law_240 ⟨by show _ ≤ 600222; omega, by show _ ≤ 7294950; omega⟩ (fun H locs hH => ?_)
                    refine lv_ldc hx hb hown (hts _ kl_L_17) dL_law_243 ?_
                    refine lv_icmp_ne (tgt := 319) hx hb dL_law_245 (by decide) (fun c245_10 => ?_) (fun c245_10 => ?_)
                    · exact absurd (by decide) c245_10
                    · refine lv_aload_n hx hb dL_law_248 rfl (lv_at hl 2 rfl) ?_
                      refine lv_iconst (v := (-1)) hx hb dL_law_249 (by decide) ?_
                      refine lv_iconst (v := nI 1) hx hb dL_law_250 (by decide) ?_
                      have hx11 := t_del hwc
                      refine j_w0 (As := [.int (-1), .int (nI 1)]) (rest := []) (v := -900001) C0 hN hH ho (lW_deliver (-1) (nI 1) hJ.own hJ.obj (cC_X10_deliver_no l hlt G _ _ b c hJ.rest hwc (-1) (nI 1) (by rw [hx11]; exact fun z => nomatch z)) (hin_x hx11 (fun E h9 z => z.1) ⟨_, List.mem_cons_self⟩)) (hv_x0 hx11 rfl (fun r h9 z => z.1)) ms_L_deliver ml_L_169 rfl ⟨Nat.le_of_ble_eq_true rfl, Nat.le_of_ble_eq_true rfl⟩ hl.1 rfl (Nat.le_of_ble_eq_true rfl) dL_law_251 ⟨by show _ ≤ 600222; omega, by show _ ≤ 7294950; omega⟩ (fun H locs hH => ?_)
                      refine lv_ldc hx hb hown (hts _ kl_L_17) dL_law_254 ?_
                      refine lv_icmp_ne (tgt := 319) hx hb dL_law_256 (by decide) (fun c256_11 => ?_) (fun c256_11 => ?_)
                      · exact absurd (by decide) c256_11
                      · refine lv_aload_n hx hb dL_law_259 rfl (lv_at hl 2 rfl) ?_
                        refine lv_iconst (v := nI 0) hx hb dL_law_260 (by decide) ?_
                        have hx12 := t_pas0
                        refine j_w0 (As := [.int (nI 0)]) (rest := []) (v := -900001) C0 hN hH ho (lW_pass (nI 0) hJ.own hJ.obj (cC_X10_pass_no l hlt G _ _ b c hJ.rest hwc (nI 0) (by rw [hx12]; exact fun z => nomatch z)) (hin_x hx12 (fun E h9 z => z.1) ⟨_, List.mem_cons_self⟩)) (hv_x0 hx12 rfl (fun r h9 z => z.1)) ms_L_pass ml_L_227 rfl ⟨Nat.le_of_ble_eq_true rfl, Nat.le_of_ble_eq_true rfl⟩ hl.1 rfl (Nat.le_of_ble_eq_true rfl) dL_law_261 ⟨by show _ ≤ 600222; omega, by show _ ≤ 7294950; omega⟩ (fun H locs hH => ?_)
                        refine lv_ldc hx hb hown (hts _ kl_L_17) dL_law_264 ?_
                        refine lv_icmp_ne (tgt := 319) hx hb dL_law_266 (by decide) (fun c266_12 => ?_) (fun c266_12 => ?_)
                        · exact absurd (by decide) c266_12
                        · refine lv_aload_n hx hb dL_law_269 rfl (lv_at hl 2 rfl) ?_
                          refine lv_bipush (v := nI 121) hx hb dL_law_270 (by decide) ?_
                          have hx13 := t_pas1
                          refine j_w0 (As := [.int (nI 121)]) (rest := []) (v := -900001) C0 hN hH ho (lW_pass (nI 121) hJ.own hJ.obj (cC_X10_pass_no l hlt G _ _ b c hJ.rest hwc (nI 121) (by rw [hx13]; exact fun z => nomatch z)) (hin_x hx13 (fun E h9 z => z.1) ⟨_, List.mem_cons_self⟩)) (hv_x0 hx13 rfl (fun r h9 z => z.1)) ms_L_pass ml_L_227 rfl ⟨Nat.le_of_ble_eq_true rfl, Nat.le_of_ble_eq_true rfl⟩ hl.1 rfl (Nat.le_of_ble_eq_true rfl) dL_law_272 ⟨by show _ ≤ 600222; omega, by show _ ≤ 7294950; omega⟩ (fun H locs hH => ?_)
                          refine lv_ldc hx hb hown (hts _ kl_L_17) dL_law_275 ?_
                          refine lv_icmp_ne (tgt := 319) hx hb dL_law_277 (by decide) (fun c277_13 => ?_) (fun c277_13 => ?_)
                          · exact absurd (by decide) c277_13
                          · refine lv_aload_n hx hb dL_law_280 rfl (lv_at hl 2 rfl) ?_
                            refine lv_bipush (v := nI 111) hx hb dL_law_281 (by decide) ?_
                            have hx14 := t_adr
                            refine j_w0 (As := [.int (nI 111)]) (rest := []) (v := -900001) C0 hN hH ho (lW_hubOf (nI 111) hJ.own hJ.obj (cC_X10_hubOf l hlt G _ _ b c hJ.rest hwc (nI 111)) (hin_x hx14 (fun E h9 z => z.1) ⟨_, List.mem_cons_self⟩)) (hv_x0 hx14 rfl (fun r h9 z => z.1)) ms_L_hubOf ml_L_134 rfl ⟨Nat.le_of_ble_eq_true rfl, Nat.le_of_ble_eq_true rfl⟩ hl.1 rfl (Nat.le_of_ble_eq_true rfl) dL_law_283 ⟨by show _ ≤ 600222; omega, by show _ ≤ 7294950; omega⟩ (fun H locs hH => ?_)
                            refine lv_ldc hx hb hown (hts _ kl_L_17) dL_law_286 ?_
                            refine lv_icmp_ne (tgt := 319) hx hb dL_law_288 (by decide) (fun c288_14 => ?_) (fun c288_14 => ?_)
                            · exact absurd (by decide) c288_14
                            · refine lv_aload_n hx hb dL_law_291 rfl (lv_at hl 2 rfl) ?_
                              refine lv_aload_n hx hb dL_law_292 rfl (lv_at hl 1 rfl) ?_
                              refine lv_iconst (v := nI 2) hx hb dL_law_293 (by decide) ?_
                              refine j_ld C0 hH hJ hL (ix := 2) (by omega) (by decide) (v := nI (npN m)) hT.p0 dL_law_294 ?_
                              have hx15 := t_par hS hwc hw.np.2
                              refine j_w0 (As := [.int (nI (npN m))]) (rest := []) (v := -900001) C0 hN hH ho (lW_state (nI (npN m)) hJ.own hJ.obj (cC_X10_state_x l hlt G _ _ b c hJ.rest hwc (nI (npN m)) (by rw [hx15]; exact fun z => nomatch z)) (hin_x hx15 (fun E h9 z => z.1) ⟨_, List.mem_cons_self⟩)) (hv_x0 hx15 rfl (fun r h9 z => z.1)) ms_L_state ml_L_147 rfl ⟨Nat.le_of_ble_eq_true rfl, Nat.le_of_ble_eq_true rfl⟩ hl.1 rfl (Nat.le_of_ble_eq_true rfl) dL_law_295 ⟨by show _ ≤ 600222; omega, by show _ ≤ 7294950; omega⟩ (fun H locs hH => ?_)
                              refine lv_ldc hx hb hown (hts _ kl_L_17) dL_law_298 ?_
                              refine lv_icmp_ne (tgt := 319) hx hb dL_law_300 (by decide) (fun c300_15 => ?_) (fun c300_15 => ?_)
                              · exact absurd (by decide) c300_15
                              · refine lv_aload_n hx hb dL_law_303 rfl (lv_at hl 2 rfl) ?_
                                refine lv_aload_n hx hb dL_law_304 rfl (lv_at hl 1 rfl) ?_
                                refine lv_iconst (v := nI 1) hx hb dL_law_305 (by decide) ?_
                                refine j_ld C0 hH hJ hL (ix := 1) (by omega) (by decide) (v := nI (nlN m)) hT.l0 dL_law_306 ?_
                                have hx16 := t_lin hS hwc hw.nl.2
                                refine j_w1 (As := [.int (nI (nlN m))]) (rest := []) (v := -900001) (c' := cClo c (nI (nlN m))) C0 hN hH hJ ho (lW_closeLine (nI (nlN m)) hJ.own hJ.obj (cC_X10_closeLine l hlt G _ _ b c hJ.rest hwc (nI (nlN m))) (hin_x hx16 (fun E h9 z => z.1) ⟨_, List.mem_cons_self⟩)) (fun r h9 z => z.elim (fun y => absurd (hx16.symm.trans y.1) (fun q => nomatch q)) (fun ⟨E, y, e⟩ => by have q := Option.some.inj (hx16.symm.trans y.1); subst q; exact ⟨e, b, rfl, y.2⟩)) ms_L_closeLine ml_L_196 rfl ⟨Nat.le_of_ble_eq_true rfl, Nat.le_of_ble_eq_true rfl⟩ hl.1 rfl (Nat.le_of_ble_eq_true rfl) dL_law_307 ⟨by show _ ≤ 600222; omega, by show _ ≤ 7294950; omega⟩ (fun h b H locs hH hJ ho hwc => ?_)
                                refine lv_ldc hx hb hown (hts _ kl_L_17) dL_law_310 ?_
                                refine lv_icmp_ne (tgt := 319) hx hb dL_law_312 (by decide) (fun c312_16 => ?_) (fun c312_16 => ?_)
                                · exact absurd (by decide) c312_16
                                · refine lv_iconst (v := nI 1) hx hb dL_law_315 (by decide) ?_
                                  refine lv_goto (tgt := 320) hx hb dL_law_316 (by decide) ?_
                                  refine va_forget (fun q hq => hA0 _ (hH.2.2.2 q hq)) ?_
                                  refine W.widen (k := 600222) (n := 7294950) (by omega) (by omega) ?_
                                  refine W.base ?_
                                  exact lw_ret (Drawn.sameBut.refl s.drawn lw_cs) hx hb hr hlocks dL_law_320
set_option maxHeartbeats 8000000 in
set_option maxRecDepth 100000 in
theorem law_loop {pr : Program} {l : Launch} {e : Env} {s : State} {m9 : MethodId} {below : List Frame} {meth : Method} {c9 : Code} (hlt : l.stackTraces = false) (Sc : SCR) (G : GT) (A : Nat → Prop) (C0 : CX pr l s m9 #[Value.ref Sc.1] meth c9 code 5 "RoutepostLaw" G A) (hN : LX Sc A s) (hA0 : ∀ q, A q → s.heap.size ≤ q) (hr : meth.sig.returnType = ret) (kk : Nat) (M : LRef) (o an : Nat) : ∀ (j k n : Nat) (c m : MM) (L : LNum) (f : Nat → Int32), k + j = 30 → n ≤ 20 + 7 * k → Stt n c m → WFc c → 2 ≤ nhN m → 1 ≤ nlN m → m 0 0 = nI (codeN (kk % 6)) → L an = some (700, f) → NT f m → ∀ (h : AH) (b : BA) (H : Heap) (locs : List Loc) (hH : HS G.1 G.2.1 A s.heap h H locs) (hJ : JW G.2.2.1 h b c L M) (ho : b 14 0 = o) (ls : Array Slot), lv_has ls 5 [(3, .int (nI k)), (0, .ref (Sc.1)), (1, .ref (an)), (2, .ref (o))] → W pr l e room_1 s m9 #[Value.ref Sc.1] below meth c9 H locs (120003 + 1214 * k + UC c) (450712 + 24084 * k + US c) (lw_Z below #[Value.ref Sc.1] s) (F0 m9 28 ls []) := by
  obtain ⟨hx, hb, hml, hown, hts, hK, hA, -, -, hlocks⟩ := id C0
  have K1 : ∀ (j k n : Nat) (c m : MM) (L : LNum) (f : Nat → Int32), k + j = 30 → n ≤ 20 + 7 * k → Stt n c m → WFc c → 2 ≤ nhN m → 1 ≤ nlN m → m 0 0 = nI (codeN (kk % 6)) → L an = some (700, f) → NT f m → ∀ (h : AH) (b : BA) (H : Heap) (locs : List Loc) (hH : HS G.1 G.2.1 A s.heap h H locs) (hJ : JW G.2.2.1 h b c L M) (ho : b 14 0 = o) (ls : Array Slot), lv_has ls 5 [(3, .int (nI k)), (0, .ref (Sc.1)), (1, .ref (an)), (2, .ref (o))] → W pr l e room_1 s m9 #[Value.ref Sc.1] below meth c9 H locs (120003 + 1214 * k + UC c) (450712 + 24084 * k + US c) (lw_Z below #[Value.ref Sc.1] s) (F0 m9 28 ls []) := by
    intro j
    induction j with
    | zero =>
      intro k n c m L f hk hn hSt hwc h2 hl9 h00 hL hT h b H locs hH hJ ho ls hl
      obtain ⟨hS, hw, hI⟩ := id hSt
      have hu := UC_max hwc
      refine lv_iload_n hx hb dL_law_28 rfl (lv_at hl 0 rfl) ?_
      refine lv_bipush (v := nI 30) hx hb dL_law_29 (by decide) ?_
      refine lv_icmp_ge (tgt := 104) hx hb dL_law_31 (by decide) (fun c31_1 => ?_) (fun c31_1 => ?_)
      · replace c31_1 : 30 ≤ k := (nI_leI (a := 30) (b := k) (by omega) (by omega)).mp c31_1
        exact law_tail hlt Sc G A C0 hN hA0 hr kk h b c m n L M o hJ ho hwc hSt an f hL hT h2 h00 hH (lv_sub hl [1, 2, 3] rfl) (by omega) (by omega)
      · exact absurd ((nI_leI (by omega) (by omega)).mpr (show 30 ≤ k by omega)) c31_1
    | succ j ih =>
      intro k n c m L f hk hn hSt hwc h2 hl9 h00 hL hT h b H locs hH hJ ho ls hl
      obtain ⟨hS, hw, hI⟩ := id hSt
      have hu := UC_max hwc
      obtain ⟨c2, hbd, hDn⟩ := lL_isDone l hlt Sc G A h b c m n L M o hJ ho hwc hS hw hI (by omega) (100 + 12 * k) (by omega) h2 hl9 an f hL hT
      obtain ⟨hbd1, hbd2⟩ := hbd
      obtain ⟨q9, eq9⟩ : ∃ z, inN Sc (109 + 12 * k) 7 = z := ⟨_, rfl⟩
      have hq9 : q9 < 7 := by rw [← eq9]; exact inN_lt Sc (109 + 12 * k) (by omega)
      refine lv_iload_n hx hb dL_law_28 rfl (lv_at hl 0 rfl) ?_
      refine lv_bipush (v := nI 30) hx hb dL_law_29 (by decide) ?_
      refine lv_icmp_ge (tgt := 104) hx hb dL_law_31 (by decide) (fun c31_2 => ?_) (fun c31_2 => ?_)
      · exact absurd ((nI_leI (by omega) (by omega)).mp c31_2) (by omega)
      · replace c31_2 : ¬ (30 ≤ k) := fun z => c31_2 ((nI_leI (a := 30) (b := k) (by omega) (by omega)).mpr z)
        refine lv_aload_n hx hb dL_law_34 rfl (lv_at hl 3 rfl) ?_
        refine lv_aload_n hx hb dL_law_35 rfl (lv_at hl 2 rfl) ?_
        refine lv_aload_n hx hb dL_law_36 rfl (lv_at hl 1 rfl) ?_
        refine lv_bipush (v := nI 100) hx hb dL_law_37 (by decide) ?_
        refine lv_bipush (v := nI 12) hx hb dL_law_39 (by decide) ?_
        refine lv_iload_n hx hb dL_law_41 rfl (lv_at hl 0 rfl) ?_
        refine lv_imul hx hb dL_law_42 ?_
        rw [show nI 12 * nI k = nI (12 * k) from nI_mul]
        refine lv_iadd hx hb dL_law_43 ?_
        rw [show nI 100 + nI (12 * k) = nI (100 + 12 * k) from nI_add _ _]
        refine k_i hH (k_lS (rest := []) C0 hN hH hDn mv_L_isDone ml_L_272 rfl ⟨Nat.le_of_ble_eq_true rfl, Nat.le_of_ble_eq_true rfl⟩ hl.1 rfl (Nat.le_of_ble_eq_true rfl) dL_law_44 ⟨by show _ ≤ 600222; omega, by show _ ≤ 7294950; omega⟩) (fun rr h H locs hp0 hH => ?_)
        obtain ⟨ea, b, f2, m2, n2, hJ, ho, hwc, hn2, hSt2, hT2, hKp, hgU, hgS⟩ := hp0
        rw [ea]
        obtain ⟨L2, hL2⟩ : ∃ z, z = setL L an 700 f2 := ⟨_, rfl⟩
        rw [← hL2] at hJ
        have hLn2 : L2 an = some (700, f2) := by rw [hL2]; exact setL_s _ _ _ _
        obtain ⟨hk1, hk2, hk3⟩ := hKp
        refine lv_if_ne (tgt := 52) hx hb dL_law_47 (by decide) (fun c47_3 => ?_) (fun c47_3 => ?_)
        · refine lv_aload_n hx hb dL_law_52 rfl (lv_at hl 1 rfl) ?_
          refine lv_bipush (v := nI 109) hx hb dL_law_53 (by decide) ?_
          refine lv_bipush (v := nI 12) hx hb dL_law_55 (by decide) ?_
          refine lv_iload_n hx hb dL_law_57 rfl (lv_at hl 0 rfl) ?_
          refine lv_imul hx hb dL_law_58 ?_
          rw [show nI 12 * nI k = nI (12 * k) from nI_mul]
          refine lv_iadd hx hb dL_law_59 ?_
          rw [show nI 109 + nI (12 * k) = nI (109 + 12 * k) from nI_add _ _]
          refine lv_bipush (v := nI 7) hx hb dL_law_60 (by decide) ?_
          refine k_i hH (k_lS (rest := []) C0 hN hH (lL_in l Sc G A _ (109 + 12 * k) 7 (by omega) (by omega) (by omega)) mv_L_in ml_L_106 rfl ⟨Nat.le_of_ble_eq_true rfl, Nat.le_of_ble_eq_true rfl⟩ hl.1 rfl (Nat.le_of_ble_eq_true rfl) dL_law_62 ⟨by show _ ≤ 600222; omega, by show _ ≤ 7294950; omega⟩) (fun rr h1 H locs hp hH => ?_)
          obtain ⟨ea, eh⟩ := hp
          rw [eh] at hH
          rw [ea, eq9]
          refine lv_istore (lv' := [(4, .int (nI q9)), (3, .int (nI k)), (0, .ref (Sc.1)), (1, .ref (an)), (2, .ref (o))]) hx hb dL_law_65 hl (by decide) rfl (fun ls hl => ?_)
          have K2 : ∀ (q n : Nat) (c m : MM) (L : LNum) (f : Nat → Int32), q ≤ 6 → n + q ≤ 27 + 7 * k → Stt n c m → WFc c → 2 ≤ nhN m → 1 ≤ nlN m → m 0 0 = nI (codeN (kk % 6)) → L an = some (700, f) → NT f m → ∀ (h : AH) (b : BA) (H : Heap) (locs : List Loc) (hH : HS G.1 G.2.1 A s.heap h H locs) (hJ : JW G.2.2.1 h b c L M) (ho : b 14 0 = o) (ls : Array Slot), lv_has ls 5 [(4, .int (nI q)), (3, .int (nI k)), (0, .ref (Sc.1)), (1, .ref (an)), (2, .ref (o))] → W pr l e room_1 s m9 #[Value.ref Sc.1] below meth c9 H locs (120003 + 1214 * k + 12 + 200 * (6 - q) + UC c) (450712 + 24084 * k + 72 + 4000 * (6 - q) + US c) (lw_Z below #[Value.ref Sc.1] s) (F0 m9 67 ls []) := by
            intro q
            induction q with
            | zero =>
              intro n c m L f hq6 hn hSt hwc h2 hl9 h00 hL hT h b H locs hH hJ ho ls hl
              obtain ⟨hS, hw, hI⟩ := id hSt
              have hu := UC_max hwc
              refine lv_iload hx hb dL_law_67 (lv_at hl 0 rfl) ?_
              refine lv_if_le (tgt := 88) hx hb dL_law_69 (by decide) (fun c69_4 => ?_) (fun c69_4 => ?_)
              · refine lv_aload_n hx hb dL_law_88 rfl (lv_at hl 4 rfl) ?_
                refine lv_aload_n hx hb dL_law_89 rfl (lv_at hl 3 rfl) ?_
                refine k_i hH (k_lS (rest := []) C0 hN hH (lL_isTold l hlt Sc G A _ _ c m n L M o hJ ho hwc hS hw hI an f hL hT) mv_L_isTold ml_L_268 rfl ⟨Nat.le_of_ble_eq_true rfl, Nat.le_of_ble_eq_true rfl⟩ hl.1 rfl (Nat.le_of_ble_eq_true rfl) dL_law_90 ⟨by show _ ≤ 600222; omega, by show _ ≤ 7294950; omega⟩) (fun rr h1 H locs hp hH => ?_)
                obtain ⟨ea, eh⟩ := hp
                rw [eh] at hH
                rw [ea]
                refine lv_if_ne (tgt := 98) hx hb dL_law_93 (by decide) (fun c93_5 => ?_) (fun c93_5 => ?_)
                · refine lv_iinc (v := nI (k + 1)) (lv' := [(3, .int (nI (k + 1))), (4, .int (nI 0)), (0, .ref (Sc.1)), (1, .ref (an)), (2, .ref (o))]) hx hb dL_law_98 hl (k := 1) rfl (nI_add (k) 1) (by decide) rfl (fun ls hl => ?_)
                  refine lv_goto (tgt := 28) hx hb dL_law_101 (by decide) ?_
                  refine W.widen (k := 120003 + 1214 * (k + 1) + UC c) (n := 450712 + 24084 * (k + 1) + US c) (by omega) (by omega) ?_
                  exact ih (k + 1) n c m L f (by omega) (by omega) hSt hwc h2 hl9 h00 hL hT h b H locs hH hJ ho ls (lv_sub hl [0, 2, 3, 4] rfl)
                · exact absurd c93_5 (by decide)
              · exact absurd (by decide) c69_4
            | succ q ih2 =>
              intro n c m L f hq6 hn hSt hwc h2 hl9 h00 hL hT h b H locs hH hJ ho ls hl
              obtain ⟨hS, hw, hI⟩ := id hSt
              have hu := UC_max hwc
              obtain ⟨v, hv1, hv, -⟩ := now_nat hS (show n < 512 by omega)
              have hgp := gm_pas hwc m v
              obtain ⟨⟨hgA, hgB⟩, hgC, hgD⟩ := hgp
              refine lv_iload hx hb dL_law_67 (lv_at hl 0 rfl) ?_
              refine lv_if_le (tgt := 88) hx hb dL_law_69 (by decide) (fun c69_6 => ?_) (fun c69_6 => ?_)
              · exact absurd ((nI_leI (a := q + 1) (b := 0) (by omega) (by omega)).mp c69_6) (by omega)
              · replace c69_6 : ¬ (q + 1 ≤ 0) := fun z => c69_6 ((nI_leI (a := q + 1) (b := 0) (by omega) (by omega)).mpr z)
                refine lv_aload_n hx hb dL_law_72 rfl (lv_at hl 4 rfl) ?_
                refine lv_aload_n hx hb dL_law_73 rfl (lv_at hl 3 rfl) ?_
                refine k_i hH (k_lS (rest := []) C0 hN hH (lL_isPassed l hlt Sc G A _ _ c m n L M o hJ ho hwc hS hw hI (by omega) v hv1 hv an f hL hT) mv_L_isPassed ml_L_275 rfl ⟨Nat.le_of_ble_eq_true rfl, Nat.le_of_ble_eq_true rfl⟩ hl.1 rfl (Nat.le_of_ble_eq_true rfl) dL_law_74 ⟨by show _ ≤ 600222; omega, by show _ ≤ 7294950; omega⟩) (fun rr h H locs hp0 hH => ?_)
                obtain ⟨ea, b, c2, f2, m2, hJ, ho, hwc, hSt2, hT2, -, hKp, hgE, hgF⟩ := hp0
                rw [ea]
                obtain ⟨L2, hL2⟩ : ∃ z, z = setL L an 700 f2 := ⟨_, rfl⟩
                rw [← hL2] at hJ
                have hLn2 : L2 an = some (700, f2) := by rw [hL2]; exact setL_s _ _ _ _
                obtain ⟨hk1, hk2, hk3⟩ := hKp
                refine lv_if_ne (tgt := 82) hx hb dL_law_77 (by decide) (fun c77_7 => ?_) (fun c77_7 => ?_)
                · refine lv_iinc (v := nI q) (lv' := [(4, .int (nI q)), (3, .int (nI k)), (0, .ref (Sc.1)), (1, .ref (an)), (2, .ref (o))]) hx hb dL_law_82 hl (k := 0) rfl (pk_m1 q) (by decide) rfl (fun ls hl => ?_)
                  refine lv_goto (tgt := 67) hx hb dL_law_85 (by decide) ?_
                  refine W.widen (k := 120003 + 1214 * k + 12 + 200 * (6 - q) + UC c2) (n := 450712 + 24084 * k + 72 + 4000 * (6 - q) + US c2) (by omega) (by omega) ?_
                  exact ih2 (n + 1) c2 m2 L2 f2 (by omega) (by omega) hSt2 hwc (by omega) (by omega) (by rw [hk3]; exact h00) hLn2 hT2 h b H locs hH hJ ho ls (lv_sub hl [0, 1, 2, 3, 4] rfl)
                · exact absurd c77_7 (by decide)
          refine W.widen (k := 120003 + 1214 * k + 12 + 200 * (6 - q9) + UC c2) (n := 450712 + 24084 * k + 72 + 4000 * (6 - q9) + US c2) (by omega) (by omega) ?_
          exact K2 q9 n2 c2 m2 L2 f2 (by omega) (by omega) hSt2 hwc (by omega) (by omega) (by rw [hk3]; exact h00) hLn2 hT2 h b H locs hH hJ ho ls (lv_sub hl [0, 1, 2, 3, 4] rfl)
        · exact absurd c47_3 (by decide)
  exact K1
set_option maxHeartbeats 8000000 in
set_option maxRecDepth 100000 in
theorem law_walk {pr : Program} {l : Launch} {e : Env} {s : State} {m9 : MethodId} {below : List Frame} {meth : Method} {c9 : Code} (hlt : l.stackTraces = false) (Sc : SCR) (G : GT) (A : Nat → Prop) (C0 : CX pr l s m9 #[Value.ref Sc.1] meth c9 code 5 "RoutepostLaw" G A) (hN : LX Sc A s) (hA0 : ∀ q, A q → s.heap.size ≤ q) (hr : meth.sig.returnType = ret) (hH : HS G.1 G.2.1 A s.heap ((fun _ => 0, fun _ _ => 0, fun _ _ => none, fun _ => 0, fun _ => 0) : AH) s.heap []) {ls : Array Slot} (hl : lv_has ls 5 [(0, .ref (Sc.1))]) : W pr l e room_1 s m9 #[Value.ref Sc.1] below meth c9 s.heap [] 0 0 (lw_Z below #[Value.ref Sc.1] s) (F0 m9 0 ls []) := by
  obtain ⟨hx, hb, hml, hown, hts, hK, hA, -, -, hlocks⟩ := id C0
  refine lv_sipush (v := nI 700) hx hb dL_law_0 (by decide) ?_
  refine o_newP (t0 := 0) (K := 20) C0 hH ac_int rfl rfl (by omega) (by omega) (N' := 700) (fun _ => rfl) (nI_pos (by omega)) (nI_clamp (by omega)) (by show 700 * 4 ≤ 536870912; omega) (by show _ ≤ 600222; omega) (by show _ ≤ 7294950; omega) dL_law_3 (fun an H hq9 hH => ?_)
  have h0 := jw0_new an
  have hL0 : setL (fun _ => none) an 700 (fun _ => 0) an = some (700, fun _ => 0) := setL_s _ _ _ _
  obtain ⟨L0, hL00⟩ : ∃ z : LNum, z = setL (fun _ => none) an 700 (fun _ => 0) := ⟨_, rfl⟩
  rw [← hL00] at h0 hL0
  refine lv_astore_n (lv' := [(1, .ref (an)), (0, .ref (Sc.1))]) hx hb dL_law_5 rfl hl (by decide) rfl (fun ls hl => ?_)
  refine lv_aload_n hx hb dL_law_6 rfl (lv_at hl 1 rfl) ?_
  refine lv_aload_n hx hb dL_law_7 rfl (lv_at hl 0 rfl) ?_
  refine k_q hH (k_lS (rest := []) C0 hN hH (lL_begun l hlt Sc G A _ L0 _ h0 an hL0) mv_L_begun ml_L_264 rfl ⟨Nat.le_of_ble_eq_true rfl, Nat.le_of_ble_eq_true rfl⟩ hl.1 rfl (Nat.le_of_ble_eq_true rfl) dL_law_8 ⟨by show _ ≤ 600222; omega, by show _ ≤ 7294950; omega⟩) (fun rq h H locs hp hH => ?_)
  obtain ⟨b, c, f, m, n, er9, hJ, hwc, hn, hSt, hT, h2, h5, hl9, kk, h00⟩ := hp
  rw [er9]
  obtain ⟨o, ho⟩ : ∃ z, b 14 0 = z := ⟨_, rfl⟩
  rw [ho]
  obtain ⟨L, hLe⟩ : ∃ z, z = setL L0 an 700 f := ⟨_, rfl⟩
  rw [← hLe] at hJ
  have hL : L an = some (700, f) := by rw [hLe]; exact setL_s _ _ _ _
  obtain ⟨M, hM⟩ : ∃ z : LRef, z = (fun _ => none) := ⟨_, rfl⟩
  rw [← hM] at hJ
  obtain ⟨hS, hw, hI⟩ := id hSt
  have hu := UC_max hwc
  refine lv_astore_n (lv' := [(2, .ref (o)), (1, .ref (an)), (0, .ref (Sc.1))]) hx hb dL_law_11 rfl hl (by decide) rfl (fun ls hl => ?_)
  refine lv_aload_n hx hb dL_law_12 rfl (lv_at hl 0 rfl) ?_
  refine lv_ifnull hx hb dL_law_13 ?_
  refine lv_aload_n hx hb dL_law_16 rfl (lv_at hl 0 rfl) ?_
  refine lv_aload_n hx hb dL_law_17 rfl (lv_at hl 1 rfl) ?_
  refine k_i hH (k_lS (rest := []) C0 hN hH (lL_isTold l hlt Sc G A _ _ c m n L M o hJ ho hwc hS hw hI an f hL hT) mv_L_isTold ml_L_268 rfl ⟨Nat.le_of_ble_eq_true rfl, Nat.le_of_ble_eq_true rfl⟩ hl.1 rfl (Nat.le_of_ble_eq_true rfl) dL_law_18 ⟨by show _ ≤ 600222; omega, by show _ ≤ 7294950; omega⟩) (fun rr h1 H locs hp hH => ?_)
  obtain ⟨ea, eh⟩ := hp
  rw [eh] at hH
  rw [ea]
  refine lv_if_ne (tgt := 26) hx hb dL_law_21 (by decide) (fun c21_1 => ?_) (fun c21_1 => ?_)
  · refine lv_iconst (v := nI 0) hx hb dL_law_26 (by decide) ?_
    refine lv_istore_n (lv' := [(3, .int (nI 0)), (2, .ref (o)), (1, .ref (an)), (0, .ref (Sc.1))]) hx hb dL_law_27 rfl hl (by decide) rfl (fun ls hl => ?_)
    refine W.widen (k := 120003 + 1214 * 0 + UC c) (n := 450712 + 24084 * 0 + US c) (by omega) (by omega) ?_
    exact law_loop hlt Sc G A C0 hN hA0 hr kk M o an 30 0 n c m L f (by omega) (by omega) hSt hwc h2 hl9 h00 hL hT h b H locs hH hJ ho ls (lv_sub hl [0, 3, 2, 1] rfl)
  · exact absurd c21_1 (by decide)
