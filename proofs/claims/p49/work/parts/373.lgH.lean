set_option maxHeartbeats 1600000 in
set_option maxRecDepth 100000 in
theorem lL_isAccepted_x (l : Launch) (hlt : l.stackTraces = false) (Sc : SCR) (G : GT) (A : Nat → Prop) (h : AH) (b : BA) (c m : MM) (n : Nat) (L : LNum) (M : LRef) (o : Nat) (hJ : JW G.2.2.1 h b c L M) (ho : b 14 0 = o) (hwc : WFc c) (hS : Sim n c m) (hw : WFa m) (hI : IV m) (hn : n < 512) (i0 : Nat) (hi0 : i0 < 2 ^ 19) (h2 : 2 ≤ nhN m) (y a1 a2 a3 a4 ad v0 s0 : Nat) (e1 : inN Sc i0 (nhN m) = y) (e2 : inN Sc (i0 + 1) 3 = a1) (e3 : inN Sc (i0 + 2) 3 = a2) (e4 : inN Sc (i0 + 3) 2 = a3) (e5 : inN Sc (i0 + 4) 9 = a4) (ead : 1111 + 1000 * a1 + 100 * a2 + 10 * a3 + a4 = ad) (e6 : inN Sc (i0 + 5) 9 = v0) (e7 : inN Sc (i0 + 6) 3 = s0) (tv : Int32) (htv : found m (nI ad) = tv) (hz : tv < 0 ∨ npN m = 40) (an : Nat) (f : Nat → Int32) (hL : L an = some (700, f)) (hT : NT f m) : lcI l Sc G A yL_isAccepted cL_isAccepted 11 (Option.some FieldType.boolean) 11 407 6 36 [.ref (o), .ref (an), .ref (Sc.1), .int (nI i0)] h (fun r h' => r = nI 1 ∧ ∃ b' f' m' n', JW G.2.2.1 h' b' (c) (setL L an 700 f') M ∧ b' 14 0 = o ∧ WFc (c) ∧ n' ≤ n + 1 ∧ Stt n' (c) m' ∧ NT f' m' ∧ Kp m m' ∧ UC c ≤ UC (c) ∧ US c ≤ US (c)) := by
  refine lm_of rfl (Nat.le_of_ble_eq_true rfl) ?_
  intro pr e s m9 below meth c9 C0 hN hr hH ls hl
  obtain ⟨hx, hb, hml, hown, hts, hK, hA, -⟩ := id C0
  have hl : lv_has ls 11 [(0, .ref (o)), (1, .ref (an)), (2, .ref (Sc.1)), (3, .int (nI i0))] := hl
  have n40 := hw.np.2
  have n6 := hw.nh.2
  have nl12 := hw.nl.2
  have q1 := inN_lt Sc i0 (n := nhN m) (by omega)
  have q2 := inN_lt Sc (i0 + 1) (n := 3) (by omega)
  have q3 := inN_lt Sc (i0 + 2) (n := 3) (by omega)
  have q4 := inN_lt Sc (i0 + 3) (n := 2) (by omega)
  have q5 := inN_lt Sc (i0 + 4) (n := 9) (by omega)
  have q6 := inN_lt Sc (i0 + 5) (n := 9) (by omega)
  have q7 := inN_lt Sc (i0 + 6) (n := 3) (by omega)
  rw [e1] at q1
  rw [e2] at q2
  rw [e3] at q3
  rw [e4] at q4
  rw [e5] at q5
  rw [e6] at q6
  rw [e7] at q7
  have had : ¬ isAd (nI ad) = 0 := by rw [← ead]; exact law_ad a1 q2 a2 q3 a3 q4 a4 q5
  have hxA := xAd_n had
  have hC9 := hS.2.2.2.2.2.2.2.1
  have hxa := d_accX ⟨hS, hw, hI⟩ hwc q1 had (v := 1 + v0) (s := s0) (by omega) (by omega) (by rw [htv]; exact hz)
  refine lv_aload_n hx hb dL_isAccepted_0 rfl (lv_at hl 2 rfl) ?_
  refine lv_iload_n hx hb dL_isAccepted_1 rfl (lv_at hl 3 rfl) ?_
  refine lv_aload_n hx hb dL_isAccepted_2 rfl (lv_at hl 1 rfl) ?_
  refine lv_iconst (v := nI 0) hx hb dL_isAccepted_3 (by decide) ?_
  refine j_ld C0 hH hJ hL (ix := 0) (by omega) (by decide) (v := nI (nhN m)) hT.h0 dL_isAccepted_4 ?_
  refine k_i hH (k_lS (rest := []) C0 hN hH (lL_in l Sc G A _ i0 (nhN m) (by omega) (by omega) (by omega)) mv_L_in ml_L_106 rfl ⟨Nat.le_of_ble_eq_true rfl, Nat.le_of_ble_eq_true rfl⟩ hl.1 rfl (Nat.le_of_ble_eq_true rfl) dL_isAccepted_5 ⟨by show _ ≤ 6; omega, by show _ ≤ 36; omega⟩) (fun rr h1 H locs hp hH => ?_)
  obtain ⟨ea, eh⟩ := hp
  rw [eh] at hH
  rw [ea, e1]
  refine lv_istore (lv' := [(4, .int (nI y)), (0, .ref (o)), (1, .ref (an)), (2, .ref (Sc.1)), (3, .int (nI i0))]) hx hb dL_isAccepted_8 hl (by decide) rfl (fun ls hl => ?_)
  refine lv_sipush (v := nI 1111) hx hb dL_isAccepted_10 (by decide) ?_
  refine lv_sipush (v := nI 1000) hx hb dL_isAccepted_13 (by decide) ?_
  refine lv_aload_n hx hb dL_isAccepted_16 rfl (lv_at hl 3 rfl) ?_
  refine lv_iload_n hx hb dL_isAccepted_17 rfl (lv_at hl 4 rfl) ?_
  refine lv_iconst (v := nI 1) hx hb dL_isAccepted_18 (by decide) ?_
  refine lv_iadd hx hb dL_isAccepted_19 ?_
  rw [show nI i0 + nI 1 = nI (i0 + 1) from nI_add _ _]
  refine lv_iconst (v := nI 3) hx hb dL_isAccepted_20 (by decide) ?_
  refine k_i hH (k_lS (rest := [.int (nI 1000), .int (nI 1111)]) C0 hN hH (lL_in l Sc G A _ (i0 + 1) 3 (by omega) (by omega) (by omega)) mv_L_in ml_L_106 rfl ⟨Nat.le_of_ble_eq_true rfl, Nat.le_of_ble_eq_true rfl⟩ hl.1 rfl (Nat.le_of_ble_eq_true rfl) dL_isAccepted_21 ⟨by show _ ≤ 6; omega, by show _ ≤ 36; omega⟩) (fun rr h1 H locs hp hH => ?_)
  obtain ⟨ea, eh⟩ := hp
  rw [eh] at hH
  rw [ea, e2]
  refine lv_imul hx hb dL_isAccepted_24 ?_
  rw [show nI 1000 * nI a1 = nI (1000 * a1) from nI_mul]
  refine lv_iadd hx hb dL_isAccepted_25 ?_
  rw [show nI 1111 + nI (1000 * a1) = nI (1111 + 1000 * a1) from nI_add _ _]
  refine lv_bipush (v := nI 100) hx hb dL_isAccepted_26 (by decide) ?_
  refine lv_aload_n hx hb dL_isAccepted_28 rfl (lv_at hl 3 rfl) ?_
  refine lv_iload_n hx hb dL_isAccepted_29 rfl (lv_at hl 4 rfl) ?_
  refine lv_iconst (v := nI 2) hx hb dL_isAccepted_30 (by decide) ?_
  refine lv_iadd hx hb dL_isAccepted_31 ?_
  rw [show nI i0 + nI 2 = nI (i0 + 2) from nI_add _ _]
  refine lv_iconst (v := nI 3) hx hb dL_isAccepted_32 (by decide) ?_
  refine k_i hH (k_lS (rest := [.int (nI 100), .int (nI (1111 + 1000 * a1))]) C0 hN hH (lL_in l Sc G A _ (i0 + 2) 3 (by omega) (by omega) (by omega)) mv_L_in ml_L_106 rfl ⟨Nat.le_of_ble_eq_true rfl, Nat.le_of_ble_eq_true rfl⟩ hl.1 rfl (Nat.le_of_ble_eq_true rfl) dL_isAccepted_33 ⟨by show _ ≤ 6; omega, by show _ ≤ 36; omega⟩) (fun rr h1 H locs hp hH => ?_)
  obtain ⟨ea, eh⟩ := hp
  rw [eh] at hH
  rw [ea, e3]
  refine lv_imul hx hb dL_isAccepted_36 ?_
  rw [show nI 100 * nI a2 = nI (100 * a2) from nI_mul]
  refine lv_iadd hx hb dL_isAccepted_37 ?_
  rw [show nI (1111 + 1000 * a1) + nI (100 * a2) = nI (1111 + 1000 * a1 + 100 * a2) from nI_add _ _]
  refine lv_bipush (v := nI 10) hx hb dL_isAccepted_38 (by decide) ?_
  refine lv_aload_n hx hb dL_isAccepted_40 rfl (lv_at hl 3 rfl) ?_
  refine lv_iload_n hx hb dL_isAccepted_41 rfl (lv_at hl 4 rfl) ?_
  refine lv_iconst (v := nI 3) hx hb dL_isAccepted_42 (by decide) ?_
  refine lv_iadd hx hb dL_isAccepted_43 ?_
  rw [show nI i0 + nI 3 = nI (i0 + 3) from nI_add _ _]
  refine lv_iconst (v := nI 2) hx hb dL_isAccepted_44 (by decide) ?_
  refine k_i hH (k_lS (rest := [.int (nI 10), .int (nI (1111 + 1000 * a1 + 100 * a2))]) C0 hN hH (lL_in l Sc G A _ (i0 + 3) 2 (by omega) (by omega) (by omega)) mv_L_in ml_L_106 rfl ⟨Nat.le_of_ble_eq_true rfl, Nat.le_of_ble_eq_true rfl⟩ hl.1 rfl (Nat.le_of_ble_eq_true rfl) dL_isAccepted_45 ⟨by show _ ≤ 6; omega, by show _ ≤ 36; omega⟩) (fun rr h1 H locs hp hH => ?_)
  obtain ⟨ea, eh⟩ := hp
  rw [eh] at hH
  rw [ea, e4]
  refine lv_imul hx hb dL_isAccepted_48 ?_
  rw [show nI 10 * nI a3 = nI (10 * a3) from nI_mul]
  refine lv_iadd hx hb dL_isAccepted_49 ?_
  rw [show nI (1111 + 1000 * a1 + 100 * a2) + nI (10 * a3) = nI (1111 + 1000 * a1 + 100 * a2 + 10 * a3) from nI_add _ _]
  refine lv_aload_n hx hb dL_isAccepted_50 rfl (lv_at hl 3 rfl) ?_
  refine lv_iload_n hx hb dL_isAccepted_51 rfl (lv_at hl 4 rfl) ?_
  refine lv_iconst (v := nI 4) hx hb dL_isAccepted_52 (by decide) ?_
  refine lv_iadd hx hb dL_isAccepted_53 ?_
  rw [show nI i0 + nI 4 = nI (i0 + 4) from nI_add _ _]
  refine lv_bipush (v := nI 9) hx hb dL_isAccepted_54 (by decide) ?_
  refine k_i hH (k_lS (rest := [.int (nI (1111 + 1000 * a1 + 100 * a2 + 10 * a3))]) C0 hN hH (lL_in l Sc G A _ (i0 + 4) 9 (by omega) (by omega) (by omega)) mv_L_in ml_L_106 rfl ⟨Nat.le_of_ble_eq_true rfl, Nat.le_of_ble_eq_true rfl⟩ hl.1 rfl (Nat.le_of_ble_eq_true rfl) dL_isAccepted_56 ⟨by show _ ≤ 6; omega, by show _ ≤ 36; omega⟩) (fun rr h1 H locs hp hH => ?_)
  obtain ⟨ea, eh⟩ := hp
  rw [eh] at hH
  rw [ea, e5]
  refine lv_iadd hx hb dL_isAccepted_59 ?_
  rw [show nI (1111 + 1000 * a1 + 100 * a2 + 10 * a3) + nI a4 = nI (1111 + 1000 * a1 + 100 * a2 + 10 * a3 + a4) from nI_add _ _]
  rw [ead]
  refine lv_istore (lv' := [(5, .int (nI ad)), (4, .int (nI y)), (0, .ref (o)), (1, .ref (an)), (2, .ref (Sc.1)), (3, .int (nI i0))]) hx hb dL_isAccepted_60 hl (by decide) rfl (fun ls hl => ?_)
  refine lv_iconst (v := nI 1) hx hb dL_isAccepted_62 (by decide) ?_
  refine lv_aload_n hx hb dL_isAccepted_63 rfl (lv_at hl 4 rfl) ?_
  refine lv_iload_n hx hb dL_isAccepted_64 rfl (lv_at hl 5 rfl) ?_
  refine lv_iconst (v := nI 5) hx hb dL_isAccepted_65 (by decide) ?_
  refine lv_iadd hx hb dL_isAccepted_66 ?_
  rw [show nI i0 + nI 5 = nI (i0 + 5) from nI_add _ _]
  refine lv_bipush (v := nI 9) hx hb dL_isAccepted_67 (by decide) ?_
  refine k_i hH (k_lS (rest := [.int (nI 1)]) C0 hN hH (lL_in l Sc G A _ (i0 + 5) 9 (by omega) (by omega) (by omega)) mv_L_in ml_L_106 rfl ⟨Nat.le_of_ble_eq_true rfl, Nat.le_of_ble_eq_true rfl⟩ hl.1 rfl (Nat.le_of_ble_eq_true rfl) dL_isAccepted_69 ⟨by show _ ≤ 6; omega, by show _ ≤ 36; omega⟩) (fun rr h1 H locs hp hH => ?_)
  obtain ⟨ea, eh⟩ := hp
  rw [eh] at hH
  rw [ea, e6]
  refine lv_iadd hx hb dL_isAccepted_72 ?_
  rw [show nI 1 + nI v0 = nI (1 + v0) from nI_add _ _]
  refine lv_istore (lv' := [(6, .int (nI (1 + v0))), (5, .int (nI ad)), (4, .int (nI y)), (0, .ref (o)), (1, .ref (an)), (2, .ref (Sc.1)), (3, .int (nI i0))]) hx hb dL_isAccepted_73 hl (by decide) rfl (fun ls hl => ?_)
  refine lv_aload_n hx hb dL_isAccepted_75 rfl (lv_at hl 5 rfl) ?_
  refine lv_iload_n hx hb dL_isAccepted_76 rfl (lv_at hl 6 rfl) ?_
  refine lv_bipush (v := nI 6) hx hb dL_isAccepted_77 (by decide) ?_
  refine lv_iadd hx hb dL_isAccepted_79 ?_
  rw [show nI i0 + nI 6 = nI (i0 + 6) from nI_add _ _]
  refine lv_iconst (v := nI 3) hx hb dL_isAccepted_80 (by decide) ?_
  refine k_i hH (k_lS (rest := []) C0 hN hH (lL_in l Sc G A _ (i0 + 6) 3 (by omega) (by omega) (by omega)) mv_L_in ml_L_106 rfl ⟨Nat.le_of_ble_eq_true rfl, Nat.le_of_ble_eq_true rfl⟩ hl.1 rfl (Nat.le_of_ble_eq_true rfl) dL_isAccepted_81 ⟨by show _ ≤ 6; omega, by show _ ≤ 36; omega⟩) (fun rr h1 H locs hp hH => ?_)
  obtain ⟨ea, eh⟩ := hp
  rw [eh] at hH
  rw [ea, e7]
  refine lv_istore (lv' := [(7, .int (nI s0)), (6, .int (nI (1 + v0))), (5, .int (nI ad)), (4, .int (nI y)), (0, .ref (o)), (1, .ref (an)), (2, .ref (Sc.1)), (3, .int (nI i0))]) hx hb dL_isAccepted_84 hl (by decide) rfl (fun ls hl => ?_)
  refine lv_aload_n hx hb dL_isAccepted_86 rfl (lv_at hl 5 rfl) ?_
  refine lv_iload hx hb dL_isAccepted_87 (lv_at hl 2 rfl) ?_
  refine k_i hH (k_lS (rest := []) C0 hN hH (lL_hubFor l Sc G A _ b c m _ _ hJ an f hL hT hw hC9 ad (by omega) (by omega)) mv_L_hubFor ml_L_131 rfl ⟨Nat.le_of_ble_eq_true rfl, Nat.le_of_ble_eq_true rfl⟩ hl.1 rfl (Nat.le_of_ble_eq_true rfl) dL_isAccepted_89 ⟨by show _ ≤ 6; omega, by show _ ≤ 36; omega⟩) (fun rr h1 H locs hp hH => ?_)
  obtain ⟨ea, eh⟩ := hp
  rw [eh] at hH
  rw [ea, htv]
  refine lv_istore (lv' := [(8, .int (tv)), (7, .int (nI s0)), (6, .int (nI (1 + v0))), (5, .int (nI ad)), (4, .int (nI y)), (0, .ref (o)), (1, .ref (an)), (2, .ref (Sc.1)), (3, .int (nI i0))]) hx hb dL_isAccepted_92 hl (by decide) rfl (fun ls hl => ?_)
  refine lv_aload_n hx hb dL_isAccepted_94 rfl (lv_at hl 5 rfl) ?_
  refine lv_iload hx hb dL_isAccepted_95 (lv_at hl 3 rfl) ?_
  refine j_w0 (As := [.int (nI ad)]) (rest := []) (v := tv) C0 hN hH ho (lW_hubOf (nI ad) hJ.own hJ.obj (cC_X10_hubOf l hlt G _ _ b c hJ.rest hwc (nI ad)) (fun E h9 z => absurd (hxA.symm.trans z.1) (fun y => nomatch y))) (fun r h9 z => z.elim (fun y => ⟨y.2.1.trans ((hs_found hS had).trans htv), y.2.2⟩) (fun ⟨E, y, _⟩ => absurd (hxA.symm.trans y.1) (fun q => nomatch q))) ms_L_hubOf ml_L_134 rfl ⟨Nat.le_of_ble_eq_true rfl, Nat.le_of_ble_eq_true rfl⟩ hl.1 rfl (Nat.le_of_ble_eq_true rfl) dL_isAccepted_97 ⟨by show _ ≤ 6; omega, by show _ ≤ 36; omega⟩ (fun H locs hH => ?_)
  refine lv_iload hx hb dL_isAccepted_100 (lv_at hl 0 rfl) ?_
  refine lv_icmp_ne (tgt := 116) hx hb dL_isAccepted_102 (by decide) (fun c102_1 => ?_) (fun c102_1 => ?_)
  · exact absurd rfl c102_1
  · refine lv_aload_n hx hb dL_isAccepted_105 rfl (lv_at hl 5 rfl) ?_
    refine lv_iload hx hb dL_isAccepted_106 (lv_at hl 3 rfl) ?_
    refine j_w0 (As := [.int (nI ad)]) (rest := []) (v := tv) C0 hN hH ho (lW_hubByTrying (nI ad) hJ.own hJ.obj (cC_X10_hubByTrying l hlt G _ _ b c hJ.rest hwc (nI ad)) (fun E h9 z => absurd (hxA.symm.trans z.1) (fun y => nomatch y))) (fun r h9 z => z.elim (fun y => ⟨y.2.1.trans ((ht_found hS had).trans htv), y.2.2⟩) (fun ⟨E, y, _⟩ => absurd (hxA.symm.trans y.1) (fun q => nomatch q))) ms_L_hubByTrying ml_L_137 rfl ⟨Nat.le_of_ble_eq_true rfl, Nat.le_of_ble_eq_true rfl⟩ hl.1 rfl (Nat.le_of_ble_eq_true rfl) dL_isAccepted_108 ⟨by show _ ≤ 6; omega, by show _ ≤ 36; omega⟩ (fun H locs hH => ?_)
    refine lv_iload hx hb dL_isAccepted_111 (lv_at hl 0 rfl) ?_
    refine lv_icmp_eq (tgt := 118) hx hb dL_isAccepted_113 (by decide) (fun c113_2 => ?_) (fun c113_2 => ?_)
    · refine lv_iload hx hb dL_isAccepted_118 (lv_at hl 0 rfl) ?_
      refine lv_if_lt (tgt := 131) hx hb dL_isAccepted_120 (by decide) (fun c120_3 => ?_) (fun c120_3 => ?_)
      · refine lv_aload_n hx hb dL_isAccepted_131 rfl (lv_at hl 5 rfl) ?_
        refine lv_iload hx hb dL_isAccepted_132 (lv_at hl 4 rfl) ?_
        refine lv_iload hx hb dL_isAccepted_134 (lv_at hl 3 rfl) ?_
        refine lv_iload hx hb dL_isAccepted_136 (lv_at hl 2 rfl) ?_
        refine lv_iload hx hb dL_isAccepted_138 (lv_at hl 1 rfl) ?_
        refine j_w0 (As := [.int (nI y), .int (nI ad), .int (nI (1 + v0)), .int (nI s0)]) (rest := []) (v := -900003) C0 hN hH ho (lW_accept (nI y) (nI ad) (nI (1 + v0)) (nI s0) hJ.own hJ.obj (cC_X10_accept_no l hlt G _ _ b c hJ.rest hwc (nI y) (nI ad) (nI (1 + v0)) (nI s0) (by rw [hxa]; exact fun z => nomatch z)) (hin_x hxa (fun E h9 z => z.1) ⟨_, List.mem_cons_of_mem _ (List.mem_cons_of_mem _ List.mem_cons_self)⟩)) (hv_x0 hxa rfl (fun r h9 z => z.1)) ms_L_accept ml_L_139 rfl ⟨Nat.le_of_ble_eq_true rfl, Nat.le_of_ble_eq_true rfl⟩ hl.1 rfl (Nat.le_of_ble_eq_true rfl) dL_isAccepted_140 ⟨by show _ ≤ 6; omega, by show _ ≤ 36; omega⟩ (fun H locs hH => ?_)
        refine lv_ldc hx hb hown (hts _ kl_L_27) dL_isAccepted_143 ?_
        refine lv_icmp_ne (tgt := 152) hx hb dL_isAccepted_145 (by decide) (fun c145_4 => ?_) (fun c145_4 => ?_)
        · exact absurd (by decide) c145_4
        · refine lv_iconst (v := nI 1) hx hb dL_isAccepted_148 (by decide) ?_
          refine lv_goto (tgt := 153) hx hb dL_isAccepted_149 (by decide) ?_
          exact e_Z C0 hr (by decide) hH ⟨rfl, b, f, m, n, by rw [setL_id hL]; exact hJ, ho, hwc, by omega, ⟨hS, hw, hI⟩, hT, ⟨rfl, Nat.le_refl _, rfl⟩, Nat.le_refl _, Nat.le_refl _⟩ (by omega) (by omega) dL_isAccepted_153
      · refine lv_aload_n hx hb dL_isAccepted_123 rfl (lv_at hl 6 rfl) ?_
        refine lv_iconst (v := nI 2) hx hb dL_isAccepted_124 (by decide) ?_
        refine j_ld C0 hH hJ hL (ix := 2) (by omega) (by decide) (v := nI (npN m)) hT.p0 dL_isAccepted_125 ?_
        refine lv_bipush (v := nI 40) hx hb dL_isAccepted_126 (by decide) ?_
        refine lv_icmp_ne (tgt := 154) hx hb dL_isAccepted_128 (by decide) (fun c128_5 => ?_) (fun c128_5 => ?_)
        · exact absurd ((nI_eq (by omega) (by omega)).mpr (hz.resolve_left (Int32.not_lt.mpr (Int32.not_lt.mp c120_3)))) c128_5
        · replace c128_5 : npN m = 40 := (nI_eq (a := npN m) (b := 40) (by omega) (by omega)).mp c128_5
          refine lv_aload_n hx hb dL_isAccepted_131 rfl (lv_at hl 5 rfl) ?_
          refine lv_iload hx hb dL_isAccepted_132 (lv_at hl 4 rfl) ?_
          refine lv_iload hx hb dL_isAccepted_134 (lv_at hl 3 rfl) ?_
          refine lv_iload hx hb dL_isAccepted_136 (lv_at hl 2 rfl) ?_
          refine lv_iload hx hb dL_isAccepted_138 (lv_at hl 1 rfl) ?_
          refine j_w0 (As := [.int (nI y), .int (nI ad), .int (nI (1 + v0)), .int (nI s0)]) (rest := []) (v := -900003) C0 hN hH ho (lW_accept (nI y) (nI ad) (nI (1 + v0)) (nI s0) hJ.own hJ.obj (cC_X10_accept_no l hlt G _ _ b c hJ.rest hwc (nI y) (nI ad) (nI (1 + v0)) (nI s0) (by rw [hxa]; exact fun z => nomatch z)) (hin_x hxa (fun E h9 z => z.1) ⟨_, List.mem_cons_of_mem _ (List.mem_cons_of_mem _ List.mem_cons_self)⟩)) (hv_x0 hxa rfl (fun r h9 z => z.1)) ms_L_accept ml_L_139 rfl ⟨Nat.le_of_ble_eq_true rfl, Nat.le_of_ble_eq_true rfl⟩ hl.1 rfl (Nat.le_of_ble_eq_true rfl) dL_isAccepted_140 ⟨by show _ ≤ 6; omega, by show _ ≤ 36; omega⟩ (fun H locs hH => ?_)
          refine lv_ldc hx hb hown (hts _ kl_L_27) dL_isAccepted_143 ?_
          refine lv_icmp_ne (tgt := 152) hx hb dL_isAccepted_145 (by decide) (fun c145_6 => ?_) (fun c145_6 => ?_)
          · exact absurd (by decide) c145_6
          · refine lv_iconst (v := nI 1) hx hb dL_isAccepted_148 (by decide) ?_
            refine lv_goto (tgt := 153) hx hb dL_isAccepted_149 (by decide) ?_
            exact e_Z C0 hr (by decide) hH ⟨rfl, b, f, m, n, by rw [setL_id hL]; exact hJ, ho, hwc, by omega, ⟨hS, hw, hI⟩, hT, ⟨rfl, Nat.le_refl _, rfl⟩, Nat.le_refl _, Nat.le_refl _⟩ (by omega) (by omega) dL_isAccepted_153
    · exact absurd c102_1 c113_2
set_option maxHeartbeats 1600000 in
set_option maxRecDepth 100000 in
theorem lL_isAccepted_a (l : Launch) (hlt : l.stackTraces = false) (Sc : SCR) (G : GT) (A : Nat → Prop) (h : AH) (b : BA) (c m : MM) (n : Nat) (L : LNum) (M : LRef) (o : Nat) (hJ : JW G.2.2.1 h b c L M) (ho : b 14 0 = o) (hwc : WFc c) (hS : Sim n c m) (hw : WFa m) (hI : IV m) (hn : n < 512) (i0 : Nat) (hi0 : i0 < 2 ^ 19) (h2 : 2 ≤ nhN m) (y a1 a2 a3 a4 ad v0 s0 : Nat) (e1 : inN Sc i0 (nhN m) = y) (e2 : inN Sc (i0 + 1) 3 = a1) (e3 : inN Sc (i0 + 2) 3 = a2) (e4 : inN Sc (i0 + 3) 2 = a3) (e5 : inN Sc (i0 + 4) 9 = a4) (ead : 1111 + 1000 * a1 + 100 * a2 + 10 * a3 + a4 = ad) (e6 : inN Sc (i0 + 5) 9 = v0) (e7 : inN Sc (i0 + 6) 3 = s0) (d : Nat) (hd : d < nhN m) (htv : found m (nI ad) = nI d) (hnp : npN m < 40) (an : Nat) (f : Nat → Int32) (hL : L an = some (700, f)) (hT : NT f m) : lcI l Sc G A yL_isAccepted cL_isAccepted 11 (Option.some FieldType.boolean) 11 407 (6 + (UC (cSr (cAcc c (nI y) (nI ad) (nI (1 + v0)) (nI s0)) (nI (npN m))) - UC c)) (36 + (US (cSr (cAcc c (nI y) (nI ad) (nI (1 + v0)) (nI s0)) (nI (npN m))) - US c)) [.ref (o), .ref (an), .ref (Sc.1), .int (nI i0)] h (fun r h' => r = nI 1 ∧ ∃ b' f' m' n', JW G.2.2.1 h' b' (cSr (cAcc c (nI y) (nI ad) (nI (1 + v0)) (nI s0)) (nI (npN m))) (setL L an 700 f') M ∧ b' 14 0 = o ∧ WFc (cSr (cAcc c (nI y) (nI ad) (nI (1 + v0)) (nI s0)) (nI (npN m))) ∧ n' ≤ n + 1 ∧ Stt n' (cSr (cAcc c (nI y) (nI ad) (nI (1 + v0)) (nI s0)) (nI (npN m))) m' ∧ NT f' m' ∧ Kp m m' ∧ UC c ≤ UC (cSr (cAcc c (nI y) (nI ad) (nI (1 + v0)) (nI s0)) (nI (npN m))) ∧ US c ≤ US (cSr (cAcc c (nI y) (nI ad) (nI (1 + v0)) (nI s0)) (nI (npN m)))) := by
  refine lm_of rfl (Nat.le_of_ble_eq_true rfl) ?_
  intro pr e s m9 below meth c9 C0 hN hr hH ls hl
  obtain ⟨hx, hb, hml, hown, hts, hK, hA, -⟩ := id C0
  have hl : lv_has ls 11 [(0, .ref (o)), (1, .ref (an)), (2, .ref (Sc.1)), (3, .int (nI i0))] := hl
  have n40 := hw.np.2
  have n6 := hw.nh.2
  have nl12 := hw.nl.2
  have q1 := inN_lt Sc i0 (n := nhN m) (by omega)
  have q2 := inN_lt Sc (i0 + 1) (n := 3) (by omega)
  have q3 := inN_lt Sc (i0 + 2) (n := 3) (by omega)
  have q4 := inN_lt Sc (i0 + 3) (n := 2) (by omega)
  have q5 := inN_lt Sc (i0 + 4) (n := 9) (by omega)
  have q6 := inN_lt Sc (i0 + 5) (n := 9) (by omega)
  have q7 := inN_lt Sc (i0 + 6) (n := 3) (by omega)
  rw [e1] at q1
  rw [e2] at q2
  rw [e3] at q3
  rw [e4] at q4
  rw [e5] at q5
  rw [e6] at q6
  rw [e7] at q7
  have had : ¬ isAd (nI ad) = 0 := by rw [← ead]; exact law_ad a1 q2 a2 q3 a3 q4 a4 q5
  have hxA := xAd_n had
  have hC9 := hS.2.2.2.2.2.2.2.1
  obtain ⟨hxa, m1, hSt1, hA1⟩ := d_acc ⟨hS, hw, hI⟩ hwc hn q1 hnp had (v := 1 + v0) (s := s0) (by omega) (by omega) htv hd
  have hg9 := (gm_acc hwc (nI y) (nI ad) (nI (1 + v0)) (nI s0)).1
  rw [if_pos hxa] at hg9
  obtain ⟨b1, b2, b3, c11, c12, c13, c14, c15, c18, c25, c28, c21, c20, c19, c22, c24, c29⟩ := id hA1
  have hw1 := hSt1.2.1
  have hS1 := hSt1.1
  have hnp1 : npN m1 = npN m + 1 := by show (m1 39 0).toNatClampNeg = _; rw [b1]; exact nI_clamp (by omega)
  have hp1 : npN m < npN m1 := by omega
  have hgu := uc_sr (cAcc c (nI y) (nI ad) (nI (1 + v0)) (nI s0)) (nI (npN m))
  refine lv_aload_n hx hb dL_isAccepted_0 rfl (lv_at hl 2 rfl) ?_
  refine lv_iload_n hx hb dL_isAccepted_1 rfl (lv_at hl 3 rfl) ?_
  refine lv_aload_n hx hb dL_isAccepted_2 rfl (lv_at hl 1 rfl) ?_
  refine lv_iconst (v := nI 0) hx hb dL_isAccepted_3 (by decide) ?_
  refine j_ld C0 hH hJ hL (ix := 0) (by omega) (by decide) (v := nI (nhN m)) hT.h0 dL_isAccepted_4 ?_
  refine k_i hH (k_lS (rest := []) C0 hN hH (lL_in l Sc G A _ i0 (nhN m) (by omega) (by omega) (by omega)) mv_L_in ml_L_106 rfl ⟨Nat.le_of_ble_eq_true rfl, Nat.le_of_ble_eq_true rfl⟩ hl.1 rfl (Nat.le_of_ble_eq_true rfl) dL_isAccepted_5 ⟨by show _ ≤ 6 + (UC (cSr (cAcc c (nI y) (nI ad) (nI (1 + v0)) (nI s0)) (nI (npN m))) - UC c); omega, by show _ ≤ 36 + (US (cSr (cAcc c (nI y) (nI ad) (nI (1 + v0)) (nI s0)) (nI (npN m))) - US c); omega⟩) (fun rr h1 H locs hp hH => ?_)
  obtain ⟨ea, eh⟩ := hp
  rw [eh] at hH
  rw [ea, e1]
  refine lv_istore (lv' := [(4, .int (nI y)), (0, .ref (o)), (1, .ref (an)), (2, .ref (Sc.1)), (3, .int (nI i0))]) hx hb dL_isAccepted_8 hl (by decide) rfl (fun ls hl => ?_)
  refine lv_sipush (v := nI 1111) hx hb dL_isAccepted_10 (by decide) ?_
  refine lv_sipush (v := nI 1000) hx hb dL_isAccepted_13 (by decide) ?_
  refine lv_aload_n hx hb dL_isAccepted_16 rfl (lv_at hl 3 rfl) ?_
  refine lv_iload_n hx hb dL_isAccepted_17 rfl (lv_at hl 4 rfl) ?_
  refine lv_iconst (v := nI 1) hx hb dL_isAccepted_18 (by decide) ?_
  refine lv_iadd hx hb dL_isAccepted_19 ?_
  rw [show nI i0 + nI 1 = nI (i0 + 1) from nI_add _ _]
  refine lv_iconst (v := nI 3) hx hb dL_isAccepted_20 (by decide) ?_
  refine k_i hH (k_lS (rest := [.int (nI 1000), .int (nI 1111)]) C0 hN hH (lL_in l Sc G A _ (i0 + 1) 3 (by omega) (by omega) (by omega)) mv_L_in ml_L_106 rfl ⟨Nat.le_of_ble_eq_true rfl, Nat.le_of_ble_eq_true rfl⟩ hl.1 rfl (Nat.le_of_ble_eq_true rfl) dL_isAccepted_21 ⟨by show _ ≤ 6 + (UC (cSr (cAcc c (nI y) (nI ad) (nI (1 + v0)) (nI s0)) (nI (npN m))) - UC c); omega, by show _ ≤ 36 + (US (cSr (cAcc c (nI y) (nI ad) (nI (1 + v0)) (nI s0)) (nI (npN m))) - US c); omega⟩) (fun rr h1 H locs hp hH => ?_)
  obtain ⟨ea, eh⟩ := hp
  rw [eh] at hH
  rw [ea, e2]
  refine lv_imul hx hb dL_isAccepted_24 ?_
  rw [show nI 1000 * nI a1 = nI (1000 * a1) from nI_mul]
  refine lv_iadd hx hb dL_isAccepted_25 ?_
  rw [show nI 1111 + nI (1000 * a1) = nI (1111 + 1000 * a1) from nI_add _ _]
  refine lv_bipush (v := nI 100) hx hb dL_isAccepted_26 (by decide) ?_
  refine lv_aload_n hx hb dL_isAccepted_28 rfl (lv_at hl 3 rfl) ?_
  refine lv_iload_n hx hb dL_isAccepted_29 rfl (lv_at hl 4 rfl) ?_
  refine lv_iconst (v := nI 2) hx hb dL_isAccepted_30 (by decide) ?_
  refine lv_iadd hx hb dL_isAccepted_31 ?_
  rw [show nI i0 + nI 2 = nI (i0 + 2) from nI_add _ _]
  refine lv_iconst (v := nI 3) hx hb dL_isAccepted_32 (by decide) ?_
  refine k_i hH (k_lS (rest := [.int (nI 100), .int (nI (1111 + 1000 * a1))]) C0 hN hH (lL_in l Sc G A _ (i0 + 2) 3 (by omega) (by omega) (by omega)) mv_L_in ml_L_106 rfl ⟨Nat.le_of_ble_eq_true rfl, Nat.le_of_ble_eq_true rfl⟩ hl.1 rfl (Nat.le_of_ble_eq_true rfl) dL_isAccepted_33 ⟨by show _ ≤ 6 + (UC (cSr (cAcc c (nI y) (nI ad) (nI (1 + v0)) (nI s0)) (nI (npN m))) - UC c); omega, by show _ ≤ 36 + (US (cSr (cAcc c (nI y) (nI ad) (nI (1 + v0)) (nI s0)) (nI (npN m))) - US c); omega⟩) (fun rr h1 H locs hp hH => ?_)
  obtain ⟨ea, eh⟩ := hp
  rw [eh] at hH
  rw [ea, e3]
  refine lv_imul hx hb dL_isAccepted_36 ?_
  rw [show nI 100 * nI a2 = nI (100 * a2) from nI_mul]
  refine lv_iadd hx hb dL_isAccepted_37 ?_
  rw [show nI (1111 + 1000 * a1) + nI (100 * a2) = nI (1111 + 1000 * a1 + 100 * a2) from nI_add _ _]
  refine lv_bipush (v := nI 10) hx hb dL_isAccepted_38 (by decide) ?_
  refine lv_aload_n hx hb dL_isAccepted_40 rfl (lv_at hl 3 rfl) ?_
  refine lv_iload_n hx hb dL_isAccepted_41 rfl (lv_at hl 4 rfl) ?_
  refine lv_iconst (v := nI 3) hx hb dL_isAccepted_42 (by decide) ?_
  refine lv_iadd hx hb dL_isAccepted_43 ?_
  rw [show nI i0 + nI 3 = nI (i0 + 3) from nI_add _ _]
  refine lv_iconst (v := nI 2) hx hb dL_isAccepted_44 (by decide) ?_
  refine k_i hH (k_lS (rest := [.int (nI 10), .int (nI (1111 + 1000 * a1 + 100 * a2))]) C0 hN hH (lL_in l Sc G A _ (i0 + 3) 2 (by omega) (by omega) (by omega)) mv_L_in ml_L_106 rfl ⟨Nat.le_of_ble_eq_true rfl, Nat.le_of_ble_eq_true rfl⟩ hl.1 rfl (Nat.le_of_ble_eq_true rfl) dL_isAccepted_45 ⟨by show _ ≤ 6 + (UC (cSr (cAcc c (nI y) (nI ad) (nI (1 + v0)) (nI s0)) (nI (npN m))) - UC c); omega, by show _ ≤ 36 + (US (cSr (cAcc c (nI y) (nI ad) (nI (1 + v0)) (nI s0)) (nI (npN m))) - US c); omega⟩) (fun rr h1 H locs hp hH => ?_)
  obtain ⟨ea, eh⟩ := hp
  rw [eh] at hH
  rw [ea, e4]
  refine lv_imul hx hb dL_isAccepted_48 ?_
  rw [show nI 10 * nI a3 = nI (10 * a3) from nI_mul]
  refine lv_iadd hx hb dL_isAccepted_49 ?_
  rw [show nI (1111 + 1000 * a1 + 100 * a2) + nI (10 * a3) = nI (1111 + 1000 * a1 + 100 * a2 + 10 * a3) from nI_add _ _]
  refine lv_aload_n hx hb dL_isAccepted_50 rfl (lv_at hl 3 rfl) ?_
  refine lv_iload_n hx hb dL_isAccepted_51 rfl (lv_at hl 4 rfl) ?_
  refine lv_iconst (v := nI 4) hx hb dL_isAccepted_52 (by decide) ?_
  refine lv_iadd hx hb dL_isAccepted_53 ?_
  rw [show nI i0 + nI 4 = nI (i0 + 4) from nI_add _ _]
  refine lv_bipush (v := nI 9) hx hb dL_isAccepted_54 (by decide) ?_
  refine k_i hH (k_lS (rest := [.int (nI (1111 + 1000 * a1 + 100 * a2 + 10 * a3))]) C0 hN hH (lL_in l Sc G A _ (i0 + 4) 9 (by omega) (by omega) (by omega)) mv_L_in ml_L_106 rfl ⟨Nat.le_of_ble_eq_true rfl, Nat.le_of_ble_eq_true rfl⟩ hl.1 rfl (Nat.le_of_ble_eq_true rfl) dL_isAccepted_56 ⟨by show _ ≤ 6 + (UC (cSr (cAcc c (nI y) (nI ad) (nI (1 + v0)) (nI s0)) (nI (npN m))) - UC c); omega, by show _ ≤ 36 + (US (cSr (cAcc c (nI y) (nI ad) (nI (1 + v0)) (nI s0)) (nI (npN m))) - US c); omega⟩) (fun rr h1 H locs hp hH => ?_)
  obtain ⟨ea, eh⟩ := hp
  rw [eh] at hH
  rw [ea, e5]
  refine lv_iadd hx hb dL_isAccepted_59 ?_
  rw [show nI (1111 + 1000 * a1 + 100 * a2 + 10 * a3) + nI a4 = nI (1111 + 1000 * a1 + 100 * a2 + 10 * a3 + a4) from nI_add _ _]
  rw [ead]
  refine lv_istore (lv' := [(5, .int (nI ad)), (4, .int (nI y)), (0, .ref (o)), (1, .ref (an)), (2, .ref (Sc.1)), (3, .int (nI i0))]) hx hb dL_isAccepted_60 hl (by decide) rfl (fun ls hl => ?_)
  refine lv_iconst (v := nI 1) hx hb dL_isAccepted_62 (by decide) ?_
  refine lv_aload_n hx hb dL_isAccepted_63 rfl (lv_at hl 4 rfl) ?_
  refine lv_iload_n hx hb dL_isAccepted_64 rfl (lv_at hl 5 rfl) ?_
  refine lv_iconst (v := nI 5) hx hb dL_isAccepted_65 (by decide) ?_
  refine lv_iadd hx hb dL_isAccepted_66 ?_
  rw [show nI i0 + nI 5 = nI (i0 + 5) from nI_add _ _]
  refine lv_bipush (v := nI 9) hx hb dL_isAccepted_67 (by decide) ?_
  refine k_i hH (k_lS (rest := [.int (nI 1)]) C0 hN hH (lL_in l Sc G A _ (i0 + 5) 9 (by omega) (by omega) (by omega)) mv_L_in ml_L_106 rfl ⟨Nat.le_of_ble_eq_true rfl, Nat.le_of_ble_eq_true rfl⟩ hl.1 rfl (Nat.le_of_ble_eq_true rfl) dL_isAccepted_69 ⟨by show _ ≤ 6 + (UC (cSr (cAcc c (nI y) (nI ad) (nI (1 + v0)) (nI s0)) (nI (npN m))) - UC c); omega, by show _ ≤ 36 + (US (cSr (cAcc c (nI y) (nI ad) (nI (1 + v0)) (nI s0)) (nI (npN m))) - US c); omega⟩) (fun rr h1 H locs hp hH => ?_)
  obtain ⟨ea, eh⟩ := hp
  rw [eh] at hH
  rw [ea, e6]
  refine lv_iadd hx hb dL_isAccepted_72 ?_
  rw [show nI 1 + nI v0 = nI (1 + v0) from nI_add _ _]
  refine lv_istore (lv' := [(6, .int (nI (1 + v0))), (5, .int (nI ad)), (4, .int (nI y)), (0, .ref (o)), (1, .ref (an)), (2, .ref (Sc.1)), (3, .int (nI i0))]) hx hb dL_isAccepted_73 hl (by decide) rfl (fun ls hl => ?_)
  refine lv_aload_n hx hb dL_isAccepted_75 rfl (lv_at hl 5 rfl) ?_
  refine lv_iload_n hx hb dL_isAccepted_76 rfl (lv_at hl 6 rfl) ?_
  refine lv_bipush (v := nI 6) hx hb dL_isAccepted_77 (by decide) ?_
  refine lv_iadd hx hb dL_isAccepted_79 ?_
  rw [show nI i0 + nI 6 = nI (i0 + 6) from nI_add _ _]
  refine lv_iconst (v := nI 3) hx hb dL_isAccepted_80 (by decide) ?_
  refine k_i hH (k_lS (rest := []) C0 hN hH (lL_in l Sc G A _ (i0 + 6) 3 (by omega) (by omega) (by omega)) mv_L_in ml_L_106 rfl ⟨Nat.le_of_ble_eq_true rfl, Nat.le_of_ble_eq_true rfl⟩ hl.1 rfl (Nat.le_of_ble_eq_true rfl) dL_isAccepted_81 ⟨by show _ ≤ 6 + (UC (cSr (cAcc c (nI y) (nI ad) (nI (1 + v0)) (nI s0)) (nI (npN m))) - UC c); omega, by show _ ≤ 36 + (US (cSr (cAcc c (nI y) (nI ad) (nI (1 + v0)) (nI s0)) (nI (npN m))) - US c); omega⟩) (fun rr h1 H locs hp hH => ?_)
  obtain ⟨ea, eh⟩ := hp
  rw [eh] at hH
  rw [ea, e7]
  refine lv_istore (lv' := [(7, .int (nI s0)), (6, .int (nI (1 + v0))), (5, .int (nI ad)), (4, .int (nI y)), (0, .ref (o)), (1, .ref (an)), (2, .ref (Sc.1)), (3, .int (nI i0))]) hx hb dL_isAccepted_84 hl (by decide) rfl (fun ls hl => ?_)
  refine lv_aload_n hx hb dL_isAccepted_86 rfl (lv_at hl 5 rfl) ?_
  refine lv_iload hx hb dL_isAccepted_87 (lv_at hl 2 rfl) ?_
  refine k_i hH (k_lS (rest := []) C0 hN hH (lL_hubFor l Sc G A _ b c m _ _ hJ an f hL hT hw hC9 ad (by omega) (by omega)) mv_L_hubFor ml_L_131 rfl ⟨Nat.le_of_ble_eq_true rfl, Nat.le_of_ble_eq_true rfl⟩ hl.1 rfl (Nat.le_of_ble_eq_true rfl) dL_isAccepted_89 ⟨by show _ ≤ 6 + (UC (cSr (cAcc c (nI y) (nI ad) (nI (1 + v0)) (nI s0)) (nI (npN m))) - UC c); omega, by show _ ≤ 36 + (US (cSr (cAcc c (nI y) (nI ad) (nI (1 + v0)) (nI s0)) (nI (npN m))) - US c); omega⟩) (fun rr h1 H locs hp hH => ?_)
  obtain ⟨ea, eh⟩ := hp
  rw [eh] at hH
  rw [ea, htv]
  refine lv_istore (lv' := [(8, .int (nI d)), (7, .int (nI s0)), (6, .int (nI (1 + v0))), (5, .int (nI ad)), (4, .int (nI y)), (0, .ref (o)), (1, .ref (an)), (2, .ref (Sc.1)), (3, .int (nI i0))]) hx hb dL_isAccepted_92 hl (by decide) rfl (fun ls hl => ?_)
  refine lv_aload_n hx hb dL_isAccepted_94 rfl (lv_at hl 5 rfl) ?_
  refine lv_iload hx hb dL_isAccepted_95 (lv_at hl 3 rfl) ?_
  refine j_w0 (As := [.int (nI ad)]) (rest := []) (v := nI d) C0 hN hH ho (lW_hubOf (nI ad) hJ.own hJ.obj (cC_X10_hubOf l hlt G _ _ b c hJ.rest hwc (nI ad)) (fun E h9 z => absurd (hxA.symm.trans z.1) (fun y => nomatch y))) (fun r h9 z => z.elim (fun y => ⟨y.2.1.trans ((hs_found hS had).trans htv), y.2.2⟩) (fun ⟨E, y, _⟩ => absurd (hxA.symm.trans y.1) (fun q => nomatch q))) ms_L_hubOf ml_L_134 rfl ⟨Nat.le_of_ble_eq_true rfl, Nat.le_of_ble_eq_true rfl⟩ hl.1 rfl (Nat.le_of_ble_eq_true rfl) dL_isAccepted_97 ⟨by show _ ≤ 6 + (UC (cSr (cAcc c (nI y) (nI ad) (nI (1 + v0)) (nI s0)) (nI (npN m))) - UC c); omega, by show _ ≤ 36 + (US (cSr (cAcc c (nI y) (nI ad) (nI (1 + v0)) (nI s0)) (nI (npN m))) - US c); omega⟩ (fun H locs hH => ?_)
  refine lv_iload hx hb dL_isAccepted_100 (lv_at hl 0 rfl) ?_
  refine lv_icmp_ne (tgt := 116) hx hb dL_isAccepted_102 (by decide) (fun c102_1 => ?_) (fun c102_1 => ?_)
  · exact absurd rfl c102_1
  · replace c102_1 : d = d := (nI_eq (a := d) (b := d) (by omega) (by omega)).mp c102_1
    refine lv_aload_n hx hb dL_isAccepted_105 rfl (lv_at hl 5 rfl) ?_
    refine lv_iload hx hb dL_isAccepted_106 (lv_at hl 3 rfl) ?_
    refine j_w0 (As := [.int (nI ad)]) (rest := []) (v := nI d) C0 hN hH ho (lW_hubByTrying (nI ad) hJ.own hJ.obj (cC_X10_hubByTrying l hlt G _ _ b c hJ.rest hwc (nI ad)) (fun E h9 z => absurd (hxA.symm.trans z.1) (fun y => nomatch y))) (fun r h9 z => z.elim (fun y => ⟨y.2.1.trans ((ht_found hS had).trans htv), y.2.2⟩) (fun ⟨E, y, _⟩ => absurd (hxA.symm.trans y.1) (fun q => nomatch q))) ms_L_hubByTrying ml_L_137 rfl ⟨Nat.le_of_ble_eq_true rfl, Nat.le_of_ble_eq_true rfl⟩ hl.1 rfl (Nat.le_of_ble_eq_true rfl) dL_isAccepted_108 ⟨by show _ ≤ 6 + (UC (cSr (cAcc c (nI y) (nI ad) (nI (1 + v0)) (nI s0)) (nI (npN m))) - UC c); omega, by show _ ≤ 36 + (US (cSr (cAcc c (nI y) (nI ad) (nI (1 + v0)) (nI s0)) (nI (npN m))) - US c); omega⟩ (fun H locs hH => ?_)
    refine lv_iload hx hb dL_isAccepted_111 (lv_at hl 0 rfl) ?_
    refine lv_icmp_eq (tgt := 118) hx hb dL_isAccepted_113 (by decide) (fun c113_2 => ?_) (fun c113_2 => ?_)
    · replace c113_2 : d = d := (nI_eq (a := d) (b := d) (by omega) (by omega)).mp c113_2
      refine lv_iload hx hb dL_isAccepted_118 (lv_at hl 0 rfl) ?_
      refine lv_if_lt (tgt := 131) hx hb dL_isAccepted_120 (by decide) (fun c120_3 => ?_) (fun c120_3 => ?_)
      · exact absurd c120_3 (nI_pos (by omega))
      · replace c120_3 : ¬ (d < 0) := fun z => c120_3 ((nI_ltI (a := d) (b := 0) (by omega) (by omega)).mpr z)
        refine lv_aload_n hx hb dL_isAccepted_123 rfl (lv_at hl 6 rfl) ?_
        refine lv_iconst (v := nI 2) hx hb dL_isAccepted_124 (by decide) ?_
        refine j_ld C0 hH hJ hL (ix := 2) (by omega) (by decide) (v := nI (npN m)) hT.p0 dL_isAccepted_125 ?_
        refine lv_bipush (v := nI 40) hx hb dL_isAccepted_126 (by decide) ?_
        refine lv_icmp_ne (tgt := 154) hx hb dL_isAccepted_128 (by decide) (fun c128_4 => ?_) (fun c128_4 => ?_)
        · replace c128_4 : ¬ (npN m = 40) := fun z => c128_4 ((nI_eq (a := npN m) (b := 40) (by omega) (by omega)).mpr z)
          refine lv_aload_n hx hb dL_isAccepted_154 rfl (lv_at hl 6 rfl) ?_
          refine lv_iconst (v := nI 2) hx hb dL_isAccepted_155 (by decide) ?_
          refine j_ld C0 hH hJ hL (ix := 2) (by omega) (by decide) (v := nI (npN m)) hT.p0 dL_isAccepted_156 ?_
          refine lv_istore (lv' := [(9, .int (nI (npN m))), (8, .int (nI d)), (7, .int (nI s0)), (6, .int (nI (1 + v0))), (5, .int (nI ad)), (4, .int (nI y)), (0, .ref (o)), (1, .ref (an)), (2, .ref (Sc.1)), (3, .int (nI i0))]) hx hb dL_isAccepted_157 hl (by decide) rfl (fun ls hl => ?_)
          refine lv_sipush (v := nI 140) hx hb dL_isAccepted_159 (by decide) ?_
          refine lv_bipush (v := nI 12) hx hb dL_isAccepted_162 (by decide) ?_
          refine lv_iload hx hb dL_isAccepted_164 (lv_at hl 0 rfl) ?_
          refine lv_imul hx hb dL_isAccepted_166 ?_
          rw [show nI 12 * nI (npN m) = nI (12 * (npN m)) from nI_mul]
          refine lv_iadd hx hb dL_isAccepted_167 ?_
          rw [show nI 140 + nI (12 * (npN m)) = nI (140 + 12 * (npN m)) from nI_add _ _]
          refine lv_istore (lv' := [(10, .int (nI (140 + 12 * (npN m)))), (9, .int (nI (npN m))), (8, .int (nI d)), (7, .int (nI s0)), (6, .int (nI (1 + v0))), (5, .int (nI ad)), (4, .int (nI y)), (0, .ref (o)), (1, .ref (an)), (2, .ref (Sc.1)), (3, .int (nI i0))]) hx hb dL_isAccepted_168 hl (by decide) rfl (fun ls hl => ?_)
          refine lv_aload_n hx hb dL_isAccepted_170 rfl (lv_at hl 8 rfl) ?_
          refine lv_iload hx hb dL_isAccepted_171 (lv_at hl 0 rfl) ?_
          refine lv_iload hx hb dL_isAccepted_173 (lv_at hl 4 rfl) ?_
          refine j_st C0 hH hJ hL (ix := 140 + 12 * (npN m)) (by omega) (by decide) dL_isAccepted_175 (fun h H locs hH hJ => ?_)
          obtain ⟨f_5, hf_5⟩ : ∃ z, z = upF f (140 + 12 * (npN m)) (nI (1 + v0)) := ⟨_, rfl⟩
          obtain ⟨L_6, hL_6⟩ : ∃ z, z = setL L an 700 f_5 := ⟨_, rfl⟩
          rw [← hf_5, ← hL_6] at hJ
          have hL_L_6 : L_6 an = some (700, f_5) := by rw [hL_6]; exact setL_s _ _ _ _
          refine lv_aload_n hx hb dL_isAccepted_176 rfl (lv_at hl 8 rfl) ?_
          refine lv_iload hx hb dL_isAccepted_177 (lv_at hl 0 rfl) ?_
          refine lv_iconst (v := nI 1) hx hb dL_isAccepted_179 (by decide) ?_
          refine lv_iadd hx hb dL_isAccepted_180 ?_
          rw [show nI (140 + 12 * (npN m)) + nI 1 = nI (140 + 12 * (npN m) + 1) from nI_add _ _]
          refine lv_iload hx hb dL_isAccepted_181 (lv_at hl 3 rfl) ?_
          refine j_st C0 hH hJ hL_L_6 (ix := 140 + 12 * (npN m) + 1) (by omega) (by decide) dL_isAccepted_183 (fun h H locs hH hJ => ?_)
          obtain ⟨f_7, hf_7⟩ : ∃ z, z = upF f_5 (140 + 12 * (npN m) + 1) (nI s0) := ⟨_, rfl⟩
          obtain ⟨L_8, hL_8⟩ : ∃ z, z = setL L_6 an 700 f_7 := ⟨_, rfl⟩
          rw [← hf_7, ← hL_8] at hJ
          have hL_L_6_L_8 : L_8 an = some (700, f_7) := by rw [hL_8]; exact setL_s _ _ _ _
          refine lv_aload_n hx hb dL_isAccepted_184 rfl (lv_at hl 8 rfl) ?_
          refine lv_iload hx hb dL_isAccepted_185 (lv_at hl 0 rfl) ?_
          refine lv_iconst (v := nI 2) hx hb dL_isAccepted_187 (by decide) ?_
          refine lv_iadd hx hb dL_isAccepted_188 ?_
          rw [show nI (140 + 12 * (npN m)) + nI 2 = nI (140 + 12 * (npN m) + 2) from nI_add _ _]
          refine lv_iload hx hb dL_isAccepted_189 (lv_at hl 6 rfl) ?_
          refine j_st C0 hH hJ hL_L_6_L_8 (ix := 140 + 12 * (npN m) + 2) (by omega) (by decide) dL_isAccepted_191 (fun h H locs hH hJ => ?_)
          obtain ⟨f_9, hf_9⟩ : ∃ z, z = upF f_7 (140 + 12 * (npN m) + 2) (nI y) := ⟨_, rfl⟩
          obtain ⟨L_10, hL_10⟩ : ∃ z, z = setL L_8 an 700 f_9 := ⟨_, rfl⟩
          rw [← hf_9, ← hL_10] at hJ
          have hL_L_6_L_8_L_10 : L_10 an = some (700, f_9) := by rw [hL_10]; exact setL_s _ _ _ _
          refine lv_aload_n hx hb dL_isAccepted_192 rfl (lv_at hl 8 rfl) ?_
          refine lv_iload hx hb dL_isAccepted_193 (lv_at hl 0 rfl) ?_
          refine lv_iconst (v := nI 3) hx hb dL_isAccepted_195 (by decide) ?_
          refine lv_iadd hx hb dL_isAccepted_196 ?_
          rw [show nI (140 + 12 * (npN m)) + nI 3 = nI (140 + 12 * (npN m) + 3) from nI_add _ _]
          refine lv_aload_n hx hb dL_isAccepted_197 rfl (lv_at hl 7 rfl) ?_
          refine j_q0m (rest := [.int (nI (140 + 12 * (npN m) + 3)), .ref (an)]) C0 hH hJ ho (cC_X10_minute l G _ _ b c hJ.rest hwc) (v := m 41 0) (v_min hS) mv_X10_minute ml_L_124 rfl ⟨Nat.le_of_ble_eq_true rfl, Nat.le_of_ble_eq_true rfl⟩ hl.1 rfl (Nat.le_of_ble_eq_true rfl) dL_isAccepted_198 ⟨by show _ ≤ 6 + (UC (cSr (cAcc c (nI y) (nI ad) (nI (1 + v0)) (nI s0)) (nI (npN m))) - UC c); omega, by show _ ≤ 36 + (US (cSr (cAcc c (nI y) (nI ad) (nI (1 + v0)) (nI s0)) (nI (npN m))) - US c); omega⟩ (fun H locs hH => ?_)
          refine j_st C0 hH hJ hL_L_6_L_8_L_10 (ix := 140 + 12 * (npN m) + 3) (by omega) (by decide) dL_isAccepted_201 (fun h H locs hH hJ => ?_)
          obtain ⟨f_11, hf_11⟩ : ∃ z, z = upF f_9 (140 + 12 * (npN m) + 3) (m 41 0) := ⟨_, rfl⟩
          obtain ⟨L_12, hL_12⟩ : ∃ z, z = setL L_10 an 700 f_11 := ⟨_, rfl⟩
          rw [← hf_11, ← hL_12] at hJ
          have hL_L_6_L_8_L_10_L_12 : L_12 an = some (700, f_11) := by rw [hL_12]; exact setL_s _ _ _ _
          refine lv_aload_n hx hb dL_isAccepted_202 rfl (lv_at hl 8 rfl) ?_
          refine lv_iload hx hb dL_isAccepted_203 (lv_at hl 0 rfl) ?_
          refine lv_bipush (v := nI 6) hx hb dL_isAccepted_205 (by decide) ?_
          refine lv_iadd hx hb dL_isAccepted_207 ?_
          rw [show nI (140 + 12 * (npN m)) + nI 6 = nI (140 + 12 * (npN m) + 6) from nI_add _ _]
          refine lv_iconst (v := nI 0) hx hb dL_isAccepted_208 (by decide) ?_
          refine j_st C0 hH hJ hL_L_6_L_8_L_10_L_12 (ix := 140 + 12 * (npN m) + 6) (by omega) (by decide) dL_isAccepted_209 (fun h H locs hH hJ => ?_)
          obtain ⟨f_13, hf_13⟩ : ∃ z, z = upF f_11 (140 + 12 * (npN m) + 6) (nI 0) := ⟨_, rfl⟩
          obtain ⟨L_14, hL_14⟩ : ∃ z, z = setL L_12 an 700 f_13 := ⟨_, rfl⟩
          rw [← hf_13, ← hL_14] at hJ
          have hL_L_6_L_8_L_10_L_12_L_14 : L_14 an = some (700, f_13) := by rw [hL_14]; exact setL_s _ _ _ _
          refine lv_aload_n hx hb dL_isAccepted_210 rfl (lv_at hl 8 rfl) ?_
          refine lv_iload hx hb dL_isAccepted_211 (lv_at hl 0 rfl) ?_
          refine lv_bipush (v := nI 8) hx hb dL_isAccepted_213 (by decide) ?_
          refine lv_iadd hx hb dL_isAccepted_215 ?_
          rw [show nI (140 + 12 * (npN m)) + nI 8 = nI (140 + 12 * (npN m) + 8) from nI_add _ _]
          refine lv_iload hx hb dL_isAccepted_216 (lv_at hl 2 rfl) ?_
          refine lv_iload hx hb dL_isAccepted_218 (lv_at hl 6 rfl) ?_
          refine lv_icmp_ne (tgt := 230) hx hb dL_isAccepted_220 (by decide) (fun c220_15 => ?_) (fun c220_15 => ?_)
          · replace c220_15 : ¬ (d = y) := fun z => c220_15 ((nI_eq (a := d) (b := y) (by omega) (by omega)).mpr z)
            refine lv_iconst (v := (-1)) hx hb dL_isAccepted_230 (by decide) ?_
            refine j_st C0 hH hJ hL_L_6_L_8_L_10_L_12_L_14 (ix := 140 + 12 * (npN m) + 8) (by omega) (by decide) dL_isAccepted_231 (fun h H locs hH hJ => ?_)
            obtain ⟨f_16, hf_16⟩ : ∃ z, z = upF f_13 (140 + 12 * (npN m) + 8) (-1) := ⟨_, rfl⟩
            obtain ⟨L_17, hL_17⟩ : ∃ z, z = setL L_14 an 700 f_16 := ⟨_, rfl⟩
            rw [← hf_16, ← hL_17] at hJ
            have hL_L_6_L_8_L_10_L_12_L_14_L_17 : L_17 an = some (700, f_16) := by rw [hL_17]; exact setL_s _ _ _ _
            refine lv_aload_n hx hb dL_isAccepted_232 rfl (lv_at hl 8 rfl) ?_
            refine lv_iload hx hb dL_isAccepted_233 (lv_at hl 0 rfl) ?_
            refine lv_bipush (v := nI 9) hx hb dL_isAccepted_235 (by decide) ?_
            refine lv_iadd hx hb dL_isAccepted_237 ?_
            rw [show nI (140 + 12 * (npN m)) + nI 9 = nI (140 + 12 * (npN m) + 9) from nI_add _ _]
            refine lv_aload_n hx hb dL_isAccepted_238 rfl (lv_at hl 7 rfl) ?_
            refine j_q0m (rest := [.int (nI (140 + 12 * (npN m) + 9)), .ref (an)]) C0 hH hJ ho (cC_X10_minute l G _ _ b c hJ.rest hwc) (v := m 41 0) (v_min hS) mv_X10_minute ml_L_124 rfl ⟨Nat.le_of_ble_eq_true rfl, Nat.le_of_ble_eq_true rfl⟩ hl.1 rfl (Nat.le_of_ble_eq_true rfl) dL_isAccepted_239 ⟨by show _ ≤ 6 + (UC (cSr (cAcc c (nI y) (nI ad) (nI (1 + v0)) (nI s0)) (nI (npN m))) - UC c); omega, by show _ ≤ 36 + (US (cSr (cAcc c (nI y) (nI ad) (nI (1 + v0)) (nI s0)) (nI (npN m))) - US c); omega⟩ (fun H locs hH => ?_)
            refine j_st C0 hH hJ hL_L_6_L_8_L_10_L_12_L_14_L_17 (ix := 140 + 12 * (npN m) + 9) (by omega) (by decide) dL_isAccepted_242 (fun h H locs hH hJ => ?_)
            obtain ⟨f_18, hf_18⟩ : ∃ z, z = upF f_16 (140 + 12 * (npN m) + 9) (m 41 0) := ⟨_, rfl⟩
            obtain ⟨L_19, hL_19⟩ : ∃ z, z = setL L_17 an 700 f_18 := ⟨_, rfl⟩
            rw [← hf_18, ← hL_19] at hJ
            have hL_L_6_L_8_L_10_L_12_L_14_L_17_L_19 : L_19 an = some (700, f_18) := by rw [hL_19]; exact setL_s _ _ _ _
            refine lv_aload_n hx hb dL_isAccepted_243 rfl (lv_at hl 8 rfl) ?_
            refine lv_iload hx hb dL_isAccepted_244 (lv_at hl 0 rfl) ?_
            refine lv_bipush (v := nI 11) hx hb dL_isAccepted_246 (by decide) ?_
            refine lv_iadd hx hb dL_isAccepted_248 ?_
            rw [show nI (140 + 12 * (npN m)) + nI 11 = nI (140 + 12 * (npN m) + 11) from nI_add _ _]
            refine lv_iconst (v := (-1)) hx hb dL_isAccepted_249 (by decide) ?_
            refine j_st C0 hH hJ hL_L_6_L_8_L_10_L_12_L_14_L_17_L_19 (ix := 140 + 12 * (npN m) + 11) (by omega) (by decide) dL_isAccepted_250 (fun h H locs hH hJ => ?_)
            obtain ⟨f_20, hf_20⟩ : ∃ z, z = upF f_18 (140 + 12 * (npN m) + 11) (-1) := ⟨_, rfl⟩
            obtain ⟨L_21, hL_21⟩ : ∃ z, z = setL L_19 an 700 f_20 := ⟨_, rfl⟩
            rw [← hf_20, ← hL_21] at hJ
            have hL_L_6_L_8_L_10_L_12_L_14_L_17_L_19_L_21 : L_21 an = some (700, f_20) := by rw [hL_21]; exact setL_s _ _ _ _
            refine lv_aload_n hx hb dL_isAccepted_251 rfl (lv_at hl 8 rfl) ?_
            refine lv_iconst (v := nI 2) hx hb dL_isAccepted_252 (by decide) ?_
            refine lv_dup2_11 hx hb dL_isAccepted_253 rfl rfl ?_
            refine j_ld C0 hH hJ hL_L_6_L_8_L_10_L_12_L_14_L_17_L_19_L_21 (ix := 2) (by omega) (by decide) (v := nI (npN m)) (by rw [hf_20, hf_18, hf_16, hf_13, hf_11, hf_9, hf_7, hf_5]; unfold upF; rw [if_neg (by omega), if_neg (by omega), if_neg (by omega), if_neg (by omega), if_neg (by omega), if_neg (by omega), if_neg (by omega), if_neg (by omega)]; exact hT.p0) dL_isAccepted_254 ?_
            refine lv_iconst (v := nI 1) hx hb dL_isAccepted_255 (by decide) ?_
            refine lv_iadd hx hb dL_isAccepted_256 ?_
            rw [show nI (npN m) + nI 1 = nI (npN m + 1) from nI_add _ _]
            refine j_st C0 hH hJ hL_L_6_L_8_L_10_L_12_L_14_L_17_L_19_L_21 (ix := 2) (by omega) (by decide) dL_isAccepted_257 (fun h H locs hH hJ => ?_)
            obtain ⟨f_22, hf_22⟩ : ∃ z, z = upF f_20 2 (nI (npN m + 1)) := ⟨_, rfl⟩
            obtain ⟨L_23, hL_23⟩ : ∃ z, z = setL L_21 an 700 f_22 := ⟨_, rfl⟩
            rw [← hf_22, ← hL_23] at hJ
            have hL_L_6_L_8_L_10_L_12_L_14_L_17_L_19_L_21_L_23 : L_23 an = some (700, f_22) := by rw [hL_23]; exact setL_s _ _ _ _
            refine lv_aload_n hx hb dL_isAccepted_258 rfl (lv_at hl 7 rfl) ?_
            refine lv_iload hx hb dL_isAccepted_259 (lv_at hl 6 rfl) ?_
            refine lv_iload hx hb dL_isAccepted_261 (lv_at hl 5 rfl) ?_
            refine lv_iload hx hb dL_isAccepted_263 (lv_at hl 4 rfl) ?_
            refine lv_iload hx hb dL_isAccepted_265 (lv_at hl 3 rfl) ?_
            have hwc0 := hwc
            refine j_w1 (As := [.int (nI y), .int (nI ad), .int (nI (1 + v0)), .int (nI s0)]) (rest := []) (v := nI (npN m)) (c' := cAcc c (nI y) (nI ad) (nI (1 + v0)) (nI s0)) C0 hN hH hJ ho (lW_accept (nI y) (nI ad) (nI (1 + v0)) (nI s0) hJ.own hJ.obj (cC_X10_accept l hlt G _ _ b c hJ.rest hwc (nI y) (nI ad) (nI (1 + v0)) (nI s0)) (hin_n hxa (fun E h9 z => z.1))) (hv_in hxa (v_np hS) (fun E h9 z => z.1)) ms_L_accept ml_L_139 rfl ⟨Nat.le_of_ble_eq_true rfl, Nat.le_of_ble_eq_true rfl⟩ hl.1 rfl (Nat.le_of_ble_eq_true rfl) dL_isAccepted_267 ⟨by show _ ≤ 6 + (UC (cSr (cAcc c (nI y) (nI ad) (nI (1 + v0)) (nI s0)) (nI (npN m))) - UC c); omega, by show _ ≤ 36 + (US (cSr (cAcc c (nI y) (nI ad) (nI (1 + v0)) (nI s0)) (nI (npN m))) - US c); omega⟩ (fun h b H locs hH hJ ho hwc => ?_)
            refine lv_iload hx hb dL_isAccepted_270 (lv_at hl 1 rfl) ?_
            refine lv_icmp_ne (tgt := 336) hx hb dL_isAccepted_272 (by decide) (fun c272_24 => ?_) (fun c272_24 => ?_)
            · exact absurd rfl c272_24
            · replace c272_24 : npN m = npN m := (nI_eq (a := npN m) (b := npN m) (by omega) (by omega)).mp c272_24
              refine lv_aload_n hx hb dL_isAccepted_275 rfl (lv_at hl 7 rfl) ?_
              refine lv_iload hx hb dL_isAccepted_276 (lv_at hl 1 rfl) ?_
              refine j_q0 (rest := []) C0 hH hJ ho (cN_X10_destination l hlt G _ _ b (cAcc c (nI y) (nI ad) (nI (1 + v0)) (nI s0)) hJ.rest hwc (nI (npN m)) (v_pX hS1 hw1 hwc hp1)) (v_pX hS1 hw1 hwc hp1) (v := nI d) ((v_pk hS1 hw1 hp1 (k := 14) rfl).trans c14) mv_X10_destination ml_L_128 rfl ⟨Nat.le_of_ble_eq_true rfl, Nat.le_of_ble_eq_true rfl⟩ hl.1 rfl (Nat.le_of_ble_eq_true rfl) dL_isAccepted_278 ⟨by show _ ≤ 6 + (UC (cSr (cAcc c (nI y) (nI ad) (nI (1 + v0)) (nI s0)) (nI (npN m))) - UC c); omega, by show _ ≤ 36 + (US (cSr (cAcc c (nI y) (nI ad) (nI (1 + v0)) (nI s0)) (nI (npN m))) - US c); omega⟩ (fun H locs hH => ?_)
              refine lv_iload hx hb dL_isAccepted_281 (lv_at hl 2 rfl) ?_
              refine lv_icmp_ne (tgt := 336) hx hb dL_isAccepted_283 (by decide) (fun c283_25 => ?_) (fun c283_25 => ?_)
              · exact absurd ((nI_eq (a := d) (b := d) (by omega) (by omega)).mpr c113_2) c283_25
              · replace c283_25 : d = d := (nI_eq (a := d) (b := d) (by omega) (by omega)).mp c283_25
                refine lv_aload_n hx hb dL_isAccepted_286 rfl (lv_at hl 7 rfl) ?_
                refine lv_iload hx hb dL_isAccepted_287 (lv_at hl 1 rfl) ?_
                refine j_q0 (rest := []) C0 hH hJ ho (cN_X10_promise l hlt G _ _ b (cAcc c (nI y) (nI ad) (nI (1 + v0)) (nI s0)) hJ.rest hwc (nI (npN m)) (v_pX hS1 hw1 hwc hp1)) (v_pX hS1 hw1 hwc hp1) (v := bAr (plR m1 (npN m))) ((v_pk hS1 hw1 hp1 (k := 20) rfl).trans c20) mv_X10_promise ml_L_142 rfl ⟨Nat.le_of_ble_eq_true rfl, Nat.le_of_ble_eq_true rfl⟩ hl.1 rfl (Nat.le_of_ble_eq_true rfl) dL_isAccepted_289 ⟨by show _ ≤ 6 + (UC (cSr (cAcc c (nI y) (nI ad) (nI (1 + v0)) (nI s0)) (nI (npN m))) - UC c); omega, by show _ ≤ 36 + (US (cSr (cAcc c (nI y) (nI ad) (nI (1 + v0)) (nI s0)) (nI (npN m))) - US c); omega⟩ (fun H locs hH => ?_)
                refine lv_aload_n hx hb dL_isAccepted_292 rfl (lv_at hl 7 rfl) ?_
                refine lv_iload hx hb dL_isAccepted_293 (lv_at hl 1 rfl) ?_
                have hwcA := hwc
                have hgA := (gm_sr hwcA (nI (npN m))).1
                refine j_w1 (As := [.int (nI (npN m))]) (rest := [.int (bAr (plR m1 (npN m)))]) (v := bAr (plR m1 (npN m))) (c' := cSr (cAcc c (nI y) (nI ad) (nI (1 + v0)) (nI s0)) (nI (npN m))) C0 hN hH hJ ho (lW_arrival (nI (npN m)) hJ.own hJ.obj (cN_X10_arrival l hlt G _ _ b (cAcc c (nI y) (nI ad) (nI (1 + v0)) (nI s0)) hJ.rest hwc (nI (npN m)) (v_sc hS1 hw1 hwc hp1 c28)) (hin_n (v_sc hS1 hw1 hwc hp1 c28) (fun E h9 z => z.1))) (hv_in0 (v_sc hS1 hw1 hwc hp1 c28) (v_arv hS1 hw1 hwc hp1 c28).1 (fun E h9 z => z.1)) ms_L_arrival ml_L_145 rfl ⟨Nat.le_of_ble_eq_true rfl, Nat.le_of_ble_eq_true rfl⟩ hl.1 rfl (Nat.le_of_ble_eq_true rfl) dL_isAccepted_295 ⟨by show _ ≤ 6 + (UC (cSr (cAcc c (nI y) (nI ad) (nI (1 + v0)) (nI s0)) (nI (npN m))) - UC c); omega, by show _ ≤ 36 + (US (cSr (cAcc c (nI y) (nI ad) (nI (1 + v0)) (nI s0)) (nI (npN m))) - US c); omega⟩ (fun h b H locs hH hJ ho hwc => ?_)
                have hSA := (v_arv hS1 hw1 hwcA hp1 c28).2
                refine lv_icmp_ne (tgt := 336) hx hb dL_isAccepted_298 (by decide) (fun c298_26 => ?_) (fun c298_26 => ?_)
                · exact absurd rfl c298_26
                · refine lv_aload_n hx hb dL_isAccepted_301 rfl (lv_at hl 7 rfl) ?_
                  refine lv_iload hx hb dL_isAccepted_302 (lv_at hl 1 rfl) ?_
                  refine j_w0 (As := [.int (nI (npN m))]) (rest := []) (v := nI 115) C0 hN hH ho (lW_state (nI (npN m)) hJ.own hJ.obj (cN_X10_state l hlt G _ _ b (cSr (cAcc c (nI y) (nI ad) (nI (1 + v0)) (nI s0)) (nI (npN m))) hJ.rest hwc (nI (npN m)) (v_nar28 hSA hw1 hp1) (v_pX hSA hw1 hwc hp1)) (fun E h9 z => absurd ((v_pX hSA hw1 hwc hp1).symm.trans z.1) (fun y => nomatch y))) (fun r h9 z => z.elim (fun y => ⟨y.2.1.trans ((v_pk hSA hw1 hp1 (k := 28) rfl).trans c28), y.2.2⟩) (fun ⟨E, y, _⟩ => absurd ((v_pX hSA hw1 hwc hp1).symm.trans y.1) (fun q => nomatch q))) ms_L_state ml_L_147 rfl ⟨Nat.le_of_ble_eq_true rfl, Nat.le_of_ble_eq_true rfl⟩ hl.1 rfl (Nat.le_of_ble_eq_true rfl) dL_isAccepted_304 ⟨by show _ ≤ 6 + (UC (cSr (cAcc c (nI y) (nI ad) (nI (1 + v0)) (nI s0)) (nI (npN m))) - UC c); omega, by show _ ≤ 36 + (US (cSr (cAcc c (nI y) (nI ad) (nI (1 + v0)) (nI s0)) (nI (npN m))) - US c); omega⟩ (fun H locs hH => ?_)
                  refine lv_bipush (v := nI 115) hx hb dL_isAccepted_307 (by decide) ?_
                  refine lv_icmp_ne (tgt := 336) hx hb dL_isAccepted_309 (by decide) (fun c309_27 => ?_) (fun c309_27 => ?_)
                  · exact absurd (by decide) c309_27
                  · refine lv_aload_n hx hb dL_isAccepted_312 rfl (lv_at hl 7 rfl) ?_
                    refine lv_iload hx hb dL_isAccepted_313 (lv_at hl 1 rfl) ?_
                    refine j_w0 (As := [.int (nI (npN m))]) (rest := []) (v := nI y) C0 hN hH ho (lW_at (nI (npN m)) hJ.own hJ.obj (cN_X10_at l hlt G _ _ b (cSr (cAcc c (nI y) (nI ad) (nI (1 + v0)) (nI s0)) (nI (npN m))) hJ.rest hwc (nI (npN m)) (v_at hSA hw1 hwc hp1 (by rw [c28]; decide))) (fun E h9 z => absurd ((v_at hSA hw1 hwc hp1 (by rw [c28]; decide)).symm.trans z.1) (fun y => nomatch y))) (fun r h9 z => z.elim (fun y => ⟨y.2.1.trans ((v_pk hSA hw1 hp1 (k := 15) rfl).trans c15), y.2.2⟩) (fun ⟨E, y, _⟩ => absurd ((v_at hSA hw1 hwc hp1 (by rw [c28]; decide)).symm.trans y.1) (fun q => nomatch q))) ms_L_at ml_L_149 rfl ⟨Nat.le_of_ble_eq_true rfl, Nat.le_of_ble_eq_true rfl⟩ hl.1 rfl (Nat.le_of_ble_eq_true rfl) dL_isAccepted_315 ⟨by show _ ≤ 6 + (UC (cSr (cAcc c (nI y) (nI ad) (nI (1 + v0)) (nI s0)) (nI (npN m))) - UC c); omega, by show _ ≤ 36 + (US (cSr (cAcc c (nI y) (nI ad) (nI (1 + v0)) (nI s0)) (nI (npN m))) - US c); omega⟩ (fun H locs hH => ?_)
                    refine lv_iload hx hb dL_isAccepted_318 (lv_at hl 6 rfl) ?_
                    refine lv_icmp_ne (tgt := 336) hx hb dL_isAccepted_320 (by decide) (fun c320_28 => ?_) (fun c320_28 => ?_)
                    · exact absurd rfl c320_28
                    · replace c320_28 : y = y := (nI_eq (a := y) (b := y) (by omega) (by omega)).mp c320_28
                      refine lv_aload_n hx hb dL_isAccepted_323 rfl (lv_at hl 7 rfl) ?_
                      refine lv_iload hx hb dL_isAccepted_324 (lv_at hl 1 rfl) ?_
                      refine j_q0 (rest := []) C0 hH hJ ho (cN_X10_isReturn l hlt G _ _ b (cSr (cAcc c (nI y) (nI ad) (nI (1 + v0)) (nI s0)) (nI (npN m))) hJ.rest hwc (nI (npN m)) (v_nar29 hSA hw1 hp1) (v_pX hSA hw1 hwc hp1)) (v_pX hSA hw1 hwc hp1) (v := nI 0) ((v_pk hSA hw1 hp1 (k := 29) rfl).trans c29) mv_X10_isReturn ml_L_151 rfl ⟨Nat.le_of_ble_eq_true rfl, Nat.le_of_ble_eq_true rfl⟩ hl.1 rfl (Nat.le_of_ble_eq_true rfl) dL_isAccepted_326 ⟨by show _ ≤ 6 + (UC (cSr (cAcc c (nI y) (nI ad) (nI (1 + v0)) (nI s0)) (nI (npN m))) - UC c); omega, by show _ ≤ 36 + (US (cSr (cAcc c (nI y) (nI ad) (nI (1 + v0)) (nI s0)) (nI (npN m))) - US c); omega⟩ (fun H locs hH => ?_)
                      refine lv_if_ne (tgt := 336) hx hb dL_isAccepted_329 (by decide) (fun c329_29 => ?_) (fun c329_29 => ?_)
                      · exact absurd (by decide) c329_29
                      · refine lv_iconst (v := nI 1) hx hb dL_isAccepted_332 (by decide) ?_
                        refine lv_goto (tgt := 337) hx hb dL_isAccepted_333 (by decide) ?_
                        rw [hL_23, hL_21, hL_19, hL_17, hL_14, hL_12, hL_10, hL_8, hL_6, setL_2, setL_2, setL_2, setL_2, setL_2, setL_2, setL_2, setL_2] at hJ
                        have hNT := hT.acc (f' := f_22) hw hnp hA1 (by rw [hf_22, hf_20, hf_18, hf_16, hf_13, hf_11, hf_9, hf_7, hf_5]; unfold upF; exact if_pos rfl) (by rw [hf_22, hf_20, hf_18, hf_16, hf_13, hf_11, hf_9, hf_7, hf_5]; unfold upF; rw [if_neg (by omega), if_neg (by omega), if_neg (by omega), if_neg (by omega), if_neg (by omega), if_neg (by omega), if_neg (by omega), if_neg (by omega)]; exact if_pos rfl) (by rw [hf_22, hf_20, hf_18, hf_16, hf_13, hf_11, hf_9, hf_7, hf_5]; unfold upF; rw [if_neg (by omega), if_neg (by omega), if_neg (by omega), if_neg (by omega), if_neg (by omega), if_neg (by omega), if_neg (by omega)]; exact if_pos rfl) (by rw [hf_22, hf_20, hf_18, hf_16, hf_13, hf_11, hf_9, hf_7, hf_5]; unfold upF; rw [if_neg (by omega), if_neg (by omega), if_neg (by omega), if_neg (by omega), if_neg (by omega), if_neg (by omega)]; exact if_pos rfl) (by rw [hf_22, hf_20, hf_18, hf_16, hf_13, hf_11, hf_9, hf_7, hf_5]; unfold upF; rw [if_neg (by omega), if_neg (by omega), if_neg (by omega), if_neg (by omega), if_neg (by omega)]; exact if_pos rfl) (by rw [hf_22, hf_20, hf_18, hf_16, hf_13, hf_11, hf_9, hf_7, hf_5]; unfold upF; rw [if_neg (by omega), if_neg (by omega), if_neg (by omega), if_neg (by omega)]; exact if_pos rfl) (by rw [hf_22, hf_20, hf_18, hf_16, hf_13, hf_11, hf_9, hf_7, hf_5]; unfold upF; rw [if_neg (by omega), if_neg (by omega), if_neg (by omega), if_pos rfl]; exact (if_neg (fun z => c220_15 ((nI_eq (by omega) (by omega)).mp z).symm)).symm) (by rw [hf_22, hf_20, hf_18, hf_16, hf_13, hf_11, hf_9, hf_7, hf_5]; unfold upF; rw [if_neg (by omega), if_neg (by omega)]; exact if_pos rfl) (by rw [hf_22, hf_20, hf_18, hf_16, hf_13, hf_11, hf_9, hf_7, hf_5]; unfold upF; rw [if_neg (by omega)]; exact if_pos rfl) (fun i z1 z2 => by have y0 := z2 0 (by omega) (by omega); have y1 := z2 1 (by omega) (by omega); have y2 := z2 2 (by omega) (by omega); have y3 := z2 3 (by omega) (by omega); have y6 := z2 6 (by omega) (by omega); have y8 := z2 8 (by omega) (by omega); have y9 := z2 9 (by omega) (by omega); have y11 := z2 11 (by omega) (by omega); rw [hf_22, hf_20, hf_18, hf_16, hf_13, hf_11, hf_9, hf_7, hf_5]; unfold upF; rw [if_neg (by omega), if_neg (by omega), if_neg (by omega), if_neg (by omega), if_neg (by omega), if_neg (by omega), if_neg (by omega), if_neg (by omega), if_neg (by omega)])
                        have hgz : UC c ≤ UC (cSr (cAcc c (nI y) (nI ad) (nI (1 + v0)) (nI s0)) (nI (npN m))) ∧ US c ≤ US (cSr (cAcc c (nI y) (nI ad) (nI (1 + v0)) (nI s0)) (nI (npN m))) := ⟨Nat.le_trans hg9.1 hgA.1, Nat.le_trans hg9.2 hgA.2⟩
                        exact e_Z C0 hr (by decide) hH ⟨rfl, b, f_22, m1, n + 1, hJ, ho, hwc, Nat.le_refl _, ⟨hSA, hw1, hSt1.2.2⟩, hNT.1, hNT.2, hgz⟩ (by omega) (by omega) dL_isAccepted_337
          · replace c220_15 : d = y := (nI_eq (a := d) (b := y) (by omega) (by omega)).mp c220_15
            refine lv_aload_n hx hb dL_isAccepted_223 rfl (lv_at hl 7 rfl) ?_
            refine j_q0m (rest := [.int (nI (140 + 12 * (npN m) + 8)), .ref (an)]) C0 hH hJ ho (cC_X10_minute l G _ _ b c hJ.rest hwc) (v := m 41 0) (v_min hS) mv_X10_minute ml_L_124 rfl ⟨Nat.le_of_ble_eq_true rfl, Nat.le_of_ble_eq_true rfl⟩ hl.1 rfl (Nat.le_of_ble_eq_true rfl) dL_isAccepted_224 ⟨by show _ ≤ 6 + (UC (cSr (cAcc c (nI y) (nI ad) (nI (1 + v0)) (nI s0)) (nI (npN m))) - UC c); omega, by show _ ≤ 36 + (US (cSr (cAcc c (nI y) (nI ad) (nI (1 + v0)) (nI s0)) (nI (npN m))) - US c); omega⟩ (fun H locs hH => ?_)
            refine lv_goto (tgt := 231) hx hb dL_isAccepted_227 (by decide) ?_
            refine j_st C0 hH hJ hL_L_6_L_8_L_10_L_12_L_14 (ix := 140 + 12 * (npN m) + 8) (by omega) (by decide) dL_isAccepted_231 (fun h H locs hH hJ => ?_)
            obtain ⟨f_30, hf_30⟩ : ∃ z, z = upF f_13 (140 + 12 * (npN m) + 8) (m 41 0) := ⟨_, rfl⟩
            obtain ⟨L_31, hL_31⟩ : ∃ z, z = setL L_14 an 700 f_30 := ⟨_, rfl⟩
            rw [← hf_30, ← hL_31] at hJ
            have hL_L_6_L_8_L_10_L_12_L_14_L_31 : L_31 an = some (700, f_30) := by rw [hL_31]; exact setL_s _ _ _ _
            refine lv_aload_n hx hb dL_isAccepted_232 rfl (lv_at hl 8 rfl) ?_
            refine lv_iload hx hb dL_isAccepted_233 (lv_at hl 0 rfl) ?_
            refine lv_bipush (v := nI 9) hx hb dL_isAccepted_235 (by decide) ?_
            refine lv_iadd hx hb dL_isAccepted_237 ?_
            rw [show nI (140 + 12 * (npN m)) + nI 9 = nI (140 + 12 * (npN m) + 9) from nI_add _ _]
            refine lv_aload_n hx hb dL_isAccepted_238 rfl (lv_at hl 7 rfl) ?_
            refine j_q0m (rest := [.int (nI (140 + 12 * (npN m) + 9)), .ref (an)]) C0 hH hJ ho (cC_X10_minute l G _ _ b c hJ.rest hwc) (v := m 41 0) (v_min hS) mv_X10_minute ml_L_124 rfl ⟨Nat.le_of_ble_eq_true rfl, Nat.le_of_ble_eq_true rfl⟩ hl.1 rfl (Nat.le_of_ble_eq_true rfl) dL_isAccepted_239 ⟨by show _ ≤ 6 + (UC (cSr (cAcc c (nI y) (nI ad) (nI (1 + v0)) (nI s0)) (nI (npN m))) - UC c); omega, by show _ ≤ 36 + (US (cSr (cAcc c (nI y) (nI ad) (nI (1 + v0)) (nI s0)) (nI (npN m))) - US c); omega⟩ (fun H locs hH => ?_)
            refine j_st C0 hH hJ hL_L_6_L_8_L_10_L_12_L_14_L_31 (ix := 140 + 12 * (npN m) + 9) (by omega) (by decide) dL_isAccepted_242 (fun h H locs hH hJ => ?_)
            obtain ⟨f_32, hf_32⟩ : ∃ z, z = upF f_30 (140 + 12 * (npN m) + 9) (m 41 0) := ⟨_, rfl⟩
            obtain ⟨L_33, hL_33⟩ : ∃ z, z = setL L_31 an 700 f_32 := ⟨_, rfl⟩
            rw [← hf_32, ← hL_33] at hJ
            have hL_L_6_L_8_L_10_L_12_L_14_L_31_L_33 : L_33 an = some (700, f_32) := by rw [hL_33]; exact setL_s _ _ _ _
            refine lv_aload_n hx hb dL_isAccepted_243 rfl (lv_at hl 8 rfl) ?_
            refine lv_iload hx hb dL_isAccepted_244 (lv_at hl 0 rfl) ?_
            refine lv_bipush (v := nI 11) hx hb dL_isAccepted_246 (by decide) ?_
            refine lv_iadd hx hb dL_isAccepted_248 ?_
            rw [show nI (140 + 12 * (npN m)) + nI 11 = nI (140 + 12 * (npN m) + 11) from nI_add _ _]
            refine lv_iconst (v := (-1)) hx hb dL_isAccepted_249 (by decide) ?_
            refine j_st C0 hH hJ hL_L_6_L_8_L_10_L_12_L_14_L_31_L_33 (ix := 140 + 12 * (npN m) + 11) (by omega) (by decide) dL_isAccepted_250 (fun h H locs hH hJ => ?_)
            obtain ⟨f_34, hf_34⟩ : ∃ z, z = upF f_32 (140 + 12 * (npN m) + 11) (-1) := ⟨_, rfl⟩
            obtain ⟨L_35, hL_35⟩ : ∃ z, z = setL L_33 an 700 f_34 := ⟨_, rfl⟩
            rw [← hf_34, ← hL_35] at hJ
            have hL_L_6_L_8_L_10_L_12_L_14_L_31_L_33_L_35 : L_35 an = some (700, f_34) := by rw [hL_35]; exact setL_s _ _ _ _
            refine lv_aload_n hx hb dL_isAccepted_251 rfl (lv_at hl 8 rfl) ?_
            refine lv_iconst (v := nI 2) hx hb dL_isAccepted_252 (by decide) ?_
            refine lv_dup2_11 hx hb dL_isAccepted_253 rfl rfl ?_
            refine j_ld C0 hH hJ hL_L_6_L_8_L_10_L_12_L_14_L_31_L_33_L_35 (ix := 2) (by omega) (by decide) (v := nI (npN m)) (by rw [hf_34, hf_32, hf_30, hf_13, hf_11, hf_9, hf_7, hf_5]; unfold upF; rw [if_neg (by omega), if_neg (by omega), if_neg (by omega), if_neg (by omega), if_neg (by omega), if_neg (by omega), if_neg (by omega), if_neg (by omega)]; exact hT.p0) dL_isAccepted_254 ?_
            refine lv_iconst (v := nI 1) hx hb dL_isAccepted_255 (by decide) ?_
            refine lv_iadd hx hb dL_isAccepted_256 ?_
            rw [show nI (npN m) + nI 1 = nI (npN m + 1) from nI_add _ _]
            refine j_st C0 hH hJ hL_L_6_L_8_L_10_L_12_L_14_L_31_L_33_L_35 (ix := 2) (by omega) (by decide) dL_isAccepted_257 (fun h H locs hH hJ => ?_)
            obtain ⟨f_36, hf_36⟩ : ∃ z, z = upF f_34 2 (nI (npN m + 1)) := ⟨_, rfl⟩
            obtain ⟨L_37, hL_37⟩ : ∃ z, z = setL L_35 an 700 f_36 := ⟨_, rfl⟩
            rw [← hf_36, ← hL_37] at hJ
            have hL_L_6_L_8_L_10_L_12_L_14_L_31_L_33_L_35_L_37 : L_37 an = some (700, f_36) := by rw [hL_37]; exact setL_s _ _ _ _
            refine lv_aload_n hx hb dL_isAccepted_258 rfl (lv_at hl 7 rfl) ?_
            refine lv_iload hx hb dL_isAccepted_259 (lv_at hl 6 rfl) ?_
            refine lv_iload hx hb dL_isAccepted_261 (lv_at hl 5 rfl) ?_
            refine lv_iload hx hb dL_isAccepted_263 (lv_at hl 4 rfl) ?_
            refine lv_iload hx hb dL_isAccepted_265 (lv_at hl 3 rfl) ?_
            have hwc0 := hwc
            refine j_w1 (As := [.int (nI y), .int (nI ad), .int (nI (1 + v0)), .int (nI s0)]) (rest := []) (v := nI (npN m)) (c' := cAcc c (nI y) (nI ad) (nI (1 + v0)) (nI s0)) C0 hN hH hJ ho (lW_accept (nI y) (nI ad) (nI (1 + v0)) (nI s0) hJ.own hJ.obj (cC_X10_accept l hlt G _ _ b c hJ.rest hwc (nI y) (nI ad) (nI (1 + v0)) (nI s0)) (hin_n hxa (fun E h9 z => z.1))) (hv_in hxa (v_np hS) (fun E h9 z => z.1)) ms_L_accept ml_L_139 rfl ⟨Nat.le_of_ble_eq_true rfl, Nat.le_of_ble_eq_true rfl⟩ hl.1 rfl (Nat.le_of_ble_eq_true rfl) dL_isAccepted_267 ⟨by show _ ≤ 6 + (UC (cSr (cAcc c (nI y) (nI ad) (nI (1 + v0)) (nI s0)) (nI (npN m))) - UC c); omega, by show _ ≤ 36 + (US (cSr (cAcc c (nI y) (nI ad) (nI (1 + v0)) (nI s0)) (nI (npN m))) - US c); omega⟩ (fun h b H locs hH hJ ho hwc => ?_)
            refine lv_iload hx hb dL_isAccepted_270 (lv_at hl 1 rfl) ?_
            refine lv_icmp_ne (tgt := 336) hx hb dL_isAccepted_272 (by decide) (fun c272_38 => ?_) (fun c272_38 => ?_)
            · exact absurd rfl c272_38
            · replace c272_38 : npN m = npN m := (nI_eq (a := npN m) (b := npN m) (by omega) (by omega)).mp c272_38
              refine lv_aload_n hx hb dL_isAccepted_275 rfl (lv_at hl 7 rfl) ?_
              refine lv_iload hx hb dL_isAccepted_276 (lv_at hl 1 rfl) ?_
              refine j_q0 (rest := []) C0 hH hJ ho (cN_X10_destination l hlt G _ _ b (cAcc c (nI y) (nI ad) (nI (1 + v0)) (nI s0)) hJ.rest hwc (nI (npN m)) (v_pX hS1 hw1 hwc hp1)) (v_pX hS1 hw1 hwc hp1) (v := nI d) ((v_pk hS1 hw1 hp1 (k := 14) rfl).trans c14) mv_X10_destination ml_L_128 rfl ⟨Nat.le_of_ble_eq_true rfl, Nat.le_of_ble_eq_true rfl⟩ hl.1 rfl (Nat.le_of_ble_eq_true rfl) dL_isAccepted_278 ⟨by show _ ≤ 6 + (UC (cSr (cAcc c (nI y) (nI ad) (nI (1 + v0)) (nI s0)) (nI (npN m))) - UC c); omega, by show _ ≤ 36 + (US (cSr (cAcc c (nI y) (nI ad) (nI (1 + v0)) (nI s0)) (nI (npN m))) - US c); omega⟩ (fun H locs hH => ?_)
              refine lv_iload hx hb dL_isAccepted_281 (lv_at hl 2 rfl) ?_
              refine lv_icmp_ne (tgt := 336) hx hb dL_isAccepted_283 (by decide) (fun c283_39 => ?_) (fun c283_39 => ?_)
              · exact absurd ((nI_eq (a := d) (b := d) (by omega) (by omega)).mpr c113_2) c283_39
              · replace c283_39 : d = d := (nI_eq (a := d) (b := d) (by omega) (by omega)).mp c283_39
                refine lv_aload_n hx hb dL_isAccepted_286 rfl (lv_at hl 7 rfl) ?_
                refine lv_iload hx hb dL_isAccepted_287 (lv_at hl 1 rfl) ?_
                refine j_q0 (rest := []) C0 hH hJ ho (cN_X10_promise l hlt G _ _ b (cAcc c (nI y) (nI ad) (nI (1 + v0)) (nI s0)) hJ.rest hwc (nI (npN m)) (v_pX hS1 hw1 hwc hp1)) (v_pX hS1 hw1 hwc hp1) (v := bAr (plR m1 (npN m))) ((v_pk hS1 hw1 hp1 (k := 20) rfl).trans c20) mv_X10_promise ml_L_142 rfl ⟨Nat.le_of_ble_eq_true rfl, Nat.le_of_ble_eq_true rfl⟩ hl.1 rfl (Nat.le_of_ble_eq_true rfl) dL_isAccepted_289 ⟨by show _ ≤ 6 + (UC (cSr (cAcc c (nI y) (nI ad) (nI (1 + v0)) (nI s0)) (nI (npN m))) - UC c); omega, by show _ ≤ 36 + (US (cSr (cAcc c (nI y) (nI ad) (nI (1 + v0)) (nI s0)) (nI (npN m))) - US c); omega⟩ (fun H locs hH => ?_)
                refine lv_aload_n hx hb dL_isAccepted_292 rfl (lv_at hl 7 rfl) ?_
                refine lv_iload hx hb dL_isAccepted_293 (lv_at hl 1 rfl) ?_
                have hwcA := hwc
                have hgA := (gm_sr hwcA (nI (npN m))).1
                refine j_w1 (As := [.int (nI (npN m))]) (rest := [.int (bAr (plR m1 (npN m)))]) (v := bAr (plR m1 (npN m))) (c' := cSr (cAcc c (nI y) (nI ad) (nI (1 + v0)) (nI s0)) (nI (npN m))) C0 hN hH hJ ho (lW_arrival (nI (npN m)) hJ.own hJ.obj (cN_X10_arrival l hlt G _ _ b (cAcc c (nI y) (nI ad) (nI (1 + v0)) (nI s0)) hJ.rest hwc (nI (npN m)) (v_sc hS1 hw1 hwc hp1 c28)) (hin_n (v_sc hS1 hw1 hwc hp1 c28) (fun E h9 z => z.1))) (hv_in0 (v_sc hS1 hw1 hwc hp1 c28) (v_arv hS1 hw1 hwc hp1 c28).1 (fun E h9 z => z.1)) ms_L_arrival ml_L_145 rfl ⟨Nat.le_of_ble_eq_true rfl, Nat.le_of_ble_eq_true rfl⟩ hl.1 rfl (Nat.le_of_ble_eq_true rfl) dL_isAccepted_295 ⟨by show _ ≤ 6 + (UC (cSr (cAcc c (nI y) (nI ad) (nI (1 + v0)) (nI s0)) (nI (npN m))) - UC c); omega, by show _ ≤ 36 + (US (cSr (cAcc c (nI y) (nI ad) (nI (1 + v0)) (nI s0)) (nI (npN m))) - US c); omega⟩ (fun h b H locs hH hJ ho hwc => ?_)
                have hSA := (v_arv hS1 hw1 hwcA hp1 c28).2
                refine lv_icmp_ne (tgt := 336) hx hb dL_isAccepted_298 (by decide) (fun c298_40 => ?_) (fun c298_40 => ?_)
                · exact absurd rfl c298_40
                · refine lv_aload_n hx hb dL_isAccepted_301 rfl (lv_at hl 7 rfl) ?_
                  refine lv_iload hx hb dL_isAccepted_302 (lv_at hl 1 rfl) ?_
                  refine j_w0 (As := [.int (nI (npN m))]) (rest := []) (v := nI 115) C0 hN hH ho (lW_state (nI (npN m)) hJ.own hJ.obj (cN_X10_state l hlt G _ _ b (cSr (cAcc c (nI y) (nI ad) (nI (1 + v0)) (nI s0)) (nI (npN m))) hJ.rest hwc (nI (npN m)) (v_nar28 hSA hw1 hp1) (v_pX hSA hw1 hwc hp1)) (fun E h9 z => absurd ((v_pX hSA hw1 hwc hp1).symm.trans z.1) (fun y => nomatch y))) (fun r h9 z => z.elim (fun y => ⟨y.2.1.trans ((v_pk hSA hw1 hp1 (k := 28) rfl).trans c28), y.2.2⟩) (fun ⟨E, y, _⟩ => absurd ((v_pX hSA hw1 hwc hp1).symm.trans y.1) (fun q => nomatch q))) ms_L_state ml_L_147 rfl ⟨Nat.le_of_ble_eq_true rfl, Nat.le_of_ble_eq_true rfl⟩ hl.1 rfl (Nat.le_of_ble_eq_true rfl) dL_isAccepted_304 ⟨by show _ ≤ 6 + (UC (cSr (cAcc c (nI y) (nI ad) (nI (1 + v0)) (nI s0)) (nI (npN m))) - UC c); omega, by show _ ≤ 36 + (US (cSr (cAcc c (nI y) (nI ad) (nI (1 + v0)) (nI s0)) (nI (npN m))) - US c); omega⟩ (fun H locs hH => ?_)
                  refine lv_bipush (v := nI 115) hx hb dL_isAccepted_307 (by decide) ?_
                  refine lv_icmp_ne (tgt := 336) hx hb dL_isAccepted_309 (by decide) (fun c309_41 => ?_) (fun c309_41 => ?_)
                  · exact absurd (by decide) c309_41
                  · refine lv_aload_n hx hb dL_isAccepted_312 rfl (lv_at hl 7 rfl) ?_
                    refine lv_iload hx hb dL_isAccepted_313 (lv_at hl 1 rfl) ?_
                    refine j_w0 (As := [.int (nI (npN m))]) (rest := []) (v := nI y) C0 hN hH ho (lW_at (nI (npN m)) hJ.own hJ.obj (cN_X10_at l hlt G _ _ b (cSr (cAcc c (nI y) (nI ad) (nI (1 + v0)) (nI s0)) (nI (npN m))) hJ.rest hwc (nI (npN m)) (v_at hSA hw1 hwc hp1 (by rw [c28]; decide))) (fun E h9 z => absurd ((v_at hSA hw1 hwc hp1 (by rw [c28]; decide)).symm.trans z.1) (fun y => nomatch y))) (fun r h9 z => z.elim (fun y => ⟨y.2.1.trans ((v_pk hSA hw1 hp1 (k := 15) rfl).trans c15), y.2.2⟩) (fun ⟨E, y, _⟩ => absurd ((v_at hSA hw1 hwc hp1 (by rw [c28]; decide)).symm.trans y.1) (fun q => nomatch q))) ms_L_at ml_L_149 rfl ⟨Nat.le_of_ble_eq_true rfl, Nat.le_of_ble_eq_true rfl⟩ hl.1 rfl (Nat.le_of_ble_eq_true rfl) dL_isAccepted_315 ⟨by show _ ≤ 6 + (UC (cSr (cAcc c (nI y) (nI ad) (nI (1 + v0)) (nI s0)) (nI (npN m))) - UC c); omega, by show _ ≤ 36 + (US (cSr (cAcc c (nI y) (nI ad) (nI (1 + v0)) (nI s0)) (nI (npN m))) - US c); omega⟩ (fun H locs hH => ?_)
                    refine lv_iload hx hb dL_isAccepted_318 (lv_at hl 6 rfl) ?_
                    refine lv_icmp_ne (tgt := 336) hx hb dL_isAccepted_320 (by decide) (fun c320_42 => ?_) (fun c320_42 => ?_)
                    · exact absurd rfl c320_42
                    · replace c320_42 : y = y := (nI_eq (a := y) (b := y) (by omega) (by omega)).mp c320_42
                      refine lv_aload_n hx hb dL_isAccepted_323 rfl (lv_at hl 7 rfl) ?_
                      refine lv_iload hx hb dL_isAccepted_324 (lv_at hl 1 rfl) ?_
                      refine j_q0 (rest := []) C0 hH hJ ho (cN_X10_isReturn l hlt G _ _ b (cSr (cAcc c (nI y) (nI ad) (nI (1 + v0)) (nI s0)) (nI (npN m))) hJ.rest hwc (nI (npN m)) (v_nar29 hSA hw1 hp1) (v_pX hSA hw1 hwc hp1)) (v_pX hSA hw1 hwc hp1) (v := nI 0) ((v_pk hSA hw1 hp1 (k := 29) rfl).trans c29) mv_X10_isReturn ml_L_151 rfl ⟨Nat.le_of_ble_eq_true rfl, Nat.le_of_ble_eq_true rfl⟩ hl.1 rfl (Nat.le_of_ble_eq_true rfl) dL_isAccepted_326 ⟨by show _ ≤ 6 + (UC (cSr (cAcc c (nI y) (nI ad) (nI (1 + v0)) (nI s0)) (nI (npN m))) - UC c); omega, by show _ ≤ 36 + (US (cSr (cAcc c (nI y) (nI ad) (nI (1 + v0)) (nI s0)) (nI (npN m))) - US c); omega⟩ (fun H locs hH => ?_)
                      refine lv_if_ne (tgt := 336) hx hb dL_isAccepted_329 (by decide) (fun c329_43 => ?_) (fun c329_43 => ?_)
                      · exact absurd (by decide) c329_43
                      · refine lv_iconst (v := nI 1) hx hb dL_isAccepted_332 (by decide) ?_
                        refine lv_goto (tgt := 337) hx hb dL_isAccepted_333 (by decide) ?_
                        rw [hL_37, hL_35, hL_33, hL_31, hL_14, hL_12, hL_10, hL_8, hL_6, setL_2, setL_2, setL_2, setL_2, setL_2, setL_2, setL_2, setL_2] at hJ
                        have hNT := hT.acc (f' := f_36) hw hnp hA1 (by rw [hf_36, hf_34, hf_32, hf_30, hf_13, hf_11, hf_9, hf_7, hf_5]; unfold upF; exact if_pos rfl) (by rw [hf_36, hf_34, hf_32, hf_30, hf_13, hf_11, hf_9, hf_7, hf_5]; unfold upF; rw [if_neg (by omega), if_neg (by omega), if_neg (by omega), if_neg (by omega), if_neg (by omega), if_neg (by omega), if_neg (by omega), if_neg (by omega)]; exact if_pos rfl) (by rw [hf_36, hf_34, hf_32, hf_30, hf_13, hf_11, hf_9, hf_7, hf_5]; unfold upF; rw [if_neg (by omega), if_neg (by omega), if_neg (by omega), if_neg (by omega), if_neg (by omega), if_neg (by omega), if_neg (by omega)]; exact if_pos rfl) (by rw [hf_36, hf_34, hf_32, hf_30, hf_13, hf_11, hf_9, hf_7, hf_5]; unfold upF; rw [if_neg (by omega), if_neg (by omega), if_neg (by omega), if_neg (by omega), if_neg (by omega), if_neg (by omega)]; exact if_pos rfl) (by rw [hf_36, hf_34, hf_32, hf_30, hf_13, hf_11, hf_9, hf_7, hf_5]; unfold upF; rw [if_neg (by omega), if_neg (by omega), if_neg (by omega), if_neg (by omega), if_neg (by omega)]; exact if_pos rfl) (by rw [hf_36, hf_34, hf_32, hf_30, hf_13, hf_11, hf_9, hf_7, hf_5]; unfold upF; rw [if_neg (by omega), if_neg (by omega), if_neg (by omega), if_neg (by omega)]; exact if_pos rfl) (by rw [hf_36, hf_34, hf_32, hf_30, hf_13, hf_11, hf_9, hf_7, hf_5]; unfold upF; rw [if_neg (by omega), if_neg (by omega), if_neg (by omega), if_pos rfl]; exact (if_pos (by rw [c220_15])).symm) (by rw [hf_36, hf_34, hf_32, hf_30, hf_13, hf_11, hf_9, hf_7, hf_5]; unfold upF; rw [if_neg (by omega), if_neg (by omega)]; exact if_pos rfl) (by rw [hf_36, hf_34, hf_32, hf_30, hf_13, hf_11, hf_9, hf_7, hf_5]; unfold upF; rw [if_neg (by omega)]; exact if_pos rfl) (fun i z1 z2 => by have y0 := z2 0 (by omega) (by omega); have y1 := z2 1 (by omega) (by omega); have y2 := z2 2 (by omega) (by omega); have y3 := z2 3 (by omega) (by omega); have y6 := z2 6 (by omega) (by omega); have y8 := z2 8 (by omega) (by omega); have y9 := z2 9 (by omega) (by omega); have y11 := z2 11 (by omega) (by omega); rw [hf_36, hf_34, hf_32, hf_30, hf_13, hf_11, hf_9, hf_7, hf_5]; unfold upF; rw [if_neg (by omega), if_neg (by omega), if_neg (by omega), if_neg (by omega), if_neg (by omega), if_neg (by omega), if_neg (by omega), if_neg (by omega), if_neg (by omega)])
                        have hgz : UC c ≤ UC (cSr (cAcc c (nI y) (nI ad) (nI (1 + v0)) (nI s0)) (nI (npN m))) ∧ US c ≤ US (cSr (cAcc c (nI y) (nI ad) (nI (1 + v0)) (nI s0)) (nI (npN m))) := ⟨Nat.le_trans hg9.1 hgA.1, Nat.le_trans hg9.2 hgA.2⟩
                        exact e_Z C0 hr (by decide) hH ⟨rfl, b, f_36, m1, n + 1, hJ, ho, hwc, Nat.le_refl _, ⟨hSA, hw1, hSt1.2.2⟩, hNT.1, hNT.2, hgz⟩ (by omega) (by omega) dL_isAccepted_337
        · exact absurd ((nI_eq (by omega) (by omega)).mp c128_4) (by omega)
    · exact absurd ((nI_eq (a := d) (b := d) (by omega) (by omega)).mpr c102_1) c113_2
