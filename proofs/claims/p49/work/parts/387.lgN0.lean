set_option maxHeartbeats 1600000 in
set_option maxRecDepth 100000 in
theorem lL_isLaid_n (l : Launch) (hlt : l.stackTraces = false) (Sc : SCR) (G : GT) (A : Nat → Prop) (h : AH) (b : BA) (c m : MM) (n : Nat) (L : LNum) (M : LRef) (o : Nat) (hJ : JW G.2.2.1 h b c L M) (ho : b 14 0 = o) (hwc : WFc c) (hS : Sim n c m) (hw : WFa m) (hI : IV m) (hn : n < 512) (i0 : Nat) (hi0 : i0 < 2 ^ 19) (h2 : 2 ≤ nhN m) (hk : nlN m < 12) (fr t0 tt fi p0 t1 b0 b1 : Nat) (e1 : inN Sc i0 (nhN m) = fr) (e2 : inN Sc (i0 + 1) (nhN m - 1) = t0) (e3 : (fr + 1 + t0) % nhN m = tt) (e4 : inN Sc (i0 + 2) 25 = fi) (e5 : inN Sc (i0 + 3) 16 = p0) (e6 : inN Sc (i0 + 4) 20 = t1) (e7 : inN Sc (i0 + 6) 4 = b0) (e8 : inN Sc (i0 + 5) (b0 + 1) = b1) (an : Nat) (f : Nat → Int32) (hL : L an = some (700, f)) (hT : NT f m) : lcI l Sc G A yL_isLaid cL_isLaid 11 (Option.some FieldType.boolean) 9 247 (4 + (UC (cAddM c (nI fr) (nI tt) (nI fi) (nI (5 + p0)) (nI (1 + t1)) (nI (1 + b1))) - UC c)) (24 + (US (cAddM c (nI fr) (nI tt) (nI fi) (nI (5 + p0)) (nI (1 + t1)) (nI (1 + b1))) - US c)) [.ref (o), .ref (an), .ref (Sc.1), .int (nI i0)] h (fun r h' => r = nI 1 ∧ ∃ b' f' m', JW G.2.2.1 h' b' (cAddM c (nI fr) (nI tt) (nI fi) (nI (5 + p0)) (nI (1 + t1)) (nI (1 + b1))) (setL L an 700 f') M ∧ b' 14 0 = o ∧ WFc (cAddM c (nI fr) (nI tt) (nI fi) (nI (5 + p0)) (nI (1 + t1)) (nI (1 + b1))) ∧ Stt (n + 1) (cAddM c (nI fr) (nI tt) (nI fi) (nI (5 + p0)) (nI (1 + t1)) (nI (1 + b1))) m' ∧ NT f' m' ∧ Kp m m' ∧ UC c ≤ UC (cAddM c (nI fr) (nI tt) (nI fi) (nI (5 + p0)) (nI (1 + t1)) (nI (1 + b1))) ∧ US c ≤ US (cAddM c (nI fr) (nI tt) (nI fi) (nI (5 + p0)) (nI (1 + t1)) (nI (1 + b1))) ∧ nlN m' = nlN m + 1) := by
  refine lm_of rfl (Nat.le_of_ble_eq_true rfl) ?_
  intro pr e s m9 below meth c9 C0 hN hr hH ls hl
  obtain ⟨hx, hb, hml, hown, hts, hK, hA, -⟩ := id C0
  have hl : lv_has ls 11 [(0, .ref (o)), (1, .ref (an)), (2, .ref (Sc.1)), (3, .int (nI i0))] := hl
  have n40 := hw.np.2
  have n6 := hw.nh.2
  have nl12 := hw.nl.2
  have q1 := inN_lt Sc i0 (n := nhN m) (by omega)
  have q2 := inN_lt Sc (i0 + 1) (n := nhN m - 1) (by omega)
  have q4 := inN_lt Sc (i0 + 2) (n := 25) (by omega)
  have q5 := inN_lt Sc (i0 + 3) (n := 16) (by omega)
  have q6 := inN_lt Sc (i0 + 4) (n := 20) (by omega)
  have q7 := inN_lt Sc (i0 + 6) (n := 4) (by omega)
  have q8 := inN_lt Sc (i0 + 5) (n := b0 + 1) (by omega)
  rw [e1] at q1
  rw [e2] at q2
  rw [e4] at q4
  rw [e5] at q5
  rw [e6] at q6
  rw [e7] at q7
  rw [e8] at q8
  have htt : tt < nhN m := by rw [← e3]; exact Nat.mod_lt _ (by omega)
  have hne : fr ≠ tt := by rcases Nat.lt_or_ge (fr + 1 + t0) (nhN m) with w | w; (· rw [Nat.mod_eq_of_lt w] at e3; omega); (· rw [Nat.mod_eq_sub_mod w, Nat.mod_eq_of_lt (by omega)] at e3; omega)
  obtain ⟨hxa, m1, hSt1, hA1⟩ := d_add ⟨hS, hw, hI⟩ hwc hk q1 htt hne (f := fi) (per := 5 + p0) (tr := 1 + t1) (mb := 1 + b1) (by omega) (by omega) (by omega) (by omega)
  have hg9 := (gm_add hwc (nI fr) (nI tt) (nI fi) (nI (5 + p0)) (nI (1 + t1)) (nI (1 + b1))).1
  rw [if_pos hxa] at hg9
  refine lv_aload_n hx hb dL_isLaid_0 rfl (lv_at hl 2 rfl) ?_
  refine lv_iload_n hx hb dL_isLaid_1 rfl (lv_at hl 3 rfl) ?_
  refine lv_aload_n hx hb dL_isLaid_2 rfl (lv_at hl 1 rfl) ?_
  refine lv_iconst (v := nI 0) hx hb dL_isLaid_3 (by decide) ?_
  refine j_ld C0 hH hJ hL (ix := 0) (by omega) (by decide) (v := nI (nhN m)) hT.h0 dL_isLaid_4 ?_
  refine k_i hH (k_lS (rest := []) C0 hN hH (lL_in l Sc G A _ i0 (nhN m) (by omega) (by omega) (by omega)) mv_L_in ml_L_106 rfl ⟨Nat.le_of_ble_eq_true rfl, Nat.le_of_ble_eq_true rfl⟩ hl.1 rfl (Nat.le_of_ble_eq_true rfl) dL_isLaid_5 ⟨by show _ ≤ 4 + (UC (cAddM c (nI fr) (nI tt) (nI fi) (nI (5 + p0)) (nI (1 + t1)) (nI (1 + b1))) - UC c); omega, by show _ ≤ 24 + (US (cAddM c (nI fr) (nI tt) (nI fi) (nI (5 + p0)) (nI (1 + t1)) (nI (1 + b1))) - US c); omega⟩) (fun rr h1 H locs hp hH => ?_)
  obtain ⟨ea, eh⟩ := hp
  rw [eh] at hH
  rw [ea, e1]
  refine lv_istore (lv' := [(4, .int (nI fr)), (0, .ref (o)), (1, .ref (an)), (2, .ref (Sc.1)), (3, .int (nI i0))]) hx hb dL_isLaid_8 hl (by decide) rfl (fun ls hl => ?_)
  refine lv_iload hx hb dL_isLaid_10 (lv_at hl 0 rfl) ?_
  refine lv_iconst (v := nI 1) hx hb dL_isLaid_12 (by decide) ?_
  refine lv_iadd hx hb dL_isLaid_13 ?_
  rw [show nI fr + nI 1 = nI (fr + 1) from nI_add _ _]
  refine lv_aload_n hx hb dL_isLaid_14 rfl (lv_at hl 3 rfl) ?_
  refine lv_iload_n hx hb dL_isLaid_15 rfl (lv_at hl 4 rfl) ?_
  refine lv_iconst (v := nI 1) hx hb dL_isLaid_16 (by decide) ?_
  refine lv_iadd hx hb dL_isLaid_17 ?_
  rw [show nI i0 + nI 1 = nI (i0 + 1) from nI_add _ _]
  refine lv_aload_n hx hb dL_isLaid_18 rfl (lv_at hl 2 rfl) ?_
  refine lv_iconst (v := nI 0) hx hb dL_isLaid_19 (by decide) ?_
  refine j_ld C0 hH hJ hL (ix := 0) (by omega) (by decide) (v := nI (nhN m)) hT.h0 dL_isLaid_20 ?_
  refine lv_iconst (v := nI 1) hx hb dL_isLaid_21 (by decide) ?_
  refine lv_isub hx hb dL_isLaid_22 ?_
  rw [show nI (nhN m) - nI 1 = nI (nhN m - 1) from nI_sub (by omega)]
  refine k_i hH (k_lS (rest := [.int (nI (fr + 1))]) C0 hN hH (lL_in l Sc G A _ (i0 + 1) (nhN m - 1) (by omega) (by omega) (by omega)) mv_L_in ml_L_106 rfl ⟨Nat.le_of_ble_eq_true rfl, Nat.le_of_ble_eq_true rfl⟩ hl.1 rfl (Nat.le_of_ble_eq_true rfl) dL_isLaid_23 ⟨by show _ ≤ 4 + (UC (cAddM c (nI fr) (nI tt) (nI fi) (nI (5 + p0)) (nI (1 + t1)) (nI (1 + b1))) - UC c); omega, by show _ ≤ 24 + (US (cAddM c (nI fr) (nI tt) (nI fi) (nI (5 + p0)) (nI (1 + t1)) (nI (1 + b1))) - US c); omega⟩) (fun rr h1 H locs hp hH => ?_)
  obtain ⟨ea, eh⟩ := hp
  rw [eh] at hH
  rw [ea, e2]
  refine lv_iadd hx hb dL_isLaid_26 ?_
  rw [show nI (fr + 1) + nI t0 = nI (fr + 1 + t0) from nI_add _ _]
  refine lv_aload_n hx hb dL_isLaid_27 rfl (lv_at hl 2 rfl) ?_
  refine lv_iconst (v := nI 0) hx hb dL_isLaid_28 (by decide) ?_
  refine j_ld C0 hH hJ hL (ix := 0) (by omega) (by decide) (v := nI (nhN m)) hT.h0 dL_isLaid_29 ?_
  refine lv_irem hx hb dL_isLaid_30 (fun z => by have := (nI_eq (a := nhN m) (b := 0) (by omega) (by omega)).mp z; omega) ?_
  rw [nI_rem (show fr + 1 + t0 < 2 ^ 31 by omega) (show nhN m < 2 ^ 31 by omega), e3]
  refine lv_istore (lv' := [(5, .int (nI tt)), (4, .int (nI fr)), (0, .ref (o)), (1, .ref (an)), (2, .ref (Sc.1)), (3, .int (nI i0))]) hx hb dL_isLaid_31 hl (by decide) rfl (fun ls hl => ?_)
  refine lv_bipush (v := nI 30) hx hb dL_isLaid_33 (by decide) ?_
  refine lv_bipush (v := nI 8) hx hb dL_isLaid_35 (by decide) ?_
  refine lv_aload_n hx hb dL_isLaid_37 rfl (lv_at hl 3 rfl) ?_
  refine lv_iconst (v := nI 1) hx hb dL_isLaid_38 (by decide) ?_
  refine j_ld C0 hH hJ hL (ix := 1) (by omega) (by decide) (v := nI (nlN m)) hT.l0 dL_isLaid_39 ?_
  refine lv_imul hx hb dL_isLaid_40 ?_
  rw [show nI 8 * nI (nlN m) = nI (8 * (nlN m)) from nI_mul]
  refine lv_iadd hx hb dL_isLaid_41 ?_
  rw [show nI 30 + nI (8 * (nlN m)) = nI (30 + 8 * (nlN m)) from nI_add _ _]
  refine lv_istore (lv' := [(6, .int (nI (30 + 8 * (nlN m)))), (5, .int (nI tt)), (4, .int (nI fr)), (0, .ref (o)), (1, .ref (an)), (2, .ref (Sc.1)), (3, .int (nI i0))]) hx hb dL_isLaid_42 hl (by decide) rfl (fun ls hl => ?_)
  refine lv_aload_n hx hb dL_isLaid_44 rfl (lv_at hl 5 rfl) ?_
  refine lv_iload_n hx hb dL_isLaid_45 rfl (lv_at hl 6 rfl) ?_
  refine lv_iconst (v := nI 2) hx hb dL_isLaid_46 (by decide) ?_
  refine lv_iadd hx hb dL_isLaid_47 ?_
  rw [show nI i0 + nI 2 = nI (i0 + 2) from nI_add _ _]
  refine lv_bipush (v := nI 25) hx hb dL_isLaid_48 (by decide) ?_
  refine k_i hH (k_lS (rest := []) C0 hN hH (lL_in l Sc G A _ (i0 + 2) 25 (by omega) (by omega) (by omega)) mv_L_in ml_L_106 rfl ⟨Nat.le_of_ble_eq_true rfl, Nat.le_of_ble_eq_true rfl⟩ hl.1 rfl (Nat.le_of_ble_eq_true rfl) dL_isLaid_50 ⟨by show _ ≤ 4 + (UC (cAddM c (nI fr) (nI tt) (nI fi) (nI (5 + p0)) (nI (1 + t1)) (nI (1 + b1))) - UC c); omega, by show _ ≤ 24 + (US (cAddM c (nI fr) (nI tt) (nI fi) (nI (5 + p0)) (nI (1 + t1)) (nI (1 + b1))) - US c); omega⟩) (fun rr h1 H locs hp hH => ?_)
  obtain ⟨ea, eh⟩ := hp
  rw [eh] at hH
  rw [ea, e4]
  refine lv_istore (lv' := [(7, .int (nI fi)), (6, .int (nI (30 + 8 * (nlN m)))), (5, .int (nI tt)), (4, .int (nI fr)), (0, .ref (o)), (1, .ref (an)), (2, .ref (Sc.1)), (3, .int (nI i0))]) hx hb dL_isLaid_53 hl (by decide) rfl (fun ls hl => ?_)
  refine lv_iconst (v := nI 5) hx hb dL_isLaid_55 (by decide) ?_
  refine lv_aload_n hx hb dL_isLaid_56 rfl (lv_at hl 6 rfl) ?_
  refine lv_iload_n hx hb dL_isLaid_57 rfl (lv_at hl 7 rfl) ?_
  refine lv_iconst (v := nI 3) hx hb dL_isLaid_58 (by decide) ?_
  refine lv_iadd hx hb dL_isLaid_59 ?_
  rw [show nI i0 + nI 3 = nI (i0 + 3) from nI_add _ _]
  refine lv_bipush (v := nI 16) hx hb dL_isLaid_60 (by decide) ?_
  refine k_i hH (k_lS (rest := [.int (nI 5)]) C0 hN hH (lL_in l Sc G A _ (i0 + 3) 16 (by omega) (by omega) (by omega)) mv_L_in ml_L_106 rfl ⟨Nat.le_of_ble_eq_true rfl, Nat.le_of_ble_eq_true rfl⟩ hl.1 rfl (Nat.le_of_ble_eq_true rfl) dL_isLaid_62 ⟨by show _ ≤ 4 + (UC (cAddM c (nI fr) (nI tt) (nI fi) (nI (5 + p0)) (nI (1 + t1)) (nI (1 + b1))) - UC c); omega, by show _ ≤ 24 + (US (cAddM c (nI fr) (nI tt) (nI fi) (nI (5 + p0)) (nI (1 + t1)) (nI (1 + b1))) - US c); omega⟩) (fun rr h1 H locs hp hH => ?_)
  obtain ⟨ea, eh⟩ := hp
  rw [eh] at hH
  rw [ea, e5]
  refine lv_iadd hx hb dL_isLaid_65 ?_
  rw [show nI 5 + nI p0 = nI (5 + p0) from nI_add _ _]
  refine lv_istore (lv' := [(8, .int (nI (5 + p0))), (7, .int (nI fi)), (6, .int (nI (30 + 8 * (nlN m)))), (5, .int (nI tt)), (4, .int (nI fr)), (0, .ref (o)), (1, .ref (an)), (2, .ref (Sc.1)), (3, .int (nI i0))]) hx hb dL_isLaid_66 hl (by decide) rfl (fun ls hl => ?_)
  refine lv_iconst (v := nI 1) hx hb dL_isLaid_68 (by decide) ?_
  refine lv_aload_n hx hb dL_isLaid_69 rfl (lv_at hl 7 rfl) ?_
  refine lv_iload_n hx hb dL_isLaid_70 rfl (lv_at hl 8 rfl) ?_
  refine lv_iconst (v := nI 4) hx hb dL_isLaid_71 (by decide) ?_
  refine lv_iadd hx hb dL_isLaid_72 ?_
  rw [show nI i0 + nI 4 = nI (i0 + 4) from nI_add _ _]
  refine lv_bipush (v := nI 20) hx hb dL_isLaid_73 (by decide) ?_
  refine k_i hH (k_lS (rest := [.int (nI 1)]) C0 hN hH (lL_in l Sc G A _ (i0 + 4) 20 (by omega) (by omega) (by omega)) mv_L_in ml_L_106 rfl ⟨Nat.le_of_ble_eq_true rfl, Nat.le_of_ble_eq_true rfl⟩ hl.1 rfl (Nat.le_of_ble_eq_true rfl) dL_isLaid_75 ⟨by show _ ≤ 4 + (UC (cAddM c (nI fr) (nI tt) (nI fi) (nI (5 + p0)) (nI (1 + t1)) (nI (1 + b1))) - UC c); omega, by show _ ≤ 24 + (US (cAddM c (nI fr) (nI tt) (nI fi) (nI (5 + p0)) (nI (1 + t1)) (nI (1 + b1))) - US c); omega⟩) (fun rr h1 H locs hp hH => ?_)
  obtain ⟨ea, eh⟩ := hp
  rw [eh] at hH
  rw [ea, e6]
  refine lv_iadd hx hb dL_isLaid_78 ?_
  rw [show nI 1 + nI t1 = nI (1 + t1) from nI_add _ _]
  refine lv_istore (lv' := [(9, .int (nI (1 + t1))), (8, .int (nI (5 + p0))), (7, .int (nI fi)), (6, .int (nI (30 + 8 * (nlN m)))), (5, .int (nI tt)), (4, .int (nI fr)), (0, .ref (o)), (1, .ref (an)), (2, .ref (Sc.1)), (3, .int (nI i0))]) hx hb dL_isLaid_79 hl (by decide) rfl (fun ls hl => ?_)
  refine lv_iconst (v := nI 1) hx hb dL_isLaid_81 (by decide) ?_
  refine lv_aload_n hx hb dL_isLaid_82 rfl (lv_at hl 8 rfl) ?_
  refine lv_iload_n hx hb dL_isLaid_83 rfl (lv_at hl 9 rfl) ?_
  refine lv_iconst (v := nI 5) hx hb dL_isLaid_84 (by decide) ?_
  refine lv_iadd hx hb dL_isLaid_85 ?_
  rw [show nI i0 + nI 5 = nI (i0 + 5) from nI_add _ _]
  refine lv_aload_n hx hb dL_isLaid_86 rfl (lv_at hl 8 rfl) ?_
  refine lv_iload_n hx hb dL_isLaid_87 rfl (lv_at hl 9 rfl) ?_
  refine lv_bipush (v := nI 6) hx hb dL_isLaid_88 (by decide) ?_
  refine lv_iadd hx hb dL_isLaid_90 ?_
  rw [show nI i0 + nI 6 = nI (i0 + 6) from nI_add _ _]
  refine lv_iconst (v := nI 4) hx hb dL_isLaid_91 (by decide) ?_
  refine k_i hH (k_lS (rest := [.int (nI (i0 + 5)), .ref (Sc.1), .int (nI 1)]) C0 hN hH (lL_in l Sc G A _ (i0 + 6) 4 (by omega) (by omega) (by omega)) mv_L_in ml_L_106 rfl ⟨Nat.le_of_ble_eq_true rfl, Nat.le_of_ble_eq_true rfl⟩ hl.1 rfl (Nat.le_of_ble_eq_true rfl) dL_isLaid_92 ⟨by show _ ≤ 4 + (UC (cAddM c (nI fr) (nI tt) (nI fi) (nI (5 + p0)) (nI (1 + t1)) (nI (1 + b1))) - UC c); omega, by show _ ≤ 24 + (US (cAddM c (nI fr) (nI tt) (nI fi) (nI (5 + p0)) (nI (1 + t1)) (nI (1 + b1))) - US c); omega⟩) (fun rr h1 H locs hp hH => ?_)
  obtain ⟨ea, eh⟩ := hp
  rw [eh] at hH
  rw [ea, e7]
  refine lv_iconst (v := nI 1) hx hb dL_isLaid_95 (by decide) ?_
  refine lv_iadd hx hb dL_isLaid_96 ?_
  rw [show nI b0 + nI 1 = nI (b0 + 1) from nI_add _ _]
  refine k_i hH (k_lS (rest := [.int (nI 1)]) C0 hN hH (lL_in l Sc G A _ (i0 + 5) (b0 + 1) (by omega) (by omega) (by omega)) mv_L_in ml_L_106 rfl ⟨Nat.le_of_ble_eq_true rfl, Nat.le_of_ble_eq_true rfl⟩ hl.1 rfl (Nat.le_of_ble_eq_true rfl) dL_isLaid_97 ⟨by show _ ≤ 4 + (UC (cAddM c (nI fr) (nI tt) (nI fi) (nI (5 + p0)) (nI (1 + t1)) (nI (1 + b1))) - UC c); omega, by show _ ≤ 24 + (US (cAddM c (nI fr) (nI tt) (nI fi) (nI (5 + p0)) (nI (1 + t1)) (nI (1 + b1))) - US c); omega⟩) (fun rr h1 H locs hp hH => ?_)
  obtain ⟨ea, eh⟩ := hp
  rw [eh] at hH
  rw [ea, e8]
  refine lv_iadd hx hb dL_isLaid_100 ?_
  rw [show nI 1 + nI b1 = nI (1 + b1) from nI_add _ _]
  refine lv_istore (lv' := [(10, .int (nI (1 + b1))), (9, .int (nI (1 + t1))), (8, .int (nI (5 + p0))), (7, .int (nI fi)), (6, .int (nI (30 + 8 * (nlN m)))), (5, .int (nI tt)), (4, .int (nI fr)), (0, .ref (o)), (1, .ref (an)), (2, .ref (Sc.1)), (3, .int (nI i0))]) hx hb dL_isLaid_101 hl (by decide) rfl (fun ls hl => ?_)
  refine lv_aload_n hx hb dL_isLaid_103 rfl (lv_at hl 8 rfl) ?_
  refine lv_iconst (v := nI 1) hx hb dL_isLaid_104 (by decide) ?_
  refine j_ld C0 hH hJ hL (ix := 1) (by omega) (by decide) (v := nI (nlN m)) hT.l0 dL_isLaid_105 ?_
  refine lv_bipush (v := nI 12) hx hb dL_isLaid_106 (by decide) ?_
  refine lv_icmp_ne (tgt := 138) hx hb dL_isLaid_108 (by decide) (fun c108_1 => ?_) (fun c108_1 => ?_)
  · replace c108_1 : ¬ (nlN m = 12) := fun z => c108_1 ((nI_eq (a := nlN m) (b := 12) (by omega) (by omega)).mpr z)
    refine lv_aload_n hx hb dL_isLaid_138 rfl (lv_at hl 8 rfl) ?_
    refine lv_iload hx hb dL_isLaid_139 (lv_at hl 4 rfl) ?_
    refine lv_iload hx hb dL_isLaid_141 (lv_at hl 6 rfl) ?_
    refine j_st C0 hH hJ hL (ix := 30 + 8 * (nlN m)) (by omega) (by decide) dL_isLaid_143 (fun h H locs hH hJ => ?_)
    obtain ⟨f_2, hf_2⟩ : ∃ z, z = upF f (30 + 8 * (nlN m)) (nI fr) := ⟨_, rfl⟩
    obtain ⟨L_3, hL_3⟩ : ∃ z, z = setL L an 700 f_2 := ⟨_, rfl⟩
    rw [← hf_2, ← hL_3] at hJ
    have hL_L_3 : L_3 an = some (700, f_2) := by rw [hL_3]; exact setL_s _ _ _ _
    refine lv_aload_n hx hb dL_isLaid_144 rfl (lv_at hl 8 rfl) ?_
    refine lv_iload hx hb dL_isLaid_145 (lv_at hl 4 rfl) ?_
    refine lv_iconst (v := nI 1) hx hb dL_isLaid_147 (by decide) ?_
    refine lv_iadd hx hb dL_isLaid_148 ?_
    rw [show nI (30 + 8 * (nlN m)) + nI 1 = nI (30 + 8 * (nlN m) + 1) from nI_add _ _]
    refine lv_iload hx hb dL_isLaid_149 (lv_at hl 5 rfl) ?_
    refine j_st C0 hH hJ hL_L_3 (ix := 30 + 8 * (nlN m) + 1) (by omega) (by decide) dL_isLaid_151 (fun h H locs hH hJ => ?_)
    obtain ⟨f_4, hf_4⟩ : ∃ z, z = upF f_2 (30 + 8 * (nlN m) + 1) (nI tt) := ⟨_, rfl⟩
    obtain ⟨L_5, hL_5⟩ : ∃ z, z = setL L_3 an 700 f_4 := ⟨_, rfl⟩
    rw [← hf_4, ← hL_5] at hJ
    have hL_L_3_L_5 : L_5 an = some (700, f_4) := by rw [hL_5]; exact setL_s _ _ _ _
    refine lv_aload_n hx hb dL_isLaid_152 rfl (lv_at hl 8 rfl) ?_
    refine lv_iload hx hb dL_isLaid_153 (lv_at hl 4 rfl) ?_
    refine lv_iconst (v := nI 2) hx hb dL_isLaid_155 (by decide) ?_
    refine lv_iadd hx hb dL_isLaid_156 ?_
    rw [show nI (30 + 8 * (nlN m)) + nI 2 = nI (30 + 8 * (nlN m) + 2) from nI_add _ _]
    refine lv_iload hx hb dL_isLaid_157 (lv_at hl 3 rfl) ?_
    refine j_st C0 hH hJ hL_L_3_L_5 (ix := 30 + 8 * (nlN m) + 2) (by omega) (by decide) dL_isLaid_159 (fun h H locs hH hJ => ?_)
    obtain ⟨f_6, hf_6⟩ : ∃ z, z = upF f_4 (30 + 8 * (nlN m) + 2) (nI fi) := ⟨_, rfl⟩
    obtain ⟨L_7, hL_7⟩ : ∃ z, z = setL L_5 an 700 f_6 := ⟨_, rfl⟩
    rw [← hf_6, ← hL_7] at hJ
    have hL_L_3_L_5_L_7 : L_7 an = some (700, f_6) := by rw [hL_7]; exact setL_s _ _ _ _
    refine lv_aload_n hx hb dL_isLaid_160 rfl (lv_at hl 8 rfl) ?_
    refine lv_iload hx hb dL_isLaid_161 (lv_at hl 4 rfl) ?_
    refine lv_iconst (v := nI 3) hx hb dL_isLaid_163 (by decide) ?_
    refine lv_iadd hx hb dL_isLaid_164 ?_
    rw [show nI (30 + 8 * (nlN m)) + nI 3 = nI (30 + 8 * (nlN m) + 3) from nI_add _ _]
    refine lv_iload hx hb dL_isLaid_165 (lv_at hl 2 rfl) ?_
    refine j_st C0 hH hJ hL_L_3_L_5_L_7 (ix := 30 + 8 * (nlN m) + 3) (by omega) (by decide) dL_isLaid_167 (fun h H locs hH hJ => ?_)
    obtain ⟨f_8, hf_8⟩ : ∃ z, z = upF f_6 (30 + 8 * (nlN m) + 3) (nI (5 + p0)) := ⟨_, rfl⟩
    obtain ⟨L_9, hL_9⟩ : ∃ z, z = setL L_7 an 700 f_8 := ⟨_, rfl⟩
    rw [← hf_8, ← hL_9] at hJ
    have hL_L_3_L_5_L_7_L_9 : L_9 an = some (700, f_8) := by rw [hL_9]; exact setL_s _ _ _ _
    refine lv_aload_n hx hb dL_isLaid_168 rfl (lv_at hl 8 rfl) ?_
    refine lv_iload hx hb dL_isLaid_169 (lv_at hl 4 rfl) ?_
    refine lv_iconst (v := nI 4) hx hb dL_isLaid_171 (by decide) ?_
    refine lv_iadd hx hb dL_isLaid_172 ?_
    rw [show nI (30 + 8 * (nlN m)) + nI 4 = nI (30 + 8 * (nlN m) + 4) from nI_add _ _]
    refine lv_iload hx hb dL_isLaid_173 (lv_at hl 1 rfl) ?_
    refine j_st C0 hH hJ hL_L_3_L_5_L_7_L_9 (ix := 30 + 8 * (nlN m) + 4) (by omega) (by decide) dL_isLaid_175 (fun h H locs hH hJ => ?_)
    obtain ⟨f_10, hf_10⟩ : ∃ z, z = upF f_8 (30 + 8 * (nlN m) + 4) (nI (1 + t1)) := ⟨_, rfl⟩
    obtain ⟨L_11, hL_11⟩ : ∃ z, z = setL L_9 an 700 f_10 := ⟨_, rfl⟩
    rw [← hf_10, ← hL_11] at hJ
    have hL_L_3_L_5_L_7_L_9_L_11 : L_11 an = some (700, f_10) := by rw [hL_11]; exact setL_s _ _ _ _
    refine lv_aload_n hx hb dL_isLaid_176 rfl (lv_at hl 8 rfl) ?_
    refine lv_iload hx hb dL_isLaid_177 (lv_at hl 4 rfl) ?_
    refine lv_iconst (v := nI 5) hx hb dL_isLaid_179 (by decide) ?_
    refine lv_iadd hx hb dL_isLaid_180 ?_
    rw [show nI (30 + 8 * (nlN m)) + nI 5 = nI (30 + 8 * (nlN m) + 5) from nI_add _ _]
    refine lv_iload hx hb dL_isLaid_181 (lv_at hl 0 rfl) ?_
    refine j_st C0 hH hJ hL_L_3_L_5_L_7_L_9_L_11 (ix := 30 + 8 * (nlN m) + 5) (by omega) (by decide) dL_isLaid_183 (fun h H locs hH hJ => ?_)
    obtain ⟨f_12, hf_12⟩ : ∃ z, z = upF f_10 (30 + 8 * (nlN m) + 5) (nI (1 + b1)) := ⟨_, rfl⟩
    obtain ⟨L_13, hL_13⟩ : ∃ z, z = setL L_11 an 700 f_12 := ⟨_, rfl⟩
    rw [← hf_12, ← hL_13] at hJ
    have hL_L_3_L_5_L_7_L_9_L_11_L_13 : L_13 an = some (700, f_12) := by rw [hL_13]; exact setL_s _ _ _ _
    refine lv_aload_n hx hb dL_isLaid_184 rfl (lv_at hl 8 rfl) ?_
    refine lv_iconst (v := nI 1) hx hb dL_isLaid_185 (by decide) ?_
    refine lv_dup2_11 hx hb dL_isLaid_186 rfl rfl ?_
    refine j_ld C0 hH hJ hL_L_3_L_5_L_7_L_9_L_11_L_13 (ix := 1) (by omega) (by decide) (v := nI (nlN m)) (by rw [hf_12, hf_10, hf_8, hf_6, hf_4, hf_2]; unfold upF; rw [if_neg (by omega), if_neg (by omega), if_neg (by omega), if_neg (by omega), if_neg (by omega), if_neg (by omega)]; exact hT.l0) dL_isLaid_187 ?_
    refine lv_iconst (v := nI 1) hx hb dL_isLaid_188 (by decide) ?_
    refine lv_iadd hx hb dL_isLaid_189 ?_
    rw [show nI (nlN m) + nI 1 = nI (nlN m + 1) from nI_add _ _]
    refine j_st C0 hH hJ hL_L_3_L_5_L_7_L_9_L_11_L_13 (ix := 1) (by omega) (by decide) dL_isLaid_190 (fun h H locs hH hJ => ?_)
    obtain ⟨f_14, hf_14⟩ : ∃ z, z = upF f_12 1 (nI (nlN m + 1)) := ⟨_, rfl⟩
    obtain ⟨L_15, hL_15⟩ : ∃ z, z = setL L_13 an 700 f_14 := ⟨_, rfl⟩
    rw [← hf_14, ← hL_15] at hJ
    have hL_L_3_L_5_L_7_L_9_L_11_L_13_L_15 : L_15 an = some (700, f_14) := by rw [hL_15]; exact setL_s _ _ _ _
    refine lv_aload_n hx hb dL_isLaid_191 rfl (lv_at hl 7 rfl) ?_
    refine lv_iload hx hb dL_isLaid_192 (lv_at hl 6 rfl) ?_
    refine lv_iload hx hb dL_isLaid_194 (lv_at hl 5 rfl) ?_
    refine lv_iload hx hb dL_isLaid_196 (lv_at hl 3 rfl) ?_
    refine lv_iload hx hb dL_isLaid_198 (lv_at hl 2 rfl) ?_
    refine lv_iload hx hb dL_isLaid_200 (lv_at hl 1 rfl) ?_
    refine lv_iload hx hb dL_isLaid_202 (lv_at hl 0 rfl) ?_
    have hwc0 := hwc
    refine j_w1 (As := [.int (nI fr), .int (nI tt), .int (nI fi), .int (nI (5 + p0)), .int (nI (1 + t1)), .int (nI (1 + b1))]) (rest := []) (v := nI (nlN m)) (c' := cAddM c (nI fr) (nI tt) (nI fi) (nI (5 + p0)) (nI (1 + t1)) (nI (1 + b1))) C0 hN hH hJ ho (lW_addLine (nI fr) (nI tt) (nI fi) (nI (5 + p0)) (nI (1 + t1)) (nI (1 + b1)) hJ.own hJ.obj (cC_X10_addLine l hlt G _ _ b c hJ.rest hwc (nI fr) (nI tt) (nI fi) (nI (5 + p0)) (nI (1 + t1)) (nI (1 + b1))) (hin_n hxa (fun E h9 z => z.1))) (hv_in hxa (v_nl hS) (fun E h9 z => z.1)) ms_L_addLine ml_L_110 rfl ⟨Nat.le_of_ble_eq_true rfl, Nat.le_of_ble_eq_true rfl⟩ hl.1 rfl (Nat.le_of_ble_eq_true rfl) dL_isLaid_204 ⟨by show _ ≤ 4 + (UC (cAddM c (nI fr) (nI tt) (nI fi) (nI (5 + p0)) (nI (1 + t1)) (nI (1 + b1))) - UC c); omega, by show _ ≤ 24 + (US (cAddM c (nI fr) (nI tt) (nI fi) (nI (5 + p0)) (nI (1 + t1)) (nI (1 + b1))) - US c); omega⟩ (fun h b H locs hH hJ ho hwc => ?_)
    refine lv_aload_n hx hb dL_isLaid_207 rfl (lv_at hl 8 rfl) ?_
    refine lv_iconst (v := nI 1) hx hb dL_isLaid_208 (by decide) ?_
    refine j_ld C0 hH hJ hL_L_3_L_5_L_7_L_9_L_11_L_13_L_15 (ix := 1) (by omega) (by decide) (v := nI (nlN m + 1)) (by rw [hf_14]; unfold upF; exact if_pos rfl) dL_isLaid_209 ?_
    refine lv_iconst (v := nI 1) hx hb dL_isLaid_210 (by decide) ?_
    refine lv_isub hx hb dL_isLaid_211 ?_
    rw [show nI (nlN m + 1) - nI 1 = nI (nlN m) from nI_sub (by omega)]
    refine lv_icmp_ne (tgt := 219) hx hb dL_isLaid_212 (by decide) (fun c212_16 => ?_) (fun c212_16 => ?_)
    · exact absurd rfl c212_16
    · replace c212_16 : nlN m = nlN m := (nI_eq (a := nlN m) (b := nlN m) (by omega) (by omega)).mp c212_16
      refine lv_iconst (v := nI 1) hx hb dL_isLaid_215 (by decide) ?_
      refine lv_goto (tgt := 220) hx hb dL_isLaid_216 (by decide) ?_
      rw [hL_15, hL_13, hL_11, hL_9, hL_7, hL_5, hL_3, setL_2, setL_2, setL_2, setL_2, setL_2, setL_2] at hJ
      have hNT := hT.add (f' := f_14) hw hk hA1 (by rw [hf_14, hf_12, hf_10, hf_8, hf_6, hf_4, hf_2]; unfold upF; exact if_pos rfl) ⟨by rw [hf_14, hf_12, hf_10, hf_8, hf_6, hf_4, hf_2]; unfold upF; rw [if_neg (by omega), if_neg (by omega), if_neg (by omega), if_neg (by omega), if_neg (by omega), if_neg (by omega)]; exact if_pos rfl, by rw [hf_14, hf_12, hf_10, hf_8, hf_6, hf_4, hf_2]; unfold upF; rw [if_neg (by omega), if_neg (by omega), if_neg (by omega), if_neg (by omega), if_neg (by omega)]; exact if_pos rfl, by rw [hf_14, hf_12, hf_10, hf_8, hf_6, hf_4, hf_2]; unfold upF; rw [if_neg (by omega), if_neg (by omega), if_neg (by omega), if_neg (by omega)]; exact if_pos rfl, by rw [hf_14, hf_12, hf_10, hf_8, hf_6, hf_4, hf_2]; unfold upF; rw [if_neg (by omega), if_neg (by omega), if_neg (by omega)]; exact if_pos rfl, by rw [hf_14, hf_12, hf_10, hf_8, hf_6, hf_4, hf_2]; unfold upF; rw [if_neg (by omega), if_neg (by omega)]; exact if_pos rfl, by rw [hf_14, hf_12, hf_10, hf_8, hf_6, hf_4, hf_2]; unfold upF; rw [if_neg (by omega)]; exact if_pos rfl⟩ (fun i z1 z2 => by have y0 := z2 0 (by omega); have y1 := z2 1 (by omega); have y2 := z2 2 (by omega); have y3 := z2 3 (by omega); have y4 := z2 4 (by omega); have y5 := z2 5 (by omega); rw [hf_14, hf_12, hf_10, hf_8, hf_6, hf_4, hf_2]; unfold upF; rw [if_neg (by omega), if_neg (by omega), if_neg (by omega), if_neg (by omega), if_neg (by omega), if_neg (by omega), if_neg (by omega)])
      have hln : nlN m1 = nlN m + 1 := by show (m1 38 0).toNatClampNeg = _; rw [hA1.1]; exact nI_clamp (by omega)
      exact e_Z C0 hr (by decide) hH ⟨rfl, b, f_14, m1, hJ, ho, hwc, hSt1, hNT.1, hNT.2, hg9.1, hg9.2, hln⟩ (by omega) (by omega) dL_isLaid_220
  · exact absurd ((nI_eq (by omega) (by omega)).mp c108_1) (by omega)
theorem lL_isLaidN (l : Launch) (hlt : l.stackTraces = false) (Sc : SCR) (G : GT) (A : Nat → Prop) (h : AH) (b : BA) (c m : MM) (n : Nat) (L : LNum) (M : LRef) (o : Nat) (hJ : JW G.2.2.1 h b c L M) (ho : b 14 0 = o) (hwc : WFc c) (hS : Sim n c m) (hw : WFa m) (hI : IV m) (hn : n < 512) (i0 : Nat) (hi0 : i0 < 2 ^ 19) (h2 : 2 ≤ nhN m) (hk : nlN m < 12) (an : Nat) (f : Nat → Int32) (hL : L an = some (700, f)) (hT : NT f m) : ∃ c2, Bnd c2 ∧ lcI l Sc G A yL_isLaid cL_isLaid 11 (Option.some FieldType.boolean) 9 247 (4 + (UC c2 - UC c)) (24 + (US c2 - US c)) [.ref o, .ref an, .ref Sc.1, .int (nI i0)] h (fun r h' => r = nI 1 ∧ ∃ b' f' m', JW G.2.2.1 h' b' (c2) (setL L an 700 f') M ∧ b' 14 0 = o ∧ WFc (c2) ∧ Stt (n + 1) (c2) m' ∧ NT f' m' ∧ Kp m m' ∧ UC c ≤ UC (c2) ∧ US c ≤ US (c2) ∧ nlN m' = nlN m + 1) :=
  ⟨_, bd_laid hS hwc hw hk (inN_lt Sc i0 (by omega)) (Nat.mod_lt _ (by omega)) _ _ _ _, lL_isLaid_n l hlt Sc G A h b c m n L M o hJ ho hwc hS hw hI hn i0 hi0 h2 hk _ _ _ _ _ _ _ _ rfl rfl rfl rfl rfl rfl rfl rfl an f hL hT⟩
