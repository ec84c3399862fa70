set_option maxHeartbeats 800000 in
set_option maxRecDepth 100000 in
theorem cC_X10_pass (l : Launch) (hlt : l.stackTraces = false) (G : GT) (A : Nat → Prop) (h00 : AH) (b0 : BA) (u : MM) (hR : RC G.2.2.1 h00 b0 u) (hw : WFc u) (x : Int32) : cxI l G A yX10_pass cX10_pass 4 (Option.some FieldType.int) 12 423 (4 + (UC ((cPsL x.toNatClampNeg 0 u).2) - UC u)) (24 + (US ((cPsL x.toNatClampNeg 0 u).2) - US u)) [.ref (b0 14 0), .int (x)] h00 (fun r h' => xPas x = none ∧ r = (cPsL x.toNatClampNeg 0 u).1 ∧ ∃ b', BE u b0 b' ∧ RC G.2.2.1 h' b' ((cPsL x.toNatClampNeg 0 u).2) ∧ WFc ((cPsL x.toNatClampNeg 0 u).2)) (fun E h' => xPas x = some E ∧ h' = h00) := by
  refine cx_of "Routepost" rfl (by decide) (Nat.le_of_ble_eq_true rfl) ?_
  intro pr e s m9 below meth c C0 hxt hr hH ls hl
  obtain ⟨hx, hb, hml, hown, hts, hK, hA, -⟩ := id C0
  obtain ⟨h, hh0⟩ : ∃ z, z = h00 := ⟨_, rfl⟩
  rw [← hh0] at hR hH
  have hl : lv_has ls 4 [(0, .ref (b0 14 0)), (1, .int (x))] := hl
  obtain ⟨b, hb0⟩ : ∃ z, z = b0 := ⟨_, rfl⟩
  rw [← hb0] at hR hl
  have hbe : BE u b0 b := by rw [hb0]; exact BE.refl u b0
  have hc7 := hw.cnt6 7
  have hc8 := hw.cnt6 8
  have hc9 := hw.cnt6 9
  have hw00 := hw
  have hRc9 : ∀ c, c ≤ 4 → c ≤ 4 + (UC ((cPsL x.toNatClampNeg 0 u).2) - UC u) := fun c h9 => by omega
  have hRs9 : ∀ c, c ≤ 24 → c ≤ 24 + (US ((cPsL x.toNatClampNeg 0 u).2) - US u) := fun c h9 => by omega
  refine lv_iload_n hx hb dX10_pass_0 rfl (lv_at hl 1 rfl) ?_
  refine lv_iconst (v := 1) hx hb dX10_pass_1 (by decide) ?_
  refine lv_bipush (v := 120) hx hb dX10_pass_2 (by decide) ?_
  refine k_i hH (k_runS (rest := []) C0 hH (cC_X10_isWithin l G A _ b _ hR hw x 1 120 ) mv_X10_isWithin ml_X10_64 rfl ⟨Nat.le_of_ble_eq_true rfl, Nat.le_of_ble_eq_true rfl⟩ hl.1 rfl (Nat.le_of_ble_eq_true rfl) dX10_pass_4 ⟨by show _ ≤ 4 + (UC ((cPsL x.toNatClampNeg 0 u).2) - UC u); omega, by show _ ≤ 24 + (US ((cPsL x.toNatClampNeg 0 u).2) - US u); omega⟩) (fun r_1 h1 H locs hp hH => ?_)
  obtain ⟨er_1, eh⟩ := hp
  rw [eh] at hH
  clear eh
  subst er_1
  refine lv_if_ne (tgt := 20) hx hb dX10_pass_7 (by decide) (fun c7_2 => ?_) (fun c7_2 => ?_)
  · replace c7_2 := bi_n0.mp c7_2
    have hXn : xPas x = none := if_pos c7_2
    obtain ⟨xn, hx120, exn⟩ := inn_nI c7_2
    have hxc : x.toNatClampNeg = xn := by rw [exn]; exact nI_clamp (by omega)
    rw [show (1, Value.int x) = (1, Value.int (nI xn)) from by rw [exn]] at hl
    refine lv_iconst (v := 0) hx hb dX10_pass_20 (by decide) ?_
    refine lv_istore_n (lv' := [(2, .int (0)), (0, .ref (b 14 0)), (1, .int (nI xn))]) hx hb dX10_pass_21 rfl hl (by decide) rfl (fun ls hl => ?_)
    refine lv_iconst (v := 0) hx hb dX10_pass_22 (by decide) ?_
    refine lv_istore_n (lv' := [(3, .int (0)), (2, .int (0)), (0, .ref (b 14 0)), (1, .int (nI xn))]) hx hb dX10_pass_23 rfl hl (by decide) rfl (fun ls hl => ?_)
    have K : ∀ (k : Nat) (i : Nat) (U : MM) (n0 : Int32) (cc : Nat) (ss : Nat) (b : BA), i + k = xn → cPsL k n0 U = cPsL x.toNatClampNeg 0 u → npN U = npN u ∧ nlN U = nlN u → Gw u U → cc ≤ UC U - UC u → ss ≤ US U - US u → BE u b0 b → ∀ (h : AH) (H : Heap) (locs : List Loc) (hH : HS G.1 G.2.1 A s.heap h H locs) (hR : RC G.2.2.1 h b U) (hw : WFc U) (ls : Array Slot), lv_has ls 4 [(3, .int (nI i)), (2, .int (n0)), (0, .ref (b 14 0)), (1, .int (nI xn))] → W pr l e (rmm 12 423 (4 + (UC ((cPsL x.toNatClampNeg 0 u).2) - UC u)) (24 + (US ((cPsL x.toNatClampNeg 0 u).2) - US u))) s m9 ([.ref (b0 14 0), .int (x)] : List Value).toArray below meth c H locs cc ss (vx_MQ below (va_Qi (fun r h' => xPas x = none ∧ r = (cPsL x.toNatClampNeg 0 u).1 ∧ ∃ b', BE u b0 b' ∧ RC G.2.2.1 h' b' ((cPsL x.toNatClampNeg 0 u).2) ∧ WFc ((cPsL x.toNatClampNeg 0 u).2)) (fun h' t => HW G.1 G.2.1 A h' t.heap) A) (xcP G A (fun E h' => xPas x = some E ∧ h' = h00)) ([.ref (b0 14 0), .int (x)] : List Value).toArray s (4 + (UC ((cPsL x.toNatClampNeg 0 u).2) - UC u)) (24 + (US ((cPsL x.toNatClampNeg 0 u).2) - US u)) A) (F0 m9 24 ls []) := by
      intro k
      induction k with
      | zero =>
        intro i U n0 cc ss b hik hT hnU hgU hcc hss hbe h H locs hH hR hw ls hl
        have hwU := hw
        have hlU := hw.lw
        have hle0 := hgU.le
        have hc7 := hw.cnt6 7
        have hc8 := hw.cnt6 8
        have hc9 := hw.cnt6 9
        have hTg : LG U (cPsL 0 n0 U).2 := LG.psL _ _ hw.nl
        rw [hT] at hTg
        have hTl := (hTg hlU).2.1.le
        refine lv_iload_n hx hb dX10_pass_24 rfl (lv_at hl 0 rfl) ?_
        refine lv_iload_n hx hb dX10_pass_25 rfl (lv_at hl 3 rfl) ?_
        refine lv_icmp_ge (tgt := 56) hx hb dX10_pass_26 (by decide) (fun c26_3 => ?_) (fun c26_3 => ?_)
        · refine lv_iload_n hx hb dX10_pass_56 rfl (lv_at hl 1 rfl) ?_
          have hA0_z : LG U U := (LG.refl U)
          have hA_z := hA0_z hlU
          have h1_z := hA_z.2.1.le
          have eM : ((cPsL x.toNatClampNeg 0 u).2) = U := by rw [← hT]; rfl
          refine vx_ret ?_
          have eR : (n0 : Int32) = (cPsL x.toNatClampNeg 0 u).1 := by rw [← hT]; rfl
          exact e_I C0 hr hH ⟨hXn, eR, b, hbe, by rw [eM]; exact ⟨hR, hw⟩⟩ (by rw [eM]; omega) (by rw [eM]; omega) dX10_pass_57
        · exact absurd (by rw [show i = xn by omega]; exact Int32.le_refl _) c26_3
      | succ k ih =>
        intro i U n0 cc ss b hik hT hnU hgU hcc hss hbe h H locs hH hR hw ls hl
        have hwU := hw
        have hlU := hw.lw
        have hle0 := hgU.le
        have hc7 := hw.cnt6 7
        have hc8 := hw.cnt6 8
        have hc9 := hw.cnt6 9
        have hTg : LG U (cPsL (k + 1) n0 U).2 := LG.psL _ _ hw.nl
        rw [hT] at hTg
        have hTl := (hTg hlU).2.1.le
        refine lv_iload_n hx hb dX10_pass_24 rfl (lv_at hl 0 rfl) ?_
        refine lv_iload_n hx hb dX10_pass_25 rfl (lv_at hl 3 rfl) ?_
        refine lv_icmp_ge (tgt := 56) hx hb dX10_pass_26 (by decide) (fun c26_4 => ?_) (fun c26_4 => ?_)
        · exact absurd c26_4 (nI_ge (show i < xn by omega) (by omega))
        · refine lv_aload_n hx hb dX10_pass_29 rfl (lv_at hl 2 rfl) ?_
          refine lv_dup hx hb dX10_pass_30 rfl ?_
          refine c_getI C0 hH hR ci_14 (i := 0) (j := 9) rfl rfl (by decide) rfl fl_X10_56 (v := U 41 0) rfl dX10_pass_31 ?_
          refine lv_iconst (v := 1) hx hb dX10_pass_34 (by decide) ?_
          refine lv_iadd hx hb dX10_pass_35 ?_
          refine c_putI C0 hH hR ci_14 (i := 0) (j := 9) rfl rfl (k := 41) rfl (by decide) (by decide) rfl fl_X10_56 rfl (x := (U 41 0) + 1) rfl rfl dX10_pass_36 (fun h H locs hH hR => ?_)
          replace hw := hw.upx (k := 41) (i := 0) (x := (U 41 0) + 1) (by unfold kWc kSz; decide)
          refine lv_iload_n hx hb dX10_pass_39 rfl (lv_at hl 1 rfl) ?_
          refine lv_aload_n hx hb dX10_pass_40 rfl (lv_at hl 2 rfl) ?_
          have hA0_n_5 : LG U (up U 41 0 ((U 41 0) + 1)) := (LG.trans (LG.refl U) (LG.upk (k := 41) (by unfold kSz; decide)))
          have hA_n_5 := hA0_n_5 hlU
          have h1_n_5 := hA_n_5.2.1.le
          have hB0_n_5 : LG (up U 41 0 ((U 41 0) + 1)) ((cUnld (up U 41 0 ((U 41 0) + 1))).2) := LG.unld
          have hB_n_5 := hB0_n_5 hA_n_5.1
          have hnM : nlN ((cUnld (up U 41 0 ((U 41 0) + 1))).2) ≤ 12 := by rw [((LG.unld) hA_n_5.1).2.2.2.1]; exact hw.nl
          have hC0_n_5 : LG ((cUnld (up U 41 0 ((U 41 0) + 1))).2) ((cPsL x.toNatClampNeg 0 u).2) := (by rw [show (cPsL x.toNatClampNeg 0 u).2 = (cPsL k (n0 + (cPs1 U).1) (cPs1 U).2).2 from by rw [← hT]; simp only [cPsL]]; exact ((LG.lds hnM).trans (LG.psL k _ (by rw [((LG.lds hnM) hB_n_5.1).2.2.2.1]; exact hnM)) : LG ((cUnld (up U 41 0 ((U 41 0) + 1))).2) (cPsL k (n0 + (cPs1 U).1) (cLds ((cUnld (up U 41 0 ((U 41 0) + 1))).2))).2))
          have hC_n_5 := hC0_n_5 hB_n_5.1
          have h2_n_5 := hB_n_5.2.1.le
          have h3_n_5 := hC_n_5.2.1.le
          refine k_i hH (k_runV (rest := [.int (n0)]) C0 hH (cC_X10_unloadTrucks l G A _ b _ hR hw  ) mv_X10_unloadTrucks ml_X10_235 ci_14 (hR.kind (K := 14) (i := 0) rfl) rfl ⟨Nat.le_of_ble_eq_true rfl, Nat.le_of_ble_eq_true rfl⟩ hl.1 rfl (Nat.le_of_ble_eq_true rfl) dX10_pass_41 ⟨by show _ ≤ 4 + (UC ((cPsL x.toNatClampNeg 0 u).2) - UC u); omega, by show _ ≤ 24 + (US ((cPsL x.toNatClampNeg 0 u).2) - US u); omega⟩) (fun r_6 h H locs hp hH => ?_)
          obtain ⟨er_6, b, hbx, hR, hw⟩ := hp
          subst er_6
          rw [← hbx 14 0 (by decide) rfl] at hl
          replace hbe := hbe.trans (hgU.trans hA_n_5.2.1) hbx
          have hgu_n_5 := (hgU.trans hA_n_5.2.1).trans hB_n_5.2.1
          have hlw_n_5 := hB_n_5.1
          obtain ⟨U_n_5, hU_n_5⟩ : ∃ z, z = ((cUnld (up U 41 0 ((U 41 0) + 1))).2) := ⟨_, rfl⟩
          rw [← hU_n_5] at hR hw hgu_n_5 hlw_n_5
          have hE_n_5 : UC U_n_5 = UC ((cUnld (up U 41 0 ((U 41 0) + 1))).2) ∧ US U_n_5 = US ((cUnld (up U 41 0 ((U 41 0) + 1))).2) := by rw [hU_n_5]; exact ⟨rfl, rfl⟩
          have hn_n_5 : nhN U_n_5 = nhN U ∧ nlN U_n_5 = nlN U ∧ npN U_n_5 = npN U := by rw [hU_n_5]; exact ⟨hB_n_5.2.2.1.trans hA_n_5.2.2.1, hB_n_5.2.2.2.1.trans hA_n_5.2.2.2.1, hB_n_5.2.2.2.2.trans hA_n_5.2.2.2.2⟩
          have hc7 := hw.cnt6 7
          have hc8 := hw.cnt6 8
          have hc9 := hw.cnt6 9
          refine lv_iadd hx hb dX10_pass_44 ?_
          refine lv_istore_n (lv' := [(2, .int (n0 + ((cUnld (up U 41 0 ((U 41 0) + 1))).1))), (3, .int (nI i)), (0, .ref (b 14 0)), (1, .int (nI xn))]) hx hb dX10_pass_45 rfl hl (by decide) rfl (fun ls hl => ?_)
          refine lv_aload_n hx hb dX10_pass_46 rfl (lv_at hl 2 rfl) ?_
          have hA0_n_7 : LG U_n_5 U_n_5 := (LG.refl U_n_5)
          have hA_n_7 := hA0_n_7 hlw_n_5
          have h1_n_7 := hA_n_7.2.1.le
          have hB0_n_7 : LG U_n_5 (cLds U_n_5) := (LG.lds hw.nl)
          have hB_n_7 := hB0_n_7 hA_n_7.1
          have hst : cPs1 U = ((cUnld (up U 41 0 (U 41 0 + 1))).1, (cLds U_n_5)) := by unfold cPs1; rw [hU_n_5]
          have hnM : nlN (cLds U_n_5) ≤ 12 := by rw [((LG.lds (show nlN U_n_5 ≤ 12 from hw.nl)) hA_n_7.1).2.2.2.1]; exact hw.nl
          have hC0_n_7 : LG (cLds U_n_5) ((cPsL x.toNatClampNeg 0 u).2) := (by rw [show (cPsL x.toNatClampNeg 0 u).2 = (cPsL k (n0 + (cPs1 U).1) (cPs1 U).2).2 from by rw [← hT]; simp only [cPsL]]; rw [hst]; exact LG.psL k _ hnM)
          have hC_n_7 := hC0_n_7 hB_n_7.1
          have h2_n_7 := hB_n_7.2.1.le
          have h3_n_7 := hC_n_7.2.1.le
          refine k_v hH (k_runV (rest := []) C0 hH (cC_X10_loadTrucks l G A _ b _ hR hw  ) mv_X10_loadTrucks ml_X10_238 ci_14 (hR.kind (K := 14) (i := 0) rfl) rfl ⟨Nat.le_of_ble_eq_true rfl, Nat.le_of_ble_eq_true rfl⟩ hl.1 rfl (Nat.le_of_ble_eq_true rfl) dX10_pass_47 ⟨by show _ ≤ 4 + (UC ((cPsL x.toNatClampNeg 0 u).2) - UC u); omega, by show _ ≤ 24 + (US ((cPsL x.toNatClampNeg 0 u).2) - US u); omega⟩) (fun h H locs hp hH => ?_)
          obtain ⟨b, hbx, hR, hw⟩ := hp
          rw [← hbx 14 0 (by decide) rfl] at hl
          replace hbe := hbe.trans (hgu_n_5.trans hA_n_7.2.1) hbx
          have hgu_n_7 := (hgu_n_5.trans hA_n_7.2.1).trans hB_n_7.2.1
          have hlw_n_7 := hB_n_7.1
          obtain ⟨U_n_7, hU_n_7⟩ : ∃ z, z = (cLds U_n_5) := ⟨_, rfl⟩
          rw [← hU_n_7] at hR hw hgu_n_7 hlw_n_7
          have hE_n_7 : UC U_n_7 = UC (cLds U_n_5) ∧ US U_n_7 = US (cLds U_n_5) := by rw [hU_n_7]; exact ⟨rfl, rfl⟩
          have hn_n_7 : nhN U_n_7 = nhN U_n_5 ∧ nlN U_n_7 = nlN U_n_5 ∧ npN U_n_7 = npN U_n_5 := by rw [hU_n_7]; exact ⟨hB_n_7.2.2.1.trans hA_n_7.2.2.1, hB_n_7.2.2.2.1.trans hA_n_7.2.2.2.1, hB_n_7.2.2.2.2.trans hA_n_7.2.2.2.2⟩
          have hc7 := hw.cnt6 7
          have hc8 := hw.cnt6 8
          have hc9 := hw.cnt6 9
          refine lv_iinc (v := nI (i + 1)) (lv' := [(3, .int (nI (i + 1))), (2, .int (n0 + ((cUnld (up U 41 0 ((U 41 0) + 1))).1))), (0, .ref (b 14 0)), (1, .int (nI xn))]) hx hb dX10_pass_50 hl (k := 1) rfl (by rw [← nI_1]; rfl) (by decide) rfl (fun ls hl => ?_)
          refine lv_goto (tgt := 24) hx hb dX10_pass_53 (by decide) ?_
          exact ih (i + 1) U_n_7 (n0 + ((cUnld (up U 41 0 ((U 41 0) + 1))).1)) (cc + (UC (cUnld (up U 41 0 (U 41 0 + 1))).2 - UC (up U 41 0 (U 41 0 + 1))) + (UC (cLds U_n_5) - UC U_n_5)) (ss + (US (cUnld (up U 41 0 (U 41 0 + 1))).2 - US (up U 41 0 (U 41 0 + 1))) + (US (cLds U_n_5) - US U_n_5)) b (by omega) (by rw [← hT]; simp only [cPsL]; rw [hst, hU_n_7]) ⟨hn_n_7.2.2.trans (hn_n_5.2.2.trans hnU.1), hn_n_7.2.1.trans (hn_n_5.2.1.trans hnU.2)⟩ hgu_n_7 (by omega) (by omega) hbe _ _ _ hH hR hw ls (lv_sub hl [0, 1, 2, 3] rfl)
    exact K xn 0 u 0 _ _ b (by omega) (by rw [hxc]) ⟨rfl, rfl⟩ (Gw.refl u) (Nat.zero_le _) (Nat.zero_le _) hbe _ _ _ hH hR hw ls (lv_sub hl [0, 1, 2, 3] rfl)
  · replace c7_2 := bi_0.mp c7_2
    exact k_throwS C0 hxt hlt hH thr_IAE (is := 233) (text := "not so many minutes can pass") (by decide) hl.1 dX10_pass_10 dX10_pass_13 dX10_pass_14 dX10_pass_16 dX10_pass_19 (Nat.le_of_ble_eq_true rfl) (Nat.le_of_ble_eq_true rfl) (by show _ ≤ 4 + (UC ((cPsL x.toNatClampNeg 0 u).2) - UC u); omega) (by show _ ≤ 24 + (US ((cPsL x.toNatClampNeg 0 u).2) - US u); omega) ⟨if_neg c7_2, hh0⟩ (hRc9 _ (by omega)) (hRs9 _ (by omega))

