set_option maxHeartbeats 800000 in
set_option maxRecDepth 100000 in
theorem cC_X10_accept (l : Launch) (hlt : l.stackTraces = false) (G : GT) (A : Nat → Prop) (h : AH) (b0 : BA) (u : MM) (hR : RC G.2.2.1 h b0 u) (hw : WFc u) (x ad vol ser : Int32) : cxI l G A yX10_accept cX10_accept 8 (Option.some FieldType.int) 9 355 (4 + (UC (cAcc u x ad vol ser) - UC u)) (24 + (US (cAcc u x ad vol ser) - US u)) [.ref (b0 14 0), .int (x), .int (ad), .int (vol), .int (ser)] h (fun r h' => xAcc u x ad vol ser = none ∧ r = nI (npN u) ∧ ∃ b', BE u b0 b' ∧ RC G.2.2.1 h' b' (cAcc u x ad vol ser) ∧ WFc (cAcc u x ad vol ser)) (fun E h' => xAcc u x ad vol ser = some E ∧ h' = h) := by
  refine cx_of "Routepost" rfl (by decide) (Nat.le_of_ble_eq_true rfl) ?_
  intro pr e s m9 below meth c C0 hxt hr hH ls hl
  obtain ⟨hx, hb, hml, hown, hts, hK, hA, -⟩ := id C0
  have hl : lv_has ls 8 [(0, .ref (b0 14 0)), (1, .int (x)), (2, .int (ad)), (3, .int (vol)), (4, .int (ser))] := hl
  obtain ⟨b, hb0⟩ : ∃ z, z = b0 := ⟨_, rfl⟩
  rw [← hb0] at hR hl
  have hbe : BE u b0 b := by rw [hb0]; exact BE.refl u b0
  have hc7 := hw.cnt6 7
  have hc8 := hw.cnt6 8
  have hc9 := hw.cnt6 9
  have hw00 := hw
  have hRc9 : ∀ c, c ≤ 4 → c ≤ 4 + (UC (cAcc u x ad vol ser) - UC u) := fun c h9 => by omega
  have hRs9 : ∀ c, c ≤ 24 → c ≤ 24 + (US (cAcc u x ad vol ser) - US u) := fun c h9 => by omega
  refine lv_aload_n hx hb dX10_accept_0 rfl (lv_at hl 0 rfl) ?_
  refine lv_iload_n hx hb dX10_accept_1 rfl (lv_at hl 1 rfl) ?_
  refine k_xq C0 hxt hH (k_xrunV (rest := []) C0 hH (cC_X10_hubNumbered l hlt G A _ b _ hR hw x ) mv_X10_hubNumbered ml_X10_100 ci_14 (hR.kind (K := 14) (i := 0) rfl) rfl ⟨Nat.le_of_ble_eq_true rfl, Nat.le_of_ble_eq_true rfl⟩ hl.1 rfl (Nat.le_of_ble_eq_true rfl) dX10_accept_2 ⟨by show _ ≤ 4 + (UC (cAcc u x ad vol ser) - UC u); omega, by show _ ≤ 24 + (US (cAcc u x ad vol ser) - US u); omega⟩) (fun E h9 z => ⟨by unfold xAcc; exact xo_s z.1, z.2⟩) (hRc9 _ (by omega)) (hRs9 _ (by omega)) (fun r_1 h1 H locs hp hH => ?_)
  obtain ⟨exr_1, er_1, eh⟩ := hp
  rw [eh] at hH
  clear eh
  have vpv_2 : vp_in (x) (nhN u) := (xHb_n hw).mp exr_1
  obtain ⟨v_2, hv_2, ev_2⟩ := vp_ex vpv_2 (by have := hw.nh; have := hw.nl; have := hw.np; omega)
  have kv_2 : (x).toNatClampNeg = v_2 := by rw [ev_2]; exact nI_clamp (by have := hw.nh; have := hw.nl; have := hw.np; omega)
  rw [show dec b 7 (x) = some (b 7 v_2) from by rw [ev_2]; exact dec_nI (by have := hw.nh; have := hw.nl; have := hw.np; omega)] at er_1
  subst er_1
  refine lv_astore (lv' := [(5, .ref (b 7 v_2)), (0, .ref (b 14 0)), (1, .int (x)), (2, .int (ad)), (3, .int (vol)), (4, .int (ser))]) hx hb dX10_accept_5 hl (by decide) rfl (fun ls hl => ?_)
  refine lv_iload_n hx hb dX10_accept_7 rfl (lv_at hl 3 rfl) ?_
  refine k_i hH (k_runS (rest := []) C0 hH (cC_X10_isAddress l G A _ b _ hR hw ad ) mv_X10_isAddress ml_X10_131 rfl ⟨Nat.le_of_ble_eq_true rfl, Nat.le_of_ble_eq_true rfl⟩ hl.1 rfl (Nat.le_of_ble_eq_true rfl) dX10_accept_8 ⟨by show _ ≤ 4 + (UC (cAcc u x ad vol ser) - UC u); omega, by show _ ≤ 24 + (US (cAcc u x ad vol ser) - US u); omega⟩) (fun r_3 h1 H locs hp hH => ?_)
  obtain ⟨er_3, eh⟩ := hp
  rw [eh] at hH
  clear eh
  subst er_3
  refine lv_if_eq (tgt := 34) hx hb dX10_accept_11 (by decide) (fun c11_4 => ?_) (fun c11_4 => ?_)
  · exact k_throwS C0 hxt hlt hH thr_IAE (is := 158) (text := "no address, no volume or no service") (by decide) hl.1 dX10_accept_34 dX10_accept_37 dX10_accept_38 dX10_accept_40 dX10_accept_43 (Nat.le_of_ble_eq_true rfl) (Nat.le_of_ble_eq_true rfl) (by show _ ≤ 4 + (UC (cAcc u x ad vol ser) - UC u); omega) (by show _ ≤ 24 + (US (cAcc u x ad vol ser) - US u); omega) ⟨by unfold xAcc; rw [xo_n exr_1, if_pos (Or.inl c11_4)]; rfl, rfl⟩ (hRc9 _ (by omega)) (hRs9 _ (by omega))
  · refine lv_iload_n hx hb dX10_accept_14 rfl (lv_at hl 4 rfl) ?_
    refine lv_iconst (v := 1) hx hb dX10_accept_15 (by decide) ?_
    refine lv_bipush (v := 9) hx hb dX10_accept_16 (by decide) ?_
    refine k_i hH (k_runS (rest := []) C0 hH (cC_X10_isWithin l G A _ b _ hR hw vol 1 9 ) mv_X10_isWithin ml_X10_64 rfl ⟨Nat.le_of_ble_eq_true rfl, Nat.le_of_ble_eq_true rfl⟩ hl.1 rfl (Nat.le_of_ble_eq_true rfl) dX10_accept_18 ⟨by show _ ≤ 4 + (UC (cAcc u x ad vol ser) - UC u); omega, by show _ ≤ 24 + (US (cAcc u x ad vol ser) - US u); omega⟩) (fun r_5 h1 H locs hp hH => ?_)
    obtain ⟨er_5, eh⟩ := hp
    rw [eh] at hH
    clear eh
    subst er_5
    refine lv_if_eq (tgt := 34) hx hb dX10_accept_21 (by decide) (fun c21_6 => ?_) (fun c21_6 => ?_)
    · replace c21_6 := bi_0.mp c21_6
      exact k_throwS C0 hxt hlt hH thr_IAE (is := 158) (text := "no address, no volume or no service") (by decide) hl.1 dX10_accept_34 dX10_accept_37 dX10_accept_38 dX10_accept_40 dX10_accept_43 (Nat.le_of_ble_eq_true rfl) (Nat.le_of_ble_eq_true rfl) (by show _ ≤ 4 + (UC (cAcc u x ad vol ser) - UC u); omega) (by show _ ≤ 24 + (US (cAcc u x ad vol ser) - US u); omega) ⟨by unfold xAcc; rw [xo_n exr_1, if_pos (Or.inr (Or.inl c21_6))]; rfl, rfl⟩ (hRc9 _ (by omega)) (hRs9 _ (by omega))
    · replace c21_6 := bi_n0.mp c21_6
      refine lv_iload hx hb dX10_accept_24 (lv_at hl 5 rfl) ?_
      refine lv_iconst (v := 0) hx hb dX10_accept_26 (by decide) ?_
      refine lv_iconst (v := 2) hx hb dX10_accept_27 (by decide) ?_
      refine k_i hH (k_runS (rest := []) C0 hH (cC_X10_isWithin l G A _ b _ hR hw ser 0 2 ) mv_X10_isWithin ml_X10_64 rfl ⟨Nat.le_of_ble_eq_true rfl, Nat.le_of_ble_eq_true rfl⟩ hl.1 rfl (Nat.le_of_ble_eq_true rfl) dX10_accept_28 ⟨by show _ ≤ 4 + (UC (cAcc u x ad vol ser) - UC u); omega, by show _ ≤ 24 + (US (cAcc u x ad vol ser) - US u); omega⟩) (fun r_7 h1 H locs hp hH => ?_)
      obtain ⟨er_7, eh⟩ := hp
      rw [eh] at hH
      clear eh
      subst er_7
      refine lv_if_ne (tgt := 44) hx hb dX10_accept_31 (by decide) (fun c31_8 => ?_) (fun c31_8 => ?_)
      · replace c31_8 := bi_n0.mp c31_8
        refine lv_aload_n hx hb dX10_accept_44 rfl (lv_at hl 1 rfl) ?_
        refine lv_iload_n hx hb dX10_accept_45 rfl (lv_at hl 3 rfl) ?_
        refine k_q hH (k_runV (rest := []) C0 hH (cC_X10_hubByShortening l G A _ b _ hR hw ad ) mv_X10_hubByShortening ml_X10_136 ci_14 (hR.kind (K := 14) (i := 0) rfl) rfl ⟨Nat.le_of_ble_eq_true rfl, Nat.le_of_ble_eq_true rfl⟩ hl.1 rfl (Nat.le_of_ble_eq_true rfl) dX10_accept_46 ⟨by show _ ≤ 4 + (UC (cAcc u x ad vol ser) - UC u); omega, by show _ ≤ 24 + (US (cAcc u x ad vol ser) - US u); omega⟩) (fun r_9 h1 H locs hp hH => ?_)
        obtain ⟨er_9, eh⟩ := hp
        rw [eh] at hH
        clear eh
        subst er_9
        refine o_astore_q (lv' := [(6, va_rf (dec b 7 (cHs u ad))), (5, .ref (b 7 v_2)), (0, .ref (b 14 0)), (1, .int (x)), (2, .int (ad)), (3, .int (vol)), (4, .int (ser))]) hx hb dX10_accept_49 hl (by decide) rfl (fun ls hl => ?_)
        refine o_aload_q hx hb dX10_accept_51 (lv_at hl 0 rfl) ?_
        rcases (cHs_ok u ad) with es_10 | ⟨s_10, hs_10, es_10⟩
        · have eds_10 : dec b 7 (cHs u ad) = none := by rw [es_10]; exact dec_m1
          rw [eds_10]
          rw [eds_10] at hl
          refine lv_ifnullN (tgt := 68) hx hb dX10_accept_53 (by decide) ?_
          exact k_throwS C0 hxt hlt hH thr_ISE (is := 160) (text := "no hub for it or too many parcels") (by decide) hl.1 dX10_accept_68 dX10_accept_71 dX10_accept_72 dX10_accept_74 dX10_accept_77 (Nat.le_of_ble_eq_true rfl) (Nat.le_of_ble_eq_true rfl) (by show _ ≤ 4 + (UC (cAcc u x ad vol ser) - UC u); omega) (by show _ ≤ 24 + (US (cAcc u x ad vol ser) - US u); omega) ⟨by unfold xAcc; rw [xo_n exr_1, if_neg (fun z => z.elim c11_4 (fun y9 => y9.elim (fun y8 => y8 c21_6) (fun y8 => y8 c31_8))), if_pos (Or.inl es_10)]; rfl, rfl⟩ (hRc9 _ (by omega)) (hRs9 _ (by omega))
        · have eds_10 : dec b 7 (cHs u ad) = some (b 7 s_10) := by rw [es_10]; exact dec_nI (by have := hc7; have h9 : s_10 < cnt u 7 := hs_10; omega)
          have ks_10 : (cHs u ad).toNatClampNeg = s_10 := by rw [es_10]; exact nI_clamp (by have := hc7; have h9 : s_10 < cnt u 7 := hs_10; omega)
          have ns_10 : ¬ (cHs u ad) = -1 := by rw [es_10]; exact nI_nm (by have := hc7; have h9 : s_10 < cnt u 7 := hs_10; omega)
          rw [eds_10]
          rw [eds_10] at hl
          refine lv_ifnull hx hb dX10_accept_53 ?_
          refine lv_aload_n hx hb dX10_accept_56 rfl (lv_at hl 2 rfl) ?_
          refine c_getR C0 hH hR ci_14 (i := 0) (j := 2) rfl rfl (by decide) rfl fl_X10_19 (v := some (b 3 2)) rfl dX10_accept_57 ?_
          refine k_i hH (k_runV (rest := []) C0 hH (cL_size l G A _ b _ hR hw 2 (show 2 < 6 + npN _ by omega)) mv_Jx4a65c_size_8abf5 ml_X10_79 ci_3 (hR.kind (K := 3) (i := 2) (show 2 < 6 + npN _ by omega)) rfl ⟨Nat.le_of_ble_eq_true rfl, Nat.le_of_ble_eq_true rfl⟩ hl.1 rfl (Nat.le_of_ble_eq_true rfl) dX10_accept_60 ⟨by show _ ≤ 4 + (UC (cAcc u x ad vol ser) - UC u); omega, by show _ ≤ 24 + (US (cAcc u x ad vol ser) - US u); omega⟩) (fun r9 h1 H locs hp hH => ?_)
          obtain ⟨er9, eh⟩ := hp
          rw [eh] at hH
          clear eh
          rw [hw.sz2] at er9
          subst er9
          refine lv_bipush (v := 40) hx hb dX10_accept_63 (by decide) ?_
          refine lv_icmp_lt (tgt := 78) hx hb dX10_accept_65 (by decide) (fun c65_11 => ?_) (fun c65_11 => ?_)
          · have hn40 : npN u < 40 := nI_ltC (by have := hw.np; omega) (by omega) (show nI (npN u) < nI 40 from c65_11)
            have hXn : xAcc u x ad vol ser = none := by unfold xAcc; rw [xo_n exr_1, if_neg (fun z => z.elim c11_4 (fun y9 => y9.elim (fun y8 => y8 c21_6) (fun y8 => y8 c31_8))), if_neg (fun z => z.elim ns_10 (fun y9 => y9 c65_11))]
            have hroom := room_par (o := v_2) (d := s_10) (vol := vol) (ser := ser) hw hn40
            have hwL := hw.addP (vol := vol) (ser := ser) hn40 hv_2 hs_10
            have hAM : cAcc u x ad vol ser = cPlanP (cNote (cSettle (cPc u v_2 s_10 vol ser) (npN u) x (u 41 0)) (npN u) 0 (u 41 0) v_2 (-1)) (npN u) := by unfold cAcc; rw [kv_2, ks_10]
            have hC0 : LG (cPc u v_2 s_10 vol ser) (cAcc u x ad vol ser) := by rw [hAM]; exact LG.acc (u := u) (by rw [hroom.2.2.2.2.2]; omega)
            have hC := (hC0 hwL.lw).2.1.le
            refine o_new hx hb hts hown hK hA hH ci_9 cl_X10_162 im_X5 in_X5 (fun j hj => by rcases (by omega : j = 0 ∨ j = 1 ∨ j = 2 ∨ j = 3 ∨ j = 4 ∨ j = 5 ∨ j = 6 ∨ j = 7 ∨ j = 8 ∨ j = 9 ∨ j = 10 ∨ j = 11 ∨ j = 12 ∨ j = 13 ∨ j = 14 ∨ j = 15 ∨ j = 16 ∨ j = 17 ∨ j = 18 ∨ j = 19) with rfl | rfl | rfl | rfl | rfl | rfl | rfl | rfl | rfl | rfl | rfl | rfl | rfl | rfl | rfl | rfl | rfl | rfl | rfl | rfl <;> rfl) (by show _ ≤ 4 + (UC (cAcc u x ad vol ser) - UC u); omega) (by show _ ≤ 24 + (US (cAcc u x ad vol ser) - US u); omega) dX10_accept_78 (fun a H1 hq0 hqs hH => ?_)
            have hfree : ∀ K i, ok u K i → b K i ≠ a := fun K i hk => hR.free hq0 hk
            replace hR : RC G.2.2.1 (pN h a 9 0) b u := hR.same (SameX.pN h a 9 0) hfree
            obtain ⟨h0, hh0⟩ : ∃ z, z = pN h a 9 0 := ⟨_, rfl⟩
            rw [← hh0] at hH hR
            have hka : aK h0 a = 9 := by rw [hh0, aK_pN, if_pos rfl]
            have hza1 : ∀ j, aI h0 j a = 0 := fun j => by rw [hh0, aI_pN, if_pos rfl]
            have hza2 : ∀ j, aR h0 j a = none := fun j => by rw [hh0, aR_pN, if_pos rfl]
            refine lv_dup hx hb dX10_accept_81 rfl ?_
            refine lv_aload_n hx hb dX10_accept_82 rfl (lv_at hl 2 rfl) ?_
            refine c_getR C0 hH hR ci_14 (i := 0) (j := 2) rfl rfl (by decide) rfl fl_X10_19 (v := some (b 3 2)) rfl dX10_accept_83 ?_
            refine k_i hH (k_runV (rest := [.ref (a), .ref (a)]) C0 hH (cL_size l G A _ b _ hR hw 2 (show 2 < 6 + npN _ by omega)) mv_Jx4a65c_size_8abf5 ml_X10_79 ci_3 (hR.kind (K := 3) (i := 2) (show 2 < 6 + npN _ by omega)) rfl ⟨Nat.le_of_ble_eq_true rfl, Nat.le_of_ble_eq_true rfl⟩ hl.1 rfl (Nat.le_of_ble_eq_true rfl) dX10_accept_86 ⟨by show _ ≤ 4 + (UC (cAcc u x ad vol ser) - UC u); omega, by show _ ≤ 24 + (US (cAcc u x ad vol ser) - US u); omega⟩) (fun r9 h1 H locs hp hH => ?_)
            obtain ⟨er9, eh⟩ := hp
            rw [eh] at hH
            clear eh
            rw [hw.sz2] at er9
            subst er9
            refine lv_aload hx hb dX10_accept_89 (lv_at hl 1 rfl) ?_
            refine lv_aload hx hb dX10_accept_91 (lv_at hl 0 rfl) ?_
            refine lv_iload_n hx hb dX10_accept_93 rfl (lv_at hl 5 rfl) ?_
            refine lv_iload hx hb dX10_accept_94 (lv_at hl 6 rfl) ?_
            refine lv_aload_n hx hb dX10_accept_96 rfl (lv_at hl 2 rfl) ?_
            refine c_getI C0 hH hR ci_14 (i := 0) (j := 9) rfl rfl (by decide) rfl fl_X10_56 (v := u 41 0) rfl dX10_accept_97 ?_
            refine k_v hH (k_runI (rest := [.ref a]) C0 hH (cC_X5_init l G A h0 a (npN u) (b 7 v_2) (b 7 s_10) vol ser (u 41 0) hka hza1 hza2) mv_X5_init ml_X10_164 rfl ⟨Nat.le_of_ble_eq_true rfl, Nat.le_of_ble_eq_true rfl⟩ hl.1 rfl (Nat.le_of_ble_eq_true rfl) dX10_accept_100 ⟨by show _ ≤ 4 + (UC (cAcc u x ad vol ser) - UC u); omega, by show _ ≤ 24 + (US (cAcc u x ad vol ser) - US u); omega⟩) (fun h1 H locs hp1 hH => ?_)
            obtain ⟨g, q, g0, nga, q0, nqg, nqa, k1, k2, k3, k4, k5, k6, k7, k8, k9, k10, k11, k12, k13, k14, k15, k16, -, -, hs1, k17, k18⟩ := hp1
            have fg : ∀ K i, ok u K i → b K i ≠ g := fun K i hk => hR.free g0 hk
            have fq : ∀ K i, ok u K i → b K i ≠ q := fun K i hk => hR.free q0 hk
            replace hR : RC G.2.2.1 h1 b u := hR.same hs1 (fun K i hk z => z.elim (hfree K i hk) (fun z => z.elim (fg K i hk) (fq K i hk)))
            refine lv_astore (lv' := [(7, .ref (a)), (6, .ref (b 7 s_10)), (5, .ref (b 7 v_2)), (0, .ref (b 14 0)), (1, .int (x)), (2, .int (ad)), (3, .int (vol)), (4, .int (ser))]) hx hb dX10_accept_103 hl (by decide) rfl (fun ls hl => ?_)
            refine lv_aload_n hx hb dX10_accept_105 rfl (lv_at hl 3 rfl) ?_
            refine c_getR C0 hH hR ci_14 (i := 0) (j := 2) rfl rfl (by decide) rfl fl_X10_19 (v := some (b 3 2)) rfl dX10_accept_106 ?_
            refine lv_aload hx hb dX10_accept_109 (lv_at hl 0 rfl) ?_
            have hok : ok u 3 2 := show 2 < 6 + npN u by omega
            refine k_i hH (k_runV (rest := []) C0 hH (cJ_Jx4a65c_add_9ea2d l G A h1 (b 3 2) a _ _ _ (hR.lsh hw hok) (by rw [k7]; unfold obK; omega)) mv_Jx4a65c_add_9ea2d ml_X10_93 ci_3 (hR.kind (K := 3) hok) rfl ⟨Nat.le_of_ble_eq_true rfl, Nat.le_of_ble_eq_true rfl⟩ hl.1 rfl (Nat.le_of_ble_eq_true rfl) dX10_accept_111 ⟨by show _ ≤ 4 + (UC (cAcc u x ad vol ser) - UC u); omega, by show _ ≤ 24 + (US (cAcc u x ad vol ser) - US u); omega⟩) (fun r h2 H locs hp2 hH => ?_)
            obtain ⟨er2, hp2⟩ := hp2
            subst er2
            obtain ⟨b, hbx, hba, hR⟩ := hR.addPar (vol := vol) (ser := ser) hw hn40 hv_2 hs_10 k7 k4 k1 hfree fg fq k8 k9 k10 k11 k16 k12 k13 k14 k15 k17 k18 k5 k6 k2 k3 hp2
            rw [← hbx 7 s_10 (by decide) hs_10, ← hbx 7 v_2 (by decide) hv_2, ← hbx 14 0 (by decide) rfl, ← hba] at hl
            replace hbe := hbe.trans (Gw.refl u) hbx
            obtain ⟨n0, hn0⟩ : ∃ z, z = npN u := ⟨_, rfl⟩
            rw [← hn0] at hl
            replace hw := hwL
            have hlw_n_12 := hw.lw
            have hgu_n_12 := hroom.1
            obtain ⟨U_n_12, hU_n_12⟩ : ∃ z, z = cPc u v_2 s_10 vol ser := ⟨_, rfl⟩
            rw [← hU_n_12] at hR hw hgu_n_12 hlw_n_12
            have hE_n_12 : UC U_n_12 = UC (cPc u v_2 s_10 vol ser) ∧ US U_n_12 = US (cPc u v_2 s_10 vol ser) := by rw [hU_n_12]; exact ⟨rfl, rfl⟩
            have hn_n_12 := hroom.2.2.2
            rw [← hU_n_12] at hn_n_12
            have hc7 := hw.cnt6 7
            have hc8 := hw.cnt6 8
            have hc9 := hw.cnt6 9
            replace hv_2 : v_2 < nhN U_n_12 := by rw [hn_n_12.1]; omega
            replace hs_10 : s_10 < nhN U_n_12 := by rw [hn_n_12.1]; omega
            have hn0U : n0 < npN U_n_12 := by rw [hn_n_12.2.2]; omega
            have h41 : U_n_12 41 0 = u 41 0 := by rw [hU_n_12]; unfold cPc; rw [cLs_k (by omega) (by omega), cPc0_k rfl]
            refine lv_pop hx hb dX10_accept_114 rfl ?_
            refine lv_aload hx hb dX10_accept_115 (lv_at hl 0 rfl) ?_
            refine lv_aload hx hb dX10_accept_117 (lv_at hl 2 rfl) ?_
            refine lv_aload_n hx hb dX10_accept_119 rfl (lv_at hl 3 rfl) ?_
            refine c_getI C0 hH hR ci_14 (i := 0) (j := 9) rfl rfl (by decide) rfl fl_X10_56 (v := u 41 0) (by show U_n_12 41 0 = _; simp [up, h41]) dX10_accept_120 ?_
            have hA0_n_13 : LG U_n_12 U_n_12 := (LG.refl U_n_12)
            have hA_n_13 := hA0_n_13 hlw_n_12
            have h1_n_13 := hA_n_13.2.1.le
            refine k_v hH (k_runV (rest := []) C0 hH (cC_X5_settle l G A _ b _ hR hw n0 v_2 (u 41 0) hn0U hv_2) mv_X5_settle ml_X10_167 ci_9 (hR.kind (K := 9) (i := n0) hn0U) rfl ⟨Nat.le_of_ble_eq_true rfl, Nat.le_of_ble_eq_true rfl⟩ hl.1 rfl (Nat.le_of_ble_eq_true rfl) dX10_accept_123 ⟨by show _ ≤ 4 + (UC (cAcc u x ad vol ser) - UC u); omega, by show _ ≤ 24 + (US (cAcc u x ad vol ser) - US u); omega⟩) (fun h H locs hp hH => ?_)
            obtain ⟨hR, hw⟩ := hp
            rw [← ev_2] at hR hw
            have hB0_n_13 : LG U_n_12 (cSettle U_n_12 n0 (x) (u 41 0)) := LG.settle
            have hB_n_13 := hB0_n_13 hA_n_13.1
            have h2_n_13 := hB_n_13.2.1.le
            have hgu_n_13 := (hgu_n_12.trans hA_n_13.2.1).trans hB_n_13.2.1
            have hlw_n_13 := hB_n_13.1
            obtain ⟨U_n_13, hU_n_13⟩ : ∃ z, z = (cSettle U_n_12 n0 (x) (u 41 0)) := ⟨_, rfl⟩
            rw [← hU_n_13] at hR hw hgu_n_13 hlw_n_13
            have hE_n_13 : UC U_n_13 = UC (cSettle U_n_12 n0 (x) (u 41 0)) ∧ US U_n_13 = US (cSettle U_n_12 n0 (x) (u 41 0)) := by rw [hU_n_13]; exact ⟨rfl, rfl⟩
            have hn_n_13 : nhN U_n_13 = nhN U_n_12 ∧ nlN U_n_13 = nlN U_n_12 ∧ npN U_n_13 = npN U_n_12 := by rw [hU_n_13]; exact ⟨hB_n_13.2.2.1.trans hA_n_13.2.2.1, hB_n_13.2.2.2.1.trans hA_n_13.2.2.2.1, hB_n_13.2.2.2.2.trans hA_n_13.2.2.2.2⟩
            have hc7 := hw.cnt6 7
            have hc8 := hw.cnt6 8
            have hc9 := hw.cnt6 9
            replace hv_2 : v_2 < nhN U_n_13 := by rw [hn_n_13.1]; exact hv_2
            replace hs_10 : s_10 < nhN U_n_13 := by rw [hn_n_13.1]; exact hs_10
            replace hn0U : n0 < npN U_n_13 := by rw [hn_n_13.2.2]; exact hn0U
            have hk_n_13 : ∀ k, stk k = true → U_n_13 k = U_n_12 k := fun k e9 => by rw [hU_n_13]; exact cSettle_k e9
            have hs15_n_13 : U_n_13 15 n0 = x := by rw [hU_n_13]; unfold cSettle; split <;> simp [up]
            have hs28_n_13 : U_n_13 28 n0 = 115 := by rw [hU_n_13]; unfold cSettle; split <;> simp [up]
            refine lv_aload hx hb dX10_accept_126 (lv_at hl 0 rfl) ?_
            refine c_getR C0 hH hR ci_9 (i := n0) (j := 5) hn0U rfl (by decide) rfl fl_X10_171 (v := some (b 6 n0)) rfl dX10_accept_128 ?_
            refine lv_bipush (v := 97) hx hb dX10_accept_131 (by decide) ?_
            refine lv_aload_n hx hb dX10_accept_133 rfl (lv_at hl 3 rfl) ?_
            refine c_getI C0 hH hR ci_14 (i := 0) (j := 9) rfl rfl (by decide) rfl fl_X10_56 (v := u 41 0) (by show U_n_13 41 0 = _; simp [up, hk_n_13 41 rfl, h41]) dX10_accept_134 ?_
            refine lv_aload hx hb dX10_accept_137 (lv_at hl 2 rfl) ?_
            refine lv_null hx hb dX10_accept_139 ?_
            have hA0_n_15 : LG U_n_13 U_n_13 := (LG.refl U_n_13)
            have hA_n_15 := hA0_n_15 hlw_n_13
            have h1_n_15 := hA_n_15.2.1.le
            have hB0_n_15 : LG U_n_13 (cNote U_n_13 n0 0 (u 41 0) v_2 (-1)) := (LG.note hn0U)
            have hB_n_15 := hB0_n_15 hA_n_15.1
            have hC0_n_15 : LG (cNote U_n_13 n0 0 (u 41 0) v_2 (-1)) (cAcc u x ad vol ser) := (by rw [show cAcc u x ad vol ser = cPlanP (cNote U_n_13 n0 0 (u 41 0) v_2 (-1)) n0 from by rw [hAM, hU_n_13, hU_n_12, hn0]]; exact LG.planP)
            have hC_n_15 := hC0_n_15 hB_n_15.1
            have h2_n_15 := hB_n_15.2.1.le
            have h3_n_15 := hC_n_15.2.1.le
            refine k_v hH (k_runV (rest := []) C0 hH (cC_X2_note_n l G A _ b _ hR hw n0 0 (u 41 0) v_2 hn0U (by decide) hv_2) mv_X2_note ml_X10_175 ci_6 (hR.kind (K := 6) (i := n0) hn0U) rfl ⟨Nat.le_of_ble_eq_true rfl, Nat.le_of_ble_eq_true rfl⟩ hl.1 rfl (Nat.le_of_ble_eq_true rfl) dX10_accept_140 ⟨by show _ ≤ 4 + (UC (cAcc u x ad vol ser) - UC u); omega, by show _ ≤ 24 + (US (cAcc u x ad vol ser) - US u); omega⟩) (fun h H locs hp hH => ?_)
            obtain ⟨b, hbx, hR, hw⟩ := hp
            rw [← hbx 9 n0 (by decide) hn0U, ← hbx 7 s_10 (by decide) hs_10, ← hbx 7 v_2 (by decide) hv_2, ← hbx 14 0 (by decide) rfl] at hl
            replace hbe := hbe.trans (hgu_n_13.trans hA_n_15.2.1) hbx
            have hgu_n_15 := (hgu_n_13.trans hA_n_15.2.1).trans hB_n_15.2.1
            have hlw_n_15 := hB_n_15.1
            obtain ⟨U_n_15, hU_n_15⟩ : ∃ z, z = (cNote U_n_13 n0 0 (u 41 0) v_2 (-1)) := ⟨_, rfl⟩
            rw [← hU_n_15] at hR hw hgu_n_15 hlw_n_15
            have hE_n_15 : UC U_n_15 = UC (cNote U_n_13 n0 0 (u 41 0) v_2 (-1)) ∧ US U_n_15 = US (cNote U_n_13 n0 0 (u 41 0) v_2 (-1)) := by rw [hU_n_15]; exact ⟨rfl, rfl⟩
            have hn_n_15 : nhN U_n_15 = nhN U_n_13 ∧ nlN U_n_15 = nlN U_n_13 ∧ npN U_n_15 = npN U_n_13 := by rw [hU_n_15]; exact ⟨hB_n_15.2.2.1.trans hA_n_15.2.2.1, hB_n_15.2.2.2.1.trans hA_n_15.2.2.2.1, hB_n_15.2.2.2.2.trans hA_n_15.2.2.2.2⟩
            have hc7 := hw.cnt6 7
            have hc8 := hw.cnt6 8
            have hc9 := hw.cnt6 9
            replace hv_2 : v_2 < nhN U_n_15 := by rw [hn_n_15.1]; exact hv_2
            replace hs_10 : s_10 < nhN U_n_15 := by rw [hn_n_15.1]; exact hs_10
            replace hn0U : n0 < npN U_n_15 := by rw [hn_n_15.2.2]; exact hn0U
            have hk_n_15 : ∀ k, nk k = true → U_n_15 k = U_n_13 k := fun k e9 => by rw [hU_n_15]; exact cNote_k e9
            refine lv_aload_n hx hb dX10_accept_143 rfl (lv_at hl 3 rfl) ?_
            refine lv_aload hx hb dX10_accept_144 (lv_at hl 0 rfl) ?_
            have hA0_n_16 : LG U_n_15 U_n_15 := (LG.refl U_n_15)
            have hA_n_16 := hA0_n_16 hlw_n_15
            have h1_n_16 := hA_n_16.2.1.le
            refine k_v hH (k_runV (rest := []) C0 hH (cC_X10_planWithPromise l G A _ b _ hR hw n0 hn0U) mv_X10_planWithPromise ml_X10_181 ci_14 (hR.kind (K := 14) (i := 0) rfl) rfl ⟨Nat.le_of_ble_eq_true rfl, Nat.le_of_ble_eq_true rfl⟩ hl.1 rfl (Nat.le_of_ble_eq_true rfl) dX10_accept_146 ⟨by show _ ≤ 4 + (UC (cAcc u x ad vol ser) - UC u); omega, by show _ ≤ 24 + (US (cAcc u x ad vol ser) - US u); omega⟩) (fun h H locs hp hH => ?_)
            obtain ⟨hR, hw⟩ := hp
            have hB0_n_16 : LG U_n_15 (cPlanP U_n_15 n0) := LG.planP
            have hB_n_16 := hB0_n_16 hA_n_16.1
            have h2_n_16 := hB_n_16.2.1.le
            have hgu_n_16 := (hgu_n_15.trans hA_n_16.2.1).trans hB_n_16.2.1
            have hlw_n_16 := hB_n_16.1
            obtain ⟨U_n_16, hU_n_16⟩ : ∃ z, z = (cPlanP U_n_15 n0) := ⟨_, rfl⟩
            rw [← hU_n_16] at hR hw hgu_n_16 hlw_n_16
            have hE_n_16 : UC U_n_16 = UC (cPlanP U_n_15 n0) ∧ US U_n_16 = US (cPlanP U_n_15 n0) := by rw [hU_n_16]; exact ⟨rfl, rfl⟩
            have hn_n_16 : nhN U_n_16 = nhN U_n_15 ∧ nlN U_n_16 = nlN U_n_15 ∧ npN U_n_16 = npN U_n_15 := by rw [hU_n_16]; exact ⟨hB_n_16.2.2.1.trans hA_n_16.2.2.1, hB_n_16.2.2.2.1.trans hA_n_16.2.2.2.1, hB_n_16.2.2.2.2.trans hA_n_16.2.2.2.2⟩
            have hc7 := hw.cnt6 7
            have hc8 := hw.cnt6 8
            have hc9 := hw.cnt6 9
            replace hv_2 : v_2 < nhN U_n_16 := by rw [hn_n_16.1]; exact hv_2
            replace hs_10 : s_10 < nhN U_n_16 := by rw [hn_n_16.1]; exact hs_10
            replace hn0U : n0 < npN U_n_16 := by rw [hn_n_16.2.2]; exact hn0U
            refine lv_aload hx hb dX10_accept_149 (lv_at hl 0 rfl) ?_
            refine c_getI C0 hH hR ci_9 (i := n0) (j := 0) hn0U rfl (by decide) rfl fl_X10_185 (v := nI n0) rfl dX10_accept_151 ?_
            have hA0_z : LG U_n_16 U_n_16 := (LG.refl U_n_16)
            have hA_z := hA0_z hlw_n_16
            have h1_z := hA_z.2.1.le
            have eM : (cAcc u x ad vol ser) = U_n_16 := by rw [hAM, hU_n_16, hU_n_15, hU_n_13, hU_n_12, hn0]
            refine vx_ret ?_
            have eR : (nI n0 : Int32) = nI (npN u) := by rw [hn0]
            exact e_I C0 hr hH ⟨hXn, eR, b, hbe, by rw [eM]; exact ⟨hR, hw⟩⟩ (by rw [eM]; omega) (by rw [eM]; omega) dX10_accept_154
          · exact k_throwS C0 hxt hlt hH thr_ISE (is := 160) (text := "no hub for it or too many parcels") (by decide) hl.1 dX10_accept_68 dX10_accept_71 dX10_accept_72 dX10_accept_74 dX10_accept_77 (Nat.le_of_ble_eq_true rfl) (Nat.le_of_ble_eq_true rfl) (by show _ ≤ 4 + (UC (cAcc u x ad vol ser) - UC u); omega) (by show _ ≤ 24 + (US (cAcc u x ad vol ser) - US u); omega) ⟨by unfold xAcc; rw [xo_n exr_1, if_neg (fun z => z.elim c11_4 (fun y9 => y9.elim (fun y8 => y8 c21_6) (fun y8 => y8 c31_8))), if_pos (Or.inr c65_11)]; rfl, rfl⟩ (hRc9 _ (by omega)) (hRs9 _ (by omega))
      · replace c31_8 := bi_0.mp c31_8
        exact k_throwS C0 hxt hlt hH thr_IAE (is := 158) (text := "no address, no volume or no service") (by decide) hl.1 dX10_accept_34 dX10_accept_37 dX10_accept_38 dX10_accept_40 dX10_accept_43 (Nat.le_of_ble_eq_true rfl) (Nat.le_of_ble_eq_true rfl) (by show _ ≤ 4 + (UC (cAcc u x ad vol ser) - UC u); omega) (by show _ ≤ 24 + (US (cAcc u x ad vol ser) - US u); omega) ⟨by unfold xAcc; rw [xo_n exr_1, if_pos (Or.inr (Or.inr c31_8))]; rfl, rfl⟩ (hRc9 _ (by omega)) (hRs9 _ (by omega))

