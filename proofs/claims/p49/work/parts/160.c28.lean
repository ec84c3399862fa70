set_option maxHeartbeats 800000 in
set_option maxRecDepth 100000 in
theorem cC_X10_openHub (l : Launch) (hlt : l.stackTraces = false) (G : GT) (A : Nat → Prop) (h : AH) (b0 : BA) (u : MM) (hR : RC G.2.2.1 h b0 u) (hw : WFc u) (x y : Int32) : cxI l G A yX10_openHub cX10_openHub 4 (Option.some FieldType.int) 7 191 (4 + (UC (cHb u x y) - UC u)) (24 + (US (cHb u x y) - US u)) [.ref (b0 14 0), .int (x), .int (y)] h (fun r h' => xOpH u x y = none ∧ r = nI (nhN u) ∧ ∃ b', BE u b0 b' ∧ RC G.2.2.1 h' b' (cHb u x y) ∧ WFc (cHb u x y)) (fun E h' => xOpH u x y = some E ∧ h' = h) := by
  refine cx_of "Routepost" rfl (by decide) (Nat.le_of_ble_eq_true rfl) ?_
  intro pr e s m9 below meth c C0 hxt hr hH ls hl
  obtain ⟨hx, hb, hml, hown, hts, hK, hA, -⟩ := id C0
  have hl : lv_has ls 4 [(0, .ref (b0 14 0)), (1, .int (x)), (2, .int (y))] := hl
  obtain ⟨b, hb0⟩ : ∃ z, z = b0 := ⟨_, rfl⟩
  rw [← hb0] at hR hl
  have hbe : BE u b0 b := by rw [hb0]; exact BE.refl u b0
  have hc7 := hw.cnt6 7
  have hc8 := hw.cnt6 8
  have hc9 := hw.cnt6 9
  have hw00 := hw
  have hRc9 : ∀ c, c ≤ 4 → c ≤ 4 + (UC (cHb u x y) - UC u) := fun c h9 => by omega
  have hRs9 : ∀ c, c ≤ 24 → c ≤ 24 + (US (cHb u x y) - US u) := fun c h9 => by omega
  refine lv_iload_n hx hb dX10_openHub_0 rfl (lv_at hl 1 rfl) ?_
  refine k_i hH (k_runS (rest := []) C0 hH (cC_X10_isCode l G A _ b _ hR hw x ) mv_X10_isCode ml_X10_60 rfl ⟨Nat.le_of_ble_eq_true rfl, Nat.le_of_ble_eq_true rfl⟩ hl.1 rfl (Nat.le_of_ble_eq_true rfl) dX10_openHub_1 ⟨by show _ ≤ 4 + (UC (cHb u x y) - UC u); omega, by show _ ≤ 24 + (US (cHb u x y) - US u); omega⟩) (fun r_1 h1 H locs hp hH => ?_)
  obtain ⟨er_1, eh⟩ := hp
  rw [eh] at hH
  clear eh
  subst er_1
  refine lv_if_eq (tgt := 17) hx hb dX10_openHub_4 (by decide) (fun c4_2 => ?_) (fun c4_2 => ?_)
  · exact k_throwS C0 hxt hlt hH thr_IAE (is := 70) (text := "no code or no cutoff") (by decide) hl.1 dX10_openHub_17 dX10_openHub_20 dX10_openHub_21 dX10_openHub_23 dX10_openHub_26 (Nat.le_of_ble_eq_true rfl) (Nat.le_of_ble_eq_true rfl) (by show _ ≤ 4 + (UC (cHb u x y) - UC u); omega) (by show _ ≤ 24 + (US (cHb u x y) - US u); omega) ⟨by unfold xOpH; rw [if_pos (Or.inl c4_2)]; rfl, rfl⟩ (hRc9 _ (by omega)) (hRs9 _ (by omega))
  · refine lv_iload_n hx hb dX10_openHub_7 rfl (lv_at hl 2 rfl) ?_
    refine lv_iconst (v := 1) hx hb dX10_openHub_8 (by decide) ?_
    refine lv_bipush (v := 20) hx hb dX10_openHub_9 (by decide) ?_
    refine k_i hH (k_runS (rest := []) C0 hH (cC_X10_isWithin l G A _ b _ hR hw y 1 20 ) mv_X10_isWithin ml_X10_64 rfl ⟨Nat.le_of_ble_eq_true rfl, Nat.le_of_ble_eq_true rfl⟩ hl.1 rfl (Nat.le_of_ble_eq_true rfl) dX10_openHub_11 ⟨by show _ ≤ 4 + (UC (cHb u x y) - UC u); omega, by show _ ≤ 24 + (US (cHb u x y) - US u); omega⟩) (fun r_3 h1 H locs hp hH => ?_)
    obtain ⟨er_3, eh⟩ := hp
    rw [eh] at hH
    clear eh
    subst er_3
    refine lv_if_ne (tgt := 27) hx hb dX10_openHub_14 (by decide) (fun c14_4 => ?_) (fun c14_4 => ?_)
    · replace c14_4 := bi_n0.mp c14_4
      refine lv_aload_n hx hb dX10_openHub_27 rfl (lv_at hl 0 rfl) ?_
      refine lv_iload_n hx hb dX10_openHub_28 rfl (lv_at hl 1 rfl) ?_
      refine k_q hH (k_runV (rest := []) C0 hH (cC_X10_hubWithCode l G A _ b _ hR hw x ) mv_X10_hubWithCode ml_X10_75 ci_14 (hR.kind (K := 14) (i := 0) rfl) rfl ⟨Nat.le_of_ble_eq_true rfl, Nat.le_of_ble_eq_true rfl⟩ hl.1 rfl (Nat.le_of_ble_eq_true rfl) dX10_openHub_29 ⟨by show _ ≤ 4 + (UC (cHb u x y) - UC u); omega, by show _ ≤ 24 + (US (cHb u x y) - US u); omega⟩) (fun r_5 h1 H locs hp hH => ?_)
      obtain ⟨er_5, eh⟩ := hp
      rw [eh] at hH
      clear eh
      subst er_5
      rcases (cHw_ok u x) with es_6 | ⟨s_6, hs_6, es_6⟩
      · have eds_6 : dec b 7 (cHw u x) = none := by rw [es_6]; exact dec_m1
        rw [eds_6]
        refine lv_ifnonnullN hx hb dX10_openHub_32 ?_
        refine lv_aload_n hx hb dX10_openHub_35 rfl (lv_at hl 0 rfl) ?_
        refine c_getR C0 hH hR ci_14 (i := 0) (j := 0) rfl rfl (by decide) rfl fl_X10_12 (v := some (b 3 0)) rfl dX10_openHub_36 ?_
        refine k_i hH (k_runV (rest := []) C0 hH (cL_size l G A _ b _ hR hw 0 (show 0 < 6 + npN _ by omega)) mv_Jx4a65c_size_8abf5 ml_X10_79 ci_3 (hR.kind (K := 3) (i := 0) (show 0 < 6 + npN _ by omega)) rfl ⟨Nat.le_of_ble_eq_true rfl, Nat.le_of_ble_eq_true rfl⟩ hl.1 rfl (Nat.le_of_ble_eq_true rfl) dX10_openHub_39 ⟨by show _ ≤ 4 + (UC (cHb u x y) - UC u); omega, by show _ ≤ 24 + (US (cHb u x y) - US u); omega⟩) (fun r9 h1 H locs hp hH => ?_)
        obtain ⟨er9, eh⟩ := hp
        rw [eh] at hH
        clear eh
        rw [hw.sz0] at er9
        subst er9
        refine lv_bipush (v := 6) hx hb dX10_openHub_42 (by decide) ?_
        refine lv_icmp_lt (tgt := 57) hx hb dX10_openHub_44 (by decide) (fun c44_7 => ?_) (fun c44_7 => ?_)
        · have hn6 : nhN u < 6 := nI_ltC (by have := hw.nh; omega) (by omega) (show nI (nhN u) < nI 6 from c44_7)
          have hXn : xOpH u x y = none := by unfold xOpH; rw [if_neg (fun z => z.elim c4_2 (fun y9 => y9 c14_4)), if_neg (fun z => z.elim (fun y9 => y9 es_6) (fun y9 => y9 c44_7))]
          have hroom := room_hub (cd := x) (co := y) hw hn6
          refine o_new hx hb hts hown hK hA hH ci_7 cl_X10_88 im_X3 in_X3 (fun j hj => by rcases (by omega : j = 0 ∨ j = 1 ∨ j = 2) with rfl | rfl | rfl <;> rfl) (by show _ ≤ 4 + (UC (cHb u x y) - UC u); omega) (by show _ ≤ 24 + (US (cHb u x y) - US u); omega) dX10_openHub_57 (fun a H1 hq0 hqs hH => ?_)
          have hfree : ∀ K i, ok u K i → b K i ≠ a := fun K i hk => hR.free hq0 hk
          replace hR : RC G.2.2.1 (pN h a 7 0) b u := hR.same (SameX.pN h a 7 0) hfree
          obtain ⟨h0, hh0⟩ : ∃ z, z = pN h a 7 0 := ⟨_, rfl⟩
          rw [← hh0] at hH hR
          have hka : aK h0 a = 7 := by rw [hh0, aK_pN, if_pos rfl]
          have hza1 : ∀ j, aI h0 j a = 0 := fun j => by rw [hh0, aI_pN, if_pos rfl]
          have hza2 : ∀ j, aR h0 j a = none := fun j => by rw [hh0, aR_pN, if_pos rfl]
          refine lv_dup hx hb dX10_openHub_60 rfl ?_
          refine lv_aload_n hx hb dX10_openHub_61 rfl (lv_at hl 0 rfl) ?_
          refine c_getR C0 hH hR ci_14 (i := 0) (j := 0) rfl rfl (by decide) rfl fl_X10_12 (v := some (b 3 0)) rfl dX10_openHub_62 ?_
          refine k_i hH (k_runV (rest := [.ref (a), .ref (a)]) C0 hH (cL_size l G A _ b _ hR hw 0 (show 0 < 6 + npN _ by omega)) mv_Jx4a65c_size_8abf5 ml_X10_79 ci_3 (hR.kind (K := 3) (i := 0) (show 0 < 6 + npN _ by omega)) rfl ⟨Nat.le_of_ble_eq_true rfl, Nat.le_of_ble_eq_true rfl⟩ hl.1 rfl (Nat.le_of_ble_eq_true rfl) dX10_openHub_65 ⟨by show _ ≤ 4 + (UC (cHb u x y) - UC u); omega, by show _ ≤ 24 + (US (cHb u x y) - US u); omega⟩) (fun r9 h1 H locs hp hH => ?_)
          obtain ⟨er9, eh⟩ := hp
          rw [eh] at hH
          clear eh
          rw [hw.sz0] at er9
          subst er9
          refine lv_iload_n hx hb dX10_openHub_68 rfl (lv_at hl 1 rfl) ?_
          refine lv_iload_n hx hb dX10_openHub_69 rfl (lv_at hl 2 rfl) ?_
          refine k_v hH (k_runI (rest := [.ref a]) C0 hH (cC_X3_init l G A h0 a (nhN u) x y hka) mv_X3_init ml_X10_90 rfl ⟨Nat.le_of_ble_eq_true rfl, Nat.le_of_ble_eq_true rfl⟩ hl.1 rfl (Nat.le_of_ble_eq_true rfl) dX10_openHub_70 ⟨by show _ ≤ 4 + (UC (cHb u x y) - UC u); omega, by show _ ≤ 24 + (US (cHb u x y) - US u); omega⟩) (fun h1 H locs hp1 hH => ?_)
          have hs1 : SameX h0 h1 (· = a) := by rw [hp1]; exact (((SameX.pI h0 0 a _).trans (SameX.pI _ 1 a x)).trans (SameX.pI _ 2 a y)).mono (fun y hy => hy.elim (fun z => z.elim id id) id)
          replace hR : RC G.2.2.1 h1 b u := hR.same hs1 hfree
          have f1 : aK h1 a = 7 := by rw [hp1]; exact hka
          have f2 : aI h1 0 a = nI (nhN u) := by rw [hp1, aI_pI, if_neg (by omega), aI_pI, if_neg (by omega), aI_pI, if_pos ⟨rfl, rfl⟩]
          have f3 : aI h1 1 a = x := by rw [hp1, aI_pI, if_neg (by omega), aI_pI, if_pos ⟨rfl, rfl⟩]
          have f4 : aI h1 2 a = y := by rw [hp1, aI_pI, if_pos ⟨rfl, rfl⟩]
          refine lv_astore_n (lv' := [(3, .ref (a)), (0, .ref (b 14 0)), (1, .int (x)), (2, .int (y))]) hx hb dX10_openHub_73 rfl hl (by decide) rfl (fun ls hl => ?_)
          refine lv_aload_n hx hb dX10_openHub_74 rfl (lv_at hl 1 rfl) ?_
          refine c_getR C0 hH hR ci_14 (i := 0) (j := 0) rfl rfl (by decide) rfl fl_X10_12 (v := some (b 3 0)) rfl dX10_openHub_75 ?_
          refine lv_aload_n hx hb dX10_openHub_78 rfl (lv_at hl 0 rfl) ?_
          have hok : ok u 3 0 := show 0 < 6 + npN u by omega
          refine k_i hH (k_runV (rest := []) C0 hH (cJ_Jx4a65c_add_9ea2d l G A h1 (b 3 0) a _ _ _ (hR.lsh hw hok) (by rw [f1]; unfold obK; omega)) mv_Jx4a65c_add_9ea2d ml_X10_93 ci_3 (hR.kind (K := 3) hok) rfl ⟨Nat.le_of_ble_eq_true rfl, Nat.le_of_ble_eq_true rfl⟩ hl.1 rfl (Nat.le_of_ble_eq_true rfl) dX10_openHub_79 ⟨by show _ ≤ 4 + (UC (cHb u x y) - UC u); omega, by show _ ≤ 24 + (US (cHb u x y) - US u); omega⟩) (fun r h2 H locs hp2 hH => ?_)
          obtain ⟨er2, hp2⟩ := hp2
          subst er2
          obtain ⟨b, hbx, hba, hR⟩ := hR.addHub hw hn6 f1 hfree f2 f3 f4 hp2
          rw [← hbx 14 0 (by decide) rfl, ← hba] at hl
          replace hbe := hbe.trans (Gw.refl u) hbx
          obtain ⟨n0, hn0⟩ : ∃ z, z = nhN u := ⟨_, rfl⟩
          rw [← hn0] at hl
          replace hw := hw.addH (cd := x) (co := y) hn6
          have hlw_n_8 := hw.lw
          have hgu_n_8 := hroom.1
          obtain ⟨U_n_8, hU_n_8⟩ : ∃ z, z = cHb u x y := ⟨_, rfl⟩
          rw [← hU_n_8] at hR hw hgu_n_8 hlw_n_8
          have hE_n_8 : UC U_n_8 = UC (cHb u x y) ∧ US U_n_8 = US (cHb u x y) := by rw [hU_n_8]; exact ⟨rfl, rfl⟩
          have hn_n_8 := hroom.2.2.2
          rw [← hU_n_8] at hn_n_8
          have hc7 := hw.cnt6 7
          have hc8 := hw.cnt6 8
          have hc9 := hw.cnt6 9
          have hn0U : n0 < nhN U_n_8 := by rw [hn_n_8.1]; omega
          refine lv_pop hx hb dX10_openHub_82 rfl ?_
          refine lv_aload_n hx hb dX10_openHub_83 rfl (lv_at hl 0 rfl) ?_
          refine c_getI C0 hH hR ci_7 (i := n0) (j := 0) hn0U rfl (by decide) rfl fl_X10_97 (v := nI n0) rfl dX10_openHub_84 ?_
          have hA0_z : LG U_n_8 U_n_8 := (LG.refl U_n_8)
          have hA_z := hA0_z hlw_n_8
          have h1_z := hA_z.2.1.le
          have eM : (cHb u x y) = U_n_8 := hU_n_8.symm
          refine vx_ret ?_
          have eR : (nI n0 : Int32) = nI (nhN u) := by rw [hn0]
          exact e_I C0 hr hH ⟨hXn, eR, b, hbe, by rw [eM]; exact ⟨hR, hw⟩⟩ (by rw [eM]; omega) (by rw [eM]; omega) dX10_openHub_87
        · exact k_throwS C0 hxt hlt hH thr_ISE (is := 85) (text := "code taken or too many hubs") (by decide) hl.1 dX10_openHub_47 dX10_openHub_50 dX10_openHub_51 dX10_openHub_53 dX10_openHub_56 (Nat.le_of_ble_eq_true rfl) (Nat.le_of_ble_eq_true rfl) (by show _ ≤ 4 + (UC (cHb u x y) - UC u); omega) (by show _ ≤ 24 + (US (cHb u x y) - US u); omega) ⟨by unfold xOpH; rw [if_neg (fun z => z.elim c4_2 (fun y9 => y9 c14_4)), if_pos (Or.inr c44_7)]; rfl, rfl⟩ (hRc9 _ (by omega)) (hRs9 _ (by omega))
      · have eds_6 : dec b 7 (cHw u x) = some (b 7 s_6) := by rw [es_6]; exact dec_nI (by have := hc7; have h9 : s_6 < cnt u 7 := hs_6; omega)
        have ks_6 : (cHw u x).toNatClampNeg = s_6 := by rw [es_6]; exact nI_clamp (by have := hc7; have h9 : s_6 < cnt u 7 := hs_6; omega)
        have ns_6 : ¬ (cHw u x) = -1 := by rw [es_6]; exact nI_nm (by have := hc7; have h9 : s_6 < cnt u 7 := hs_6; omega)
        rw [eds_6]
        refine lv_ifnonnull (tgt := 47) hx hb dX10_openHub_32 (by decide) ?_
        exact k_throwS C0 hxt hlt hH thr_ISE (is := 85) (text := "code taken or too many hubs") (by decide) hl.1 dX10_openHub_47 dX10_openHub_50 dX10_openHub_51 dX10_openHub_53 dX10_openHub_56 (Nat.le_of_ble_eq_true rfl) (Nat.le_of_ble_eq_true rfl) (by show _ ≤ 4 + (UC (cHb u x y) - UC u); omega) (by show _ ≤ 24 + (US (cHb u x y) - US u); omega) ⟨by unfold xOpH; rw [if_neg (fun z => z.elim c4_2 (fun y9 => y9 c14_4)), if_pos (Or.inl ns_6)]; rfl, rfl⟩ (hRc9 _ (by omega)) (hRs9 _ (by omega))
    · replace c14_4 := bi_0.mp c14_4
      exact k_throwS C0 hxt hlt hH thr_IAE (is := 70) (text := "no code or no cutoff") (by decide) hl.1 dX10_openHub_17 dX10_openHub_20 dX10_openHub_21 dX10_openHub_23 dX10_openHub_26 (Nat.le_of_ble_eq_true rfl) (Nat.le_of_ble_eq_true rfl) (by show _ ≤ 4 + (UC (cHb u x y) - UC u); omega) (by show _ ≤ 24 + (US (cHb u x y) - US u); omega) ⟨by unfold xOpH; rw [if_pos (Or.inr c14_4)]; rfl, rfl⟩ (hRc9 _ (by omega)) (hRs9 _ (by omega))

