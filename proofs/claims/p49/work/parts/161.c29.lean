set_option maxHeartbeats 800000 in
set_option maxRecDepth 100000 in
theorem cC_X10_addLine (l : Launch) (hlt : l.stackTraces = false) (G : GT) (A : Nat → Prop) (h : AH) (b0 : BA) (u : MM) (hR : RC G.2.2.1 h b0 u) (hw : WFc u) (x y f per tr mb : Int32) : cxI l G A yX10_addLine cX10_addLine 10 (Option.some FieldType.int) 7 191 (4 + (UC (cAddM u x y f per tr mb) - UC u)) (24 + (US (cAddM u x y f per tr mb) - US u)) [.ref (b0 14 0), .int (x), .int (y), .int (f), .int (per), .int (tr), .int (mb)] h (fun r h' => xAdd u x y f per tr mb = none ∧ r = nI (nlN u) ∧ ∃ b', BE u b0 b' ∧ RC G.2.2.1 h' b' (cAddM u x y f per tr mb) ∧ WFc (cAddM u x y f per tr mb)) (fun E h' => xAdd u x y f per tr mb = some E ∧ h' = h) := by
  refine cx_of "Routepost" rfl (by decide) (Nat.le_of_ble_eq_true rfl) ?_
  intro pr e s m9 below meth c C0 hxt hr hH ls hl
  obtain ⟨hx, hb, hml, hown, hts, hK, hA, -⟩ := id C0
  have hl : lv_has ls 10 [(0, .ref (b0 14 0)), (1, .int (x)), (2, .int (y)), (3, .int (f)), (4, .int (per)), (5, .int (tr)), (6, .int (mb))] := hl
  obtain ⟨b, hb0⟩ : ∃ z, z = b0 := ⟨_, rfl⟩
  rw [← hb0] at hR hl
  have hbe : BE u b0 b := by rw [hb0]; exact BE.refl u b0
  have hc7 := hw.cnt6 7
  have hc8 := hw.cnt6 8
  have hc9 := hw.cnt6 9
  have hw00 := hw
  have hRc9 : ∀ c, c ≤ 4 → c ≤ 4 + (UC (cAddM u x y f per tr mb) - UC u) := fun c h9 => by omega
  have hRs9 : ∀ c, c ≤ 24 → c ≤ 24 + (US (cAddM u x y f per tr mb) - US u) := fun c h9 => by omega
  refine lv_aload_n hx hb dX10_addLine_0 rfl (lv_at hl 0 rfl) ?_
  refine lv_iload_n hx hb dX10_addLine_1 rfl (lv_at hl 1 rfl) ?_
  refine k_xq C0 hxt hH (k_xrunV (rest := []) C0 hH (cC_X10_hubNumbered l hlt G A _ b _ hR hw x ) mv_X10_hubNumbered ml_X10_100 ci_14 (hR.kind (K := 14) (i := 0) rfl) rfl ⟨Nat.le_of_ble_eq_true rfl, Nat.le_of_ble_eq_true rfl⟩ hl.1 rfl (Nat.le_of_ble_eq_true rfl) dX10_addLine_2 ⟨by show _ ≤ 4 + (UC (cAddM u x y f per tr mb) - UC u); omega, by show _ ≤ 24 + (US (cAddM u x y f per tr mb) - US u); omega⟩) (fun E h9 z => ⟨by unfold xAdd; exact xo_s z.1, z.2⟩) (hRc9 _ (by omega)) (hRs9 _ (by omega)) (fun r_1 h1 H locs hp hH => ?_)
  obtain ⟨exr_1, er_1, eh⟩ := hp
  rw [eh] at hH
  clear eh
  have vpv_2 : vp_in (x) (nhN u) := (xHb_n hw).mp exr_1
  obtain ⟨v_2, hv_2, ev_2⟩ := vp_ex vpv_2 (by have := hw.nh; have := hw.nl; have := hw.np; omega)
  have kv_2 : (x).toNatClampNeg = v_2 := by rw [ev_2]; exact nI_clamp (by have := hw.nh; have := hw.nl; have := hw.np; omega)
  rw [show dec b 7 (x) = some (b 7 v_2) from by rw [ev_2]; exact dec_nI (by have := hw.nh; have := hw.nl; have := hw.np; omega)] at er_1
  subst er_1
  refine lv_astore (lv' := [(7, .ref (b 7 v_2)), (0, .ref (b 14 0)), (1, .int (x)), (2, .int (y)), (3, .int (f)), (4, .int (per)), (5, .int (tr)), (6, .int (mb))]) hx hb dX10_addLine_5 hl (by decide) rfl (fun ls hl => ?_)
  refine lv_aload_n hx hb dX10_addLine_7 rfl (lv_at hl 1 rfl) ?_
  refine lv_iload_n hx hb dX10_addLine_8 rfl (lv_at hl 3 rfl) ?_
  refine k_xq C0 hxt hH (k_xrunV (rest := []) C0 hH (cC_X10_hubNumbered l hlt G A _ b _ hR hw y ) mv_X10_hubNumbered ml_X10_100 ci_14 (hR.kind (K := 14) (i := 0) rfl) rfl ⟨Nat.le_of_ble_eq_true rfl, Nat.le_of_ble_eq_true rfl⟩ hl.1 rfl (Nat.le_of_ble_eq_true rfl) dX10_addLine_9 ⟨by show _ ≤ 4 + (UC (cAddM u x y f per tr mb) - UC u); omega, by show _ ≤ 24 + (US (cAddM u x y f per tr mb) - US u); omega⟩) (fun E h9 z => ⟨by unfold xAdd; rw [xo_n exr_1]; exact xo_s z.1, z.2⟩) (hRc9 _ (by omega)) (hRs9 _ (by omega)) (fun r_3 h1 H locs hp hH => ?_)
  obtain ⟨exr_3, er_3, eh⟩ := hp
  rw [eh] at hH
  clear eh
  have vpv_4 : vp_in (y) (nhN u) := (xHb_n hw).mp exr_3
  obtain ⟨v_4, hv_4, ev_4⟩ := vp_ex vpv_4 (by have := hw.nh; have := hw.nl; have := hw.np; omega)
  have kv_4 : (y).toNatClampNeg = v_4 := by rw [ev_4]; exact nI_clamp (by have := hw.nh; have := hw.nl; have := hw.np; omega)
  rw [show dec b 7 (y) = some (b 7 v_4) from by rw [ev_4]; exact dec_nI (by have := hw.nh; have := hw.nl; have := hw.np; omega)] at er_3
  subst er_3
  refine lv_astore (lv' := [(8, .ref (b 7 v_4)), (7, .ref (b 7 v_2)), (0, .ref (b 14 0)), (1, .int (x)), (2, .int (y)), (3, .int (f)), (4, .int (per)), (5, .int (tr)), (6, .int (mb))]) hx hb dX10_addLine_12 hl (by decide) rfl (fun ls hl => ?_)
  refine lv_aload hx hb dX10_addLine_14 (lv_at hl 1 rfl) ?_
  refine lv_aload hx hb dX10_addLine_16 (lv_at hl 0 rfl) ?_
  refine lv_acmp_eq (rx := some (b 7 v_2)) (ry := some (b 7 v_4)) (tgt := 63) hx hb dX10_addLine_18 (by decide) (fun c18_5 => ?_) (fun c18_5 => ?_)
  · rw [hR.acR hw (T := 7) (by omega) hv_2 hv_4] at c18_5
    rw [← ev_2] at c18_5
    rw [← ev_4] at c18_5
    exact k_throwS C0 hxt hlt hH thr_IAE (is := 103) (text := "no such line can be") (by decide) hl.1 dX10_addLine_63 dX10_addLine_66 dX10_addLine_67 dX10_addLine_69 dX10_addLine_72 (Nat.le_of_ble_eq_true rfl) (Nat.le_of_ble_eq_true rfl) (by show _ ≤ 4 + (UC (cAddM u x y f per tr mb) - UC u); omega) (by show _ ≤ 24 + (US (cAddM u x y f per tr mb) - US u); omega) ⟨by unfold xAdd; rw [xo_n exr_1, xo_n exr_3, if_pos (fun z => z.1 c18_5)]; rfl, rfl⟩ (hRc9 _ (by omega)) (hRs9 _ (by omega))
  · rw [hR.acR hw (T := 7) (by omega) hv_2 hv_4] at c18_5
    rw [← ev_2] at c18_5
    rw [← ev_4] at c18_5
    refine lv_iload_n hx hb dX10_addLine_21 rfl (lv_at hl 5 rfl) ?_
    refine lv_iconst (v := 0) hx hb dX10_addLine_22 (by decide) ?_
    refine lv_bipush (v := 59) hx hb dX10_addLine_23 (by decide) ?_
    refine k_i hH (k_runS (rest := []) C0 hH (cC_X10_isWithin l G A _ b _ hR hw f 0 59 ) mv_X10_isWithin ml_X10_64 rfl ⟨Nat.le_of_ble_eq_true rfl, Nat.le_of_ble_eq_true rfl⟩ hl.1 rfl (Nat.le_of_ble_eq_true rfl) dX10_addLine_25 ⟨by show _ ≤ 4 + (UC (cAddM u x y f per tr mb) - UC u); omega, by show _ ≤ 24 + (US (cAddM u x y f per tr mb) - US u); omega⟩) (fun r_6 h1 H locs hp hH => ?_)
    obtain ⟨er_6, eh⟩ := hp
    rw [eh] at hH
    clear eh
    subst er_6
    refine lv_if_eq (tgt := 63) hx hb dX10_addLine_28 (by decide) (fun c28_7 => ?_) (fun c28_7 => ?_)
    · replace c28_7 := bi_0.mp c28_7
      exact k_throwS C0 hxt hlt hH thr_IAE (is := 103) (text := "no such line can be") (by decide) hl.1 dX10_addLine_63 dX10_addLine_66 dX10_addLine_67 dX10_addLine_69 dX10_addLine_72 (Nat.le_of_ble_eq_true rfl) (Nat.le_of_ble_eq_true rfl) (by show _ ≤ 4 + (UC (cAddM u x y f per tr mb) - UC u); omega) (by show _ ≤ 24 + (US (cAddM u x y f per tr mb) - US u); omega) ⟨by unfold xAdd; rw [xo_n exr_1, xo_n exr_3, if_pos (fun z => c28_7 z.2.1)]; rfl, rfl⟩ (hRc9 _ (by omega)) (hRs9 _ (by omega))
    · replace c28_7 := bi_n0.mp c28_7
      refine lv_iload hx hb dX10_addLine_31 (lv_at hl 6 rfl) ?_
      refine lv_iconst (v := 5) hx hb dX10_addLine_33 (by decide) ?_
      refine lv_bipush (v := 60) hx hb dX10_addLine_34 (by decide) ?_
      refine k_i hH (k_runS (rest := []) C0 hH (cC_X10_isWithin l G A _ b _ hR hw per 5 60 ) mv_X10_isWithin ml_X10_64 rfl ⟨Nat.le_of_ble_eq_true rfl, Nat.le_of_ble_eq_true rfl⟩ hl.1 rfl (Nat.le_of_ble_eq_true rfl) dX10_addLine_36 ⟨by show _ ≤ 4 + (UC (cAddM u x y f per tr mb) - UC u); omega, by show _ ≤ 24 + (US (cAddM u x y f per tr mb) - US u); omega⟩) (fun r_8 h1 H locs hp hH => ?_)
      obtain ⟨er_8, eh⟩ := hp
      rw [eh] at hH
      clear eh
      subst er_8
      refine lv_if_eq (tgt := 63) hx hb dX10_addLine_39 (by decide) (fun c39_9 => ?_) (fun c39_9 => ?_)
      · replace c39_9 := bi_0.mp c39_9
        exact k_throwS C0 hxt hlt hH thr_IAE (is := 103) (text := "no such line can be") (by decide) hl.1 dX10_addLine_63 dX10_addLine_66 dX10_addLine_67 dX10_addLine_69 dX10_addLine_72 (Nat.le_of_ble_eq_true rfl) (Nat.le_of_ble_eq_true rfl) (by show _ ≤ 4 + (UC (cAddM u x y f per tr mb) - UC u); omega) (by show _ ≤ 24 + (US (cAddM u x y f per tr mb) - US u); omega) ⟨by unfold xAdd; rw [xo_n exr_1, xo_n exr_3, if_pos (fun z => c39_9 z.2.2.1)]; rfl, rfl⟩ (hRc9 _ (by omega)) (hRs9 _ (by omega))
      · replace c39_9 := bi_n0.mp c39_9
        refine lv_iload hx hb dX10_addLine_42 (lv_at hl 7 rfl) ?_
        refine lv_iconst (v := 1) hx hb dX10_addLine_44 (by decide) ?_
        refine lv_bipush (v := 60) hx hb dX10_addLine_45 (by decide) ?_
        refine k_i hH (k_runS (rest := []) C0 hH (cC_X10_isWithin l G A _ b _ hR hw tr 1 60 ) mv_X10_isWithin ml_X10_64 rfl ⟨Nat.le_of_ble_eq_true rfl, Nat.le_of_ble_eq_true rfl⟩ hl.1 rfl (Nat.le_of_ble_eq_true rfl) dX10_addLine_47 ⟨by show _ ≤ 4 + (UC (cAddM u x y f per tr mb) - UC u); omega, by show _ ≤ 24 + (US (cAddM u x y f per tr mb) - US u); omega⟩) (fun r_10 h1 H locs hp hH => ?_)
        obtain ⟨er_10, eh⟩ := hp
        rw [eh] at hH
        clear eh
        subst er_10
        refine lv_if_eq (tgt := 63) hx hb dX10_addLine_50 (by decide) (fun c50_11 => ?_) (fun c50_11 => ?_)
        · replace c50_11 := bi_0.mp c50_11
          exact k_throwS C0 hxt hlt hH thr_IAE (is := 103) (text := "no such line can be") (by decide) hl.1 dX10_addLine_63 dX10_addLine_66 dX10_addLine_67 dX10_addLine_69 dX10_addLine_72 (Nat.le_of_ble_eq_true rfl) (Nat.le_of_ble_eq_true rfl) (by show _ ≤ 4 + (UC (cAddM u x y f per tr mb) - UC u); omega) (by show _ ≤ 24 + (US (cAddM u x y f per tr mb) - US u); omega) ⟨by unfold xAdd; rw [xo_n exr_1, xo_n exr_3, if_pos (fun z => c50_11 z.2.2.2.1)]; rfl, rfl⟩ (hRc9 _ (by omega)) (hRs9 _ (by omega))
        · replace c50_11 := bi_n0.mp c50_11
          refine lv_iload hx hb dX10_addLine_53 (lv_at hl 8 rfl) ?_
          refine lv_iconst (v := 1) hx hb dX10_addLine_55 (by decide) ?_
          refine lv_iconst (v := 4) hx hb dX10_addLine_56 (by decide) ?_
          refine k_i hH (k_runS (rest := []) C0 hH (cC_X10_isWithin l G A _ b _ hR hw mb 1 4 ) mv_X10_isWithin ml_X10_64 rfl ⟨Nat.le_of_ble_eq_true rfl, Nat.le_of_ble_eq_true rfl⟩ hl.1 rfl (Nat.le_of_ble_eq_true rfl) dX10_addLine_57 ⟨by show _ ≤ 4 + (UC (cAddM u x y f per tr mb) - UC u); omega, by show _ ≤ 24 + (US (cAddM u x y f per tr mb) - US u); omega⟩) (fun r_12 h1 H locs hp hH => ?_)
          obtain ⟨er_12, eh⟩ := hp
          rw [eh] at hH
          clear eh
          subst er_12
          refine lv_if_ne (tgt := 73) hx hb dX10_addLine_60 (by decide) (fun c60_13 => ?_) (fun c60_13 => ?_)
          · replace c60_13 := bi_n0.mp c60_13
            refine lv_aload_n hx hb dX10_addLine_73 rfl (lv_at hl 2 rfl) ?_
            refine c_getR C0 hH hR ci_14 (i := 0) (j := 1) rfl rfl (by decide) rfl fl_X10_16 (v := some (b 3 1)) rfl dX10_addLine_74 ?_
            refine k_i hH (k_runV (rest := []) C0 hH (cL_size l G A _ b _ hR hw 1 (show 1 < 6 + npN _ by omega)) mv_Jx4a65c_size_8abf5 ml_X10_79 ci_3 (hR.kind (K := 3) (i := 1) (show 1 < 6 + npN _ by omega)) rfl ⟨Nat.le_of_ble_eq_true rfl, Nat.le_of_ble_eq_true rfl⟩ hl.1 rfl (Nat.le_of_ble_eq_true rfl) dX10_addLine_77 ⟨by show _ ≤ 4 + (UC (cAddM u x y f per tr mb) - UC u); omega, by show _ ≤ 24 + (US (cAddM u x y f per tr mb) - US u); omega⟩) (fun r9 h1 H locs hp hH => ?_)
            obtain ⟨er9, eh⟩ := hp
            rw [eh] at hH
            clear eh
            rw [hw.sz1] at er9
            subst er9
            refine lv_bipush (v := 12) hx hb dX10_addLine_80 (by decide) ?_
            refine lv_icmp_lt (tgt := 95) hx hb dX10_addLine_82 (by decide) (fun c82_14 => ?_) (fun c82_14 => ?_)
            · have hn12 : nlN u < 12 := nI_ltC (by have := hw.nl; omega) (by omega) (show nI (nlN u) < nI 12 from c82_14)
              have hXn : xAdd u x y f per tr mb = none := by unfold xAdd; rw [xo_n exr_1, xo_n exr_3, if_neg (fun z => z ⟨c18_5, c28_7, c39_9, c50_11, c60_13⟩), if_neg (fun z => z c82_14)]
              have hroom := room_lin (x := v_2) (y := v_4) (f := f) (per := per) (tr := tr) (mb := mb) hw hn12
              have hwL := hw.addLn (f := f) (per := per) (tr := tr) (mb := mb) hn12 hv_2 hv_4
              have hAM : cAddM u x y f per tr mb = cPlA (cLn u v_2 v_4 f per tr mb) := by unfold cAddM; rw [kv_2, kv_4]
              have hC0 : LG (cLn u v_2 v_4 f per tr mb) (cAddM u x y f per tr mb) := by rw [hAM]; exact LG.planA
              have hC := (hC0 hwL.lw).2.1.le
              refine o_new hx hb hts hown hK hA hH ci_8 cl_X10_107 im_X4 in_X4 (fun j hj => by rcases (by omega : j = 0 ∨ j = 1 ∨ j = 2 ∨ j = 3 ∨ j = 4 ∨ j = 5 ∨ j = 6 ∨ j = 7 ∨ j = 8) with rfl | rfl | rfl | rfl | rfl | rfl | rfl | rfl | rfl <;> rfl) (by show _ ≤ 4 + (UC (cAddM u x y f per tr mb) - UC u); omega) (by show _ ≤ 24 + (US (cAddM u x y f per tr mb) - US u); omega) dX10_addLine_95 (fun a H1 hq0 hqs hH => ?_)
              have hfree : ∀ K i, ok u K i → b K i ≠ a := fun K i hk => hR.free hq0 hk
              replace hR : RC G.2.2.1 (pN h a 8 0) b u := hR.same (SameX.pN h a 8 0) hfree
              obtain ⟨h0, hh0⟩ : ∃ z, z = pN h a 8 0 := ⟨_, rfl⟩
              rw [← hh0] at hH hR
              have hka : aK h0 a = 8 := by rw [hh0, aK_pN, if_pos rfl]
              have hza1 : ∀ j, aI h0 j a = 0 := fun j => by rw [hh0, aI_pN, if_pos rfl]
              have hza2 : ∀ j, aR h0 j a = none := fun j => by rw [hh0, aR_pN, if_pos rfl]
              refine lv_dup hx hb dX10_addLine_98 rfl ?_
              refine lv_aload_n hx hb dX10_addLine_99 rfl (lv_at hl 2 rfl) ?_
              refine c_getR C0 hH hR ci_14 (i := 0) (j := 1) rfl rfl (by decide) rfl fl_X10_16 (v := some (b 3 1)) rfl dX10_addLine_100 ?_
              refine k_i hH (k_runV (rest := [.ref (a), .ref (a)]) C0 hH (cL_size l G A _ b _ hR hw 1 (show 1 < 6 + npN _ by omega)) mv_Jx4a65c_size_8abf5 ml_X10_79 ci_3 (hR.kind (K := 3) (i := 1) (show 1 < 6 + npN _ by omega)) rfl ⟨Nat.le_of_ble_eq_true rfl, Nat.le_of_ble_eq_true rfl⟩ hl.1 rfl (Nat.le_of_ble_eq_true rfl) dX10_addLine_103 ⟨by show _ ≤ 4 + (UC (cAddM u x y f per tr mb) - UC u); omega, by show _ ≤ 24 + (US (cAddM u x y f per tr mb) - US u); omega⟩) (fun r9 h1 H locs hp hH => ?_)
              obtain ⟨er9, eh⟩ := hp
              rw [eh] at hH
              clear eh
              rw [hw.sz1] at er9
              subst er9
              refine lv_aload hx hb dX10_addLine_106 (lv_at hl 1 rfl) ?_
              refine lv_aload hx hb dX10_addLine_108 (lv_at hl 0 rfl) ?_
              refine lv_iload hx hb dX10_addLine_110 (lv_at hl 8 rfl) ?_
              refine k_v hH (k_runI (rest := [.ref a]) C0 hH (cC_X4_init l G A h0 a (nlN u) (b 7 v_2) (b 7 v_4) mb hka) mv_X4_init ml_X10_109 rfl ⟨Nat.le_of_ble_eq_true rfl, Nat.le_of_ble_eq_true rfl⟩ hl.1 rfl (Nat.le_of_ble_eq_true rfl) dX10_addLine_112 ⟨by show _ ≤ 4 + (UC (cAddM u x y f per tr mb) - UC u); omega, by show _ ≤ 24 + (US (cAddM u x y f per tr mb) - US u); omega⟩) (fun h1 H locs hp1 hH => ?_)
              obtain ⟨g, q1, q2, g0, nga, ⟨a1, a2, a3, a4, a5⟩, ⟨c1, c2, c3, c4, c5⟩, n12, n1g, n2g, n1a, n2a, k1, k2, k3, k4, k5, k6, k7, k8, k9, k10, k11, hs1⟩ := hp1
              have fg : ∀ K i, ok u K i → b K i ≠ g := fun K i hk => hR.free g0 hk
              have fq1 : ∀ K i, ok u K i → b K i ≠ q1 := fun K i hk => hR.free a1 hk
              have fq2 : ∀ K i, ok u K i → b K i ≠ q2 := fun K i hk => hR.free c1 hk
              replace hR : RC G.2.2.1 h1 b u := hR.same hs1 (fun K i hk z => z.elim (hfree K i hk) (fun z => z.elim (fg K i hk) (fun z => z.elim (fq1 K i hk) (fq2 K i hk))))
              refine lv_astore (lv' := [(9, .ref (a)), (8, .ref (b 7 v_4)), (7, .ref (b 7 v_2)), (0, .ref (b 14 0)), (1, .int (x)), (2, .int (y)), (3, .int (f)), (4, .int (per)), (5, .int (tr)), (6, .int (mb))]) hx hb dX10_addLine_115 hl (by decide) rfl (fun ls hl => ?_)
              refine lv_aload hx hb dX10_addLine_117 (lv_at hl 0 rfl) ?_
              refine lv_iload_n hx hb dX10_addLine_119 rfl (lv_at hl 6 rfl) ?_
              refine lv_iload hx hb dX10_addLine_120 (lv_at hl 7 rfl) ?_
              refine lv_iload hx hb dX10_addLine_122 (lv_at hl 8 rfl) ?_
              refine k_v hH (k_runV (rest := []) C0 hH (cC_X4_setTimes l G A h1 a f per tr k5) mv_X4_setTimes ml_X10_112 ci_8 k5 rfl ⟨Nat.le_of_ble_eq_true rfl, Nat.le_of_ble_eq_true rfl⟩ hl.1 rfl (Nat.le_of_ble_eq_true rfl) dX10_addLine_124 ⟨by show _ ≤ 4 + (UC (cAddM u x y f per tr mb) - UC u); omega, by show _ ≤ 24 + (US (cAddM u x y f per tr mb) - US u); omega⟩) (fun h3 H locs hp3 hH => ?_)
              have hs3 : SameX h1 h3 (· = a) := by rw [hp3]; exact (((SameX.pI h1 5 a f).trans (SameX.pI _ 6 a per)).trans (SameX.pI _ 7 a tr)).mono (fun y hy => hy.elim (fun z => z.elim id id) id)
              replace hR : RC G.2.2.1 h3 b u := hR.same hs3 hfree
              have hk3 : aK h3 a = 8 := by rw [hp3]; exact k5
              refine lv_aload_n hx hb dX10_addLine_127 rfl (lv_at hl 3 rfl) ?_
              refine c_getR C0 hH hR ci_14 (i := 0) (j := 1) rfl rfl (by decide) rfl fl_X10_16 (v := some (b 3 1)) rfl dX10_addLine_128 ?_
              refine lv_aload hx hb dX10_addLine_131 (lv_at hl 0 rfl) ?_
              have hok : ok u 3 1 := show 1 < 6 + npN u by omega
              refine k_i hH (k_runV (rest := []) C0 hH (cJ_Jx4a65c_add_9ea2d l G A h3 (b 3 1) a _ _ _ (hR.lsh hw hok) (by rw [hk3]; unfold obK; omega)) mv_Jx4a65c_add_9ea2d ml_X10_93 ci_3 (hR.kind (K := 3) hok) rfl ⟨Nat.le_of_ble_eq_true rfl, Nat.le_of_ble_eq_true rfl⟩ hl.1 rfl (Nat.le_of_ble_eq_true rfl) dX10_addLine_133 ⟨by show _ ≤ 4 + (UC (cAddM u x y f per tr mb) - UC u); omega, by show _ ≤ 24 + (US (cAddM u x y f per tr mb) - US u); omega⟩) (fun r h2 H locs hp2 hH => ?_)
              obtain ⟨er2, hp2⟩ := hp2
              subst er2
              obtain ⟨b, hbx, hba, hR⟩ := hR.addLin (f := f) (per := per) (tr := tr) (mb := mb) hw hn12 hv_2 hv_4 hk3 (by simp [hp3, aK_pI, aR_pI, aN_pI, aI_pI, nga, n1a, n2a, Ne.symm nga, k1, k2, k3, k4, k5, k6, k7, k8, k9, k10, k11, a2, a3, a4, a5, c2, c3, c4, c5]) (by simp [hp3, aK_pI, aR_pI, aN_pI, aI_pI, nga, n1a, n2a, Ne.symm nga, k1, k2, k3, k4, k5, k6, k7, k8, k9, k10, k11, a2, a3, a4, a5, c2, c3, c4, c5]) (by simp [hp3, aK_pI, aR_pI, aN_pI, aI_pI, nga, n1a, n2a, Ne.symm nga, k1, k2, k3, k4, k5, k6, k7, k8, k9, k10, k11, a2, a3, a4, a5, c2, c3, c4, c5]) hfree fg fq1 fq2 (by simp [hp3, aK_pI, aR_pI, aN_pI, aI_pI, nga, n1a, n2a, Ne.symm nga, k1, k2, k3, k4, k5, k6, k7, k8, k9, k10, k11, a2, a3, a4, a5, c2, c3, c4, c5]) (by simp [hp3, aK_pI, aR_pI, aN_pI, aI_pI, nga, n1a, n2a, Ne.symm nga, k1, k2, k3, k4, k5, k6, k7, k8, k9, k10, k11, a2, a3, a4, a5, c2, c3, c4, c5]) (by simp [hp3, aK_pI, aR_pI, aN_pI, aI_pI, nga, n1a, n2a, Ne.symm nga, k1, k2, k3, k4, k5, k6, k7, k8, k9, k10, k11, a2, a3, a4, a5, c2, c3, c4, c5]) (by simp [hp3, aK_pI, aR_pI, aN_pI, aI_pI, nga, n1a, n2a, Ne.symm nga, k1, k2, k3, k4, k5, k6, k7, k8, k9, k10, k11, a2, a3, a4, a5, c2, c3, c4, c5]) (by simp [hp3, aK_pI, aR_pI, aN_pI, aI_pI, nga, n1a, n2a, Ne.symm nga, k1, k2, k3, k4, k5, k6, k7, k8, k9, k10, k11, a2, a3, a4, a5, c2, c3, c4, c5]) (by simp [hp3, aK_pI, aR_pI, aN_pI, aI_pI, nga, n1a, n2a, Ne.symm nga, k1, k2, k3, k4, k5, k6, k7, k8, k9, k10, k11, a2, a3, a4, a5, c2, c3, c4, c5]) (by simp [hp3, aK_pI, aR_pI, aN_pI, aI_pI, nga, n1a, n2a, Ne.symm nga, k1, k2, k3, k4, k5, k6, k7, k8, k9, k10, k11, a2, a3, a4, a5, c2, c3, c4, c5]) (by simp [hp3, aK_pI, aR_pI, aN_pI, aI_pI, nga, n1a, n2a, Ne.symm nga, k1, k2, k3, k4, k5, k6, k7, k8, k9, k10, k11, a2, a3, a4, a5, c2, c3, c4, c5]) (by simp [hp3, aK_pI, aR_pI, aN_pI, aI_pI, nga, n1a, n2a, Ne.symm nga, k1, k2, k3, k4, k5, k6, k7, k8, k9, k10, k11, a2, a3, a4, a5, c2, c3, c4, c5]) (by simp [hp3, aK_pI, aR_pI, aN_pI, aI_pI, nga, n1a, n2a, Ne.symm nga, k1, k2, k3, k4, k5, k6, k7, k8, k9, k10, k11, a2, a3, a4, a5, c2, c3, c4, c5]) (by simp [hp3, aK_pI, aR_pI, aN_pI, aI_pI, nga, n1a, n2a, Ne.symm nga, k1, k2, k3, k4, k5, k6, k7, k8, k9, k10, k11, a2, a3, a4, a5, c2, c3, c4, c5]) (by simp [hp3, aK_pI, aR_pI, aN_pI, aI_pI, nga, n1a, n2a, Ne.symm nga, k1, k2, k3, k4, k5, k6, k7, k8, k9, k10, k11, a2, a3, a4, a5, c2, c3, c4, c5]) (by simp [hp3, aK_pI, aR_pI, aN_pI, aI_pI, nga, n1a, n2a, Ne.symm nga, k1, k2, k3, k4, k5, k6, k7, k8, k9, k10, k11, a2, a3, a4, a5, c2, c3, c4, c5]) (by simp [hp3, aK_pI, aR_pI, aN_pI, aI_pI, nga, n1a, n2a, Ne.symm nga, k1, k2, k3, k4, k5, k6, k7, k8, k9, k10, k11, a2, a3, a4, a5, c2, c3, c4, c5]) (fun k => by simp [hp3, aK_pI, aR_pI, aN_pI, aI_pI, nga, n1a, n2a, Ne.symm nga, k1, k2, k3, k4, k5, k6, k7, k8, k9, k10, k11, a2, a3, a4, a5, c2, c3, c4, c5]) (fun k => by simp [hp3, aK_pI, aR_pI, aN_pI, aI_pI, nga, n1a, n2a, Ne.symm nga, k1, k2, k3, k4, k5, k6, k7, k8, k9, k10, k11, a2, a3, a4, a5, c2, c3, c4, c5]) hp2
              rw [← hbx 7 v_4 (by decide) hv_4, ← hbx 7 v_2 (by decide) hv_2, ← hbx 14 0 (by decide) rfl, ← hba] at hl
              replace hbe := hbe.trans (Gw.refl u) hbx
              obtain ⟨n0, hn0⟩ : ∃ z, z = nlN u := ⟨_, rfl⟩
              rw [← hn0] at hl
              replace hw := hwL
              have hlw_n_15 := hw.lw
              have hgu_n_15 := hroom.1
              obtain ⟨U_n_15, hU_n_15⟩ : ∃ z, z = cLn u v_2 v_4 f per tr mb := ⟨_, rfl⟩
              rw [← hU_n_15] at hR hw hgu_n_15 hlw_n_15
              have hE_n_15 : UC U_n_15 = UC (cLn u v_2 v_4 f per tr mb) ∧ US U_n_15 = US (cLn u v_2 v_4 f per tr mb) := by rw [hU_n_15]; exact ⟨rfl, rfl⟩
              have hn_n_15 := hroom.2.2.2
              rw [← hU_n_15] at hn_n_15
              have hc7 := hw.cnt6 7
              have hc8 := hw.cnt6 8
              have hc9 := hw.cnt6 9
              replace hv_2 : v_2 < nhN U_n_15 := by rw [hn_n_15.1]; omega
              replace hv_4 : v_4 < nhN U_n_15 := by rw [hn_n_15.1]; omega
              have hn0U : n0 < nlN U_n_15 := by rw [hn_n_15.2.1]; omega
              refine lv_pop hx hb dX10_addLine_136 rfl ?_
              refine lv_aload_n hx hb dX10_addLine_137 rfl (lv_at hl 3 rfl) ?_
              have hA0_n_16 : LG U_n_15 U_n_15 := (LG.refl U_n_15)
              have hA_n_16 := hA0_n_16 hlw_n_15
              have h1_n_16 := hA_n_16.2.1.le
              refine k_v hH (k_runV (rest := []) C0 hH (cC_X10_planAll l G A _ b _ hR hw  ) mv_X10_planAll ml_X10_115 ci_14 (hR.kind (K := 14) (i := 0) rfl) rfl ⟨Nat.le_of_ble_eq_true rfl, Nat.le_of_ble_eq_true rfl⟩ hl.1 rfl (Nat.le_of_ble_eq_true rfl) dX10_addLine_138 ⟨by show _ ≤ 4 + (UC (cAddM u x y f per tr mb) - UC u); omega, by show _ ≤ 24 + (US (cAddM u x y f per tr mb) - US u); omega⟩) (fun h H locs hp hH => ?_)
              obtain ⟨hR, hw⟩ := hp
              have hB0_n_16 : LG U_n_15 (cPlA U_n_15) := LG.planA
              have hB_n_16 := hB0_n_16 hA_n_16.1
              have h2_n_16 := hB_n_16.2.1.le
              have hgu_n_16 := (hgu_n_15.trans hA_n_16.2.1).trans hB_n_16.2.1
              have hlw_n_16 := hB_n_16.1
              obtain ⟨U_n_16, hU_n_16⟩ : ∃ z, z = (cPlA U_n_15) := ⟨_, rfl⟩
              rw [← hU_n_16] at hR hw hgu_n_16 hlw_n_16
              have hE_n_16 : UC U_n_16 = UC (cPlA U_n_15) ∧ US U_n_16 = US (cPlA U_n_15) := by rw [hU_n_16]; exact ⟨rfl, rfl⟩
              have hn_n_16 : nhN U_n_16 = nhN U_n_15 ∧ nlN U_n_16 = nlN U_n_15 ∧ npN U_n_16 = npN U_n_15 := by rw [hU_n_16]; exact ⟨hB_n_16.2.2.1.trans hA_n_16.2.2.1, hB_n_16.2.2.2.1.trans hA_n_16.2.2.2.1, hB_n_16.2.2.2.2.trans hA_n_16.2.2.2.2⟩
              have hc7 := hw.cnt6 7
              have hc8 := hw.cnt6 8
              have hc9 := hw.cnt6 9
              replace hv_2 : v_2 < nhN U_n_16 := by rw [hn_n_16.1]; exact hv_2
              replace hv_4 : v_4 < nhN U_n_16 := by rw [hn_n_16.1]; exact hv_4
              replace hn0U : n0 < nlN U_n_16 := by rw [hn_n_16.2.1]; exact hn0U
              refine lv_aload hx hb dX10_addLine_141 (lv_at hl 0 rfl) ?_
              refine c_getI C0 hH hR ci_8 (i := n0) (j := 0) hn0U rfl (by decide) rfl fl_X10_118 (v := nI n0) rfl dX10_addLine_143 ?_
              have hA0_z : LG U_n_16 U_n_16 := (LG.refl U_n_16)
              have hA_z := hA0_z hlw_n_16
              have h1_z := hA_z.2.1.le
              have eM : (cAddM u x y f per tr mb) = U_n_16 := by rw [hAM, hU_n_16, hU_n_15]
              refine vx_ret ?_
              have eR : (nI n0 : Int32) = nI (nlN u) := by rw [hn0]
              exact e_I C0 hr hH ⟨hXn, eR, b, hbe, by rw [eM]; exact ⟨hR, hw⟩⟩ (by rw [eM]; omega) (by rw [eM]; omega) dX10_addLine_146
            · exact k_throwS C0 hxt hlt hH thr_ISE (is := 105) (text := "too many lines") (by decide) hl.1 dX10_addLine_85 dX10_addLine_88 dX10_addLine_89 dX10_addLine_91 dX10_addLine_94 (Nat.le_of_ble_eq_true rfl) (Nat.le_of_ble_eq_true rfl) (by show _ ≤ 4 + (UC (cAddM u x y f per tr mb) - UC u); omega) (by show _ ≤ 24 + (US (cAddM u x y f per tr mb) - US u); omega) ⟨by unfold xAdd; rw [xo_n exr_1, xo_n exr_3, if_neg (fun z => z ⟨c18_5, c28_7, c39_9, c50_11, c60_13⟩), if_pos c82_14]; rfl, rfl⟩ (hRc9 _ (by omega)) (hRs9 _ (by omega))
          · replace c60_13 := bi_0.mp c60_13
            exact k_throwS C0 hxt hlt hH thr_IAE (is := 103) (text := "no such line can be") (by decide) hl.1 dX10_addLine_63 dX10_addLine_66 dX10_addLine_67 dX10_addLine_69 dX10_addLine_72 (Nat.le_of_ble_eq_true rfl) (Nat.le_of_ble_eq_true rfl) (by show _ ≤ 4 + (UC (cAddM u x y f per tr mb) - UC u); omega) (by show _ ≤ 24 + (US (cAddM u x y f per tr mb) - US u); omega) ⟨by unfold xAdd; rw [xo_n exr_1, xo_n exr_3, if_pos (fun z => c60_13 z.2.2.2.2)]; rfl, rfl⟩ (hRc9 _ (by omega)) (hRs9 _ (by omega))

