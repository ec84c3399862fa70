set_option maxHeartbeats 800000 in
set_option maxRecDepth 100000 in
theorem cC_X2_note_l (l : Launch) (G : GT) (A : Nat → Prop) (h : AH) (b0 : BA) (u : MM) (hR : RC G.2.2.1 h b0 u) (hw : WFc u) (p j : Nat) (t : Int32) (x : Nat) (l0 : Nat) (hp0 : p < npN u) (hj0 : j < 9) (hx0 : x < nhN u) (hl0 : l0 < nlN u) : cmV l G A yX2_note cX2_note 6 8 330 (UC (cNote u p j t x (nI l0)) - UC u) (US (cNote u p j t x (nI l0)) - US u) [.ref (b0 6 p), .int ((lw_letters.getD j 0)), .int (t), .ref (b0 7 x), .ref (b0 8 l0)] h (fun h' => ∃ b', BE u b0 b' ∧ RC G.2.2.1 h' b' (cNote u p j t x (nI l0)) ∧ WFc (cNote u p j t x (nI l0))) := by
  refine cm_of "Routepost$History" rfl (by decide) (Nat.le_of_ble_eq_true rfl) ?_
  intro pr e s m9 below meth c C0 hr hname hH ls hl
  obtain ⟨hx, hb, hml, hown, hts, hK, hA, -⟩ := id C0
  have hl : lv_has ls 6 [(0, .ref (b0 6 p)), (1, .int ((lw_letters.getD j 0))), (2, .int (t)), (3, .ref (b0 7 x)), (4, .ref (b0 8 l0))] := hl
  obtain ⟨b, hb0⟩ : ∃ z, z = b0 := ⟨_, rfl⟩
  rw [← hb0] at hR hl
  have hbe : BE u b0 b := by rw [hb0]; exact BE.refl u b0
  have hc7 := hw.cnt6 7
  have hc8 := hw.cnt6 8
  have hc9 := hw.cnt6 9
  have hM9 := (cNote_ok hw hp0 j t hx0 (nI l0)).2.le
  have hw00 := hw
  have hl00 := hl0
  refine lv_aload_n hx hb dX2_note_0 rfl (lv_at hl 0 rfl) ?_
  refine c_getR C0 hH hR ci_6 (i := p) (j := 0) hp0 rfl (by decide) rfl fl_X2_12 (v := some (b 3 (6 + p))) rfl dX2_note_1 ?_
  refine k_i hH (k_runV (rest := []) C0 hH (cL_size l G A _ b _ hR hw (6 + p) (show 6 + p < 6 + npN u by have := hp0; omega)) mv_Jx4a65c_size_8abf5 ml_X2_18 ci_3 (hR.kind (K := 3) (i := 6 + p) (show 6 + p < 6 + npN u by have := hp0; omega)) rfl ⟨Nat.le_of_ble_eq_true rfl, Nat.le_of_ble_eq_true rfl⟩ hl.1 rfl (Nat.le_of_ble_eq_true rfl) dX2_note_4 ⟨by show _ ≤ UC (cNote u p j t x (nI l0)) - UC u; omega, by show _ ≤ US (cNote u p j t x (nI l0)) - US u; omega⟩) (fun r9 h1 H locs hp hH => ?_)
  obtain ⟨er9, eh⟩ := hp
  rw [eh] at hH
  clear eh
  subst er9
  refine lv_sipush (v := 1024) hx hb dX2_note_7 (by decide) ?_
  refine lv_icmp_lt (tgt := 14) hx hb dX2_note_10 (by decide) (fun c10_1 => ?_) (fun c10_1 => ?_)
  · have hn9 : szN u (6 + p) < 1024 := Decidable.byContradiction fun z => nI_ge9 (by omega) (by have := hw.sz6 hp0; omega) c10_1
    have hrm := cEv_room (L := (lw_letters.getD j 0)) (t := t) (x := x) hw hp0 hn9
    have hMe : cNote u p j t x (nI l0) = up (cEv u p (lw_letters.getD j 0) t x) 27 p ((31 * u 27 p + cMark t x j (nI l0)) - (31 * u 27 p + cMark t x j (nI l0)) / 1000003 * 1000003) := if_neg (by omega)
    have hUC : UC (cNote u p j t x (nI l0)) = UC (cEv u p (lw_letters.getD j 0) t x) ∧ US (cNote u p j t x (nI l0)) = US (cEv u p (lw_letters.getD j 0) t x) := by rw [hMe]; exact ⟨rfl, rfl⟩
    refine note_add C0 hH hR hw hp0 hn9 hx0 (let_c j hj0).1 (let_c j hj0).2 (lv_sub hl [0, 1, 2, 3, 4] rfl) (Nat.le_of_ble_eq_true rfl) (Nat.le_of_ble_eq_true rfl) (by show _ ≤ UC (cNote u p j t x (nI l0)) - UC u; omega) (by show _ ≤ US (cNote u p j t x (nI l0)) - US u; omega) (fun h b H locs hH hbx hR hw => ?_)
    rw [← hbx 6 p (by decide) hp0, ← hbx 7 x (by decide) hx0, ← hbx 8 l0 (by decide) hl0] at hl
    replace hbe := hbe.trans (Gw.refl u) hbx
    have hgw := hrm.1
    replace hp0 : p < npN (cEv u p (lw_letters.getD j 0) t x) := by rw [(cEv_n u p (lw_letters.getD j 0) t x).2.2]; exact hp0
    replace hx0 : x < nhN (cEv u p (lw_letters.getD j 0) t x) := by rw [(cEv_n u p (lw_letters.getD j 0) t x).1]; exact hx0
    replace hl0 : l0 < nlN (cEv u p (lw_letters.getD j 0) t x) := by rw [(cEv_n u p (lw_letters.getD j 0) t x).2.1]; exact hl0
    refine lv_bipush (v := 97) hx hb dX2_note_32 (by decide) ?_
    refine lv_iload_n hx hb dX2_note_34 rfl (lv_at hl 2 rfl) ?_
    refine lv_imul hx hb dX2_note_35 ?_
    refine lv_bipush (v := 13) hx hb dX2_note_36 (by decide) ?_
    refine lv_aload_n hx hb dX2_note_38 rfl (lv_at hl 3 rfl) ?_
    refine c_getI C0 hH hR ci_7 (i := x) (j := 0) hx0 rfl (by decide) rfl fl_X2_31 (v := nI x) rfl dX2_note_39 ?_
    refine lv_imul hx hb dX2_note_42 ?_
    refine lv_iadd hx hb dX2_note_43 ?_
    refine va_ldcS hx hb hown C0.2.2.2.2.2.2.2.1.2.2.1 dX2_note_44 ?_
    refine lv_iload_n hx hb dX2_note_46 rfl (lv_at hl 1 rfl) ?_
    refine k_i hH (k_runVS (rest := [.int ((97 * t) + (13 * (nI x)))]) C0 hH (cJ_J0_indexOf_0f7a4 l G A _ j hj0) mv_J0_indexOf_0f7a4 ml_X2_39 rfl ⟨Nat.le_of_ble_eq_true rfl, Nat.le_of_ble_eq_true rfl⟩ hl.1 rfl (Nat.le_of_ble_eq_true rfl) dX2_note_47 ⟨by show _ ≤ UC (cNote u p j t x (nI l0)) - UC u; omega, by show _ ≤ US (cNote u p j t x (nI l0)) - US u; omega⟩) (fun r9 h1 H locs hp hH => ?_)
    obtain ⟨er9, eh⟩ := hp
    rw [eh] at hH
    clear eh
    subst er9
    refine lv_iadd hx hb dX2_note_50 ?_
    refine lv_istore (lv' := [(5, .int (((97 * t) + (13 * (nI x))) + (nI j))), (0, .ref (b 6 p)), (1, .int ((lw_letters.getD j 0))), (2, .int (t)), (3, .ref (b 7 x)), (4, .ref (b 8 l0))]) hx hb dX2_note_51 hl (by decide) rfl (fun ls hl => ?_)
    refine lv_aload hx hb dX2_note_53 (lv_at hl 5 rfl) ?_
    refine lv_ifnull hx hb dX2_note_55 ?_
    refine lv_iload hx hb dX2_note_58 (lv_at hl 0 rfl) ?_
    refine lv_bipush (v := 7) hx hb dX2_note_60 (by decide) ?_
    refine lv_aload hx hb dX2_note_62 (lv_at hl 5 rfl) ?_
    refine c_getI C0 hH hR ci_8 (i := l0) (j := 0) hl0 rfl (by decide) rfl fl_X2_45 (v := nI l0) rfl dX2_note_64 ?_
    refine lv_imul hx hb dX2_note_67 ?_
    refine lv_bipush (v := 7) hx hb dX2_note_68 (by decide) ?_
    refine lv_iadd hx hb dX2_note_70 ?_
    refine lv_iadd hx hb dX2_note_71 ?_
    refine lv_istore (lv' := [(5, .int ((((97 * t) + (13 * (nI x))) + (nI j)) + ((7 * (nI l0)) + 7))), (0, .ref (b 6 p)), (1, .int ((lw_letters.getD j 0))), (2, .int (t)), (3, .ref (b 7 x)), (4, .ref (b 8 l0))]) hx hb dX2_note_72 hl (by decide) rfl (fun ls hl => ?_)
    refine lv_aload_n hx hb dX2_note_74 rfl (lv_at hl 1 rfl) ?_
    refine lv_bipush (v := 31) hx hb dX2_note_75 (by decide) ?_
    refine lv_aload_n hx hb dX2_note_77 rfl (lv_at hl 1 rfl) ?_
    refine c_getI C0 hH hR ci_6 (i := p) (j := 1) hp0 rfl (by decide) rfl fl_X2_48 (v := (cEv u p (lw_letters.getD j 0) t x) 27 p) rfl dX2_note_78 ?_
    refine lv_imul hx hb dX2_note_81 ?_
    refine lv_iload hx hb dX2_note_82 (lv_at hl 0 rfl) ?_
    refine lv_iadd hx hb dX2_note_84 ?_
    refine lv_ldc hx hb hown (hts _ kl_X2_51) dX2_note_85 ?_
    refine lv_irem hx hb dX2_note_87 (by decide) ?_
    refine c_putI C0 hH hR ci_6 (i := p) (j := 1) hp0 rfl (k := 27) rfl (by decide) (by decide) rfl fl_X2_48 rfl (x := ((31 * ((cEv u p (lw_letters.getD j 0) t x) 27 p)) + ((((97 * t) + (13 * (nI x))) + (nI j)) + ((7 * (nI l0)) + 7))) - ((31 * ((cEv u p (lw_letters.getD j 0) t x) 27 p)) + ((((97 * t) + (13 * (nI x))) + (nI j)) + ((7 * (nI l0)) + 7))) / 1000003 * 1000003) rfl rfl dX2_note_88 (fun h H locs hH hR => ?_)
    replace hw := hw.upx (k := 27) (i := p) (x := ((31 * ((cEv u p (lw_letters.getD j 0) t x) 27 p)) + ((((97 * t) + (13 * (nI x))) + (nI j)) + ((7 * (nI l0)) + 7))) - ((31 * ((cEv u p (lw_letters.getD j 0) t x) 27 p)) + ((((97 * t) + (13 * (nI x))) + (nI j)) + ((7 * (nI l0)) + 7))) / 1000003 * 1000003) (by unfold kWc kSz; decide)
    have eM : (cNote u p j t x (nI l0)) = (up (cEv u p (lw_letters.getD j 0) t x) 27 p (((31 * ((cEv u p (lw_letters.getD j 0) t x) 27 p)) + ((((97 * t) + (13 * (nI x))) + (nI j)) + ((7 * (nI l0)) + 7))) - ((31 * ((cEv u p (lw_letters.getD j 0) t x) 27 p)) + ((((97 * t) + (13 * (nI x))) + (nI j)) + ((7 * (nI l0)) + 7))) / 1000003 * 1000003)) := by rw [hMe, show cEv u p (lw_letters.getD j 0) t x 27 = u 27 from cEv_k (by omega) (by omega) (by omega) (by omega) (by omega) (by omega)]; unfold cMark; rw [if_neg (nI_nm (by have := hw00.nl; omega))]
    exact e_V C0 hr hH ⟨b, hbe, by rw [eM]; exact ⟨hR, hw⟩⟩ (by omega) (by omega) dX2_note_91
  · have eM : (cNote u p j t x (nI l0)) = u := if_pos (Decidable.byContradiction fun z => c10_1 (nI_lt9 (by omega)))
    exact e_V C0 hr hH ⟨b, hbe, by rw [eM]; exact ⟨hR, hw⟩⟩ (by omega) (by omega) dX2_note_13

