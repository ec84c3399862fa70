set_option maxHeartbeats 1600000 in
set_option maxRecDepth 100000 in
theorem lL_isDone_acc (l : Launch) (hlt : l.stackTraces = false) (Sc : SCR) (G : GT) (A : Nat → Prop) (h : AH) (b : BA) (c m : MM) (n : Nat) (L : LNum) (M : LRef) (o : Nat) (hJ : JW G.2.2.1 h b c L M) (ho : b 14 0 = o) (hwc : WFc c) (hS : Sim n c m) (hw : WFa m) (hI : IV m) (hn : n < 512) (i0 : Nat) (hi0 : i0 < 2 ^ 19) (h2 : 2 ≤ nhN m) (hl9 : 1 ≤ nlN m) (p ac : Nat) (ep : inN Sc (i0 + 1) (npN m + 1) % (if npN m = 0 then 1 else npN m) = p) (eac : (if npN m = 0 then 0 else inN Sc i0 12) = ac) (an : Nat) (f : Nat → Int32) (hL : L an = some (700, f)) (hT : NT f m) (hac : ac < 3) (c2 : MM) (hsub : lcI l Sc G A yL_isAccepted cL_isAccepted 11 (Option.some FieldType.boolean) 11 407 (6 + (UC c2 - UC c)) (36 + (US c2 - US c)) [.ref o, .ref an, .ref Sc.1, .int (nI (i0 + 2))] h (fun r h' => r = nI 1 ∧ ∃ b' f' m' n', JW G.2.2.1 h' b' (c2) (setL L an 700 f') M ∧ b' 14 0 = o ∧ WFc (c2) ∧ n' ≤ n + 1 ∧ Stt n' (c2) m' ∧ NT f' m' ∧ Kp m m' ∧ UC c ≤ UC (c2) ∧ US c ≤ US (c2))) : lcI l Sc G A yL_isDone cL_isDone 8 (Option.some FieldType.boolean) 14 475 (12 + (UC (c2) - UC c)) (72 + (US (c2) - US c)) [.ref (o), .ref (an), .ref (Sc.1), .int (nI i0)] h (fun r h' => r = nI 1 ∧ ∃ b' f' m' n', JW G.2.2.1 h' b' (c2) (setL L an 700 f') M ∧ b' 14 0 = o ∧ WFc (c2) ∧ n' ≤ n + 1 ∧ Stt n' (c2) m' ∧ NT f' m' ∧ Kp m m' ∧ UC c ≤ UC (c2) ∧ US c ≤ US (c2)) := by
  refine lm_of rfl (Nat.le_of_ble_eq_true rfl) ?_
  intro pr e s m9 below meth c9 C0 hN hr hH ls hl
  obtain ⟨hx, hb, hml, hown, hts, hK, hA, -⟩ := id C0
  have hl : lv_has ls 8 [(0, .ref (o)), (1, .ref (an)), (2, .ref (Sc.1)), (3, .int (nI i0))] := hl
  have n40 := hw.np.2
  have n6 := hw.nh.2
  have nl12 := hw.nl.2
  refine lv_aload_n hx hb dL_isDone_0 rfl (lv_at hl 2 rfl) ?_
  refine lv_iload_n hx hb dL_isDone_1 rfl (lv_at hl 3 rfl) ?_
  refine lv_iconst (v := nI 1) hx hb dL_isDone_2 (by decide) ?_
  refine lv_iadd hx hb dL_isDone_3 ?_
  rw [show nI i0 + nI 1 = nI (i0 + 1) from nI_add _ _]
  refine lv_aload_n hx hb dL_isDone_4 rfl (lv_at hl 1 rfl) ?_
  refine lv_iconst (v := nI 2) hx hb dL_isDone_5 (by decide) ?_
  refine j_ld C0 hH hJ hL (ix := 2) (by omega) (by decide) (v := nI (npN m)) hT.p0 dL_isDone_6 ?_
  refine lv_iconst (v := nI 1) hx hb dL_isDone_7 (by decide) ?_
  refine lv_iadd hx hb dL_isDone_8 ?_
  rw [show nI (npN m) + nI 1 = nI (npN m + 1) from nI_add _ _]
  have hb1 := inN_lt Sc (i0 + 1) (n := npN m + 1) (by omega)
  refine k_i hH (k_lS (rest := []) C0 hN hH (lL_in l Sc G A _ (i0 + 1) (npN m + 1) (by omega) (by omega) (by omega)) mv_L_in ml_L_106 rfl ⟨Nat.le_of_ble_eq_true rfl, Nat.le_of_ble_eq_true rfl⟩ hl.1 rfl (Nat.le_of_ble_eq_true rfl) dL_isDone_9 ⟨by show _ ≤ 12 + (UC (c2) - UC c); omega, by show _ ≤ 72 + (US (c2) - US c); omega⟩) (fun rr h1 H locs hp hH => ?_)
  obtain ⟨ea, eh⟩ := hp
  rw [eh] at hH
  rw [ea, show inN Sc (i0 + 1) (npN m + 1) = inN Sc (i0 + 1) (npN m + 1) from rfl]
  refine lv_iconst (v := nI 1) hx hb dL_isDone_12 (by decide) ?_
  refine lv_aload_n hx hb dL_isDone_13 rfl (lv_at hl 1 rfl) ?_
  refine lv_iconst (v := nI 2) hx hb dL_isDone_14 (by decide) ?_
  refine j_ld C0 hH hJ hL (ix := 2) (by omega) (by decide) (v := nI (npN m)) hT.p0 dL_isDone_15 ?_
  refine o_mmax C0 ml_L_176 hl.1 dL_isDone_16 (Nat.le_of_ble_eq_true rfl) (Nat.le_of_ble_eq_true rfl) (by simp) ?_
  obtain ⟨mx, hmx⟩ : ∃ z, z = (if npN m = 0 then 1 else npN m) := ⟨_, rfl⟩
  have hmx0 : 0 < mx := by rw [hmx]; split <;> omega
  rw [show (if nI 1 < nI (npN m) then nI (npN m) else nI 1) = nI mx by rw [hmx]; by_cases y : npN m = 0; (· rw [if_pos y, y]; decide); (· rw [if_neg y]; by_cases y1 : npN m = 1; (· rw [y1]; decide); (· rw [if_pos (by rw [nI_ltI (by omega) (by omega)]; omega)]))]
  have hmx4 : mx ≤ 40 := by rw [hmx]; split <;> omega
  rw [← hmx] at ep
  refine lv_irem hx hb dL_isDone_19 (fun z => by have := (nI_eq (a := mx) (b := 0) (by omega) (by omega)).mp z; omega) ?_
  rw [nI_rem (show inN Sc (i0 + 1) (npN m + 1) < 2 ^ 31 by omega) (show mx < 2 ^ 31 by omega), ep]
  refine lv_istore (lv' := [(4, .int (nI p)), (0, .ref (o)), (1, .ref (an)), (2, .ref (Sc.1)), (3, .int (nI i0))]) hx hb dL_isDone_20 hl (by decide) rfl (fun ls hl => ?_)
  refine lv_aload_n hx hb dL_isDone_22 rfl (lv_at hl 2 rfl) ?_
  refine lv_iconst (v := nI 2) hx hb dL_isDone_23 (by decide) ?_
  refine j_ld C0 hH hJ hL (ix := 2) (by omega) (by decide) (v := nI (npN m)) hT.p0 dL_isDone_24 ?_
  refine lv_if_ne (tgt := 32) hx hb dL_isDone_25 (by decide) (fun c25_1 => ?_) (fun c25_1 => ?_)
  · replace c25_1 : ¬ (npN m = 0) := fun z => c25_1 ((nI_eq (a := npN m) (b := 0) (by omega) (by omega)).mpr z)
    rw [if_neg c25_1] at eac
    have hb2 := inN_lt Sc i0 (n := 12) (by omega)
    rw [eac] at hb2
    refine lv_aload_n hx hb dL_isDone_32 rfl (lv_at hl 3 rfl) ?_
    refine lv_iload_n hx hb dL_isDone_33 rfl (lv_at hl 4 rfl) ?_
    refine lv_bipush (v := nI 12) hx hb dL_isDone_34 (by decide) ?_
    refine k_i hH (k_lS (rest := []) C0 hN hH (lL_in l Sc G A _ i0 12 (by omega) (by omega) (by omega)) mv_L_in ml_L_106 rfl ⟨Nat.le_of_ble_eq_true rfl, Nat.le_of_ble_eq_true rfl⟩ hl.1 rfl (Nat.le_of_ble_eq_true rfl) dL_isDone_36 ⟨by show _ ≤ 12 + (UC (c2) - UC c); omega, by show _ ≤ 72 + (US (c2) - US c); omega⟩) (fun rr h1 H locs hp hH => ?_)
    obtain ⟨ea, eh⟩ := hp
    rw [eh] at hH
    rw [ea, eac]
    refine lv_istore (lv' := [(5, .int (nI ac)), (4, .int (nI p)), (0, .ref (o)), (1, .ref (an)), (2, .ref (Sc.1)), (3, .int (nI i0))]) hx hb dL_isDone_39 hl (by decide) rfl (fun ls hl => ?_)
    refine lv_iload hx hb dL_isDone_41 (lv_at hl 0 rfl) ?_
    refine lv_iconst (v := nI 3) hx hb dL_isDone_43 (by decide) ?_
    refine lv_icmp_ge (tgt := 57) hx hb dL_isDone_44 (by decide) (fun c44_2 => ?_) (fun c44_2 => ?_)
    · exact absurd ((nI_leI (by omega) (by omega)).mp c44_2) (by omega)
    · replace c44_2 : ¬ (3 ≤ ac) := fun z => c44_2 ((nI_leI (a := 3) (b := ac) (by omega) (by omega)).mpr z)
      refine lv_aload_n hx hb dL_isDone_47 rfl (lv_at hl 2 rfl) ?_
      refine lv_aload_n hx hb dL_isDone_48 rfl (lv_at hl 3 rfl) ?_
      refine lv_aload_n hx hb dL_isDone_49 rfl (lv_at hl 4 rfl) ?_
      refine lv_iload_n hx hb dL_isDone_50 rfl (lv_at hl 5 rfl) ?_
      refine lv_iconst (v := nI 2) hx hb dL_isDone_51 (by decide) ?_
      refine lv_iadd hx hb dL_isDone_52 ?_
      rw [show nI i0 + nI 2 = nI (i0 + 2) from nI_add _ _]
      refine k_i hH (k_lS (rest := []) C0 hN hH hsub mv_L_isAccepted ml_L_181 rfl ⟨Nat.le_of_ble_eq_true rfl, Nat.le_of_ble_eq_true rfl⟩ hl.1 rfl (Nat.le_of_ble_eq_true rfl) dL_isDone_53 ⟨by show _ ≤ 12 + (UC (c2) - UC c); omega, by show _ ≤ 72 + (US (c2) - US c); omega⟩) (fun rr h H locs hp0 hH => ?_)
      have hpost := hp0
      exact e_Z C0 hr (by rw [hpost.1]; decide) hH hpost (by omega) (by omega) dL_isDone_56
  · replace c25_1 : npN m = 0 := (nI_eq (a := npN m) (b := 0) (by omega) (by omega)).mp c25_1
    rw [if_pos c25_1] at eac
    refine lv_iconst (v := nI 0) hx hb dL_isDone_28 (by decide) ?_
    refine lv_goto (tgt := 39) hx hb dL_isDone_29 (by decide) ?_
    rw [show nI 0 = nI ac by rw [← eac]]
    have hb2 : ac < 12 := by omega
    refine lv_istore (lv' := [(5, .int (nI ac)), (4, .int (nI p)), (0, .ref (o)), (1, .ref (an)), (2, .ref (Sc.1)), (3, .int (nI i0))]) hx hb dL_isDone_39 hl (by decide) rfl (fun ls hl => ?_)
    refine lv_iload hx hb dL_isDone_41 (lv_at hl 0 rfl) ?_
    refine lv_iconst (v := nI 3) hx hb dL_isDone_43 (by decide) ?_
    refine lv_icmp_ge (tgt := 57) hx hb dL_isDone_44 (by decide) (fun c44_3 => ?_) (fun c44_3 => ?_)
    · exact absurd ((nI_leI (by omega) (by omega)).mp c44_3) (by omega)
    · replace c44_3 : ¬ (3 ≤ ac) := fun z => c44_3 ((nI_leI (a := 3) (b := ac) (by omega) (by omega)).mpr z)
      refine lv_aload_n hx hb dL_isDone_47 rfl (lv_at hl 2 rfl) ?_
      refine lv_aload_n hx hb dL_isDone_48 rfl (lv_at hl 3 rfl) ?_
      refine lv_aload_n hx hb dL_isDone_49 rfl (lv_at hl 4 rfl) ?_
      refine lv_iload_n hx hb dL_isDone_50 rfl (lv_at hl 5 rfl) ?_
      refine lv_iconst (v := nI 2) hx hb dL_isDone_51 (by decide) ?_
      refine lv_iadd hx hb dL_isDone_52 ?_
      rw [show nI i0 + nI 2 = nI (i0 + 2) from nI_add _ _]
      refine k_i hH (k_lS (rest := []) C0 hN hH hsub mv_L_isAccepted ml_L_181 rfl ⟨Nat.le_of_ble_eq_true rfl, Nat.le_of_ble_eq_true rfl⟩ hl.1 rfl (Nat.le_of_ble_eq_true rfl) dL_isDone_53 ⟨by show _ ≤ 12 + (UC (c2) - UC c); omega, by show _ ≤ 72 + (US (c2) - US c); omega⟩) (fun rr h H locs hp0 hH => ?_)
      have hpost := hp0
      exact e_Z C0 hr (by rw [hpost.1]; decide) hH hpost (by omega) (by omega) dL_isDone_56
set_option maxHeartbeats 1600000 in
set_option maxRecDepth 100000 in
theorem lL_isDone_scn (l : Launch) (hlt : l.stackTraces = false) (Sc : SCR) (G : GT) (A : Nat → Prop) (h : AH) (b : BA) (c m : MM) (n : Nat) (L : LNum) (M : LRef) (o : Nat) (hJ : JW G.2.2.1 h b c L M) (ho : b 14 0 = o) (hwc : WFc c) (hS : Sim n c m) (hw : WFa m) (hI : IV m) (hn : n < 512) (i0 : Nat) (hi0 : i0 < 2 ^ 19) (h2 : 2 ≤ nhN m) (hl9 : 1 ≤ nlN m) (p ac : Nat) (ep : inN Sc (i0 + 1) (npN m + 1) % (if npN m = 0 then 1 else npN m) = p) (eac : (if npN m = 0 then 0 else inN Sc i0 12) = ac) (an : Nat) (f : Nat → Int32) (hL : L an = some (700, f)) (hT : NT f m) (hac : 3 ≤ ac ∧ ac < 7) (c2 : MM) (hsub : lcI l Sc G A yL_isScanned cL_isScanned 11 (Option.some FieldType.boolean) 13 445 (8 + (UC c2 - UC c)) (48 + (US c2 - US c)) [.ref o, .ref an, .ref Sc.1, .int (nI (i0 + 2)), .int (nI p)] h (fun r h' => r = nI 1 ∧ ∃ b' f' m' n', JW G.2.2.1 h' b' (c2) (setL L an 700 f') M ∧ b' 14 0 = o ∧ WFc (c2) ∧ n' ≤ n + 1 ∧ Stt n' (c2) m' ∧ NT f' m' ∧ Kp m m' ∧ UC c ≤ UC (c2) ∧ US c ≤ US (c2))) : lcI l Sc G A yL_isDone cL_isDone 8 (Option.some FieldType.boolean) 14 475 (12 + (UC (c2) - UC c)) (72 + (US (c2) - US c)) [.ref (o), .ref (an), .ref (Sc.1), .int (nI i0)] h (fun r h' => r = nI 1 ∧ ∃ b' f' m' n', JW G.2.2.1 h' b' (c2) (setL L an 700 f') M ∧ b' 14 0 = o ∧ WFc (c2) ∧ n' ≤ n + 1 ∧ Stt n' (c2) m' ∧ NT f' m' ∧ Kp m m' ∧ UC c ≤ UC (c2) ∧ US c ≤ US (c2)) := by
  refine lm_of rfl (Nat.le_of_ble_eq_true rfl) ?_
  intro pr e s m9 below meth c9 C0 hN hr hH ls hl
  obtain ⟨hx, hb, hml, hown, hts, hK, hA, -⟩ := id C0
  have hl : lv_has ls 8 [(0, .ref (o)), (1, .ref (an)), (2, .ref (Sc.1)), (3, .int (nI i0))] := hl
  have n40 := hw.np.2
  have n6 := hw.nh.2
  have nl12 := hw.nl.2
  refine lv_aload_n hx hb dL_isDone_0 rfl (lv_at hl 2 rfl) ?_
  refine lv_iload_n hx hb dL_isDone_1 rfl (lv_at hl 3 rfl) ?_
  refine lv_iconst (v := nI 1) hx hb dL_isDone_2 (by decide) ?_
  refine lv_iadd hx hb dL_isDone_3 ?_
  rw [show nI i0 + nI 1 = nI (i0 + 1) from nI_add _ _]
  refine lv_aload_n hx hb dL_isDone_4 rfl (lv_at hl 1 rfl) ?_
  refine lv_iconst (v := nI 2) hx hb dL_isDone_5 (by decide) ?_
  refine j_ld C0 hH hJ hL (ix := 2) (by omega) (by decide) (v := nI (npN m)) hT.p0 dL_isDone_6 ?_
  refine lv_iconst (v := nI 1) hx hb dL_isDone_7 (by decide) ?_
  refine lv_iadd hx hb dL_isDone_8 ?_
  rw [show nI (npN m) + nI 1 = nI (npN m + 1) from nI_add _ _]
  have hb1 := inN_lt Sc (i0 + 1) (n := npN m + 1) (by omega)
  refine k_i hH (k_lS (rest := []) C0 hN hH (lL_in l Sc G A _ (i0 + 1) (npN m + 1) (by omega) (by omega) (by omega)) mv_L_in ml_L_106 rfl ⟨Nat.le_of_ble_eq_true rfl, Nat.le_of_ble_eq_true rfl⟩ hl.1 rfl (Nat.le_of_ble_eq_true rfl) dL_isDone_9 ⟨by show _ ≤ 12 + (UC (c2) - UC c); omega, by show _ ≤ 72 + (US (c2) - US c); omega⟩) (fun rr h1 H locs hp hH => ?_)
  obtain ⟨ea, eh⟩ := hp
  rw [eh] at hH
  rw [ea, show inN Sc (i0 + 1) (npN m + 1) = inN Sc (i0 + 1) (npN m + 1) from rfl]
  refine lv_iconst (v := nI 1) hx hb dL_isDone_12 (by decide) ?_
  refine lv_aload_n hx hb dL_isDone_13 rfl (lv_at hl 1 rfl) ?_
  refine lv_iconst (v := nI 2) hx hb dL_isDone_14 (by decide) ?_
  refine j_ld C0 hH hJ hL (ix := 2) (by omega) (by decide) (v := nI (npN m)) hT.p0 dL_isDone_15 ?_
  refine o_mmax C0 ml_L_176 hl.1 dL_isDone_16 (Nat.le_of_ble_eq_true rfl) (Nat.le_of_ble_eq_true rfl) (by simp) ?_
  obtain ⟨mx, hmx⟩ : ∃ z, z = (if npN m = 0 then 1 else npN m) := ⟨_, rfl⟩
  have hmx0 : 0 < mx := by rw [hmx]; split <;> omega
  rw [show (if nI 1 < nI (npN m) then nI (npN m) else nI 1) = nI mx by rw [hmx]; by_cases y : npN m = 0; (· rw [if_pos y, y]; decide); (· rw [if_neg y]; by_cases y1 : npN m = 1; (· rw [y1]; decide); (· rw [if_pos (by rw [nI_ltI (by omega) (by omega)]; omega)]))]
  have hmx4 : mx ≤ 40 := by rw [hmx]; split <;> omega
  rw [← hmx] at ep
  refine lv_irem hx hb dL_isDone_19 (fun z => by have := (nI_eq (a := mx) (b := 0) (by omega) (by omega)).mp z; omega) ?_
  rw [nI_rem (show inN Sc (i0 + 1) (npN m + 1) < 2 ^ 31 by omega) (show mx < 2 ^ 31 by omega), ep]
  refine lv_istore (lv' := [(4, .int (nI p)), (0, .ref (o)), (1, .ref (an)), (2, .ref (Sc.1)), (3, .int (nI i0))]) hx hb dL_isDone_20 hl (by decide) rfl (fun ls hl => ?_)
  refine lv_aload_n hx hb dL_isDone_22 rfl (lv_at hl 2 rfl) ?_
  refine lv_iconst (v := nI 2) hx hb dL_isDone_23 (by decide) ?_
  refine j_ld C0 hH hJ hL (ix := 2) (by omega) (by decide) (v := nI (npN m)) hT.p0 dL_isDone_24 ?_
  refine lv_if_ne (tgt := 32) hx hb dL_isDone_25 (by decide) (fun c25_1 => ?_) (fun c25_1 => ?_)
  · replace c25_1 : ¬ (npN m = 0) := fun z => c25_1 ((nI_eq (a := npN m) (b := 0) (by omega) (by omega)).mpr z)
    rw [if_neg c25_1] at eac
    have hb2 := inN_lt Sc i0 (n := 12) (by omega)
    rw [eac] at hb2
    refine lv_aload_n hx hb dL_isDone_32 rfl (lv_at hl 3 rfl) ?_
    refine lv_iload_n hx hb dL_isDone_33 rfl (lv_at hl 4 rfl) ?_
    refine lv_bipush (v := nI 12) hx hb dL_isDone_34 (by decide) ?_
    refine k_i hH (k_lS (rest := []) C0 hN hH (lL_in l Sc G A _ i0 12 (by omega) (by omega) (by omega)) mv_L_in ml_L_106 rfl ⟨Nat.le_of_ble_eq_true rfl, Nat.le_of_ble_eq_true rfl⟩ hl.1 rfl (Nat.le_of_ble_eq_true rfl) dL_isDone_36 ⟨by show _ ≤ 12 + (UC (c2) - UC c); omega, by show _ ≤ 72 + (US (c2) - US c); omega⟩) (fun rr h1 H locs hp hH => ?_)
    obtain ⟨ea, eh⟩ := hp
    rw [eh] at hH
    rw [ea, eac]
    refine lv_istore (lv' := [(5, .int (nI ac)), (4, .int (nI p)), (0, .ref (o)), (1, .ref (an)), (2, .ref (Sc.1)), (3, .int (nI i0))]) hx hb dL_isDone_39 hl (by decide) rfl (fun ls hl => ?_)
    refine lv_iload hx hb dL_isDone_41 (lv_at hl 0 rfl) ?_
    refine lv_iconst (v := nI 3) hx hb dL_isDone_43 (by decide) ?_
    refine lv_icmp_ge (tgt := 57) hx hb dL_isDone_44 (by decide) (fun c44_2 => ?_) (fun c44_2 => ?_)
    · replace c44_2 : 3 ≤ ac := (nI_leI (a := 3) (b := ac) (by omega) (by omega)).mp c44_2
      refine lv_iload hx hb dL_isDone_57 (lv_at hl 0 rfl) ?_
      refine lv_bipush (v := nI 7) hx hb dL_isDone_59 (by decide) ?_
      refine lv_icmp_ge (tgt := 76) hx hb dL_isDone_61 (by decide) (fun c61_3 => ?_) (fun c61_3 => ?_)
      · exact absurd ((nI_leI (by omega) (by omega)).mp c61_3) (by omega)
      · replace c61_3 : ¬ (7 ≤ ac) := fun z => c61_3 ((nI_leI (a := 7) (b := ac) (by omega) (by omega)).mpr z)
        refine lv_aload_n hx hb dL_isDone_64 rfl (lv_at hl 2 rfl) ?_
        refine lv_aload_n hx hb dL_isDone_65 rfl (lv_at hl 3 rfl) ?_
        refine lv_aload_n hx hb dL_isDone_66 rfl (lv_at hl 4 rfl) ?_
        refine lv_iload_n hx hb dL_isDone_67 rfl (lv_at hl 5 rfl) ?_
        refine lv_iconst (v := nI 2) hx hb dL_isDone_68 (by decide) ?_
        refine lv_iadd hx hb dL_isDone_69 ?_
        rw [show nI i0 + nI 2 = nI (i0 + 2) from nI_add _ _]
        refine lv_iload hx hb dL_isDone_70 (lv_at hl 1 rfl) ?_
        refine k_i hH (k_lS (rest := []) C0 hN hH hsub mv_L_isScanned ml_L_184 rfl ⟨Nat.le_of_ble_eq_true rfl, Nat.le_of_ble_eq_true rfl⟩ hl.1 rfl (Nat.le_of_ble_eq_true rfl) dL_isDone_72 ⟨by show _ ≤ 12 + (UC (c2) - UC c); omega, by show _ ≤ 72 + (US (c2) - US c); omega⟩) (fun rr h H locs hp0 hH => ?_)
        have hpost := hp0
        exact e_Z C0 hr (by rw [hpost.1]; decide) hH hpost (by omega) (by omega) dL_isDone_75
    · exact absurd ((nI_leI (by omega) (by omega)).mpr (by omega)) c44_2
  · replace c25_1 : npN m = 0 := (nI_eq (a := npN m) (b := 0) (by omega) (by omega)).mp c25_1
    rw [if_pos c25_1] at eac
    refine lv_iconst (v := nI 0) hx hb dL_isDone_28 (by decide) ?_
    refine lv_goto (tgt := 39) hx hb dL_isDone_29 (by decide) ?_
    rw [show nI 0 = nI ac by rw [← eac]]
    have hb2 : ac < 12 := by omega
    refine lv_istore (lv' := [(5, .int (nI ac)), (4, .int (nI p)), (0, .ref (o)), (1, .ref (an)), (2, .ref (Sc.1)), (3, .int (nI i0))]) hx hb dL_isDone_39 hl (by decide) rfl (fun ls hl => ?_)
    refine lv_iload hx hb dL_isDone_41 (lv_at hl 0 rfl) ?_
    refine lv_iconst (v := nI 3) hx hb dL_isDone_43 (by decide) ?_
    refine lv_icmp_ge (tgt := 57) hx hb dL_isDone_44 (by decide) (fun c44_4 => ?_) (fun c44_4 => ?_)
    · replace c44_4 : 3 ≤ ac := (nI_leI (a := 3) (b := ac) (by omega) (by omega)).mp c44_4
      refine lv_iload hx hb dL_isDone_57 (lv_at hl 0 rfl) ?_
      refine lv_bipush (v := nI 7) hx hb dL_isDone_59 (by decide) ?_
      refine lv_icmp_ge (tgt := 76) hx hb dL_isDone_61 (by decide) (fun c61_5 => ?_) (fun c61_5 => ?_)
      · exact absurd ((nI_leI (by omega) (by omega)).mp c61_5) (by omega)
      · replace c61_5 : ¬ (7 ≤ ac) := fun z => c61_5 ((nI_leI (a := 7) (b := ac) (by omega) (by omega)).mpr z)
        refine lv_aload_n hx hb dL_isDone_64 rfl (lv_at hl 2 rfl) ?_
        refine lv_aload_n hx hb dL_isDone_65 rfl (lv_at hl 3 rfl) ?_
        refine lv_aload_n hx hb dL_isDone_66 rfl (lv_at hl 4 rfl) ?_
        refine lv_iload_n hx hb dL_isDone_67 rfl (lv_at hl 5 rfl) ?_
        refine lv_iconst (v := nI 2) hx hb dL_isDone_68 (by decide) ?_
        refine lv_iadd hx hb dL_isDone_69 ?_
        rw [show nI i0 + nI 2 = nI (i0 + 2) from nI_add _ _]
        refine lv_iload hx hb dL_isDone_70 (lv_at hl 1 rfl) ?_
        refine k_i hH (k_lS (rest := []) C0 hN hH hsub mv_L_isScanned ml_L_184 rfl ⟨Nat.le_of_ble_eq_true rfl, Nat.le_of_ble_eq_true rfl⟩ hl.1 rfl (Nat.le_of_ble_eq_true rfl) dL_isDone_72 ⟨by show _ ≤ 12 + (UC (c2) - UC c); omega, by show _ ≤ 72 + (US (c2) - US c); omega⟩) (fun rr h H locs hp0 hH => ?_)
        have hpost := hp0
        exact e_Z C0 hr (by rw [hpost.1]; decide) hH hpost (by omega) (by omega) dL_isDone_75
    · exact absurd ((nI_leI (by omega) (by omega)).mpr (by omega)) c44_4
set_option maxHeartbeats 1600000 in
set_option maxRecDepth 100000 in
theorem lL_isDone_del (l : Launch) (hlt : l.stackTraces = false) (Sc : SCR) (G : GT) (A : Nat → Prop) (h : AH) (b : BA) (c m : MM) (n : Nat) (L : LNum) (M : LRef) (o : Nat) (hJ : JW G.2.2.1 h b c L M) (ho : b 14 0 = o) (hwc : WFc c) (hS : Sim n c m) (hw : WFa m) (hI : IV m) (hn : n < 512) (i0 : Nat) (hi0 : i0 < 2 ^ 19) (h2 : 2 ≤ nhN m) (hl9 : 1 ≤ nlN m) (p ac : Nat) (ep : inN Sc (i0 + 1) (npN m + 1) % (if npN m = 0 then 1 else npN m) = p) (eac : (if npN m = 0 then 0 else inN Sc i0 12) = ac) (an : Nat) (f : Nat → Int32) (hL : L an = some (700, f)) (hT : NT f m) (hac : 7 ≤ ac ∧ ac < 9) (c2 : MM) (hsub : lcI l Sc G A yL_isDelivered cL_isDelivered 11 (Option.some FieldType.boolean) 13 443 (8 + (UC c2 - UC c)) (48 + (US c2 - US c)) [.ref o, .ref an, .ref Sc.1, .int (nI (i0 + 2)), .int (nI p)] h (fun r h' => r = nI 1 ∧ ∃ b' f' m' n', JW G.2.2.1 h' b' (c2) (setL L an 700 f') M ∧ b' 14 0 = o ∧ WFc (c2) ∧ n' ≤ n + 1 ∧ Stt n' (c2) m' ∧ NT f' m' ∧ Kp m m' ∧ UC c ≤ UC (c2) ∧ US c ≤ US (c2))) : lcI l Sc G A yL_isDone cL_isDone 8 (Option.some FieldType.boolean) 14 475 (12 + (UC (c2) - UC c)) (72 + (US (c2) - US c)) [.ref (o), .ref (an), .ref (Sc.1), .int (nI i0)] h (fun r h' => r = nI 1 ∧ ∃ b' f' m' n', JW G.2.2.1 h' b' (c2) (setL L an 700 f') M ∧ b' 14 0 = o ∧ WFc (c2) ∧ n' ≤ n + 1 ∧ Stt n' (c2) m' ∧ NT f' m' ∧ Kp m m' ∧ UC c ≤ UC (c2) ∧ US c ≤ US (c2)) := by
  refine lm_of rfl (Nat.le_of_ble_eq_true rfl) ?_
  intro pr e s m9 below meth c9 C0 hN hr hH ls hl
  obtain ⟨hx, hb, hml, hown, hts, hK, hA, -⟩ := id C0
  have hl : lv_has ls 8 [(0, .ref (o)), (1, .ref (an)), (2, .ref (Sc.1)), (3, .int (nI i0))] := hl
  have n40 := hw.np.2
  have n6 := hw.nh.2
  have nl12 := hw.nl.2
  refine lv_aload_n hx hb dL_isDone_0 rfl (lv_at hl 2 rfl) ?_
  refine lv_iload_n hx hb dL_isDone_1 rfl (lv_at hl 3 rfl) ?_
  refine lv_iconst (v := nI 1) hx hb dL_isDone_2 (by decide) ?_
  refine lv_iadd hx hb dL_isDone_3 ?_
  rw [show nI i0 + nI 1 = nI (i0 + 1) from nI_add _ _]
  refine lv_aload_n hx hb dL_isDone_4 rfl (lv_at hl 1 rfl) ?_
  refine lv_iconst (v := nI 2) hx hb dL_isDone_5 (by decide) ?_
  refine j_ld C0 hH hJ hL (ix := 2) (by omega) (by decide) (v := nI (npN m)) hT.p0 dL_isDone_6 ?_
  refine lv_iconst (v := nI 1) hx hb dL_isDone_7 (by decide) ?_
  refine lv_iadd hx hb dL_isDone_8 ?_
  rw [show nI (npN m) + nI 1 = nI (npN m + 1) from nI_add _ _]
  have hb1 := inN_lt Sc (i0 + 1) (n := npN m + 1) (by omega)
  refine k_i hH (k_lS (rest := []) C0 hN hH (lL_in l Sc G A _ (i0 + 1) (npN m + 1) (by omega) (by omega) (by omega)) mv_L_in ml_L_106 rfl ⟨Nat.le_of_ble_eq_true rfl, Nat.le_of_ble_eq_true rfl⟩ hl.1 rfl (Nat.le_of_ble_eq_true rfl) dL_isDone_9 ⟨by show _ ≤ 12 + (UC (c2) - UC c); omega, by show _ ≤ 72 + (US (c2) - US c); omega⟩) (fun rr h1 H locs hp hH => ?_)
  obtain ⟨ea, eh⟩ := hp
  rw [eh] at hH
  rw [ea, show inN Sc (i0 + 1) (npN m + 1) = inN Sc (i0 + 1) (npN m + 1) from rfl]
  refine lv_iconst (v := nI 1) hx hb dL_isDone_12 (by decide) ?_
  refine lv_aload_n hx hb dL_isDone_13 rfl (lv_at hl 1 rfl) ?_
  refine lv_iconst (v := nI 2) hx hb dL_isDone_14 (by decide) ?_
  refine j_ld C0 hH hJ hL (ix := 2) (by omega) (by decide) (v := nI (npN m)) hT.p0 dL_isDone_15 ?_
  refine o_mmax C0 ml_L_176 hl.1 dL_isDone_16 (Nat.le_of_ble_eq_true rfl) (Nat.le_of_ble_eq_true rfl) (by simp) ?_
  obtain ⟨mx, hmx⟩ : ∃ z, z = (if npN m = 0 then 1 else npN m) := ⟨_, rfl⟩
  have hmx0 : 0 < mx := by rw [hmx]; split <;> omega
  rw [show (if nI 1 < nI (npN m) then nI (npN m) else nI 1) = nI mx by rw [hmx]; by_cases y : npN m = 0; (· rw [if_pos y, y]; decide); (· rw [if_neg y]; by_cases y1 : npN m = 1; (· rw [y1]; decide); (· rw [if_pos (by rw [nI_ltI (by omega) (by omega)]; omega)]))]
  have hmx4 : mx ≤ 40 := by rw [hmx]; split <;> omega
  rw [← hmx] at ep
  refine lv_irem hx hb dL_isDone_19 (fun z => by have := (nI_eq (a := mx) (b := 0) (by omega) (by omega)).mp z; omega) ?_
  rw [nI_rem (show inN Sc (i0 + 1) (npN m + 1) < 2 ^ 31 by omega) (show mx < 2 ^ 31 by omega), ep]
  refine lv_istore (lv' := [(4, .int (nI p)), (0, .ref (o)), (1, .ref (an)), (2, .ref (Sc.1)), (3, .int (nI i0))]) hx hb dL_isDone_20 hl (by decide) rfl (fun ls hl => ?_)
  refine lv_aload_n hx hb dL_isDone_22 rfl (lv_at hl 2 rfl) ?_
  refine lv_iconst (v := nI 2) hx hb dL_isDone_23 (by decide) ?_
  refine j_ld C0 hH hJ hL (ix := 2) (by omega) (by decide) (v := nI (npN m)) hT.p0 dL_isDone_24 ?_
  refine lv_if_ne (tgt := 32) hx hb dL_isDone_25 (by decide) (fun c25_1 => ?_) (fun c25_1 => ?_)
  · replace c25_1 : ¬ (npN m = 0) := fun z => c25_1 ((nI_eq (a := npN m) (b := 0) (by omega) (by omega)).mpr z)
    rw [if_neg c25_1] at eac
    have hb2 := inN_lt Sc i0 (n := 12) (by omega)
    rw [eac] at hb2
    refine lv_aload_n hx hb dL_isDone_32 rfl (lv_at hl 3 rfl) ?_
    refine lv_iload_n hx hb dL_isDone_33 rfl (lv_at hl 4 rfl) ?_
    refine lv_bipush (v := nI 12) hx hb dL_isDone_34 (by decide) ?_
    refine k_i hH (k_lS (rest := []) C0 hN hH (lL_in l Sc G A _ i0 12 (by omega) (by omega) (by omega)) mv_L_in ml_L_106 rfl ⟨Nat.le_of_ble_eq_true rfl, Nat.le_of_ble_eq_true rfl⟩ hl.1 rfl (Nat.le_of_ble_eq_true rfl) dL_isDone_36 ⟨by show _ ≤ 12 + (UC (c2) - UC c); omega, by show _ ≤ 72 + (US (c2) - US c); omega⟩) (fun rr h1 H locs hp hH => ?_)
    obtain ⟨ea, eh⟩ := hp
    rw [eh] at hH
    rw [ea, eac]
    refine lv_istore (lv' := [(5, .int (nI ac)), (4, .int (nI p)), (0, .ref (o)), (1, .ref (an)), (2, .ref (Sc.1)), (3, .int (nI i0))]) hx hb dL_isDone_39 hl (by decide) rfl (fun ls hl => ?_)
    refine lv_iload hx hb dL_isDone_41 (lv_at hl 0 rfl) ?_
    refine lv_iconst (v := nI 3) hx hb dL_isDone_43 (by decide) ?_
    refine lv_icmp_ge (tgt := 57) hx hb dL_isDone_44 (by decide) (fun c44_2 => ?_) (fun c44_2 => ?_)
    · replace c44_2 : 3 ≤ ac := (nI_leI (a := 3) (b := ac) (by omega) (by omega)).mp c44_2
      refine lv_iload hx hb dL_isDone_57 (lv_at hl 0 rfl) ?_
      refine lv_bipush (v := nI 7) hx hb dL_isDone_59 (by decide) ?_
      refine lv_icmp_ge (tgt := 76) hx hb dL_isDone_61 (by decide) (fun c61_3 => ?_) (fun c61_3 => ?_)
      · replace c61_3 : 7 ≤ ac := (nI_leI (a := 7) (b := ac) (by omega) (by omega)).mp c61_3
        refine lv_iload hx hb dL_isDone_76 (lv_at hl 0 rfl) ?_
        refine lv_bipush (v := nI 9) hx hb dL_isDone_78 (by decide) ?_
        refine lv_icmp_ge (tgt := 95) hx hb dL_isDone_80 (by decide) (fun c80_4 => ?_) (fun c80_4 => ?_)
        · exact absurd ((nI_leI (by omega) (by omega)).mp c80_4) (by omega)
        · replace c80_4 : ¬ (9 ≤ ac) := fun z => c80_4 ((nI_leI (a := 9) (b := ac) (by omega) (by omega)).mpr z)
          refine lv_aload_n hx hb dL_isDone_83 rfl (lv_at hl 2 rfl) ?_
          refine lv_aload_n hx hb dL_isDone_84 rfl (lv_at hl 3 rfl) ?_
          refine lv_aload_n hx hb dL_isDone_85 rfl (lv_at hl 4 rfl) ?_
          refine lv_iload_n hx hb dL_isDone_86 rfl (lv_at hl 5 rfl) ?_
          refine lv_iconst (v := nI 2) hx hb dL_isDone_87 (by decide) ?_
          refine lv_iadd hx hb dL_isDone_88 ?_
          rw [show nI i0 + nI 2 = nI (i0 + 2) from nI_add _ _]
          refine lv_iload hx hb dL_isDone_89 (lv_at hl 1 rfl) ?_
          refine k_i hH (k_lS (rest := []) C0 hN hH hsub mv_L_isDelivered ml_L_188 rfl ⟨Nat.le_of_ble_eq_true rfl, Nat.le_of_ble_eq_true rfl⟩ hl.1 rfl (Nat.le_of_ble_eq_true rfl) dL_isDone_91 ⟨by show _ ≤ 12 + (UC (c2) - UC c); omega, by show _ ≤ 72 + (US (c2) - US c); omega⟩) (fun rr h H locs hp0 hH => ?_)
          have hpost := hp0
          exact e_Z C0 hr (by rw [hpost.1]; decide) hH hpost (by omega) (by omega) dL_isDone_94
      · exact absurd ((nI_leI (by omega) (by omega)).mpr (by omega)) c61_3
    · exact absurd ((nI_leI (by omega) (by omega)).mpr (by omega)) c44_2
  · replace c25_1 : npN m = 0 := (nI_eq (a := npN m) (b := 0) (by omega) (by omega)).mp c25_1
    rw [if_pos c25_1] at eac
    refine lv_iconst (v := nI 0) hx hb dL_isDone_28 (by decide) ?_
    refine lv_goto (tgt := 39) hx hb dL_isDone_29 (by decide) ?_
    rw [show nI 0 = nI ac by rw [← eac]]
    have hb2 : ac < 12 := by omega
    refine lv_istore (lv' := [(5, .int (nI ac)), (4, .int (nI p)), (0, .ref (o)), (1, .ref (an)), (2, .ref (Sc.1)), (3, .int (nI i0))]) hx hb dL_isDone_39 hl (by decide) rfl (fun ls hl => ?_)
    refine lv_iload hx hb dL_isDone_41 (lv_at hl 0 rfl) ?_
    refine lv_iconst (v := nI 3) hx hb dL_isDone_43 (by decide) ?_
    refine lv_icmp_ge (tgt := 57) hx hb dL_isDone_44 (by decide) (fun c44_5 => ?_) (fun c44_5 => ?_)
    · replace c44_5 : 3 ≤ ac := (nI_leI (a := 3) (b := ac) (by omega) (by omega)).mp c44_5
      refine lv_iload hx hb dL_isDone_57 (lv_at hl 0 rfl) ?_
      refine lv_bipush (v := nI 7) hx hb dL_isDone_59 (by decide) ?_
      refine lv_icmp_ge (tgt := 76) hx hb dL_isDone_61 (by decide) (fun c61_6 => ?_) (fun c61_6 => ?_)
      · replace c61_6 : 7 ≤ ac := (nI_leI (a := 7) (b := ac) (by omega) (by omega)).mp c61_6
        refine lv_iload hx hb dL_isDone_76 (lv_at hl 0 rfl) ?_
        refine lv_bipush (v := nI 9) hx hb dL_isDone_78 (by decide) ?_
        refine lv_icmp_ge (tgt := 95) hx hb dL_isDone_80 (by decide) (fun c80_7 => ?_) (fun c80_7 => ?_)
        · exact absurd ((nI_leI (by omega) (by omega)).mp c80_7) (by omega)
        · replace c80_7 : ¬ (9 ≤ ac) := fun z => c80_7 ((nI_leI (a := 9) (b := ac) (by omega) (by omega)).mpr z)
          refine lv_aload_n hx hb dL_isDone_83 rfl (lv_at hl 2 rfl) ?_
          refine lv_aload_n hx hb dL_isDone_84 rfl (lv_at hl 3 rfl) ?_
          refine lv_aload_n hx hb dL_isDone_85 rfl (lv_at hl 4 rfl) ?_
          refine lv_iload_n hx hb dL_isDone_86 rfl (lv_at hl 5 rfl) ?_
          refine lv_iconst (v := nI 2) hx hb dL_isDone_87 (by decide) ?_
          refine lv_iadd hx hb dL_isDone_88 ?_
          rw [show nI i0 + nI 2 = nI (i0 + 2) from nI_add _ _]
          refine lv_iload hx hb dL_isDone_89 (lv_at hl 1 rfl) ?_
          refine k_i hH (k_lS (rest := []) C0 hN hH hsub mv_L_isDelivered ml_L_188 rfl ⟨Nat.le_of_ble_eq_true rfl, Nat.le_of_ble_eq_true rfl⟩ hl.1 rfl (Nat.le_of_ble_eq_true rfl) dL_isDone_91 ⟨by show _ ≤ 12 + (UC (c2) - UC c); omega, by show _ ≤ 72 + (US (c2) - US c); omega⟩) (fun rr h H locs hp0 hH => ?_)
          have hpost := hp0
          exact e_Z C0 hr (by rw [hpost.1]; decide) hH hpost (by omega) (by omega) dL_isDone_94
      · exact absurd ((nI_leI (by omega) (by omega)).mpr (by omega)) c61_6
    · exact absurd ((nI_leI (by omega) (by omega)).mpr (by omega)) c44_5
set_option maxHeartbeats 1600000 in
set_option maxRecDepth 100000 in
theorem lL_isDone_lay (l : Launch) (hlt : l.stackTraces = false) (Sc : SCR) (G : GT) (A : Nat → Prop) (h : AH) (b : BA) (c m : MM) (n : Nat) (L : LNum) (M : LRef) (o : Nat) (hJ : JW G.2.2.1 h b c L M) (ho : b 14 0 = o) (hwc : WFc c) (hS : Sim n c m) (hw : WFa m) (hI : IV m) (hn : n < 512) (i0 : Nat) (hi0 : i0 < 2 ^ 19) (h2 : 2 ≤ nhN m) (hl9 : 1 ≤ nlN m) (p ac : Nat) (ep : inN Sc (i0 + 1) (npN m + 1) % (if npN m = 0 then 1 else npN m) = p) (eac : (if npN m = 0 then 0 else inN Sc i0 12) = ac) (an : Nat) (f : Nat → Int32) (hL : L an = some (700, f)) (hT : NT f m) (hac : ac = 10) (c2 : MM) (hsub : lcI l Sc G A yL_isLaid cL_isLaid 11 (Option.some FieldType.boolean) 9 247 (4 + (UC c2 - UC c)) (24 + (US c2 - US c)) [.ref o, .ref an, .ref Sc.1, .int (nI (i0 + 2))] h (fun r h' => r = nI 1 ∧ ∃ b' f' m' n', JW G.2.2.1 h' b' (c2) (setL L an 700 f') M ∧ b' 14 0 = o ∧ WFc (c2) ∧ n' ≤ n + 1 ∧ Stt n' (c2) m' ∧ NT f' m' ∧ Kp m m' ∧ UC c ≤ UC (c2) ∧ US c ≤ US (c2))) : lcI l Sc G A yL_isDone cL_isDone 8 (Option.some FieldType.boolean) 14 475 (12 + (UC (c2) - UC c)) (72 + (US (c2) - US c)) [.ref (o), .ref (an), .ref (Sc.1), .int (nI i0)] h (fun r h' => r = nI 1 ∧ ∃ b' f' m' n', JW G.2.2.1 h' b' (c2) (setL L an 700 f') M ∧ b' 14 0 = o ∧ WFc (c2) ∧ n' ≤ n + 1 ∧ Stt n' (c2) m' ∧ NT f' m' ∧ Kp m m' ∧ UC c ≤ UC (c2) ∧ US c ≤ US (c2)) := by
  refine lm_of rfl (Nat.le_of_ble_eq_true rfl) ?_
  intro pr e s m9 below meth c9 C0 hN hr hH ls hl
  obtain ⟨hx, hb, hml, hown, hts, hK, hA, -⟩ := id C0
  have hl : lv_has ls 8 [(0, .ref (o)), (1, .ref (an)), (2, .ref (Sc.1)), (3, .int (nI i0))] := hl
  have n40 := hw.np.2
  have n6 := hw.nh.2
  have nl12 := hw.nl.2
  refine lv_aload_n hx hb dL_isDone_0 rfl (lv_at hl 2 rfl) ?_
  refine lv_iload_n hx hb dL_isDone_1 rfl (lv_at hl 3 rfl) ?_
  refine lv_iconst (v := nI 1) hx hb dL_isDone_2 (by decide) ?_
  refine lv_iadd hx hb dL_isDone_3 ?_
  rw [show nI i0 + nI 1 = nI (i0 + 1) from nI_add _ _]
  refine lv_aload_n hx hb dL_isDone_4 rfl (lv_at hl 1 rfl) ?_
  refine lv_iconst (v := nI 2) hx hb dL_isDone_5 (by decide) ?_
  refine j_ld C0 hH hJ hL (ix := 2) (by omega) (by decide) (v := nI (npN m)) hT.p0 dL_isDone_6 ?_
  refine lv_iconst (v := nI 1) hx hb dL_isDone_7 (by decide) ?_
  refine lv_iadd hx hb dL_isDone_8 ?_
  rw [show nI (npN m) + nI 1 = nI (npN m + 1) from nI_add _ _]
  have hb1 := inN_lt Sc (i0 + 1) (n := npN m + 1) (by omega)
  refine k_i hH (k_lS (rest := []) C0 hN hH (lL_in l Sc G A _ (i0 + 1) (npN m + 1) (by omega) (by omega) (by omega)) mv_L_in ml_L_106 rfl ⟨Nat.le_of_ble_eq_true rfl, Nat.le_of_ble_eq_true rfl⟩ hl.1 rfl (Nat.le_of_ble_eq_true rfl) dL_isDone_9 ⟨by show _ ≤ 12 + (UC (c2) - UC c); omega, by show _ ≤ 72 + (US (c2) - US c); omega⟩) (fun rr h1 H locs hp hH => ?_)
  obtain ⟨ea, eh⟩ := hp
  rw [eh] at hH
  rw [ea, show inN Sc (i0 + 1) (npN m + 1) = inN Sc (i0 + 1) (npN m + 1) from rfl]
  refine lv_iconst (v := nI 1) hx hb dL_isDone_12 (by decide) ?_
  refine lv_aload_n hx hb dL_isDone_13 rfl (lv_at hl 1 rfl) ?_
  refine lv_iconst (v := nI 2) hx hb dL_isDone_14 (by decide) ?_
  refine j_ld C0 hH hJ hL (ix := 2) (by omega) (by decide) (v := nI (npN m)) hT.p0 dL_isDone_15 ?_
  refine o_mmax C0 ml_L_176 hl.1 dL_isDone_16 (Nat.le_of_ble_eq_true rfl) (Nat.le_of_ble_eq_true rfl) (by simp) ?_
  obtain ⟨mx, hmx⟩ : ∃ z, z = (if npN m = 0 then 1 else npN m) := ⟨_, rfl⟩
  have hmx0 : 0 < mx := by rw [hmx]; split <;> omega
  rw [show (if nI 1 < nI (npN m) then nI (npN m) else nI 1) = nI mx by rw [hmx]; by_cases y : npN m = 0; (· rw [if_pos y, y]; decide); (· rw [if_neg y]; by_cases y1 : npN m = 1; (· rw [y1]; decide); (· rw [if_pos (by rw [nI_ltI (by omega) (by omega)]; omega)]))]
  have hmx4 : mx ≤ 40 := by rw [hmx]; split <;> omega
  rw [← hmx] at ep
  refine lv_irem hx hb dL_isDone_19 (fun z => by have := (nI_eq (a := mx) (b := 0) (by omega) (by omega)).mp z; omega) ?_
  rw [nI_rem (show inN Sc (i0 + 1) (npN m + 1) < 2 ^ 31 by omega) (show mx < 2 ^ 31 by omega), ep]
  refine lv_istore (lv' := [(4, .int (nI p)), (0, .ref (o)), (1, .ref (an)), (2, .ref (Sc.1)), (3, .int (nI i0))]) hx hb dL_isDone_20 hl (by decide) rfl (fun ls hl => ?_)
  refine lv_aload_n hx hb dL_isDone_22 rfl (lv_at hl 2 rfl) ?_
  refine lv_iconst (v := nI 2) hx hb dL_isDone_23 (by decide) ?_
  refine j_ld C0 hH hJ hL (ix := 2) (by omega) (by decide) (v := nI (npN m)) hT.p0 dL_isDone_24 ?_
  refine lv_if_ne (tgt := 32) hx hb dL_isDone_25 (by decide) (fun c25_1 => ?_) (fun c25_1 => ?_)
  · replace c25_1 : ¬ (npN m = 0) := fun z => c25_1 ((nI_eq (a := npN m) (b := 0) (by omega) (by omega)).mpr z)
    rw [if_neg c25_1] at eac
    have hb2 := inN_lt Sc i0 (n := 12) (by omega)
    rw [eac] at hb2
    refine lv_aload_n hx hb dL_isDone_32 rfl (lv_at hl 3 rfl) ?_
    refine lv_iload_n hx hb dL_isDone_33 rfl (lv_at hl 4 rfl) ?_
    refine lv_bipush (v := nI 12) hx hb dL_isDone_34 (by decide) ?_
    refine k_i hH (k_lS (rest := []) C0 hN hH (lL_in l Sc G A _ i0 12 (by omega) (by omega) (by omega)) mv_L_in ml_L_106 rfl ⟨Nat.le_of_ble_eq_true rfl, Nat.le_of_ble_eq_true rfl⟩ hl.1 rfl (Nat.le_of_ble_eq_true rfl) dL_isDone_36 ⟨by show _ ≤ 12 + (UC (c2) - UC c); omega, by show _ ≤ 72 + (US (c2) - US c); omega⟩) (fun rr h1 H locs hp hH => ?_)
    obtain ⟨ea, eh⟩ := hp
    rw [eh] at hH
    rw [ea, eac]
    refine lv_istore (lv' := [(5, .int (nI ac)), (4, .int (nI p)), (0, .ref (o)), (1, .ref (an)), (2, .ref (Sc.1)), (3, .int (nI i0))]) hx hb dL_isDone_39 hl (by decide) rfl (fun ls hl => ?_)
    refine lv_iload hx hb dL_isDone_41 (lv_at hl 0 rfl) ?_
    refine lv_iconst (v := nI 3) hx hb dL_isDone_43 (by decide) ?_
    refine lv_icmp_ge (tgt := 57) hx hb dL_isDone_44 (by decide) (fun c44_2 => ?_) (fun c44_2 => ?_)
    · replace c44_2 : 3 ≤ ac := (nI_leI (a := 3) (b := ac) (by omega) (by omega)).mp c44_2
      refine lv_iload hx hb dL_isDone_57 (lv_at hl 0 rfl) ?_
      refine lv_bipush (v := nI 7) hx hb dL_isDone_59 (by decide) ?_
      refine lv_icmp_ge (tgt := 76) hx hb dL_isDone_61 (by decide) (fun c61_3 => ?_) (fun c61_3 => ?_)
      · replace c61_3 : 7 ≤ ac := (nI_leI (a := 7) (b := ac) (by omega) (by omega)).mp c61_3
        refine lv_iload hx hb dL_isDone_76 (lv_at hl 0 rfl) ?_
        refine lv_bipush (v := nI 9) hx hb dL_isDone_78 (by decide) ?_
        refine lv_icmp_ge (tgt := 95) hx hb dL_isDone_80 (by decide) (fun c80_4 => ?_) (fun c80_4 => ?_)
        · replace c80_4 : 9 ≤ ac := (nI_leI (a := 9) (b := ac) (by omega) (by omega)).mp c80_4
          refine lv_iload hx hb dL_isDone_95 (lv_at hl 0 rfl) ?_
          refine lv_bipush (v := nI 9) hx hb dL_isDone_97 (by decide) ?_
          refine lv_icmp_ne (tgt := 184) hx hb dL_isDone_99 (by decide) (fun c99_5 => ?_) (fun c99_5 => ?_)
          · replace c99_5 : ¬ (ac = 9) := fun z => c99_5 ((nI_eq (a := ac) (b := 9) (by omega) (by omega)).mpr z)
            refine lv_iload hx hb dL_isDone_184 (lv_at hl 0 rfl) ?_
            refine lv_bipush (v := nI 10) hx hb dL_isDone_186 (by decide) ?_
            refine lv_icmp_ne (tgt := 201) hx hb dL_isDone_188 (by decide) (fun c188_6 => ?_) (fun c188_6 => ?_)
            · exact absurd ((nI_eq (by omega) (by omega)).mpr (by omega)) c188_6
            · replace c188_6 : ac = 10 := (nI_eq (a := ac) (b := 10) (by omega) (by omega)).mp c188_6
              refine lv_aload_n hx hb dL_isDone_191 rfl (lv_at hl 2 rfl) ?_
              refine lv_aload_n hx hb dL_isDone_192 rfl (lv_at hl 3 rfl) ?_
              refine lv_aload_n hx hb dL_isDone_193 rfl (lv_at hl 4 rfl) ?_
              refine lv_iload_n hx hb dL_isDone_194 rfl (lv_at hl 5 rfl) ?_
              refine lv_iconst (v := nI 2) hx hb dL_isDone_195 (by decide) ?_
              refine lv_iadd hx hb dL_isDone_196 ?_
              rw [show nI i0 + nI 2 = nI (i0 + 2) from nI_add _ _]
              refine k_i hH (k_lS (rest := []) C0 hN hH hsub mv_L_isLaid ml_L_120 rfl ⟨Nat.le_of_ble_eq_true rfl, Nat.le_of_ble_eq_true rfl⟩ hl.1 rfl (Nat.le_of_ble_eq_true rfl) dL_isDone_197 ⟨by show _ ≤ 12 + (UC (c2) - UC c); omega, by show _ ≤ 72 + (US (c2) - US c); omega⟩) (fun rr h H locs hp0 hH => ?_)
              have hpost := hp0
              exact e_Z C0 hr (by rw [hpost.1]; decide) hH hpost (by omega) (by omega) dL_isDone_200
          · exact absurd ((nI_eq (by omega) (by omega)).mp c99_5) (by omega)
        · exact absurd ((nI_leI (by omega) (by omega)).mpr (by omega)) c80_4
      · exact absurd ((nI_leI (by omega) (by omega)).mpr (by omega)) c61_3
    · exact absurd ((nI_leI (by omega) (by omega)).mpr (by omega)) c44_2
  · replace c25_1 : npN m = 0 := (nI_eq (a := npN m) (b := 0) (by omega) (by omega)).mp c25_1
    rw [if_pos c25_1] at eac
    refine lv_iconst (v := nI 0) hx hb dL_isDone_28 (by decide) ?_
    refine lv_goto (tgt := 39) hx hb dL_isDone_29 (by decide) ?_
    rw [show nI 0 = nI ac by rw [← eac]]
    have hb2 : ac < 12 := by omega
    refine lv_istore (lv' := [(5, .int (nI ac)), (4, .int (nI p)), (0, .ref (o)), (1, .ref (an)), (2, .ref (Sc.1)), (3, .int (nI i0))]) hx hb dL_isDone_39 hl (by decide) rfl (fun ls hl => ?_)
    refine lv_iload hx hb dL_isDone_41 (lv_at hl 0 rfl) ?_
    refine lv_iconst (v := nI 3) hx hb dL_isDone_43 (by decide) ?_
    refine lv_icmp_ge (tgt := 57) hx hb dL_isDone_44 (by decide) (fun c44_7 => ?_) (fun c44_7 => ?_)
    · replace c44_7 : 3 ≤ ac := (nI_leI (a := 3) (b := ac) (by omega) (by omega)).mp c44_7
      refine lv_iload hx hb dL_isDone_57 (lv_at hl 0 rfl) ?_
      refine lv_bipush (v := nI 7) hx hb dL_isDone_59 (by decide) ?_
      refine lv_icmp_ge (tgt := 76) hx hb dL_isDone_61 (by decide) (fun c61_8 => ?_) (fun c61_8 => ?_)
      · replace c61_8 : 7 ≤ ac := (nI_leI (a := 7) (b := ac) (by omega) (by omega)).mp c61_8
        refine lv_iload hx hb dL_isDone_76 (lv_at hl 0 rfl) ?_
        refine lv_bipush (v := nI 9) hx hb dL_isDone_78 (by decide) ?_
        refine lv_icmp_ge (tgt := 95) hx hb dL_isDone_80 (by decide) (fun c80_9 => ?_) (fun c80_9 => ?_)
        · replace c80_9 : 9 ≤ ac := (nI_leI (a := 9) (b := ac) (by omega) (by omega)).mp c80_9
          refine lv_iload hx hb dL_isDone_95 (lv_at hl 0 rfl) ?_
          refine lv_bipush (v := nI 9) hx hb dL_isDone_97 (by decide) ?_
          refine lv_icmp_ne (tgt := 184) hx hb dL_isDone_99 (by decide) (fun c99_10 => ?_) (fun c99_10 => ?_)
          · replace c99_10 : ¬ (ac = 9) := fun z => c99_10 ((nI_eq (a := ac) (b := 9) (by omega) (by omega)).mpr z)
            refine lv_iload hx hb dL_isDone_184 (lv_at hl 0 rfl) ?_
            refine lv_bipush (v := nI 10) hx hb dL_isDone_186 (by decide) ?_
            refine lv_icmp_ne (tgt := 201) hx hb dL_isDone_188 (by decide) (fun c188_11 => ?_) (fun c188_11 => ?_)
            · exact absurd ((nI_eq (by omega) (by omega)).mpr (by omega)) c188_11
            · replace c188_11 : ac = 10 := (nI_eq (a := ac) (b := 10) (by omega) (by omega)).mp c188_11
              refine lv_aload_n hx hb dL_isDone_191 rfl (lv_at hl 2 rfl) ?_
              refine lv_aload_n hx hb dL_isDone_192 rfl (lv_at hl 3 rfl) ?_
              refine lv_aload_n hx hb dL_isDone_193 rfl (lv_at hl 4 rfl) ?_
              refine lv_iload_n hx hb dL_isDone_194 rfl (lv_at hl 5 rfl) ?_
              refine lv_iconst (v := nI 2) hx hb dL_isDone_195 (by decide) ?_
              refine lv_iadd hx hb dL_isDone_196 ?_
              rw [show nI i0 + nI 2 = nI (i0 + 2) from nI_add _ _]
              refine k_i hH (k_lS (rest := []) C0 hN hH hsub mv_L_isLaid ml_L_120 rfl ⟨Nat.le_of_ble_eq_true rfl, Nat.le_of_ble_eq_true rfl⟩ hl.1 rfl (Nat.le_of_ble_eq_true rfl) dL_isDone_197 ⟨by show _ ≤ 12 + (UC (c2) - UC c); omega, by show _ ≤ 72 + (US (c2) - US c); omega⟩) (fun rr h H locs hp0 hH => ?_)
              have hpost := hp0
              exact e_Z C0 hr (by rw [hpost.1]; decide) hH hpost (by omega) (by omega) dL_isDone_200
          · exact absurd ((nI_eq (by omega) (by omega)).mp c99_10) (by omega)
        · exact absurd ((nI_leI (by omega) (by omega)).mpr (by omega)) c80_9
      · exact absurd ((nI_leI (by omega) (by omega)).mpr (by omega)) c61_8
    · exact absurd ((nI_leI (by omega) (by omega)).mpr (by omega)) c44_7
set_option maxHeartbeats 1600000 in
set_option maxRecDepth 100000 in
theorem lL_isDone_rec1 (l : Launch) (hlt : l.stackTraces = false) (Sc : SCR) (G : GT) (A : Nat → Prop) (h : AH) (b : BA) (c m : MM) (n : Nat) (L : LNum) (M : LRef) (o : Nat) (hJ : JW G.2.2.1 h b c L M) (ho : b 14 0 = o) (hwc : WFc c) (hS : Sim n c m) (hw : WFa m) (hI : IV m) (hn : n < 512) (i0 : Nat) (hi0 : i0 < 2 ^ 19) (h2 : 2 ≤ nhN m) (hl9 : 1 ≤ nlN m) (p ac : Nat) (ep : inN Sc (i0 + 1) (npN m + 1) % (if npN m = 0 then 1 else npN m) = p) (eac : (if npN m = 0 then 0 else inN Sc i0 12) = ac) (an : Nat) (f : Nat → Int32) (hL : L an = some (700, f)) (hT : NT f m) (hac : ac = 9) (hp : p < npN m) (z1 : m 28 p = 115) (z2 : m 29 p = 0) : lcI l Sc G A yL_isDone cL_isDone 8 (Option.some FieldType.boolean) 14 475 (12 + (UC (cSr (cTurn c (nI p).toNatClampNeg) (nI p)) - UC c)) (72 + (US (cSr (cTurn c (nI p).toNatClampNeg) (nI p)) - US c)) [.ref (o), .ref (an), .ref (Sc.1), .int (nI i0)] h (fun r h' => r = nI 1 ∧ ∃ b' f' m' n', JW G.2.2.1 h' b' (cSr (cTurn c (nI p).toNatClampNeg) (nI p)) (setL L an 700 f') M ∧ b' 14 0 = o ∧ WFc (cSr (cTurn c (nI p).toNatClampNeg) (nI p)) ∧ n' ≤ n + 1 ∧ Stt n' (cSr (cTurn c (nI p).toNatClampNeg) (nI p)) m' ∧ NT f' m' ∧ Kp m m' ∧ UC c ≤ UC (cSr (cTurn c (nI p).toNatClampNeg) (nI p)) ∧ US c ≤ US (cSr (cTurn c (nI p).toNatClampNeg) (nI p))) := by
  refine lm_of rfl (Nat.le_of_ble_eq_true rfl) ?_
  intro pr e s m9 below meth c9 C0 hN hr hH ls hl
  obtain ⟨hx, hb, hml, hown, hts, hK, hA, -⟩ := id C0
  have hl : lv_has ls 8 [(0, .ref (o)), (1, .ref (an)), (2, .ref (Sc.1)), (3, .int (nI i0))] := hl
  have n40 := hw.np.2
  have n6 := hw.nh.2
  have nl12 := hw.nl.2
  have hNP := hT.pa hp
  have hpc := v_pC hw hp
  obtain ⟨hxa, m1, hSt1, hO1, hP1, hR1⟩ := d_recall ⟨hS, hw, hI⟩ hwc hn hp z1 z2
  rw [← hpc] at hSt1
  have hRa : cTurn c (nI p).toNatClampNeg 20 (nI p).toNatClampNeg = m1 20 p := by rw [hpc]; exact hR1
  have hg9 := (gm_rec hwc (nI p)).1
  rw [if_pos hxa] at hg9
  have hw1 := hSt1.2.1
  have hS1 := hSt1.1
  have hp1 : p < npN m1 := by rw [npN_ext (hO1.1 39 ⟨by unfold oK; omega, by omega⟩)]; exact hp
  have h41 : m1 41 0 = m 41 0 := by rw [hO1.1 41 ⟨by unfold oK; omega, by omega⟩]
  obtain ⟨t1, t2r, t3, t4, t5, t6, t7, t8⟩ := id hP1
  have t28 : m1 28 p = 115 := (t8 28 (by unfold tK; omega)).trans z1
  have t13 : m1 13 p = m 13 p := t8 13 (by unfold tK; omega)
  have t15 : m1 15 p = m 15 p := t8 15 (by unfold tK; omega)
  have t2 : m1 14 p = m1 13 p := t2r.trans t13.symm
  have hgu := uc_sr (cTurn c (nI p).toNatClampNeg) (nI p)
  refine lv_aload_n hx hb dL_isDone_0 rfl (lv_at hl 2 rfl) ?_
  refine lv_iload_n hx hb dL_isDone_1 rfl (lv_at hl 3 rfl) ?_
  refine lv_iconst (v := nI 1) hx hb dL_isDone_2 (by decide) ?_
  refine lv_iadd hx hb dL_isDone_3 ?_
  rw [show nI i0 + nI 1 = nI (i0 + 1) from nI_add _ _]
  refine lv_aload_n hx hb dL_isDone_4 rfl (lv_at hl 1 rfl) ?_
  refine lv_iconst (v := nI 2) hx hb dL_isDone_5 (by decide) ?_
  refine j_ld C0 hH hJ hL (ix := 2) (by omega) (by decide) (v := nI (npN m)) hT.p0 dL_isDone_6 ?_
  refine lv_iconst (v := nI 1) hx hb dL_isDone_7 (by decide) ?_
  refine lv_iadd hx hb dL_isDone_8 ?_
  rw [show nI (npN m) + nI 1 = nI (npN m + 1) from nI_add _ _]
  have hb1 := inN_lt Sc (i0 + 1) (n := npN m + 1) (by omega)
  refine k_i hH (k_lS (rest := []) C0 hN hH (lL_in l Sc G A _ (i0 + 1) (npN m + 1) (by omega) (by omega) (by omega)) mv_L_in ml_L_106 rfl ⟨Nat.le_of_ble_eq_true rfl, Nat.le_of_ble_eq_true rfl⟩ hl.1 rfl (Nat.le_of_ble_eq_true rfl) dL_isDone_9 ⟨by show _ ≤ 12 + (UC (cSr (cTurn c (nI p).toNatClampNeg) (nI p)) - UC c); omega, by show _ ≤ 72 + (US (cSr (cTurn c (nI p).toNatClampNeg) (nI p)) - US c); omega⟩) (fun rr h1 H locs hp hH => ?_)
  obtain ⟨ea, eh⟩ := hp
  rw [eh] at hH
  rw [ea, show inN Sc (i0 + 1) (npN m + 1) = inN Sc (i0 + 1) (npN m + 1) from rfl]
  refine lv_iconst (v := nI 1) hx hb dL_isDone_12 (by decide) ?_
  refine lv_aload_n hx hb dL_isDone_13 rfl (lv_at hl 1 rfl) ?_
  refine lv_iconst (v := nI 2) hx hb dL_isDone_14 (by decide) ?_
  refine j_ld C0 hH hJ hL (ix := 2) (by omega) (by decide) (v := nI (npN m)) hT.p0 dL_isDone_15 ?_
  refine o_mmax C0 ml_L_176 hl.1 dL_isDone_16 (Nat.le_of_ble_eq_true rfl) (Nat.le_of_ble_eq_true rfl) (by simp) ?_
  obtain ⟨mx, hmx⟩ : ∃ z, z = (if npN m = 0 then 1 else npN m) := ⟨_, rfl⟩
  have hmx0 : 0 < mx := by rw [hmx]; split <;> omega
  rw [show (if nI 1 < nI (npN m) then nI (npN m) else nI 1) = nI mx by rw [hmx]; by_cases y : npN m = 0; (· rw [if_pos y, y]; decide); (· rw [if_neg y]; by_cases y1 : npN m = 1; (· rw [y1]; decide); (· rw [if_pos (by rw [nI_ltI (by omega) (by omega)]; omega)]))]
  have hmx4 : mx ≤ 40 := by rw [hmx]; split <;> omega
  rw [← hmx] at ep
  refine lv_irem hx hb dL_isDone_19 (fun z => by have := (nI_eq (a := mx) (b := 0) (by omega) (by omega)).mp z; omega) ?_
  rw [nI_rem (show inN Sc (i0 + 1) (npN m + 1) < 2 ^ 31 by omega) (show mx < 2 ^ 31 by omega), ep]
  refine lv_istore (lv' := [(4, .int (nI p)), (0, .ref (o)), (1, .ref (an)), (2, .ref (Sc.1)), (3, .int (nI i0))]) hx hb dL_isDone_20 hl (by decide) rfl (fun ls hl => ?_)
  refine lv_aload_n hx hb dL_isDone_22 rfl (lv_at hl 2 rfl) ?_
  refine lv_iconst (v := nI 2) hx hb dL_isDone_23 (by decide) ?_
  refine j_ld C0 hH hJ hL (ix := 2) (by omega) (by decide) (v := nI (npN m)) hT.p0 dL_isDone_24 ?_
  refine lv_if_ne (tgt := 32) hx hb dL_isDone_25 (by decide) (fun c25_1 => ?_) (fun c25_1 => ?_)
  · replace c25_1 : ¬ (npN m = 0) := fun z => c25_1 ((nI_eq (a := npN m) (b := 0) (by omega) (by omega)).mpr z)
    rw [if_neg c25_1] at eac
    have hb2 := inN_lt Sc i0 (n := 12) (by omega)
    rw [eac] at hb2
    refine lv_aload_n hx hb dL_isDone_32 rfl (lv_at hl 3 rfl) ?_
    refine lv_iload_n hx hb dL_isDone_33 rfl (lv_at hl 4 rfl) ?_
    refine lv_bipush (v := nI 12) hx hb dL_isDone_34 (by decide) ?_
    refine k_i hH (k_lS (rest := []) C0 hN hH (lL_in l Sc G A _ i0 12 (by omega) (by omega) (by omega)) mv_L_in ml_L_106 rfl ⟨Nat.le_of_ble_eq_true rfl, Nat.le_of_ble_eq_true rfl⟩ hl.1 rfl (Nat.le_of_ble_eq_true rfl) dL_isDone_36 ⟨by show _ ≤ 12 + (UC (cSr (cTurn c (nI p).toNatClampNeg) (nI p)) - UC c); omega, by show _ ≤ 72 + (US (cSr (cTurn c (nI p).toNatClampNeg) (nI p)) - US c); omega⟩) (fun rr h1 H locs hp hH => ?_)
    obtain ⟨ea, eh⟩ := hp
    rw [eh] at hH
    rw [ea, eac]
    refine lv_istore (lv' := [(5, .int (nI ac)), (4, .int (nI p)), (0, .ref (o)), (1, .ref (an)), (2, .ref (Sc.1)), (3, .int (nI i0))]) hx hb dL_isDone_39 hl (by decide) rfl (fun ls hl => ?_)
    refine lv_iload hx hb dL_isDone_41 (lv_at hl 0 rfl) ?_
    refine lv_iconst (v := nI 3) hx hb dL_isDone_43 (by decide) ?_
    refine lv_icmp_ge (tgt := 57) hx hb dL_isDone_44 (by decide) (fun c44_2 => ?_) (fun c44_2 => ?_)
    · replace c44_2 : 3 ≤ ac := (nI_leI (a := 3) (b := ac) (by omega) (by omega)).mp c44_2
      refine lv_iload hx hb dL_isDone_57 (lv_at hl 0 rfl) ?_
      refine lv_bipush (v := nI 7) hx hb dL_isDone_59 (by decide) ?_
      refine lv_icmp_ge (tgt := 76) hx hb dL_isDone_61 (by decide) (fun c61_3 => ?_) (fun c61_3 => ?_)
      · replace c61_3 : 7 ≤ ac := (nI_leI (a := 7) (b := ac) (by omega) (by omega)).mp c61_3
        refine lv_iload hx hb dL_isDone_76 (lv_at hl 0 rfl) ?_
        refine lv_bipush (v := nI 9) hx hb dL_isDone_78 (by decide) ?_
        refine lv_icmp_ge (tgt := 95) hx hb dL_isDone_80 (by decide) (fun c80_4 => ?_) (fun c80_4 => ?_)
        · replace c80_4 : 9 ≤ ac := (nI_leI (a := 9) (b := ac) (by omega) (by omega)).mp c80_4
          refine lv_iload hx hb dL_isDone_95 (lv_at hl 0 rfl) ?_
          refine lv_bipush (v := nI 9) hx hb dL_isDone_97 (by decide) ?_
          refine lv_icmp_ne (tgt := 184) hx hb dL_isDone_99 (by decide) (fun c99_5 => ?_) (fun c99_5 => ?_)
          · exact absurd ((nI_eq (by omega) (by omega)).mpr (by omega)) c99_5
          · replace c99_5 : ac = 9 := (nI_eq (a := ac) (b := 9) (by omega) (by omega)).mp c99_5
            refine lv_aload_n hx hb dL_isDone_102 rfl (lv_at hl 2 rfl) ?_
            refine lv_iload hx hb dL_isDone_103 (lv_at hl 1 rfl) ?_
            refine j_w0 (As := [.int (nI p)]) (rest := []) (v := nI 115) C0 hN hH ho (lW_state (nI p) hJ.own hJ.obj (cN_X10_state l hlt G _ _ b c hJ.rest hwc (nI p) (v_nar28 hS hw hp) (v_pX hS hw hwc hp)) (fun E h9 z => absurd ((v_pX hS hw hwc hp).symm.trans z.1) (fun y => nomatch y))) (fun r h9 z => z.elim (fun y => ⟨y.2.1.trans ((v_pk hS hw hp (k := 28) rfl).trans z1), y.2.2⟩) (fun ⟨E, y, _⟩ => absurd ((v_pX hS hw hwc hp).symm.trans y.1) (fun q => nomatch q))) ms_L_state ml_L_147 rfl ⟨Nat.le_of_ble_eq_true rfl, Nat.le_of_ble_eq_true rfl⟩ hl.1 rfl (Nat.le_of_ble_eq_true rfl) dL_isDone_105 ⟨by show _ ≤ 12 + (UC (cSr (cTurn c (nI p).toNatClampNeg) (nI p)) - UC c); omega, by show _ ≤ 72 + (US (cSr (cTurn c (nI p).toNatClampNeg) (nI p)) - US c); omega⟩ (fun H locs hH => ?_)
            refine lv_bipush (v := nI 115) hx hb dL_isDone_108 (by decide) ?_
            refine lv_icmp_ne (tgt := 126) hx hb dL_isDone_110 (by decide) (fun c110_6 => ?_) (fun c110_6 => ?_)
            · exact absurd (by decide) c110_6
            · refine lv_aload_n hx hb dL_isDone_113 rfl (lv_at hl 2 rfl) ?_
              refine lv_iload hx hb dL_isDone_114 (lv_at hl 1 rfl) ?_
              refine j_q0 (rest := []) C0 hH hJ ho (cN_X10_isReturn l hlt G _ _ b c hJ.rest hwc (nI p) (v_nar29 hS hw hp) (v_pX hS hw hwc hp)) (v_pX hS hw hwc hp) (v := nI 0) ((v_pk hS hw hp (k := 29) rfl).trans z2) mv_X10_isReturn ml_L_151 rfl ⟨Nat.le_of_ble_eq_true rfl, Nat.le_of_ble_eq_true rfl⟩ hl.1 rfl (Nat.le_of_ble_eq_true rfl) dL_isDone_116 ⟨by show _ ≤ 12 + (UC (cSr (cTurn c (nI p).toNatClampNeg) (nI p)) - UC c); omega, by show _ ≤ 72 + (US (cSr (cTurn c (nI p).toNatClampNeg) (nI p)) - US c); omega⟩ (fun H locs hH => ?_)
              refine lv_if_ne (tgt := 126) hx hb dL_isDone_119 (by decide) (fun c119_7 => ?_) (fun c119_7 => ?_)
              · exact absurd (by decide) c119_7
              · refine lv_iconst (v := nI 1) hx hb dL_isDone_122 (by decide) ?_
                refine lv_goto (tgt := 127) hx hb dL_isDone_123 (by decide) ?_
                refine lv_istore (lv' := [(6, .int (nI 1)), (5, .int (nI ac)), (4, .int (nI p)), (0, .ref (o)), (1, .ref (an)), (2, .ref (Sc.1)), (3, .int (nI i0))]) hx hb dL_isDone_127 hl (by decide) rfl (fun ls hl => ?_)
                refine lv_aload_n hx hb dL_isDone_129 rfl (lv_at hl 3 rfl) ?_
                refine lv_iload hx hb dL_isDone_130 (lv_at hl 2 rfl) ?_
                have hwc0 := hwc
                refine j_w1 (As := [.int (nI p)]) (rest := []) (v := m1 20 p) (c' := cTurn c (nI p).toNatClampNeg) C0 hN hH hJ ho (lW_recall (nI p) hJ.own hJ.obj (cC_X10_recall l hlt G _ _ b c hJ.rest hwc (nI p)) (hin_n hxa (fun E h9 z => z.1))) (hv_in hxa hRa (fun E h9 z => z.1)) ms_L_recall ml_L_191 rfl ⟨Nat.le_of_ble_eq_true rfl, Nat.le_of_ble_eq_true rfl⟩ hl.1 rfl (Nat.le_of_ble_eq_true rfl) dL_isDone_132 ⟨by show _ ≤ 12 + (UC (cSr (cTurn c (nI p).toNatClampNeg) (nI p)) - UC c); omega, by show _ ≤ 72 + (US (cSr (cTurn c (nI p).toNatClampNeg) (nI p)) - US c); omega⟩ (fun h b H locs hH hJ ho hwc => ?_)
                refine lv_istore (lv' := [(7, .int (m1 20 p)), (6, .int (nI 1)), (5, .int (nI ac)), (4, .int (nI p)), (0, .ref (o)), (1, .ref (an)), (2, .ref (Sc.1)), (3, .int (nI i0))]) hx hb dL_isDone_135 hl (by decide) rfl (fun ls hl => ?_)
                refine lv_iload hx hb dL_isDone_137 (lv_at hl 1 rfl) ?_
                refine lv_if_eq (tgt := 171) hx hb dL_isDone_139 (by decide) (fun c139_8 => ?_) (fun c139_8 => ?_)
                · exact absurd c139_8 (by decide)
                · refine lv_iload hx hb dL_isDone_142 (lv_at hl 0 rfl) ?_
                  refine lv_aload_n hx hb dL_isDone_144 rfl (lv_at hl 4 rfl) ?_
                  refine lv_iload hx hb dL_isDone_145 (lv_at hl 3 rfl) ?_
                  refine j_q0 (rest := [.int (m1 20 p)]) C0 hH hJ ho (cN_X10_promise l hlt G _ _ b (cTurn c (nI p).toNatClampNeg) hJ.rest hwc (nI p) (v_pX hS1 hw1 hwc hp1)) (v_pX hS1 hw1 hwc hp1) (v := m1 20 p) (v_pk hS1 hw1 hp1 (k := 20) rfl) mv_X10_promise ml_L_142 rfl ⟨Nat.le_of_ble_eq_true rfl, Nat.le_of_ble_eq_true rfl⟩ hl.1 rfl (Nat.le_of_ble_eq_true rfl) dL_isDone_147 ⟨by show _ ≤ 12 + (UC (cSr (cTurn c (nI p).toNatClampNeg) (nI p)) - UC c); omega, by show _ ≤ 72 + (US (cSr (cTurn c (nI p).toNatClampNeg) (nI p)) - US c); omega⟩ (fun H locs hH => ?_)
                  refine lv_icmp_ne (tgt := 167) hx hb dL_isDone_150 (by decide) (fun c150_9 => ?_) (fun c150_9 => ?_)
                  · exact absurd rfl c150_9
                  · refine lv_aload_n hx hb dL_isDone_153 rfl (lv_at hl 4 rfl) ?_
                    refine lv_aload_n hx hb dL_isDone_154 rfl (lv_at hl 5 rfl) ?_
                    refine lv_iload hx hb dL_isDone_155 (lv_at hl 3 rfl) ?_
                    have hwcT := hwc
                    refine k_i hH (k_lS (rest := []) C0 hN hH (lL_isTurned l hlt Sc G A _ _ (cTurn c (nI p).toNatClampNeg) m1 (n + 1) _ _ o hJ ho hwc hS1 hw1 an f hL p hp1 (hNP.g2.trans t13.symm) t28 t1 t2 t3 t6) mv_L_isTurned ml_L_172 rfl ⟨Nat.le_of_ble_eq_true rfl, Nat.le_of_ble_eq_true rfl⟩ hl.1 rfl (Nat.le_of_ble_eq_true rfl) dL_isDone_157 ⟨by show _ ≤ 12 + (UC (cSr (cTurn c (nI p).toNatClampNeg) (nI p)) - UC c); omega, by show _ ≤ 72 + (US (cSr (cTurn c (nI p).toNatClampNeg) (nI p)) - US c); omega⟩) (fun rr h H locs hp0 hH => ?_)
                    obtain ⟨ea, b, hJ, ho, hwc⟩ := hp0
                    rw [ea]
                    obtain ⟨f9, hf9⟩ : ∃ z, z = upF (upF f (140 + 12 * p + 3) (m1 41 0)) (140 + 12 * p + 8) (if m1 15 p = m1 13 p then m1 41 0 else -1) := ⟨_, rfl⟩
                    rw [← hf9] at hJ
                    have hST := (v_arv hS1 hw1 hwcT hp1 t28).2
                    refine lv_if_eq (tgt := 167) hx hb dL_isDone_160 (by decide) (fun c160_10 => ?_) (fun c160_10 => ?_)
                    · exact absurd c160_10 (by decide)
                    · refine lv_iconst (v := nI 1) hx hb dL_isDone_163 (by decide) ?_
                      refine lv_goto (tgt := 183) hx hb dL_isDone_164 (by decide) ?_
                      have hnp9 : NP f9 m1 p := hNP.turn hP1 z1 (by rw [hf9, upF_o (by omega), upF_s]; exact h41) (by rw [hf9, upF_s, t15, t13, h41]) (fun j hj a1 a2 => by rw [hf9, upF_o (by omega), upF_o (by omega)])
                      have hNT := hT.par (f' := f9) hw hO1 hp (fun i hi => by have y3 := hi 3 (by omega); have y8 := hi 8 (by omega); rw [hf9, upF_o y8, upF_o y3]) hnp9
                      exact e_Z C0 hr (by decide) hH ⟨rfl, b, f9, m1, n + 1, hJ, ho, hwc, Nat.le_refl _, ⟨hST, hw1, hSt1.2.2⟩, hNT.1, hNT.2, by omega, by omega⟩ (by omega) (by omega) dL_isDone_183
        · exact absurd ((nI_leI (by omega) (by omega)).mpr (by omega)) c80_4
      · exact absurd ((nI_leI (by omega) (by omega)).mpr (by omega)) c61_3
    · exact absurd ((nI_leI (by omega) (by omega)).mpr (by omega)) c44_2
  · replace c25_1 : npN m = 0 := (nI_eq (a := npN m) (b := 0) (by omega) (by omega)).mp c25_1
    rw [if_pos c25_1] at eac
    refine lv_iconst (v := nI 0) hx hb dL_isDone_28 (by decide) ?_
    refine lv_goto (tgt := 39) hx hb dL_isDone_29 (by decide) ?_
    rw [show nI 0 = nI ac by rw [← eac]]
    have hb2 : ac < 12 := by omega
    refine lv_istore (lv' := [(5, .int (nI ac)), (4, .int (nI p)), (0, .ref (o)), (1, .ref (an)), (2, .ref (Sc.1)), (3, .int (nI i0))]) hx hb dL_isDone_39 hl (by decide) rfl (fun ls hl => ?_)
    refine lv_iload hx hb dL_isDone_41 (lv_at hl 0 rfl) ?_
    refine lv_iconst (v := nI 3) hx hb dL_isDone_43 (by decide) ?_
    refine lv_icmp_ge (tgt := 57) hx hb dL_isDone_44 (by decide) (fun c44_11 => ?_) (fun c44_11 => ?_)
    · replace c44_11 : 3 ≤ ac := (nI_leI (a := 3) (b := ac) (by omega) (by omega)).mp c44_11
      refine lv_iload hx hb dL_isDone_57 (lv_at hl 0 rfl) ?_
      refine lv_bipush (v := nI 7) hx hb dL_isDone_59 (by decide) ?_
      refine lv_icmp_ge (tgt := 76) hx hb dL_isDone_61 (by decide) (fun c61_12 => ?_) (fun c61_12 => ?_)
      · replace c61_12 : 7 ≤ ac := (nI_leI (a := 7) (b := ac) (by omega) (by omega)).mp c61_12
        refine lv_iload hx hb dL_isDone_76 (lv_at hl 0 rfl) ?_
        refine lv_bipush (v := nI 9) hx hb dL_isDone_78 (by decide) ?_
        refine lv_icmp_ge (tgt := 95) hx hb dL_isDone_80 (by decide) (fun c80_13 => ?_) (fun c80_13 => ?_)
        · replace c80_13 : 9 ≤ ac := (nI_leI (a := 9) (b := ac) (by omega) (by omega)).mp c80_13
          refine lv_iload hx hb dL_isDone_95 (lv_at hl 0 rfl) ?_
          refine lv_bipush (v := nI 9) hx hb dL_isDone_97 (by decide) ?_
          refine lv_icmp_ne (tgt := 184) hx hb dL_isDone_99 (by decide) (fun c99_14 => ?_) (fun c99_14 => ?_)
          · exact absurd ((nI_eq (by omega) (by omega)).mpr (by omega)) c99_14
          · replace c99_14 : ac = 9 := (nI_eq (a := ac) (b := 9) (by omega) (by omega)).mp c99_14
            refine lv_aload_n hx hb dL_isDone_102 rfl (lv_at hl 2 rfl) ?_
            refine lv_iload hx hb dL_isDone_103 (lv_at hl 1 rfl) ?_
            refine j_w0 (As := [.int (nI p)]) (rest := []) (v := nI 115) C0 hN hH ho (lW_state (nI p) hJ.own hJ.obj (cN_X10_state l hlt G _ _ b c hJ.rest hwc (nI p) (v_nar28 hS hw hp) (v_pX hS hw hwc hp)) (fun E h9 z => absurd ((v_pX hS hw hwc hp).symm.trans z.1) (fun y => nomatch y))) (fun r h9 z => z.elim (fun y => ⟨y.2.1.trans ((v_pk hS hw hp (k := 28) rfl).trans z1), y.2.2⟩) (fun ⟨E, y, _⟩ => absurd ((v_pX hS hw hwc hp).symm.trans y.1) (fun q => nomatch q))) ms_L_state ml_L_147 rfl ⟨Nat.le_of_ble_eq_true rfl, Nat.le_of_ble_eq_true rfl⟩ hl.1 rfl (Nat.le_of_ble_eq_true rfl) dL_isDone_105 ⟨by show _ ≤ 12 + (UC (cSr (cTurn c (nI p).toNatClampNeg) (nI p)) - UC c); omega, by show _ ≤ 72 + (US (cSr (cTurn c (nI p).toNatClampNeg) (nI p)) - US c); omega⟩ (fun H locs hH => ?_)
            refine lv_bipush (v := nI 115) hx hb dL_isDone_108 (by decide) ?_
            refine lv_icmp_ne (tgt := 126) hx hb dL_isDone_110 (by decide) (fun c110_15 => ?_) (fun c110_15 => ?_)
            · exact absurd (by decide) c110_15
            · refine lv_aload_n hx hb dL_isDone_113 rfl (lv_at hl 2 rfl) ?_
              refine lv_iload hx hb dL_isDone_114 (lv_at hl 1 rfl) ?_
              refine j_q0 (rest := []) C0 hH hJ ho (cN_X10_isReturn l hlt G _ _ b c hJ.rest hwc (nI p) (v_nar29 hS hw hp) (v_pX hS hw hwc hp)) (v_pX hS hw hwc hp) (v := nI 0) ((v_pk hS hw hp (k := 29) rfl).trans z2) mv_X10_isReturn ml_L_151 rfl ⟨Nat.le_of_ble_eq_true rfl, Nat.le_of_ble_eq_true rfl⟩ hl.1 rfl (Nat.le_of_ble_eq_true rfl) dL_isDone_116 ⟨by show _ ≤ 12 + (UC (cSr (cTurn c (nI p).toNatClampNeg) (nI p)) - UC c); omega, by show _ ≤ 72 + (US (cSr (cTurn c (nI p).toNatClampNeg) (nI p)) - US c); omega⟩ (fun H locs hH => ?_)
              refine lv_if_ne (tgt := 126) hx hb dL_isDone_119 (by decide) (fun c119_16 => ?_) (fun c119_16 => ?_)
              · exact absurd (by decide) c119_16
              · refine lv_iconst (v := nI 1) hx hb dL_isDone_122 (by decide) ?_
                refine lv_goto (tgt := 127) hx hb dL_isDone_123 (by decide) ?_
                refine lv_istore (lv' := [(6, .int (nI 1)), (5, .int (nI ac)), (4, .int (nI p)), (0, .ref (o)), (1, .ref (an)), (2, .ref (Sc.1)), (3, .int (nI i0))]) hx hb dL_isDone_127 hl (by decide) rfl (fun ls hl => ?_)
                refine lv_aload_n hx hb dL_isDone_129 rfl (lv_at hl 3 rfl) ?_
                refine lv_iload hx hb dL_isDone_130 (lv_at hl 2 rfl) ?_
                have hwc0 := hwc
                refine j_w1 (As := [.int (nI p)]) (rest := []) (v := m1 20 p) (c' := cTurn c (nI p).toNatClampNeg) C0 hN hH hJ ho (lW_recall (nI p) hJ.own hJ.obj (cC_X10_recall l hlt G _ _ b c hJ.rest hwc (nI p)) (hin_n hxa (fun E h9 z => z.1))) (hv_in hxa hRa (fun E h9 z => z.1)) ms_L_recall ml_L_191 rfl ⟨Nat.le_of_ble_eq_true rfl, Nat.le_of_ble_eq_true rfl⟩ hl.1 rfl (Nat.le_of_ble_eq_true rfl) dL_isDone_132 ⟨by show _ ≤ 12 + (UC (cSr (cTurn c (nI p).toNatClampNeg) (nI p)) - UC c); omega, by show _ ≤ 72 + (US (cSr (cTurn c (nI p).toNatClampNeg) (nI p)) - US c); omega⟩ (fun h b H locs hH hJ ho hwc => ?_)
                refine lv_istore (lv' := [(7, .int (m1 20 p)), (6, .int (nI 1)), (5, .int (nI ac)), (4, .int (nI p)), (0, .ref (o)), (1, .ref (an)), (2, .ref (Sc.1)), (3, .int (nI i0))]) hx hb dL_isDone_135 hl (by decide) rfl (fun ls hl => ?_)
                refine lv_iload hx hb dL_isDone_137 (lv_at hl 1 rfl) ?_
                refine lv_if_eq (tgt := 171) hx hb dL_isDone_139 (by decide) (fun c139_17 => ?_) (fun c139_17 => ?_)
                · exact absurd c139_17 (by decide)
                · refine lv_iload hx hb dL_isDone_142 (lv_at hl 0 rfl) ?_
                  refine lv_aload_n hx hb dL_isDone_144 rfl (lv_at hl 4 rfl) ?_
                  refine lv_iload hx hb dL_isDone_145 (lv_at hl 3 rfl) ?_
                  refine j_q0 (rest := [.int (m1 20 p)]) C0 hH hJ ho (cN_X10_promise l hlt G _ _ b (cTurn c (nI p).toNatClampNeg) hJ.rest hwc (nI p) (v_pX hS1 hw1 hwc hp1)) (v_pX hS1 hw1 hwc hp1) (v := m1 20 p) (v_pk hS1 hw1 hp1 (k := 20) rfl) mv_X10_promise ml_L_142 rfl ⟨Nat.le_of_ble_eq_true rfl, Nat.le_of_ble_eq_true rfl⟩ hl.1 rfl (Nat.le_of_ble_eq_true rfl) dL_isDone_147 ⟨by show _ ≤ 12 + (UC (cSr (cTurn c (nI p).toNatClampNeg) (nI p)) - UC c); omega, by show _ ≤ 72 + (US (cSr (cTurn c (nI p).toNatClampNeg) (nI p)) - US c); omega⟩ (fun H locs hH => ?_)
                  refine lv_icmp_ne (tgt := 167) hx hb dL_isDone_150 (by decide) (fun c150_18 => ?_) (fun c150_18 => ?_)
                  · exact absurd rfl c150_18
                  · refine lv_aload_n hx hb dL_isDone_153 rfl (lv_at hl 4 rfl) ?_
                    refine lv_aload_n hx hb dL_isDone_154 rfl (lv_at hl 5 rfl) ?_
                    refine lv_iload hx hb dL_isDone_155 (lv_at hl 3 rfl) ?_
                    have hwcT := hwc
                    refine k_i hH (k_lS (rest := []) C0 hN hH (lL_isTurned l hlt Sc G A _ _ (cTurn c (nI p).toNatClampNeg) m1 (n + 1) _ _ o hJ ho hwc hS1 hw1 an f hL p hp1 (hNP.g2.trans t13.symm) t28 t1 t2 t3 t6) mv_L_isTurned ml_L_172 rfl ⟨Nat.le_of_ble_eq_true rfl, Nat.le_of_ble_eq_true rfl⟩ hl.1 rfl (Nat.le_of_ble_eq_true rfl) dL_isDone_157 ⟨by show _ ≤ 12 + (UC (cSr (cTurn c (nI p).toNatClampNeg) (nI p)) - UC c); omega, by show _ ≤ 72 + (US (cSr (cTurn c (nI p).toNatClampNeg) (nI p)) - US c); omega⟩) (fun rr h H locs hp0 hH => ?_)
                    obtain ⟨ea, b, hJ, ho, hwc⟩ := hp0
                    rw [ea]
                    obtain ⟨f9, hf9⟩ : ∃ z, z = upF (upF f (140 + 12 * p + 3) (m1 41 0)) (140 + 12 * p + 8) (if m1 15 p = m1 13 p then m1 41 0 else -1) := ⟨_, rfl⟩
                    rw [← hf9] at hJ
                    have hST := (v_arv hS1 hw1 hwcT hp1 t28).2
                    refine lv_if_eq (tgt := 167) hx hb dL_isDone_160 (by decide) (fun c160_19 => ?_) (fun c160_19 => ?_)
                    · exact absurd c160_19 (by decide)
                    · refine lv_iconst (v := nI 1) hx hb dL_isDone_163 (by decide) ?_
                      refine lv_goto (tgt := 183) hx hb dL_isDone_164 (by decide) ?_
                      have hnp9 : NP f9 m1 p := hNP.turn hP1 z1 (by rw [hf9, upF_o (by omega), upF_s]; exact h41) (by rw [hf9, upF_s, t15, t13, h41]) (fun j hj a1 a2 => by rw [hf9, upF_o (by omega), upF_o (by omega)])
                      have hNT := hT.par (f' := f9) hw hO1 hp (fun i hi => by have y3 := hi 3 (by omega); have y8 := hi 8 (by omega); rw [hf9, upF_o y8, upF_o y3]) hnp9
                      exact e_Z C0 hr (by decide) hH ⟨rfl, b, f9, m1, n + 1, hJ, ho, hwc, Nat.le_refl _, ⟨hST, hw1, hSt1.2.2⟩, hNT.1, hNT.2, by omega, by omega⟩ (by omega) (by omega) dL_isDone_183
        · exact absurd ((nI_leI (by omega) (by omega)).mpr (by omega)) c80_13
      · exact absurd ((nI_leI (by omega) (by omega)).mpr (by omega)) c61_12
    · exact absurd ((nI_leI (by omega) (by omega)).mpr (by omega)) c44_11
set_option maxHeartbeats 1600000 in
set_option maxRecDepth 100000 in
theorem lL_isDone_rec0 (l : Launch) (hlt : l.stackTraces = false) (Sc : SCR) (G : GT) (A : Nat → Prop) (h : AH) (b : BA) (c m : MM) (n : Nat) (L : LNum) (M : LRef) (o : Nat) (hJ : JW G.2.2.1 h b c L M) (ho : b 14 0 = o) (hwc : WFc c) (hS : Sim n c m) (hw : WFa m) (hI : IV m) (hn : n < 512) (i0 : Nat) (hi0 : i0 < 2 ^ 19) (h2 : 2 ≤ nhN m) (hl9 : 1 ≤ nlN m) (p ac : Nat) (ep : inN Sc (i0 + 1) (npN m + 1) % (if npN m = 0 then 1 else npN m) = p) (eac : (if npN m = 0 then 0 else inN Sc i0 12) = ac) (an : Nat) (f : Nat → Int32) (hL : L an = some (700, f)) (hT : NT f m) (hac : ac = 9) (hp : p < npN m) (hz : ¬ (m 28 p = 115 ∧ m 29 p = 0)) : lcI l Sc G A yL_isDone cL_isDone 8 (Option.some FieldType.boolean) 14 475 12 72 [.ref (o), .ref (an), .ref (Sc.1), .int (nI i0)] h (fun r h' => r = nI 1 ∧ ∃ b' f' m' n', JW G.2.2.1 h' b' (c) (setL L an 700 f') M ∧ b' 14 0 = o ∧ WFc (c) ∧ n' ≤ n + 1 ∧ Stt n' (c) m' ∧ NT f' m' ∧ Kp m m' ∧ UC c ≤ UC (c) ∧ US c ≤ US (c)) := by
  refine lm_of rfl (Nat.le_of_ble_eq_true rfl) ?_
  intro pr e s m9 below meth c9 C0 hN hr hH ls hl
  obtain ⟨hx, hb, hml, hown, hts, hK, hA, -⟩ := id C0
  have hl : lv_has ls 8 [(0, .ref (o)), (1, .ref (an)), (2, .ref (Sc.1)), (3, .int (nI i0))] := hl
  have n40 := hw.np.2
  have n6 := hw.nh.2
  have nl12 := hw.nl.2
  have hxa := d_recX1 ⟨hS, hw, hI⟩ hwc hp hz
  refine lv_aload_n hx hb dL_isDone_0 rfl (lv_at hl 2 rfl) ?_
  refine lv_iload_n hx hb dL_isDone_1 rfl (lv_at hl 3 rfl) ?_
  refine lv_iconst (v := nI 1) hx hb dL_isDone_2 (by decide) ?_
  refine lv_iadd hx hb dL_isDone_3 ?_
  rw [show nI i0 + nI 1 = nI (i0 + 1) from nI_add _ _]
  refine lv_aload_n hx hb dL_isDone_4 rfl (lv_at hl 1 rfl) ?_
  refine lv_iconst (v := nI 2) hx hb dL_isDone_5 (by decide) ?_
  refine j_ld C0 hH hJ hL (ix := 2) (by omega) (by decide) (v := nI (npN m)) hT.p0 dL_isDone_6 ?_
  refine lv_iconst (v := nI 1) hx hb dL_isDone_7 (by decide) ?_
  refine lv_iadd hx hb dL_isDone_8 ?_
  rw [show nI (npN m) + nI 1 = nI (npN m + 1) from nI_add _ _]
  have hb1 := inN_lt Sc (i0 + 1) (n := npN m + 1) (by omega)
  refine k_i hH (k_lS (rest := []) C0 hN hH (lL_in l Sc G A _ (i0 + 1) (npN m + 1) (by omega) (by omega) (by omega)) mv_L_in ml_L_106 rfl ⟨Nat.le_of_ble_eq_true rfl, Nat.le_of_ble_eq_true rfl⟩ hl.1 rfl (Nat.le_of_ble_eq_true rfl) dL_isDone_9 ⟨by show _ ≤ 12; omega, by show _ ≤ 72; omega⟩) (fun rr h1 H locs hp hH => ?_)
  obtain ⟨ea, eh⟩ := hp
  rw [eh] at hH
  rw [ea, show inN Sc (i0 + 1) (npN m + 1) = inN Sc (i0 + 1) (npN m + 1) from rfl]
  refine lv_iconst (v := nI 1) hx hb dL_isDone_12 (by decide) ?_
  refine lv_aload_n hx hb dL_isDone_13 rfl (lv_at hl 1 rfl) ?_
  refine lv_iconst (v := nI 2) hx hb dL_isDone_14 (by decide) ?_
  refine j_ld C0 hH hJ hL (ix := 2) (by omega) (by decide) (v := nI (npN m)) hT.p0 dL_isDone_15 ?_
  refine o_mmax C0 ml_L_176 hl.1 dL_isDone_16 (Nat.le_of_ble_eq_true rfl) (Nat.le_of_ble_eq_true rfl) (by simp) ?_
  obtain ⟨mx, hmx⟩ : ∃ z, z = (if npN m = 0 then 1 else npN m) := ⟨_, rfl⟩
  have hmx0 : 0 < mx := by rw [hmx]; split <;> omega
  rw [show (if nI 1 < nI (npN m) then nI (npN m) else nI 1) = nI mx by rw [hmx]; by_cases y : npN m = 0; (· rw [if_pos y, y]; decide); (· rw [if_neg y]; by_cases y1 : npN m = 1; (· rw [y1]; decide); (· rw [if_pos (by rw [nI_ltI (by omega) (by omega)]; omega)]))]
  have hmx4 : mx ≤ 40 := by rw [hmx]; split <;> omega
  rw [← hmx] at ep
  refine lv_irem hx hb dL_isDone_19 (fun z => by have := (nI_eq (a := mx) (b := 0) (by omega) (by omega)).mp z; omega) ?_
  rw [nI_rem (show inN Sc (i0 + 1) (npN m + 1) < 2 ^ 31 by omega) (show mx < 2 ^ 31 by omega), ep]
  refine lv_istore (lv' := [(4, .int (nI p)), (0, .ref (o)), (1, .ref (an)), (2, .ref (Sc.1)), (3, .int (nI i0))]) hx hb dL_isDone_20 hl (by decide) rfl (fun ls hl => ?_)
  refine lv_aload_n hx hb dL_isDone_22 rfl (lv_at hl 2 rfl) ?_
  refine lv_iconst (v := nI 2) hx hb dL_isDone_23 (by decide) ?_
  refine j_ld C0 hH hJ hL (ix := 2) (by omega) (by decide) (v := nI (npN m)) hT.p0 dL_isDone_24 ?_
  refine lv_if_ne (tgt := 32) hx hb dL_isDone_25 (by decide) (fun c25_1 => ?_) (fun c25_1 => ?_)
  · replace c25_1 : ¬ (npN m = 0) := fun z => c25_1 ((nI_eq (a := npN m) (b := 0) (by omega) (by omega)).mpr z)
    rw [if_neg c25_1] at eac
    have hb2 := inN_lt Sc i0 (n := 12) (by omega)
    rw [eac] at hb2
    refine lv_aload_n hx hb dL_isDone_32 rfl (lv_at hl 3 rfl) ?_
    refine lv_iload_n hx hb dL_isDone_33 rfl (lv_at hl 4 rfl) ?_
    refine lv_bipush (v := nI 12) hx hb dL_isDone_34 (by decide) ?_
    refine k_i hH (k_lS (rest := []) C0 hN hH (lL_in l Sc G A _ i0 12 (by omega) (by omega) (by omega)) mv_L_in ml_L_106 rfl ⟨Nat.le_of_ble_eq_true rfl, Nat.le_of_ble_eq_true rfl⟩ hl.1 rfl (Nat.le_of_ble_eq_true rfl) dL_isDone_36 ⟨by show _ ≤ 12; omega, by show _ ≤ 72; omega⟩) (fun rr h1 H locs hp hH => ?_)
    obtain ⟨ea, eh⟩ := hp
    rw [eh] at hH
    rw [ea, eac]
    refine lv_istore (lv' := [(5, .int (nI ac)), (4, .int (nI p)), (0, .ref (o)), (1, .ref (an)), (2, .ref (Sc.1)), (3, .int (nI i0))]) hx hb dL_isDone_39 hl (by decide) rfl (fun ls hl => ?_)
    refine lv_iload hx hb dL_isDone_41 (lv_at hl 0 rfl) ?_
    refine lv_iconst (v := nI 3) hx hb dL_isDone_43 (by decide) ?_
    refine lv_icmp_ge (tgt := 57) hx hb dL_isDone_44 (by decide) (fun c44_2 => ?_) (fun c44_2 => ?_)
    · replace c44_2 : 3 ≤ ac := (nI_leI (a := 3) (b := ac) (by omega) (by omega)).mp c44_2
      refine lv_iload hx hb dL_isDone_57 (lv_at hl 0 rfl) ?_
      refine lv_bipush (v := nI 7) hx hb dL_isDone_59 (by decide) ?_
      refine lv_icmp_ge (tgt := 76) hx hb dL_isDone_61 (by decide) (fun c61_3 => ?_) (fun c61_3 => ?_)
      · replace c61_3 : 7 ≤ ac := (nI_leI (a := 7) (b := ac) (by omega) (by omega)).mp c61_3
        refine lv_iload hx hb dL_isDone_76 (lv_at hl 0 rfl) ?_
        refine lv_bipush (v := nI 9) hx hb dL_isDone_78 (by decide) ?_
        refine lv_icmp_ge (tgt := 95) hx hb dL_isDone_80 (by decide) (fun c80_4 => ?_) (fun c80_4 => ?_)
        · replace c80_4 : 9 ≤ ac := (nI_leI (a := 9) (b := ac) (by omega) (by omega)).mp c80_4
          refine lv_iload hx hb dL_isDone_95 (lv_at hl 0 rfl) ?_
          refine lv_bipush (v := nI 9) hx hb dL_isDone_97 (by decide) ?_
          refine lv_icmp_ne (tgt := 184) hx hb dL_isDone_99 (by decide) (fun c99_5 => ?_) (fun c99_5 => ?_)
          · exact absurd ((nI_eq (by omega) (by omega)).mpr (by omega)) c99_5
          · replace c99_5 : ac = 9 := (nI_eq (a := ac) (b := 9) (by omega) (by omega)).mp c99_5
            refine lv_aload_n hx hb dL_isDone_102 rfl (lv_at hl 2 rfl) ?_
            refine lv_iload hx hb dL_isDone_103 (lv_at hl 1 rfl) ?_
            refine j_w0 (As := [.int (nI p)]) (rest := []) (v := m 28 p) C0 hN hH ho (lW_state (nI p) hJ.own hJ.obj (cN_X10_state l hlt G _ _ b c hJ.rest hwc (nI p) (v_nar28 hS hw hp) (v_pX hS hw hwc hp)) (fun E h9 z => absurd ((v_pX hS hw hwc hp).symm.trans z.1) (fun y => nomatch y))) (fun r h9 z => z.elim (fun y => ⟨y.2.1.trans ((v_pk hS hw hp (k := 28) rfl).trans rfl), y.2.2⟩) (fun ⟨E, y, _⟩ => absurd ((v_pX hS hw hwc hp).symm.trans y.1) (fun q => nomatch q))) ms_L_state ml_L_147 rfl ⟨Nat.le_of_ble_eq_true rfl, Nat.le_of_ble_eq_true rfl⟩ hl.1 rfl (Nat.le_of_ble_eq_true rfl) dL_isDone_105 ⟨by show _ ≤ 12; omega, by show _ ≤ 72; omega⟩ (fun H locs hH => ?_)
            refine lv_bipush (v := nI 115) hx hb dL_isDone_108 (by decide) ?_
            refine lv_icmp_ne (tgt := 126) hx hb dL_isDone_110 (by decide) (fun c110_6 => ?_) (fun c110_6 => ?_)
            · refine lv_iconst (v := nI 0) hx hb dL_isDone_126 (by decide) ?_
              refine lv_istore (lv' := [(6, .int (nI 0)), (5, .int (nI ac)), (4, .int (nI p)), (0, .ref (o)), (1, .ref (an)), (2, .ref (Sc.1)), (3, .int (nI i0))]) hx hb dL_isDone_127 hl (by decide) rfl (fun ls hl => ?_)
              refine lv_aload_n hx hb dL_isDone_129 rfl (lv_at hl 3 rfl) ?_
              refine lv_iload hx hb dL_isDone_130 (lv_at hl 2 rfl) ?_
              refine j_w0 (As := [.int (nI p)]) (rest := []) (v := -900002) C0 hN hH ho (lW_recall (nI p) hJ.own hJ.obj (cC_X10_recall_no l hlt G _ _ b c hJ.rest hwc (nI p) (by rw [hxa]; exact fun z => nomatch z)) (hin_x hxa (fun E h9 z => z.1) ⟨_, List.mem_cons_of_mem _ List.mem_cons_self⟩)) (hv_x0 hxa rfl (fun r h9 z => z.1)) ms_L_recall ml_L_191 rfl ⟨Nat.le_of_ble_eq_true rfl, Nat.le_of_ble_eq_true rfl⟩ hl.1 rfl (Nat.le_of_ble_eq_true rfl) dL_isDone_132 ⟨by show _ ≤ 12; omega, by show _ ≤ 72; omega⟩ (fun H locs hH => ?_)
              refine lv_istore (lv' := [(7, .int (-900002)), (6, .int (nI 0)), (5, .int (nI ac)), (4, .int (nI p)), (0, .ref (o)), (1, .ref (an)), (2, .ref (Sc.1)), (3, .int (nI i0))]) hx hb dL_isDone_135 hl (by decide) rfl (fun ls hl => ?_)
              refine lv_iload hx hb dL_isDone_137 (lv_at hl 1 rfl) ?_
              refine lv_if_eq (tgt := 171) hx hb dL_isDone_139 (by decide) (fun c139_7 => ?_) (fun c139_7 => ?_)
              · refine lv_iload hx hb dL_isDone_171 (lv_at hl 0 rfl) ?_
                refine lv_ldc hx hb hown (hts _ kl_L_20) dL_isDone_173 ?_
                refine lv_icmp_ne (tgt := 182) hx hb dL_isDone_175 (by decide) (fun c175_8 => ?_) (fun c175_8 => ?_)
                · exact absurd (by decide) c175_8
                · refine lv_iconst (v := nI 1) hx hb dL_isDone_178 (by decide) ?_
                  refine lv_goto (tgt := 183) hx hb dL_isDone_179 (by decide) ?_
                  exact e_Z C0 hr (by decide) hH ⟨rfl, b, f, m, n, by rw [setL_id hL]; exact hJ, ho, hwc, by omega, ⟨hS, hw, hI⟩, hT, ⟨rfl, Nat.le_refl _, rfl⟩, Nat.le_refl _, Nat.le_refl _⟩ (by omega) (by omega) dL_isDone_183
              · exact absurd (by decide) c139_7
            · refine lv_aload_n hx hb dL_isDone_113 rfl (lv_at hl 2 rfl) ?_
              refine lv_iload hx hb dL_isDone_114 (lv_at hl 1 rfl) ?_
              refine j_q0 (rest := []) C0 hH hJ ho (cN_X10_isReturn l hlt G _ _ b c hJ.rest hwc (nI p) (v_nar29 hS hw hp) (v_pX hS hw hwc hp)) (v_pX hS hw hwc hp) (v := m 29 p) ((v_pk hS hw hp (k := 29) rfl).trans rfl) mv_X10_isReturn ml_L_151 rfl ⟨Nat.le_of_ble_eq_true rfl, Nat.le_of_ble_eq_true rfl⟩ hl.1 rfl (Nat.le_of_ble_eq_true rfl) dL_isDone_116 ⟨by show _ ≤ 12; omega, by show _ ≤ 72; omega⟩ (fun H locs hH => ?_)
              refine lv_if_ne (tgt := 126) hx hb dL_isDone_119 (by decide) (fun c119_9 => ?_) (fun c119_9 => ?_)
              · refine lv_iconst (v := nI 0) hx hb dL_isDone_126 (by decide) ?_
                refine lv_istore (lv' := [(6, .int (nI 0)), (5, .int (nI ac)), (4, .int (nI p)), (0, .ref (o)), (1, .ref (an)), (2, .ref (Sc.1)), (3, .int (nI i0))]) hx hb dL_isDone_127 hl (by decide) rfl (fun ls hl => ?_)
                refine lv_aload_n hx hb dL_isDone_129 rfl (lv_at hl 3 rfl) ?_
                refine lv_iload hx hb dL_isDone_130 (lv_at hl 2 rfl) ?_
                refine j_w0 (As := [.int (nI p)]) (rest := []) (v := -900002) C0 hN hH ho (lW_recall (nI p) hJ.own hJ.obj (cC_X10_recall_no l hlt G _ _ b c hJ.rest hwc (nI p) (by rw [hxa]; exact fun z => nomatch z)) (hin_x hxa (fun E h9 z => z.1) ⟨_, List.mem_cons_of_mem _ List.mem_cons_self⟩)) (hv_x0 hxa rfl (fun r h9 z => z.1)) ms_L_recall ml_L_191 rfl ⟨Nat.le_of_ble_eq_true rfl, Nat.le_of_ble_eq_true rfl⟩ hl.1 rfl (Nat.le_of_ble_eq_true rfl) dL_isDone_132 ⟨by show _ ≤ 12; omega, by show _ ≤ 72; omega⟩ (fun H locs hH => ?_)
                refine lv_istore (lv' := [(7, .int (-900002)), (6, .int (nI 0)), (5, .int (nI ac)), (4, .int (nI p)), (0, .ref (o)), (1, .ref (an)), (2, .ref (Sc.1)), (3, .int (nI i0))]) hx hb dL_isDone_135 hl (by decide) rfl (fun ls hl => ?_)
                refine lv_iload hx hb dL_isDone_137 (lv_at hl 1 rfl) ?_
                refine lv_if_eq (tgt := 171) hx hb dL_isDone_139 (by decide) (fun c139_10 => ?_) (fun c139_10 => ?_)
                · refine lv_iload hx hb dL_isDone_171 (lv_at hl 0 rfl) ?_
                  refine lv_ldc hx hb hown (hts _ kl_L_20) dL_isDone_173 ?_
                  refine lv_icmp_ne (tgt := 182) hx hb dL_isDone_175 (by decide) (fun c175_11 => ?_) (fun c175_11 => ?_)
                  · exact absurd (by decide) c175_11
                  · refine lv_iconst (v := nI 1) hx hb dL_isDone_178 (by decide) ?_
                    refine lv_goto (tgt := 183) hx hb dL_isDone_179 (by decide) ?_
                    exact e_Z C0 hr (by decide) hH ⟨rfl, b, f, m, n, by rw [setL_id hL]; exact hJ, ho, hwc, by omega, ⟨hS, hw, hI⟩, hT, ⟨rfl, Nat.le_refl _, rfl⟩, Nat.le_refl _, Nat.le_refl _⟩ (by omega) (by omega) dL_isDone_183
                · exact absurd (by decide) c139_10
              · exact absurd ⟨c110_6, c119_9⟩ hz
        · exact absurd ((nI_leI (by omega) (by omega)).mpr (by omega)) c80_4
      · exact absurd ((nI_leI (by omega) (by omega)).mpr (by omega)) c61_3
    · exact absurd ((nI_leI (by omega) (by omega)).mpr (by omega)) c44_2
  · replace c25_1 : npN m = 0 := (nI_eq (a := npN m) (b := 0) (by omega) (by omega)).mp c25_1
    rw [if_pos c25_1] at eac
    refine lv_iconst (v := nI 0) hx hb dL_isDone_28 (by decide) ?_
    refine lv_goto (tgt := 39) hx hb dL_isDone_29 (by decide) ?_
    rw [show nI 0 = nI ac by rw [← eac]]
    have hb2 : ac < 12 := by omega
    refine lv_istore (lv' := [(5, .int (nI ac)), (4, .int (nI p)), (0, .ref (o)), (1, .ref (an)), (2, .ref (Sc.1)), (3, .int (nI i0))]) hx hb dL_isDone_39 hl (by decide) rfl (fun ls hl => ?_)
    refine lv_iload hx hb dL_isDone_41 (lv_at hl 0 rfl) ?_
    refine lv_iconst (v := nI 3) hx hb dL_isDone_43 (by decide) ?_
    refine lv_icmp_ge (tgt := 57) hx hb dL_isDone_44 (by decide) (fun c44_12 => ?_) (fun c44_12 => ?_)
    · replace c44_12 : 3 ≤ ac := (nI_leI (a := 3) (b := ac) (by omega) (by omega)).mp c44_12
      refine lv_iload hx hb dL_isDone_57 (lv_at hl 0 rfl) ?_
      refine lv_bipush (v := nI 7) hx hb dL_isDone_59 (by decide) ?_
      refine lv_icmp_ge (tgt := 76) hx hb dL_isDone_61 (by decide) (fun c61_13 => ?_) (fun c61_13 => ?_)
      · replace c61_13 : 7 ≤ ac := (nI_leI (a := 7) (b := ac) (by omega) (by omega)).mp c61_13
        refine lv_iload hx hb dL_isDone_76 (lv_at hl 0 rfl) ?_
        refine lv_bipush (v := nI 9) hx hb dL_isDone_78 (by decide) ?_
        refine lv_icmp_ge (tgt := 95) hx hb dL_isDone_80 (by decide) (fun c80_14 => ?_) (fun c80_14 => ?_)
        · replace c80_14 : 9 ≤ ac := (nI_leI (a := 9) (b := ac) (by omega) (by omega)).mp c80_14
          refine lv_iload hx hb dL_isDone_95 (lv_at hl 0 rfl) ?_
          refine lv_bipush (v := nI 9) hx hb dL_isDone_97 (by decide) ?_
          refine lv_icmp_ne (tgt := 184) hx hb dL_isDone_99 (by decide) (fun c99_15 => ?_) (fun c99_15 => ?_)
          · exact absurd ((nI_eq (by omega) (by omega)).mpr (by omega)) c99_15
          · replace c99_15 : ac = 9 := (nI_eq (a := ac) (b := 9) (by omega) (by omega)).mp c99_15
            refine lv_aload_n hx hb dL_isDone_102 rfl (lv_at hl 2 rfl) ?_
            refine lv_iload hx hb dL_isDone_103 (lv_at hl 1 rfl) ?_
            refine j_w0 (As := [.int (nI p)]) (rest := []) (v := m 28 p) C0 hN hH ho (lW_state (nI p) hJ.own hJ.obj (cN_X10_state l hlt G _ _ b c hJ.rest hwc (nI p) (v_nar28 hS hw hp) (v_pX hS hw hwc hp)) (fun E h9 z => absurd ((v_pX hS hw hwc hp).symm.trans z.1) (fun y => nomatch y))) (fun r h9 z => z.elim (fun y => ⟨y.2.1.trans ((v_pk hS hw hp (k := 28) rfl).trans rfl), y.2.2⟩) (fun ⟨E, y, _⟩ => absurd ((v_pX hS hw hwc hp).symm.trans y.1) (fun q => nomatch q))) ms_L_state ml_L_147 rfl ⟨Nat.le_of_ble_eq_true rfl, Nat.le_of_ble_eq_true rfl⟩ hl.1 rfl (Nat.le_of_ble_eq_true rfl) dL_isDone_105 ⟨by show _ ≤ 12; omega, by show _ ≤ 72; omega⟩ (fun H locs hH => ?_)
            refine lv_bipush (v := nI 115) hx hb dL_isDone_108 (by decide) ?_
            refine lv_icmp_ne (tgt := 126) hx hb dL_isDone_110 (by decide) (fun c110_16 => ?_) (fun c110_16 => ?_)
            · refine lv_iconst (v := nI 0) hx hb dL_isDone_126 (by decide) ?_
              refine lv_istore (lv' := [(6, .int (nI 0)), (5, .int (nI ac)), (4, .int (nI p)), (0, .ref (o)), (1, .ref (an)), (2, .ref (Sc.1)), (3, .int (nI i0))]) hx hb dL_isDone_127 hl (by decide) rfl (fun ls hl => ?_)
              refine lv_aload_n hx hb dL_isDone_129 rfl (lv_at hl 3 rfl) ?_
              refine lv_iload hx hb dL_isDone_130 (lv_at hl 2 rfl) ?_
              refine j_w0 (As := [.int (nI p)]) (rest := []) (v := -900002) C0 hN hH ho (lW_recall (nI p) hJ.own hJ.obj (cC_X10_recall_no l hlt G _ _ b c hJ.rest hwc (nI p) (by rw [hxa]; exact fun z => nomatch z)) (hin_x hxa (fun E h9 z => z.1) ⟨_, List.mem_cons_of_mem _ List.mem_cons_self⟩)) (hv_x0 hxa rfl (fun r h9 z => z.1)) ms_L_recall ml_L_191 rfl ⟨Nat.le_of_ble_eq_true rfl, Nat.le_of_ble_eq_true rfl⟩ hl.1 rfl (Nat.le_of_ble_eq_true rfl) dL_isDone_132 ⟨by show _ ≤ 12; omega, by show _ ≤ 72; omega⟩ (fun H locs hH => ?_)
              refine lv_istore (lv' := [(7, .int (-900002)), (6, .int (nI 0)), (5, .int (nI ac)), (4, .int (nI p)), (0, .ref (o)), (1, .ref (an)), (2, .ref (Sc.1)), (3, .int (nI i0))]) hx hb dL_isDone_135 hl (by decide) rfl (fun ls hl => ?_)
              refine lv_iload hx hb dL_isDone_137 (lv_at hl 1 rfl) ?_
              refine lv_if_eq (tgt := 171) hx hb dL_isDone_139 (by decide) (fun c139_17 => ?_) (fun c139_17 => ?_)
              · refine lv_iload hx hb dL_isDone_171 (lv_at hl 0 rfl) ?_
                refine lv_ldc hx hb hown (hts _ kl_L_20) dL_isDone_173 ?_
                refine lv_icmp_ne (tgt := 182) hx hb dL_isDone_175 (by decide) (fun c175_18 => ?_) (fun c175_18 => ?_)
                · exact absurd (by decide) c175_18
                · refine lv_iconst (v := nI 1) hx hb dL_isDone_178 (by decide) ?_
                  refine lv_goto (tgt := 183) hx hb dL_isDone_179 (by decide) ?_
                  exact e_Z C0 hr (by decide) hH ⟨rfl, b, f, m, n, by rw [setL_id hL]; exact hJ, ho, hwc, by omega, ⟨hS, hw, hI⟩, hT, ⟨rfl, Nat.le_refl _, rfl⟩, Nat.le_refl _, Nat.le_refl _⟩ (by omega) (by omega) dL_isDone_183
              · exact absurd (by decide) c139_17
            · refine lv_aload_n hx hb dL_isDone_113 rfl (lv_at hl 2 rfl) ?_
              refine lv_iload hx hb dL_isDone_114 (lv_at hl 1 rfl) ?_
              refine j_q0 (rest := []) C0 hH hJ ho (cN_X10_isReturn l hlt G _ _ b c hJ.rest hwc (nI p) (v_nar29 hS hw hp) (v_pX hS hw hwc hp)) (v_pX hS hw hwc hp) (v := m 29 p) ((v_pk hS hw hp (k := 29) rfl).trans rfl) mv_X10_isReturn ml_L_151 rfl ⟨Nat.le_of_ble_eq_true rfl, Nat.le_of_ble_eq_true rfl⟩ hl.1 rfl (Nat.le_of_ble_eq_true rfl) dL_isDone_116 ⟨by show _ ≤ 12; omega, by show _ ≤ 72; omega⟩ (fun H locs hH => ?_)
              refine lv_if_ne (tgt := 126) hx hb dL_isDone_119 (by decide) (fun c119_19 => ?_) (fun c119_19 => ?_)
              · refine lv_iconst (v := nI 0) hx hb dL_isDone_126 (by decide) ?_
                refine lv_istore (lv' := [(6, .int (nI 0)), (5, .int (nI ac)), (4, .int (nI p)), (0, .ref (o)), (1, .ref (an)), (2, .ref (Sc.1)), (3, .int (nI i0))]) hx hb dL_isDone_127 hl (by decide) rfl (fun ls hl => ?_)
                refine lv_aload_n hx hb dL_isDone_129 rfl (lv_at hl 3 rfl) ?_
                refine lv_iload hx hb dL_isDone_130 (lv_at hl 2 rfl) ?_
                refine j_w0 (As := [.int (nI p)]) (rest := []) (v := -900002) C0 hN hH ho (lW_recall (nI p) hJ.own hJ.obj (cC_X10_recall_no l hlt G _ _ b c hJ.rest hwc (nI p) (by rw [hxa]; exact fun z => nomatch z)) (hin_x hxa (fun E h9 z => z.1) ⟨_, List.mem_cons_of_mem _ List.mem_cons_self⟩)) (hv_x0 hxa rfl (fun r h9 z => z.1)) ms_L_recall ml_L_191 rfl ⟨Nat.le_of_ble_eq_true rfl, Nat.le_of_ble_eq_true rfl⟩ hl.1 rfl (Nat.le_of_ble_eq_true rfl) dL_isDone_132 ⟨by show _ ≤ 12; omega, by show _ ≤ 72; omega⟩ (fun H locs hH => ?_)
                refine lv_istore (lv' := [(7, .int (-900002)), (6, .int (nI 0)), (5, .int (nI ac)), (4, .int (nI p)), (0, .ref (o)), (1, .ref (an)), (2, .ref (Sc.1)), (3, .int (nI i0))]) hx hb dL_isDone_135 hl (by decide) rfl (fun ls hl => ?_)
                refine lv_iload hx hb dL_isDone_137 (lv_at hl 1 rfl) ?_
                refine lv_if_eq (tgt := 171) hx hb dL_isDone_139 (by decide) (fun c139_20 => ?_) (fun c139_20 => ?_)
                · refine lv_iload hx hb dL_isDone_171 (lv_at hl 0 rfl) ?_
                  refine lv_ldc hx hb hown (hts _ kl_L_20) dL_isDone_173 ?_
                  refine lv_icmp_ne (tgt := 182) hx hb dL_isDone_175 (by decide) (fun c175_21 => ?_) (fun c175_21 => ?_)
                  · exact absurd (by decide) c175_21
                  · refine lv_iconst (v := nI 1) hx hb dL_isDone_178 (by decide) ?_
                    refine lv_goto (tgt := 183) hx hb dL_isDone_179 (by decide) ?_
                    exact e_Z C0 hr (by decide) hH ⟨rfl, b, f, m, n, by rw [setL_id hL]; exact hJ, ho, hwc, by omega, ⟨hS, hw, hI⟩, hT, ⟨rfl, Nat.le_refl _, rfl⟩, Nat.le_refl _, Nat.le_refl _⟩ (by omega) (by omega) dL_isDone_183
                · exact absurd (by decide) c139_20
              · exact absurd ⟨c110_16, c119_19⟩ hz
        · exact absurd ((nI_leI (by omega) (by omega)).mpr (by omega)) c80_14
      · exact absurd ((nI_leI (by omega) (by omega)).mpr (by omega)) c61_13
    · exact absurd ((nI_leI (by omega) (by omega)).mpr (by omega)) c44_12
set_option maxHeartbeats 1600000 in
set_option maxRecDepth 100000 in
theorem lL_isDone_clA (l : Launch) (hlt : l.stackTraces = false) (Sc : SCR) (G : GT) (A : Nat → Prop) (h : AH) (b : BA) (c m : MM) (n : Nat) (L : LNum) (M : LRef) (o : Nat) (hJ : JW G.2.2.1 h b c L M) (ho : b 14 0 = o) (hwc : WFc c) (hS : Sim n c m) (hw : WFa m) (hI : IV m) (hn : n < 512) (i0 : Nat) (hi0 : i0 < 2 ^ 19) (h2 : 2 ≤ nhN m) (hl9 : 1 ≤ nlN m) (p ac : Nat) (ep : inN Sc (i0 + 1) (npN m + 1) % (if npN m = 0 then 1 else npN m) = p) (eac : (if npN m = 0 then 0 else inN Sc i0 12) = ac) (an : Nat) (f : Nat → Int32) (hL : L an = some (700, f)) (hT : NT f m) (hac : ac = 11) (l0 : Nat) (el : inN Sc (i0 + 2) (nlN m) = l0) (hcl : ¬ inN Sc (i0 + 3) 2 = 0) : lcI l Sc G A yL_isDone cL_isDone 8 (Option.some FieldType.boolean) 14 475 12 72 [.ref (o), .ref (an), .ref (Sc.1), .int (nI i0)] h (fun r h' => r = nI 1 ∧ ∃ b' f' m' n', JW G.2.2.1 h' b' (c) (setL L an 700 f') M ∧ b' 14 0 = o ∧ WFc (c) ∧ n' ≤ n + 1 ∧ Stt n' (c) m' ∧ NT f' m' ∧ Kp m m' ∧ UC c ≤ UC (c) ∧ US c ≤ US (c)) := by
  refine lm_of rfl (Nat.le_of_ble_eq_true rfl) ?_
  intro pr e s m9 below meth c9 C0 hN hr hH ls hl
  obtain ⟨hx, hb, hml, hown, hts, hK, hA, -⟩ := id C0
  have hl : lv_has ls 8 [(0, .ref (o)), (1, .ref (an)), (2, .ref (Sc.1)), (3, .int (nI i0))] := hl
  have n40 := hw.np.2
  have n6 := hw.nh.2
  have nl12 := hw.nl.2
  have hq0 := inN_lt Sc (i0 + 2) (n := nlN m) (by omega)
  rw [el] at hq0
  have hl0 : l0 < nlN m := hq0
  have hq3 := inN_lt Sc (i0 + 3) (n := 2) (by omega)
  have h901 := (hw.ln hl0).2.2.2.2.2
  refine lv_aload_n hx hb dL_isDone_0 rfl (lv_at hl 2 rfl) ?_
  refine lv_iload_n hx hb dL_isDone_1 rfl (lv_at hl 3 rfl) ?_
  refine lv_iconst (v := nI 1) hx hb dL_isDone_2 (by decide) ?_
  refine lv_iadd hx hb dL_isDone_3 ?_
  rw [show nI i0 + nI 1 = nI (i0 + 1) from nI_add _ _]
  refine lv_aload_n hx hb dL_isDone_4 rfl (lv_at hl 1 rfl) ?_
  refine lv_iconst (v := nI 2) hx hb dL_isDone_5 (by decide) ?_
  refine j_ld C0 hH hJ hL (ix := 2) (by omega) (by decide) (v := nI (npN m)) hT.p0 dL_isDone_6 ?_
  refine lv_iconst (v := nI 1) hx hb dL_isDone_7 (by decide) ?_
  refine lv_iadd hx hb dL_isDone_8 ?_
  rw [show nI (npN m) + nI 1 = nI (npN m + 1) from nI_add _ _]
  have hb1 := inN_lt Sc (i0 + 1) (n := npN m + 1) (by omega)
  refine k_i hH (k_lS (rest := []) C0 hN hH (lL_in l Sc G A _ (i0 + 1) (npN m + 1) (by omega) (by omega) (by omega)) mv_L_in ml_L_106 rfl ⟨Nat.le_of_ble_eq_true rfl, Nat.le_of_ble_eq_true rfl⟩ hl.1 rfl (Nat.le_of_ble_eq_true rfl) dL_isDone_9 ⟨by show _ ≤ 12; omega, by show _ ≤ 72; omega⟩) (fun rr h1 H locs hp hH => ?_)
  obtain ⟨ea, eh⟩ := hp
  rw [eh] at hH
  rw [ea, show inN Sc (i0 + 1) (npN m + 1) = inN Sc (i0 + 1) (npN m + 1) from rfl]
  refine lv_iconst (v := nI 1) hx hb dL_isDone_12 (by decide) ?_
  refine lv_aload_n hx hb dL_isDone_13 rfl (lv_at hl 1 rfl) ?_
  refine lv_iconst (v := nI 2) hx hb dL_isDone_14 (by decide) ?_
  refine j_ld C0 hH hJ hL (ix := 2) (by omega) (by decide) (v := nI (npN m)) hT.p0 dL_isDone_15 ?_
  refine o_mmax C0 ml_L_176 hl.1 dL_isDone_16 (Nat.le_of_ble_eq_true rfl) (Nat.le_of_ble_eq_true rfl) (by simp) ?_
  obtain ⟨mx, hmx⟩ : ∃ z, z = (if npN m = 0 then 1 else npN m) := ⟨_, rfl⟩
  have hmx0 : 0 < mx := by rw [hmx]; split <;> omega
  rw [show (if nI 1 < nI (npN m) then nI (npN m) else nI 1) = nI mx by rw [hmx]; by_cases y : npN m = 0; (· rw [if_pos y, y]; decide); (· rw [if_neg y]; by_cases y1 : npN m = 1; (· rw [y1]; decide); (· rw [if_pos (by rw [nI_ltI (by omega) (by omega)]; omega)]))]
  have hmx4 : mx ≤ 40 := by rw [hmx]; split <;> omega
  rw [← hmx] at ep
  refine lv_irem hx hb dL_isDone_19 (fun z => by have := (nI_eq (a := mx) (b := 0) (by omega) (by omega)).mp z; omega) ?_
  rw [nI_rem (show inN Sc (i0 + 1) (npN m + 1) < 2 ^ 31 by omega) (show mx < 2 ^ 31 by omega), ep]
  refine lv_istore (lv' := [(4, .int (nI p)), (0, .ref (o)), (1, .ref (an)), (2, .ref (Sc.1)), (3, .int (nI i0))]) hx hb dL_isDone_20 hl (by decide) rfl (fun ls hl => ?_)
  refine lv_aload_n hx hb dL_isDone_22 rfl (lv_at hl 2 rfl) ?_
  refine lv_iconst (v := nI 2) hx hb dL_isDone_23 (by decide) ?_
  refine j_ld C0 hH hJ hL (ix := 2) (by omega) (by decide) (v := nI (npN m)) hT.p0 dL_isDone_24 ?_
  refine lv_if_ne (tgt := 32) hx hb dL_isDone_25 (by decide) (fun c25_1 => ?_) (fun c25_1 => ?_)
  · replace c25_1 : ¬ (npN m = 0) := fun z => c25_1 ((nI_eq (a := npN m) (b := 0) (by omega) (by omega)).mpr z)
    rw [if_neg c25_1] at eac
    have hb2 := inN_lt Sc i0 (n := 12) (by omega)
    rw [eac] at hb2
    refine lv_aload_n hx hb dL_isDone_32 rfl (lv_at hl 3 rfl) ?_
    refine lv_iload_n hx hb dL_isDone_33 rfl (lv_at hl 4 rfl) ?_
    refine lv_bipush (v := nI 12) hx hb dL_isDone_34 (by decide) ?_
    refine k_i hH (k_lS (rest := []) C0 hN hH (lL_in l Sc G A _ i0 12 (by omega) (by omega) (by omega)) mv_L_in ml_L_106 rfl ⟨Nat.le_of_ble_eq_true rfl, Nat.le_of_ble_eq_true rfl⟩ hl.1 rfl (Nat.le_of_ble_eq_true rfl) dL_isDone_36 ⟨by show _ ≤ 12; omega, by show _ ≤ 72; omega⟩) (fun rr h1 H locs hp hH => ?_)
    obtain ⟨ea, eh⟩ := hp
    rw [eh] at hH
    rw [ea, eac]
    refine lv_istore (lv' := [(5, .int (nI ac)), (4, .int (nI p)), (0, .ref (o)), (1, .ref (an)), (2, .ref (Sc.1)), (3, .int (nI i0))]) hx hb dL_isDone_39 hl (by decide) rfl (fun ls hl => ?_)
    refine lv_iload hx hb dL_isDone_41 (lv_at hl 0 rfl) ?_
    refine lv_iconst (v := nI 3) hx hb dL_isDone_43 (by decide) ?_
    refine lv_icmp_ge (tgt := 57) hx hb dL_isDone_44 (by decide) (fun c44_2 => ?_) (fun c44_2 => ?_)
    · replace c44_2 : 3 ≤ ac := (nI_leI (a := 3) (b := ac) (by omega) (by omega)).mp c44_2
      refine lv_iload hx hb dL_isDone_57 (lv_at hl 0 rfl) ?_
      refine lv_bipush (v := nI 7) hx hb dL_isDone_59 (by decide) ?_
      refine lv_icmp_ge (tgt := 76) hx hb dL_isDone_61 (by decide) (fun c61_3 => ?_) (fun c61_3 => ?_)
      · replace c61_3 : 7 ≤ ac := (nI_leI (a := 7) (b := ac) (by omega) (by omega)).mp c61_3
        refine lv_iload hx hb dL_isDone_76 (lv_at hl 0 rfl) ?_
        refine lv_bipush (v := nI 9) hx hb dL_isDone_78 (by decide) ?_
        refine lv_icmp_ge (tgt := 95) hx hb dL_isDone_80 (by decide) (fun c80_4 => ?_) (fun c80_4 => ?_)
        · replace c80_4 : 9 ≤ ac := (nI_leI (a := 9) (b := ac) (by omega) (by omega)).mp c80_4
          refine lv_iload hx hb dL_isDone_95 (lv_at hl 0 rfl) ?_
          refine lv_bipush (v := nI 9) hx hb dL_isDone_97 (by decide) ?_
          refine lv_icmp_ne (tgt := 184) hx hb dL_isDone_99 (by decide) (fun c99_5 => ?_) (fun c99_5 => ?_)
          · replace c99_5 : ¬ (ac = 9) := fun z => c99_5 ((nI_eq (a := ac) (b := 9) (by omega) (by omega)).mpr z)
            refine lv_iload hx hb dL_isDone_184 (lv_at hl 0 rfl) ?_
            refine lv_bipush (v := nI 10) hx hb dL_isDone_186 (by decide) ?_
            refine lv_icmp_ne (tgt := 201) hx hb dL_isDone_188 (by decide) (fun c188_6 => ?_) (fun c188_6 => ?_)
            · replace c188_6 : ¬ (ac = 10) := fun z => c188_6 ((nI_eq (a := ac) (b := 10) (by omega) (by omega)).mpr z)
              refine lv_aload_n hx hb dL_isDone_201 rfl (lv_at hl 4 rfl) ?_
              refine lv_iload_n hx hb dL_isDone_202 rfl (lv_at hl 5 rfl) ?_
              refine lv_iconst (v := nI 2) hx hb dL_isDone_203 (by decide) ?_
              refine lv_iadd hx hb dL_isDone_204 ?_
              rw [show nI i0 + nI 2 = nI (i0 + 2) from nI_add _ _]
              refine lv_aload_n hx hb dL_isDone_205 rfl (lv_at hl 3 rfl) ?_
              refine lv_iconst (v := nI 1) hx hb dL_isDone_206 (by decide) ?_
              refine j_ld C0 hH hJ hL (ix := 1) (by omega) (by decide) (v := nI (nlN m)) hT.l0 dL_isDone_207 ?_
              refine k_i hH (k_lS (rest := []) C0 hN hH (lL_in l Sc G A _ (i0 + 2) (nlN m) (by omega) (by omega) (by omega)) mv_L_in ml_L_106 rfl ⟨Nat.le_of_ble_eq_true rfl, Nat.le_of_ble_eq_true rfl⟩ hl.1 rfl (Nat.le_of_ble_eq_true rfl) dL_isDone_208 ⟨by show _ ≤ 12; omega, by show _ ≤ 72; omega⟩) (fun rr h1 H locs hp hH => ?_)
              obtain ⟨ea, eh⟩ := hp
              rw [eh] at hH
              rw [ea, el]
              refine lv_istore (lv' := [(6, .int (nI l0)), (5, .int (nI ac)), (4, .int (nI p)), (0, .ref (o)), (1, .ref (an)), (2, .ref (Sc.1)), (3, .int (nI i0))]) hx hb dL_isDone_211 hl (by decide) rfl (fun ls hl => ?_)
              refine lv_aload_n hx hb dL_isDone_213 rfl (lv_at hl 4 rfl) ?_
              refine lv_bipush (v := nI 36) hx hb dL_isDone_214 (by decide) ?_
              refine lv_bipush (v := nI 8) hx hb dL_isDone_216 (by decide) ?_
              refine lv_iload hx hb dL_isDone_218 (lv_at hl 0 rfl) ?_
              refine lv_imul hx hb dL_isDone_220 ?_
              rw [show nI 8 * nI l0 = nI (8 * l0) from nI_mul]
              refine lv_iadd hx hb dL_isDone_221 ?_
              rw [show nI 36 + nI (8 * l0) = nI (36 + 8 * l0) from nI_add _ _]
              refine j_ld C0 hH hJ hL (ix := 36 + 8 * l0) (by omega) (by decide) (v := m 9 l0) (hT.cl (by omega)) dL_isDone_222 ?_
              refine lv_iconst (v := nI 1) hx hb dL_isDone_223 (by decide) ?_
              refine lv_icmp_ne (tgt := 232) hx hb dL_isDone_224 (by decide) (fun c224_7 => ?_) (fun c224_7 => ?_)
              · refine lv_aload_n hx hb dL_isDone_232 rfl (lv_at hl 3 rfl) ?_
                refine lv_iload hx hb dL_isDone_233 (lv_at hl 0 rfl) ?_
                refine j_q0 (rest := []) C0 hH hJ ho (cN_X10_waiting l hlt G _ _ b c hJ.rest hwc (nI l0) (v_lX hS hw hwc hl0)) (v_lX hS hw hwc hl0) (v := waits m (nI l0)) (v_wait hS (nI l0)) mv_X10_waiting ml_L_193 rfl ⟨Nat.le_of_ble_eq_true rfl, Nat.le_of_ble_eq_true rfl⟩ hl.1 rfl (Nat.le_of_ble_eq_true rfl) dL_isDone_235 ⟨by show _ ≤ 12; omega, by show _ ≤ 72; omega⟩ (fun H locs hH => ?_)
                refine lv_istore (lv' := [(7, .int (waits m (nI l0))), (6, .int (nI l0)), (5, .int (nI ac)), (4, .int (nI p)), (0, .ref (o)), (1, .ref (an)), (2, .ref (Sc.1)), (3, .int (nI i0))]) hx hb dL_isDone_238 hl (by decide) rfl (fun ls hl => ?_)
                refine lv_aload_n hx hb dL_isDone_240 rfl (lv_at hl 5 rfl) ?_
                refine lv_bipush (v := nI 36) hx hb dL_isDone_241 (by decide) ?_
                refine lv_bipush (v := nI 8) hx hb dL_isDone_243 (by decide) ?_
                refine lv_iload hx hb dL_isDone_245 (lv_at hl 1 rfl) ?_
                refine lv_imul hx hb dL_isDone_247 ?_
                rw [show nI 8 * nI l0 = nI (8 * l0) from nI_mul]
                refine lv_iadd hx hb dL_isDone_248 ?_
                rw [show nI 36 + nI (8 * l0) = nI (36 + 8 * l0) from nI_add _ _]
                refine lv_aload_n hx hb dL_isDone_249 rfl (lv_at hl 6 rfl) ?_
                refine lv_iload_n hx hb dL_isDone_250 rfl (lv_at hl 7 rfl) ?_
                refine lv_iconst (v := nI 3) hx hb dL_isDone_251 (by decide) ?_
                refine lv_iadd hx hb dL_isDone_252 ?_
                rw [show nI i0 + nI 3 = nI (i0 + 3) from nI_add _ _]
                refine lv_iconst (v := nI 2) hx hb dL_isDone_253 (by decide) ?_
                refine k_i hH (k_lS (rest := [.int (nI (36 + 8 * l0)), .ref (an)]) C0 hN hH (lL_in l Sc G A _ (i0 + 3) 2 (by omega) (by omega) (by omega)) mv_L_in ml_L_106 rfl ⟨Nat.le_of_ble_eq_true rfl, Nat.le_of_ble_eq_true rfl⟩ hl.1 rfl (Nat.le_of_ble_eq_true rfl) dL_isDone_254 ⟨by show _ ≤ 12; omega, by show _ ≤ 72; omega⟩) (fun rr h1 H locs hp hH => ?_)
                obtain ⟨ea, eh⟩ := hp
                rw [eh] at hH
                rw [ea, show inN Sc (i0 + 3) 2 = inN Sc (i0 + 3) 2 from rfl]
                refine lv_if_ne (tgt := 264) hx hb dL_isDone_257 (by decide) (fun c257_8 => ?_) (fun c257_8 => ?_)
                · replace c257_8 : ¬ (inN Sc (i0 + 3) 2 = 0) := fun z => c257_8 ((nI_eq (a := inN Sc (i0 + 3) 2) (b := 0) (by omega) (by omega)).mpr z)
                  refine lv_aload_n hx hb dL_isDone_264 rfl (lv_at hl 5 rfl) ?_
                  refine lv_bipush (v := nI 36) hx hb dL_isDone_265 (by decide) ?_
                  refine lv_bipush (v := nI 8) hx hb dL_isDone_267 (by decide) ?_
                  refine lv_iload hx hb dL_isDone_269 (lv_at hl 1 rfl) ?_
                  refine lv_imul hx hb dL_isDone_271 ?_
                  rw [show nI 8 * nI l0 = nI (8 * l0) from nI_mul]
                  refine lv_iadd hx hb dL_isDone_272 ?_
                  rw [show nI 36 + nI (8 * l0) = nI (36 + 8 * l0) from nI_add _ _]
                  refine j_ld C0 hH hJ hL (ix := 36 + 8 * l0) (by omega) (by decide) (v := m 9 l0) (hT.cl (by omega)) dL_isDone_273 ?_
                  refine j_st C0 hH hJ hL (ix := 36 + 8 * l0) (by omega) (by decide) dL_isDone_274 (fun h H locs hH hJ => ?_)
                  obtain ⟨f_9, hf_9⟩ : ∃ z, z = upF f (36 + 8 * l0) (m 9 l0) := ⟨_, rfl⟩
                  obtain ⟨L_10, hL_10⟩ : ∃ z, z = setL L an 700 f_9 := ⟨_, rfl⟩
                  rw [← hf_9, ← hL_10] at hJ
                  have hL_L_10 : L_10 an = some (700, f_9) := by rw [hL_10]; exact setL_s _ _ _ _
                  refine lv_aload_n hx hb dL_isDone_275 rfl (lv_at hl 6 rfl) ?_
                  refine lv_iload_n hx hb dL_isDone_276 rfl (lv_at hl 7 rfl) ?_
                  refine lv_iconst (v := nI 3) hx hb dL_isDone_277 (by decide) ?_
                  refine lv_iadd hx hb dL_isDone_278 ?_
                  rw [show nI i0 + nI 3 = nI (i0 + 3) from nI_add _ _]
                  refine lv_iconst (v := nI 2) hx hb dL_isDone_279 (by decide) ?_
                  refine k_i hH (k_lS (rest := []) C0 hN hH (lL_in l Sc G A _ (i0 + 3) 2 (by omega) (by omega) (by omega)) mv_L_in ml_L_106 rfl ⟨Nat.le_of_ble_eq_true rfl, Nat.le_of_ble_eq_true rfl⟩ hl.1 rfl (Nat.le_of_ble_eq_true rfl) dL_isDone_280 ⟨by show _ ≤ 12; omega, by show _ ≤ 72; omega⟩) (fun rr h1 H locs hp hH => ?_)
                  obtain ⟨ea, eh⟩ := hp
                  rw [eh] at hH
                  rw [ea, show inN Sc (i0 + 3) 2 = inN Sc (i0 + 3) 2 from rfl]
                  refine lv_if_gt (tgt := 317) hx hb dL_isDone_283 (by decide) (fun c283_11 => ?_) (fun c283_11 => ?_)
                  · replace c283_11 : 0 < inN Sc (i0 + 3) 2 := (nI_ltI (a := 0) (b := inN Sc (i0 + 3) 2) (by omega) (by omega)).mp c283_11
                    refine lv_iconst (v := nI 1) hx hb dL_isDone_317 (by decide) ?_
                    refine lv_goto (tgt := 322) hx hb dL_isDone_318 (by decide) ?_
                    have ef : f_9 = f := by rw [hf_9]; exact upF_id (hT.cl (by omega))
                    rw [hL_10] at hJ
                    rw [ef] at hJ
                    exact e_Z C0 hr (by decide) hH ⟨rfl, b, f, m, n, hJ, ho, hwc, by omega, ⟨hS, hw, hI⟩, hT, ⟨rfl, Nat.le_refl _, rfl⟩, Nat.le_refl _, Nat.le_refl _⟩ (by omega) (by omega) dL_isDone_322
                  · exact absurd ((nI_ltI (a := 0) (b := inN Sc (i0 + 3) 2) (by omega) (by omega)).mpr (by omega)) c283_11
                · exact absurd ((nI_eq (a := inN Sc (i0 + 3) 2) (b := 0) (by omega) (by omega)).mp c257_8) hcl
              · refine lv_ldc hx hb hown (hts _ kl_L_20) dL_isDone_227 ?_
                refine lv_goto (tgt := 238) hx hb dL_isDone_229 (by decide) ?_
                refine lv_istore (lv' := [(7, .int (-900002)), (6, .int (nI l0)), (5, .int (nI ac)), (4, .int (nI p)), (0, .ref (o)), (1, .ref (an)), (2, .ref (Sc.1)), (3, .int (nI i0))]) hx hb dL_isDone_238 hl (by decide) rfl (fun ls hl => ?_)
                refine lv_aload_n hx hb dL_isDone_240 rfl (lv_at hl 5 rfl) ?_
                refine lv_bipush (v := nI 36) hx hb dL_isDone_241 (by decide) ?_
                refine lv_bipush (v := nI 8) hx hb dL_isDone_243 (by decide) ?_
                refine lv_iload hx hb dL_isDone_245 (lv_at hl 1 rfl) ?_
                refine lv_imul hx hb dL_isDone_247 ?_
                rw [show nI 8 * nI l0 = nI (8 * l0) from nI_mul]
                refine lv_iadd hx hb dL_isDone_248 ?_
                rw [show nI 36 + nI (8 * l0) = nI (36 + 8 * l0) from nI_add _ _]
                refine lv_aload_n hx hb dL_isDone_249 rfl (lv_at hl 6 rfl) ?_
                refine lv_iload_n hx hb dL_isDone_250 rfl (lv_at hl 7 rfl) ?_
                refine lv_iconst (v := nI 3) hx hb dL_isDone_251 (by decide) ?_
                refine lv_iadd hx hb dL_isDone_252 ?_
                rw [show nI i0 + nI 3 = nI (i0 + 3) from nI_add _ _]
                refine lv_iconst (v := nI 2) hx hb dL_isDone_253 (by decide) ?_
                refine k_i hH (k_lS (rest := [.int (nI (36 + 8 * l0)), .ref (an)]) C0 hN hH (lL_in l Sc G A _ (i0 + 3) 2 (by omega) (by omega) (by omega)) mv_L_in ml_L_106 rfl ⟨Nat.le_of_ble_eq_true rfl, Nat.le_of_ble_eq_true rfl⟩ hl.1 rfl (Nat.le_of_ble_eq_true rfl) dL_isDone_254 ⟨by show _ ≤ 12; omega, by show _ ≤ 72; omega⟩) (fun rr h1 H locs hp hH => ?_)
                obtain ⟨ea, eh⟩ := hp
                rw [eh] at hH
                rw [ea, show inN Sc (i0 + 3) 2 = inN Sc (i0 + 3) 2 from rfl]
                refine lv_if_ne (tgt := 264) hx hb dL_isDone_257 (by decide) (fun c257_12 => ?_) (fun c257_12 => ?_)
                · replace c257_12 : ¬ (inN Sc (i0 + 3) 2 = 0) := fun z => c257_12 ((nI_eq (a := inN Sc (i0 + 3) 2) (b := 0) (by omega) (by omega)).mpr z)
                  refine lv_aload_n hx hb dL_isDone_264 rfl (lv_at hl 5 rfl) ?_
                  refine lv_bipush (v := nI 36) hx hb dL_isDone_265 (by decide) ?_
                  refine lv_bipush (v := nI 8) hx hb dL_isDone_267 (by decide) ?_
                  refine lv_iload hx hb dL_isDone_269 (lv_at hl 1 rfl) ?_
                  refine lv_imul hx hb dL_isDone_271 ?_
                  rw [show nI 8 * nI l0 = nI (8 * l0) from nI_mul]
                  refine lv_iadd hx hb dL_isDone_272 ?_
                  rw [show nI 36 + nI (8 * l0) = nI (36 + 8 * l0) from nI_add _ _]
                  refine j_ld C0 hH hJ hL (ix := 36 + 8 * l0) (by omega) (by decide) (v := m 9 l0) (hT.cl (by omega)) dL_isDone_273 ?_
                  refine j_st C0 hH hJ hL (ix := 36 + 8 * l0) (by omega) (by decide) dL_isDone_274 (fun h H locs hH hJ => ?_)
                  obtain ⟨f_13, hf_13⟩ : ∃ z, z = upF f (36 + 8 * l0) (m 9 l0) := ⟨_, rfl⟩
                  obtain ⟨L_14, hL_14⟩ : ∃ z, z = setL L an 700 f_13 := ⟨_, rfl⟩
                  rw [← hf_13, ← hL_14] at hJ
                  have hL_L_14 : L_14 an = some (700, f_13) := by rw [hL_14]; exact setL_s _ _ _ _
                  refine lv_aload_n hx hb dL_isDone_275 rfl (lv_at hl 6 rfl) ?_
                  refine lv_iload_n hx hb dL_isDone_276 rfl (lv_at hl 7 rfl) ?_
                  refine lv_iconst (v := nI 3) hx hb dL_isDone_277 (by decide) ?_
                  refine lv_iadd hx hb dL_isDone_278 ?_
                  rw [show nI i0 + nI 3 = nI (i0 + 3) from nI_add _ _]
                  refine lv_iconst (v := nI 2) hx hb dL_isDone_279 (by decide) ?_
                  refine k_i hH (k_lS (rest := []) C0 hN hH (lL_in l Sc G A _ (i0 + 3) 2 (by omega) (by omega) (by omega)) mv_L_in ml_L_106 rfl ⟨Nat.le_of_ble_eq_true rfl, Nat.le_of_ble_eq_true rfl⟩ hl.1 rfl (Nat.le_of_ble_eq_true rfl) dL_isDone_280 ⟨by show _ ≤ 12; omega, by show _ ≤ 72; omega⟩) (fun rr h1 H locs hp hH => ?_)
                  obtain ⟨ea, eh⟩ := hp
                  rw [eh] at hH
                  rw [ea, show inN Sc (i0 + 3) 2 = inN Sc (i0 + 3) 2 from rfl]
                  refine lv_if_gt (tgt := 317) hx hb dL_isDone_283 (by decide) (fun c283_15 => ?_) (fun c283_15 => ?_)
                  · replace c283_15 : 0 < inN Sc (i0 + 3) 2 := (nI_ltI (a := 0) (b := inN Sc (i0 + 3) 2) (by omega) (by omega)).mp c283_15
                    refine lv_iconst (v := nI 1) hx hb dL_isDone_317 (by decide) ?_
                    refine lv_goto (tgt := 322) hx hb dL_isDone_318 (by decide) ?_
                    have ef : f_13 = f := by rw [hf_13]; exact upF_id (hT.cl (by omega))
                    rw [hL_14] at hJ
                    rw [ef] at hJ
                    exact e_Z C0 hr (by decide) hH ⟨rfl, b, f, m, n, hJ, ho, hwc, by omega, ⟨hS, hw, hI⟩, hT, ⟨rfl, Nat.le_refl _, rfl⟩, Nat.le_refl _, Nat.le_refl _⟩ (by omega) (by omega) dL_isDone_322
                  · exact absurd ((nI_ltI (a := 0) (b := inN Sc (i0 + 3) 2) (by omega) (by omega)).mpr (by omega)) c283_15
                · exact absurd ((nI_eq (a := inN Sc (i0 + 3) 2) (b := 0) (by omega) (by omega)).mp c257_12) hcl
            · exact absurd ((nI_eq (by omega) (by omega)).mp c188_6) (by omega)
          · exact absurd ((nI_eq (by omega) (by omega)).mp c99_5) (by omega)
        · exact absurd ((nI_leI (by omega) (by omega)).mpr (by omega)) c80_4
      · exact absurd ((nI_leI (by omega) (by omega)).mpr (by omega)) c61_3
    · exact absurd ((nI_leI (by omega) (by omega)).mpr (by omega)) c44_2
  · replace c25_1 : npN m = 0 := (nI_eq (a := npN m) (b := 0) (by omega) (by omega)).mp c25_1
    rw [if_pos c25_1] at eac
    refine lv_iconst (v := nI 0) hx hb dL_isDone_28 (by decide) ?_
    refine lv_goto (tgt := 39) hx hb dL_isDone_29 (by decide) ?_
    rw [show nI 0 = nI ac by rw [← eac]]
    have hb2 : ac < 12 := by omega
    refine lv_istore (lv' := [(5, .int (nI ac)), (4, .int (nI p)), (0, .ref (o)), (1, .ref (an)), (2, .ref (Sc.1)), (3, .int (nI i0))]) hx hb dL_isDone_39 hl (by decide) rfl (fun ls hl => ?_)
    refine lv_iload hx hb dL_isDone_41 (lv_at hl 0 rfl) ?_
    refine lv_iconst (v := nI 3) hx hb dL_isDone_43 (by decide) ?_
    refine lv_icmp_ge (tgt := 57) hx hb dL_isDone_44 (by decide) (fun c44_16 => ?_) (fun c44_16 => ?_)
    · replace c44_16 : 3 ≤ ac := (nI_leI (a := 3) (b := ac) (by omega) (by omega)).mp c44_16
      refine lv_iload hx hb dL_isDone_57 (lv_at hl 0 rfl) ?_
      refine lv_bipush (v := nI 7) hx hb dL_isDone_59 (by decide) ?_
      refine lv_icmp_ge (tgt := 76) hx hb dL_isDone_61 (by decide) (fun c61_17 => ?_) (fun c61_17 => ?_)
      · replace c61_17 : 7 ≤ ac := (nI_leI (a := 7) (b := ac) (by omega) (by omega)).mp c61_17
        refine lv_iload hx hb dL_isDone_76 (lv_at hl 0 rfl) ?_
        refine lv_bipush (v := nI 9) hx hb dL_isDone_78 (by decide) ?_
        refine lv_icmp_ge (tgt := 95) hx hb dL_isDone_80 (by decide) (fun c80_18 => ?_) (fun c80_18 => ?_)
        · replace c80_18 : 9 ≤ ac := (nI_leI (a := 9) (b := ac) (by omega) (by omega)).mp c80_18
          refine lv_iload hx hb dL_isDone_95 (lv_at hl 0 rfl) ?_
          refine lv_bipush (v := nI 9) hx hb dL_isDone_97 (by decide) ?_
          refine lv_icmp_ne (tgt := 184) hx hb dL_isDone_99 (by decide) (fun c99_19 => ?_) (fun c99_19 => ?_)
          · replace c99_19 : ¬ (ac = 9) := fun z => c99_19 ((nI_eq (a := ac) (b := 9) (by omega) (by omega)).mpr z)
            refine lv_iload hx hb dL_isDone_184 (lv_at hl 0 rfl) ?_
            refine lv_bipush (v := nI 10) hx hb dL_isDone_186 (by decide) ?_
            refine lv_icmp_ne (tgt := 201) hx hb dL_isDone_188 (by decide) (fun c188_20 => ?_) (fun c188_20 => ?_)
            · replace c188_20 : ¬ (ac = 10) := fun z => c188_20 ((nI_eq (a := ac) (b := 10) (by omega) (by omega)).mpr z)
              refine lv_aload_n hx hb dL_isDone_201 rfl (lv_at hl 4 rfl) ?_
              refine lv_iload_n hx hb dL_isDone_202 rfl (lv_at hl 5 rfl) ?_
              refine lv_iconst (v := nI 2) hx hb dL_isDone_203 (by decide) ?_
              refine lv_iadd hx hb dL_isDone_204 ?_
              rw [show nI i0 + nI 2 = nI (i0 + 2) from nI_add _ _]
              refine lv_aload_n hx hb dL_isDone_205 rfl (lv_at hl 3 rfl) ?_
              refine lv_iconst (v := nI 1) hx hb dL_isDone_206 (by decide) ?_
              refine j_ld C0 hH hJ hL (ix := 1) (by omega) (by decide) (v := nI (nlN m)) hT.l0 dL_isDone_207 ?_
              refine k_i hH (k_lS (rest := []) C0 hN hH (lL_in l Sc G A _ (i0 + 2) (nlN m) (by omega) (by omega) (by omega)) mv_L_in ml_L_106 rfl ⟨Nat.le_of_ble_eq_true rfl, Nat.le_of_ble_eq_true rfl⟩ hl.1 rfl (Nat.le_of_ble_eq_true rfl) dL_isDone_208 ⟨by show _ ≤ 12; omega, by show _ ≤ 72; omega⟩) (fun rr h1 H locs hp hH => ?_)
              obtain ⟨ea, eh⟩ := hp
              rw [eh] at hH
              rw [ea, el]
              refine lv_istore (lv' := [(6, .int (nI l0)), (5, .int (nI ac)), (4, .int (nI p)), (0, .ref (o)), (1, .ref (an)), (2, .ref (Sc.1)), (3, .int (nI i0))]) hx hb dL_isDone_211 hl (by decide) rfl (fun ls hl => ?_)
              refine lv_aload_n hx hb dL_isDone_213 rfl (lv_at hl 4 rfl) ?_
              refine lv_bipush (v := nI 36) hx hb dL_isDone_214 (by decide) ?_
              refine lv_bipush (v := nI 8) hx hb dL_isDone_216 (by decide) ?_
              refine lv_iload hx hb dL_isDone_218 (lv_at hl 0 rfl) ?_
              refine lv_imul hx hb dL_isDone_220 ?_
              rw [show nI 8 * nI l0 = nI (8 * l0) from nI_mul]
              refine lv_iadd hx hb dL_isDone_221 ?_
              rw [show nI 36 + nI (8 * l0) = nI (36 + 8 * l0) from nI_add _ _]
              refine j_ld C0 hH hJ hL (ix := 36 + 8 * l0) (by omega) (by decide) (v := m 9 l0) (hT.cl (by omega)) dL_isDone_222 ?_
              refine lv_iconst (v := nI 1) hx hb dL_isDone_223 (by decide) ?_
              refine lv_icmp_ne (tgt := 232) hx hb dL_isDone_224 (by decide) (fun c224_21 => ?_) (fun c224_21 => ?_)
              · refine lv_aload_n hx hb dL_isDone_232 rfl (lv_at hl 3 rfl) ?_
                refine lv_iload hx hb dL_isDone_233 (lv_at hl 0 rfl) ?_
                refine j_q0 (rest := []) C0 hH hJ ho (cN_X10_waiting l hlt G _ _ b c hJ.rest hwc (nI l0) (v_lX hS hw hwc hl0)) (v_lX hS hw hwc hl0) (v := waits m (nI l0)) (v_wait hS (nI l0)) mv_X10_waiting ml_L_193 rfl ⟨Nat.le_of_ble_eq_true rfl, Nat.le_of_ble_eq_true rfl⟩ hl.1 rfl (Nat.le_of_ble_eq_true rfl) dL_isDone_235 ⟨by show _ ≤ 12; omega, by show _ ≤ 72; omega⟩ (fun H locs hH => ?_)
                refine lv_istore (lv' := [(7, .int (waits m (nI l0))), (6, .int (nI l0)), (5, .int (nI ac)), (4, .int (nI p)), (0, .ref (o)), (1, .ref (an)), (2, .ref (Sc.1)), (3, .int (nI i0))]) hx hb dL_isDone_238 hl (by decide) rfl (fun ls hl => ?_)
                refine lv_aload_n hx hb dL_isDone_240 rfl (lv_at hl 5 rfl) ?_
                refine lv_bipush (v := nI 36) hx hb dL_isDone_241 (by decide) ?_
                refine lv_bipush (v := nI 8) hx hb dL_isDone_243 (by decide) ?_
                refine lv_iload hx hb dL_isDone_245 (lv_at hl 1 rfl) ?_
                refine lv_imul hx hb dL_isDone_247 ?_
                rw [show nI 8 * nI l0 = nI (8 * l0) from nI_mul]
                refine lv_iadd hx hb dL_isDone_248 ?_
                rw [show nI 36 + nI (8 * l0) = nI (36 + 8 * l0) from nI_add _ _]
                refine lv_aload_n hx hb dL_isDone_249 rfl (lv_at hl 6 rfl) ?_
                refine lv_iload_n hx hb dL_isDone_250 rfl (lv_at hl 7 rfl) ?_
                refine lv_iconst (v := nI 3) hx hb dL_isDone_251 (by decide) ?_
                refine lv_iadd hx hb dL_isDone_252 ?_
                rw [show nI i0 + nI 3 = nI (i0 + 3) from nI_add _ _]
                refine lv_iconst (v := nI 2) hx hb dL_isDone_253 (by decide) ?_
                refine k_i hH (k_lS (rest := [.int (nI (36 + 8 * l0)), .ref (an)]) C0 hN hH (lL_in l Sc G A _ (i0 + 3) 2 (by omega) (by omega) (by omega)) mv_L_in ml_L_106 rfl ⟨Nat.le_of_ble_eq_true rfl, Nat.le_of_ble_eq_true rfl⟩ hl.1 rfl (Nat.le_of_ble_eq_true rfl) dL_isDone_254 ⟨by show _ ≤ 12; omega, by show _ ≤ 72; omega⟩) (fun rr h1 H locs hp hH => ?_)
                obtain ⟨ea, eh⟩ := hp
                rw [eh] at hH
                rw [ea, show inN Sc (i0 + 3) 2 = inN Sc (i0 + 3) 2 from rfl]
                refine lv_if_ne (tgt := 264) hx hb dL_isDone_257 (by decide) (fun c257_22 => ?_) (fun c257_22 => ?_)
                · replace c257_22 : ¬ (inN Sc (i0 + 3) 2 = 0) := fun z => c257_22 ((nI_eq (a := inN Sc (i0 + 3) 2) (b := 0) (by omega) (by omega)).mpr z)
                  refine lv_aload_n hx hb dL_isDone_264 rfl (lv_at hl 5 rfl) ?_
                  refine lv_bipush (v := nI 36) hx hb dL_isDone_265 (by decide) ?_
                  refine lv_bipush (v := nI 8) hx hb dL_isDone_267 (by decide) ?_
                  refine lv_iload hx hb dL_isDone_269 (lv_at hl 1 rfl) ?_
                  refine lv_imul hx hb dL_isDone_271 ?_
                  rw [show nI 8 * nI l0 = nI (8 * l0) from nI_mul]
                  refine lv_iadd hx hb dL_isDone_272 ?_
                  rw [show nI 36 + nI (8 * l0) = nI (36 + 8 * l0) from nI_add _ _]
                  refine j_ld C0 hH hJ hL (ix := 36 + 8 * l0) (by omega) (by decide) (v := m 9 l0) (hT.cl (by omega)) dL_isDone_273 ?_
                  refine j_st C0 hH hJ hL (ix := 36 + 8 * l0) (by omega) (by decide) dL_isDone_274 (fun h H locs hH hJ => ?_)
                  obtain ⟨f_23, hf_23⟩ : ∃ z, z = upF f (36 + 8 * l0) (m 9 l0) := ⟨_, rfl⟩
                  obtain ⟨L_24, hL_24⟩ : ∃ z, z = setL L an 700 f_23 := ⟨_, rfl⟩
                  rw [← hf_23, ← hL_24] at hJ
                  have hL_L_24 : L_24 an = some (700, f_23) := by rw [hL_24]; exact setL_s _ _ _ _
                  refine lv_aload_n hx hb dL_isDone_275 rfl (lv_at hl 6 rfl) ?_
                  refine lv_iload_n hx hb dL_isDone_276 rfl (lv_at hl 7 rfl) ?_
                  refine lv_iconst (v := nI 3) hx hb dL_isDone_277 (by decide) ?_
                  refine lv_iadd hx hb dL_isDone_278 ?_
                  rw [show nI i0 + nI 3 = nI (i0 + 3) from nI_add _ _]
                  refine lv_iconst (v := nI 2) hx hb dL_isDone_279 (by decide) ?_
                  refine k_i hH (k_lS (rest := []) C0 hN hH (lL_in l Sc G A _ (i0 + 3) 2 (by omega) (by omega) (by omega)) mv_L_in ml_L_106 rfl ⟨Nat.le_of_ble_eq_true rfl, Nat.le_of_ble_eq_true rfl⟩ hl.1 rfl (Nat.le_of_ble_eq_true rfl) dL_isDone_280 ⟨by show _ ≤ 12; omega, by show _ ≤ 72; omega⟩) (fun rr h1 H locs hp hH => ?_)
                  obtain ⟨ea, eh⟩ := hp
                  rw [eh] at hH
                  rw [ea, show inN Sc (i0 + 3) 2 = inN Sc (i0 + 3) 2 from rfl]
                  refine lv_if_gt (tgt := 317) hx hb dL_isDone_283 (by decide) (fun c283_25 => ?_) (fun c283_25 => ?_)
                  · replace c283_25 : 0 < inN Sc (i0 + 3) 2 := (nI_ltI (a := 0) (b := inN Sc (i0 + 3) 2) (by omega) (by omega)).mp c283_25
                    refine lv_iconst (v := nI 1) hx hb dL_isDone_317 (by decide) ?_
                    refine lv_goto (tgt := 322) hx hb dL_isDone_318 (by decide) ?_
                    have ef : f_23 = f := by rw [hf_23]; exact upF_id (hT.cl (by omega))
                    rw [hL_24] at hJ
                    rw [ef] at hJ
                    exact e_Z C0 hr (by decide) hH ⟨rfl, b, f, m, n, hJ, ho, hwc, by omega, ⟨hS, hw, hI⟩, hT, ⟨rfl, Nat.le_refl _, rfl⟩, Nat.le_refl _, Nat.le_refl _⟩ (by omega) (by omega) dL_isDone_322
                  · exact absurd ((nI_ltI (a := 0) (b := inN Sc (i0 + 3) 2) (by omega) (by omega)).mpr (by omega)) c283_25
                · exact absurd ((nI_eq (a := inN Sc (i0 + 3) 2) (b := 0) (by omega) (by omega)).mp c257_22) hcl
              · refine lv_ldc hx hb hown (hts _ kl_L_20) dL_isDone_227 ?_
                refine lv_goto (tgt := 238) hx hb dL_isDone_229 (by decide) ?_
                refine lv_istore (lv' := [(7, .int (-900002)), (6, .int (nI l0)), (5, .int (nI ac)), (4, .int (nI p)), (0, .ref (o)), (1, .ref (an)), (2, .ref (Sc.1)), (3, .int (nI i0))]) hx hb dL_isDone_238 hl (by decide) rfl (fun ls hl => ?_)
                refine lv_aload_n hx hb dL_isDone_240 rfl (lv_at hl 5 rfl) ?_
                refine lv_bipush (v := nI 36) hx hb dL_isDone_241 (by decide) ?_
                refine lv_bipush (v := nI 8) hx hb dL_isDone_243 (by decide) ?_
                refine lv_iload hx hb dL_isDone_245 (lv_at hl 1 rfl) ?_
                refine lv_imul hx hb dL_isDone_247 ?_
                rw [show nI 8 * nI l0 = nI (8 * l0) from nI_mul]
                refine lv_iadd hx hb dL_isDone_248 ?_
                rw [show nI 36 + nI (8 * l0) = nI (36 + 8 * l0) from nI_add _ _]
                refine lv_aload_n hx hb dL_isDone_249 rfl (lv_at hl 6 rfl) ?_
                refine lv_iload_n hx hb dL_isDone_250 rfl (lv_at hl 7 rfl) ?_
                refine lv_iconst (v := nI 3) hx hb dL_isDone_251 (by decide) ?_
                refine lv_iadd hx hb dL_isDone_252 ?_
                rw [show nI i0 + nI 3 = nI (i0 + 3) from nI_add _ _]
                refine lv_iconst (v := nI 2) hx hb dL_isDone_253 (by decide) ?_
                refine k_i hH (k_lS (rest := [.int (nI (36 + 8 * l0)), .ref (an)]) C0 hN hH (lL_in l Sc G A _ (i0 + 3) 2 (by omega) (by omega) (by omega)) mv_L_in ml_L_106 rfl ⟨Nat.le_of_ble_eq_true rfl, Nat.le_of_ble_eq_true rfl⟩ hl.1 rfl (Nat.le_of_ble_eq_true rfl) dL_isDone_254 ⟨by show _ ≤ 12; omega, by show _ ≤ 72; omega⟩) (fun rr h1 H locs hp hH => ?_)
                obtain ⟨ea, eh⟩ := hp
                rw [eh] at hH
                rw [ea, show inN Sc (i0 + 3) 2 = inN Sc (i0 + 3) 2 from rfl]
                refine lv_if_ne (tgt := 264) hx hb dL_isDone_257 (by decide) (fun c257_26 => ?_) (fun c257_26 => ?_)
                · replace c257_26 : ¬ (inN Sc (i0 + 3) 2 = 0) := fun z => c257_26 ((nI_eq (a := inN Sc (i0 + 3) 2) (b := 0) (by omega) (by omega)).mpr z)
                  refine lv_aload_n hx hb dL_isDone_264 rfl (lv_at hl 5 rfl) ?_
                  refine lv_bipush (v := nI 36) hx hb dL_isDone_265 (by decide) ?_
                  refine lv_bipush (v := nI 8) hx hb dL_isDone_267 (by decide) ?_
                  refine lv_iload hx hb dL_isDone_269 (lv_at hl 1 rfl) ?_
                  refine lv_imul hx hb dL_isDone_271 ?_
                  rw [show nI 8 * nI l0 = nI (8 * l0) from nI_mul]
                  refine lv_iadd hx hb dL_isDone_272 ?_
                  rw [show nI 36 + nI (8 * l0) = nI (36 + 8 * l0) from nI_add _ _]
                  refine j_ld C0 hH hJ hL (ix := 36 + 8 * l0) (by omega) (by decide) (v := m 9 l0) (hT.cl (by omega)) dL_isDone_273 ?_
                  refine j_st C0 hH hJ hL (ix := 36 + 8 * l0) (by omega) (by decide) dL_isDone_274 (fun h H locs hH hJ => ?_)
                  obtain ⟨f_27, hf_27⟩ : ∃ z, z = upF f (36 + 8 * l0) (m 9 l0) := ⟨_, rfl⟩
                  obtain ⟨L_28, hL_28⟩ : ∃ z, z = setL L an 700 f_27 := ⟨_, rfl⟩
                  rw [← hf_27, ← hL_28] at hJ
                  have hL_L_28 : L_28 an = some (700, f_27) := by rw [hL_28]; exact setL_s _ _ _ _
                  refine lv_aload_n hx hb dL_isDone_275 rfl (lv_at hl 6 rfl) ?_
                  refine lv_iload_n hx hb dL_isDone_276 rfl (lv_at hl 7 rfl) ?_
                  refine lv_iconst (v := nI 3) hx hb dL_isDone_277 (by decide) ?_
                  refine lv_iadd hx hb dL_isDone_278 ?_
                  rw [show nI i0 + nI 3 = nI (i0 + 3) from nI_add _ _]
                  refine lv_iconst (v := nI 2) hx hb dL_isDone_279 (by decide) ?_
                  refine k_i hH (k_lS (rest := []) C0 hN hH (lL_in l Sc G A _ (i0 + 3) 2 (by omega) (by omega) (by omega)) mv_L_in ml_L_106 rfl ⟨Nat.le_of_ble_eq_true rfl, Nat.le_of_ble_eq_true rfl⟩ hl.1 rfl (Nat.le_of_ble_eq_true rfl) dL_isDone_280 ⟨by show _ ≤ 12; omega, by show _ ≤ 72; omega⟩) (fun rr h1 H locs hp hH => ?_)
                  obtain ⟨ea, eh⟩ := hp
                  rw [eh] at hH
                  rw [ea, show inN Sc (i0 + 3) 2 = inN Sc (i0 + 3) 2 from rfl]
                  refine lv_if_gt (tgt := 317) hx hb dL_isDone_283 (by decide) (fun c283_29 => ?_) (fun c283_29 => ?_)
                  · replace c283_29 : 0 < inN Sc (i0 + 3) 2 := (nI_ltI (a := 0) (b := inN Sc (i0 + 3) 2) (by omega) (by omega)).mp c283_29
                    refine lv_iconst (v := nI 1) hx hb dL_isDone_317 (by decide) ?_
                    refine lv_goto (tgt := 322) hx hb dL_isDone_318 (by decide) ?_
                    have ef : f_27 = f := by rw [hf_27]; exact upF_id (hT.cl (by omega))
                    rw [hL_28] at hJ
                    rw [ef] at hJ
                    exact e_Z C0 hr (by decide) hH ⟨rfl, b, f, m, n, hJ, ho, hwc, by omega, ⟨hS, hw, hI⟩, hT, ⟨rfl, Nat.le_refl _, rfl⟩, Nat.le_refl _, Nat.le_refl _⟩ (by omega) (by omega) dL_isDone_322
                  · exact absurd ((nI_ltI (a := 0) (b := inN Sc (i0 + 3) 2) (by omega) (by omega)).mpr (by omega)) c283_29
                · exact absurd ((nI_eq (a := inN Sc (i0 + 3) 2) (b := 0) (by omega) (by omega)).mp c257_26) hcl
            · exact absurd ((nI_eq (by omega) (by omega)).mp c188_20) (by omega)
          · exact absurd ((nI_eq (by omega) (by omega)).mp c99_19) (by omega)
        · exact absurd ((nI_leI (by omega) (by omega)).mpr (by omega)) c80_18
      · exact absurd ((nI_leI (by omega) (by omega)).mpr (by omega)) c61_17
    · exact absurd ((nI_leI (by omega) (by omega)).mpr (by omega)) c44_16
set_option maxHeartbeats 1600000 in
set_option maxRecDepth 100000 in
theorem lL_isDone_clB (l : Launch) (hlt : l.stackTraces = false) (Sc : SCR) (G : GT) (A : Nat → Prop) (h : AH) (b : BA) (c m : MM) (n : Nat) (L : LNum) (M : LRef) (o : Nat) (hJ : JW G.2.2.1 h b c L M) (ho : b 14 0 = o) (hwc : WFc c) (hS : Sim n c m) (hw : WFa m) (hI : IV m) (hn : n < 512) (i0 : Nat) (hi0 : i0 < 2 ^ 19) (h2 : 2 ≤ nhN m) (hl9 : 1 ≤ nlN m) (p ac : Nat) (ep : inN Sc (i0 + 1) (npN m + 1) % (if npN m = 0 then 1 else npN m) = p) (eac : (if npN m = 0 then 0 else inN Sc i0 12) = ac) (an : Nat) (f : Nat → Int32) (hL : L an = some (700, f)) (hT : NT f m) (hac : ac = 11) (l0 : Nat) (el : inN Sc (i0 + 2) (nlN m) = l0) (hcl : inN Sc (i0 + 3) 2 = 0) (h90 : m 9 l0 = 0) : lcI l Sc G A yL_isDone cL_isDone 8 (Option.some FieldType.boolean) 14 475 (12 + (UC (cClo c (nI l0)) - UC c)) (72 + (US (cClo c (nI l0)) - US c)) [.ref (o), .ref (an), .ref (Sc.1), .int (nI i0)] h (fun r h' => r = nI 1 ∧ ∃ b' f' m' n', JW G.2.2.1 h' b' (cClo c (nI l0)) (setL L an 700 f') M ∧ b' 14 0 = o ∧ WFc (cClo c (nI l0)) ∧ n' ≤ n + 1 ∧ Stt n' (cClo c (nI l0)) m' ∧ NT f' m' ∧ Kp m m' ∧ UC c ≤ UC (cClo c (nI l0)) ∧ US c ≤ US (cClo c (nI l0))) := by
  refine lm_of rfl (Nat.le_of_ble_eq_true rfl) ?_
  intro pr e s m9 below meth c9 C0 hN hr hH ls hl
  obtain ⟨hx, hb, hml, hown, hts, hK, hA, -⟩ := id C0
  have hl : lv_has ls 8 [(0, .ref (o)), (1, .ref (an)), (2, .ref (Sc.1)), (3, .int (nI i0))] := hl
  have n40 := hw.np.2
  have n6 := hw.nh.2
  have nl12 := hw.nl.2
  have hq0 := inN_lt Sc (i0 + 2) (n := nlN m) (by omega)
  rw [el] at hq0
  have hl0 : l0 < nlN m := hq0
  have hq3 := inN_lt Sc (i0 + 3) (n := 2) (by omega)
  have h901 := (hw.ln hl0).2.2.2.2.2
  obtain ⟨hxa, hcw, m1, hSt1, k1, k9, hr1⟩ := d_close ⟨hS, hw, hI⟩ hwc hl0 h90
  have hw1 := hSt1.2.1
  have hS1 := hSt1.1
  have hnl1 : nlN m1 = nlN m := nlN_ext (k1 38 ⟨by unfold oK; omega, by omega, by omega⟩)
  have hl1 : l0 < nlN m1 := by omega
  have h91 : ¬ m1 9 l0 = 0 := by rw [k9, if_pos rfl]; decide
  have hNT := hT.close hw hl0 k1 k9 hr1
  have hww := waits_no hw1 hSt1.2.2 hl1 h91
  have hg9 := (gm_clo hwc (nI l0)).1
  refine lv_aload_n hx hb dL_isDone_0 rfl (lv_at hl 2 rfl) ?_
  refine lv_iload_n hx hb dL_isDone_1 rfl (lv_at hl 3 rfl) ?_
  refine lv_iconst (v := nI 1) hx hb dL_isDone_2 (by decide) ?_
  refine lv_iadd hx hb dL_isDone_3 ?_
  rw [show nI i0 + nI 1 = nI (i0 + 1) from nI_add _ _]
  refine lv_aload_n hx hb dL_isDone_4 rfl (lv_at hl 1 rfl) ?_
  refine lv_iconst (v := nI 2) hx hb dL_isDone_5 (by decide) ?_
  refine j_ld C0 hH hJ hL (ix := 2) (by omega) (by decide) (v := nI (npN m)) hT.p0 dL_isDone_6 ?_
  refine lv_iconst (v := nI 1) hx hb dL_isDone_7 (by decide) ?_
  refine lv_iadd hx hb dL_isDone_8 ?_
  rw [show nI (npN m) + nI 1 = nI (npN m + 1) from nI_add _ _]
  have hb1 := inN_lt Sc (i0 + 1) (n := npN m + 1) (by omega)
  refine k_i hH (k_lS (rest := []) C0 hN hH (lL_in l Sc G A _ (i0 + 1) (npN m + 1) (by omega) (by omega) (by omega)) mv_L_in ml_L_106 rfl ⟨Nat.le_of_ble_eq_true rfl, Nat.le_of_ble_eq_true rfl⟩ hl.1 rfl (Nat.le_of_ble_eq_true rfl) dL_isDone_9 ⟨by show _ ≤ 12 + (UC (cClo c (nI l0)) - UC c); omega, by show _ ≤ 72 + (US (cClo c (nI l0)) - US c); omega⟩) (fun rr h1 H locs hp hH => ?_)
  obtain ⟨ea, eh⟩ := hp
  rw [eh] at hH
  rw [ea, show inN Sc (i0 + 1) (npN m + 1) = inN Sc (i0 + 1) (npN m + 1) from rfl]
  refine lv_iconst (v := nI 1) hx hb dL_isDone_12 (by decide) ?_
  refine lv_aload_n hx hb dL_isDone_13 rfl (lv_at hl 1 rfl) ?_
  refine lv_iconst (v := nI 2) hx hb dL_isDone_14 (by decide) ?_
  refine j_ld C0 hH hJ hL (ix := 2) (by omega) (by decide) (v := nI (npN m)) hT.p0 dL_isDone_15 ?_
  refine o_mmax C0 ml_L_176 hl.1 dL_isDone_16 (Nat.le_of_ble_eq_true rfl) (Nat.le_of_ble_eq_true rfl) (by simp) ?_
  obtain ⟨mx, hmx⟩ : ∃ z, z = (if npN m = 0 then 1 else npN m) := ⟨_, rfl⟩
  have hmx0 : 0 < mx := by rw [hmx]; split <;> omega
  rw [show (if nI 1 < nI (npN m) then nI (npN m) else nI 1) = nI mx by rw [hmx]; by_cases y : npN m = 0; (· rw [if_pos y, y]; decide); (· rw [if_neg y]; by_cases y1 : npN m = 1; (· rw [y1]; decide); (· rw [if_pos (by rw [nI_ltI (by omega) (by omega)]; omega)]))]
  have hmx4 : mx ≤ 40 := by rw [hmx]; split <;> omega
  rw [← hmx] at ep
  refine lv_irem hx hb dL_isDone_19 (fun z => by have := (nI_eq (a := mx) (b := 0) (by omega) (by omega)).mp z; omega) ?_
  rw [nI_rem (show inN Sc (i0 + 1) (npN m + 1) < 2 ^ 31 by omega) (show mx < 2 ^ 31 by omega), ep]
  refine lv_istore (lv' := [(4, .int (nI p)), (0, .ref (o)), (1, .ref (an)), (2, .ref (Sc.1)), (3, .int (nI i0))]) hx hb dL_isDone_20 hl (by decide) rfl (fun ls hl => ?_)
  refine lv_aload_n hx hb dL_isDone_22 rfl (lv_at hl 2 rfl) ?_
  refine lv_iconst (v := nI 2) hx hb dL_isDone_23 (by decide) ?_
  refine j_ld C0 hH hJ hL (ix := 2) (by omega) (by decide) (v := nI (npN m)) hT.p0 dL_isDone_24 ?_
  refine lv_if_ne (tgt := 32) hx hb dL_isDone_25 (by decide) (fun c25_1 => ?_) (fun c25_1 => ?_)
  · replace c25_1 : ¬ (npN m = 0) := fun z => c25_1 ((nI_eq (a := npN m) (b := 0) (by omega) (by omega)).mpr z)
    rw [if_neg c25_1] at eac
    have hb2 := inN_lt Sc i0 (n := 12) (by omega)
    rw [eac] at hb2
    refine lv_aload_n hx hb dL_isDone_32 rfl (lv_at hl 3 rfl) ?_
    refine lv_iload_n hx hb dL_isDone_33 rfl (lv_at hl 4 rfl) ?_
    refine lv_bipush (v := nI 12) hx hb dL_isDone_34 (by decide) ?_
    refine k_i hH (k_lS (rest := []) C0 hN hH (lL_in l Sc G A _ i0 12 (by omega) (by omega) (by omega)) mv_L_in ml_L_106 rfl ⟨Nat.le_of_ble_eq_true rfl, Nat.le_of_ble_eq_true rfl⟩ hl.1 rfl (Nat.le_of_ble_eq_true rfl) dL_isDone_36 ⟨by show _ ≤ 12 + (UC (cClo c (nI l0)) - UC c); omega, by show _ ≤ 72 + (US (cClo c (nI l0)) - US c); omega⟩) (fun rr h1 H locs hp hH => ?_)
    obtain ⟨ea, eh⟩ := hp
    rw [eh] at hH
    rw [ea, eac]
    refine lv_istore (lv' := [(5, .int (nI ac)), (4, .int (nI p)), (0, .ref (o)), (1, .ref (an)), (2, .ref (Sc.1)), (3, .int (nI i0))]) hx hb dL_isDone_39 hl (by decide) rfl (fun ls hl => ?_)
    refine lv_iload hx hb dL_isDone_41 (lv_at hl 0 rfl) ?_
    refine lv_iconst (v := nI 3) hx hb dL_isDone_43 (by decide) ?_
    refine lv_icmp_ge (tgt := 57) hx hb dL_isDone_44 (by decide) (fun c44_2 => ?_) (fun c44_2 => ?_)
    · replace c44_2 : 3 ≤ ac := (nI_leI (a := 3) (b := ac) (by omega) (by omega)).mp c44_2
      refine lv_iload hx hb dL_isDone_57 (lv_at hl 0 rfl) ?_
      refine lv_bipush (v := nI 7) hx hb dL_isDone_59 (by decide) ?_
      refine lv_icmp_ge (tgt := 76) hx hb dL_isDone_61 (by decide) (fun c61_3 => ?_) (fun c61_3 => ?_)
      · replace c61_3 : 7 ≤ ac := (nI_leI (a := 7) (b := ac) (by omega) (by omega)).mp c61_3
        refine lv_iload hx hb dL_isDone_76 (lv_at hl 0 rfl) ?_
        refine lv_bipush (v := nI 9) hx hb dL_isDone_78 (by decide) ?_
        refine lv_icmp_ge (tgt := 95) hx hb dL_isDone_80 (by decide) (fun c80_4 => ?_) (fun c80_4 => ?_)
        · replace c80_4 : 9 ≤ ac := (nI_leI (a := 9) (b := ac) (by omega) (by omega)).mp c80_4
          refine lv_iload hx hb dL_isDone_95 (lv_at hl 0 rfl) ?_
          refine lv_bipush (v := nI 9) hx hb dL_isDone_97 (by decide) ?_
          refine lv_icmp_ne (tgt := 184) hx hb dL_isDone_99 (by decide) (fun c99_5 => ?_) (fun c99_5 => ?_)
          · replace c99_5 : ¬ (ac = 9) := fun z => c99_5 ((nI_eq (a := ac) (b := 9) (by omega) (by omega)).mpr z)
            refine lv_iload hx hb dL_isDone_184 (lv_at hl 0 rfl) ?_
            refine lv_bipush (v := nI 10) hx hb dL_isDone_186 (by decide) ?_
            refine lv_icmp_ne (tgt := 201) hx hb dL_isDone_188 (by decide) (fun c188_6 => ?_) (fun c188_6 => ?_)
            · replace c188_6 : ¬ (ac = 10) := fun z => c188_6 ((nI_eq (a := ac) (b := 10) (by omega) (by omega)).mpr z)
              refine lv_aload_n hx hb dL_isDone_201 rfl (lv_at hl 4 rfl) ?_
              refine lv_iload_n hx hb dL_isDone_202 rfl (lv_at hl 5 rfl) ?_
              refine lv_iconst (v := nI 2) hx hb dL_isDone_203 (by decide) ?_
              refine lv_iadd hx hb dL_isDone_204 ?_
              rw [show nI i0 + nI 2 = nI (i0 + 2) from nI_add _ _]
              refine lv_aload_n hx hb dL_isDone_205 rfl (lv_at hl 3 rfl) ?_
              refine lv_iconst (v := nI 1) hx hb dL_isDone_206 (by decide) ?_
              refine j_ld C0 hH hJ hL (ix := 1) (by omega) (by decide) (v := nI (nlN m)) hT.l0 dL_isDone_207 ?_
              refine k_i hH (k_lS (rest := []) C0 hN hH (lL_in l Sc G A _ (i0 + 2) (nlN m) (by omega) (by omega) (by omega)) mv_L_in ml_L_106 rfl ⟨Nat.le_of_ble_eq_true rfl, Nat.le_of_ble_eq_true rfl⟩ hl.1 rfl (Nat.le_of_ble_eq_true rfl) dL_isDone_208 ⟨by show _ ≤ 12 + (UC (cClo c (nI l0)) - UC c); omega, by show _ ≤ 72 + (US (cClo c (nI l0)) - US c); omega⟩) (fun rr h1 H locs hp hH => ?_)
              obtain ⟨ea, eh⟩ := hp
              rw [eh] at hH
              rw [ea, el]
              refine lv_istore (lv' := [(6, .int (nI l0)), (5, .int (nI ac)), (4, .int (nI p)), (0, .ref (o)), (1, .ref (an)), (2, .ref (Sc.1)), (3, .int (nI i0))]) hx hb dL_isDone_211 hl (by decide) rfl (fun ls hl => ?_)
              refine lv_aload_n hx hb dL_isDone_213 rfl (lv_at hl 4 rfl) ?_
              refine lv_bipush (v := nI 36) hx hb dL_isDone_214 (by decide) ?_
              refine lv_bipush (v := nI 8) hx hb dL_isDone_216 (by decide) ?_
              refine lv_iload hx hb dL_isDone_218 (lv_at hl 0 rfl) ?_
              refine lv_imul hx hb dL_isDone_220 ?_
              rw [show nI 8 * nI l0 = nI (8 * l0) from nI_mul]
              refine lv_iadd hx hb dL_isDone_221 ?_
              rw [show nI 36 + nI (8 * l0) = nI (36 + 8 * l0) from nI_add _ _]
              refine j_ld C0 hH hJ hL (ix := 36 + 8 * l0) (by omega) (by decide) (v := m 9 l0) (hT.cl (by omega)) dL_isDone_222 ?_
              refine lv_iconst (v := nI 1) hx hb dL_isDone_223 (by decide) ?_
              refine lv_icmp_ne (tgt := 232) hx hb dL_isDone_224 (by decide) (fun c224_7 => ?_) (fun c224_7 => ?_)
              · refine lv_aload_n hx hb dL_isDone_232 rfl (lv_at hl 3 rfl) ?_
                refine lv_iload hx hb dL_isDone_233 (lv_at hl 0 rfl) ?_
                refine j_q0 (rest := []) C0 hH hJ ho (cN_X10_waiting l hlt G _ _ b c hJ.rest hwc (nI l0) (v_lX hS hw hwc hl0)) (v_lX hS hw hwc hl0) (v := waits m (nI l0)) (v_wait hS (nI l0)) mv_X10_waiting ml_L_193 rfl ⟨Nat.le_of_ble_eq_true rfl, Nat.le_of_ble_eq_true rfl⟩ hl.1 rfl (Nat.le_of_ble_eq_true rfl) dL_isDone_235 ⟨by show _ ≤ 12 + (UC (cClo c (nI l0)) - UC c); omega, by show _ ≤ 72 + (US (cClo c (nI l0)) - US c); omega⟩ (fun H locs hH => ?_)
                refine lv_istore (lv' := [(7, .int (waits m (nI l0))), (6, .int (nI l0)), (5, .int (nI ac)), (4, .int (nI p)), (0, .ref (o)), (1, .ref (an)), (2, .ref (Sc.1)), (3, .int (nI i0))]) hx hb dL_isDone_238 hl (by decide) rfl (fun ls hl => ?_)
                refine lv_aload_n hx hb dL_isDone_240 rfl (lv_at hl 5 rfl) ?_
                refine lv_bipush (v := nI 36) hx hb dL_isDone_241 (by decide) ?_
                refine lv_bipush (v := nI 8) hx hb dL_isDone_243 (by decide) ?_
                refine lv_iload hx hb dL_isDone_245 (lv_at hl 1 rfl) ?_
                refine lv_imul hx hb dL_isDone_247 ?_
                rw [show nI 8 * nI l0 = nI (8 * l0) from nI_mul]
                refine lv_iadd hx hb dL_isDone_248 ?_
                rw [show nI 36 + nI (8 * l0) = nI (36 + 8 * l0) from nI_add _ _]
                refine lv_aload_n hx hb dL_isDone_249 rfl (lv_at hl 6 rfl) ?_
                refine lv_iload_n hx hb dL_isDone_250 rfl (lv_at hl 7 rfl) ?_
                refine lv_iconst (v := nI 3) hx hb dL_isDone_251 (by decide) ?_
                refine lv_iadd hx hb dL_isDone_252 ?_
                rw [show nI i0 + nI 3 = nI (i0 + 3) from nI_add _ _]
                refine lv_iconst (v := nI 2) hx hb dL_isDone_253 (by decide) ?_
                refine k_i hH (k_lS (rest := [.int (nI (36 + 8 * l0)), .ref (an)]) C0 hN hH (lL_in l Sc G A _ (i0 + 3) 2 (by omega) (by omega) (by omega)) mv_L_in ml_L_106 rfl ⟨Nat.le_of_ble_eq_true rfl, Nat.le_of_ble_eq_true rfl⟩ hl.1 rfl (Nat.le_of_ble_eq_true rfl) dL_isDone_254 ⟨by show _ ≤ 12 + (UC (cClo c (nI l0)) - UC c); omega, by show _ ≤ 72 + (US (cClo c (nI l0)) - US c); omega⟩) (fun rr h1 H locs hp hH => ?_)
                obtain ⟨ea, eh⟩ := hp
                rw [eh] at hH
                rw [ea, show inN Sc (i0 + 3) 2 = inN Sc (i0 + 3) 2 from rfl]
                refine lv_if_ne (tgt := 264) hx hb dL_isDone_257 (by decide) (fun c257_8 => ?_) (fun c257_8 => ?_)
                · exact absurd ((nI_eq (a := inN Sc (i0 + 3) 2) (b := 0) (by omega) (by omega)).mpr hcl) c257_8
                · replace c257_8 : inN Sc (i0 + 3) 2 = 0 := (nI_eq (a := inN Sc (i0 + 3) 2) (b := 0) (by omega) (by omega)).mp c257_8
                  refine lv_iconst (v := nI 1) hx hb dL_isDone_260 (by decide) ?_
                  refine lv_goto (tgt := 274) hx hb dL_isDone_261 (by decide) ?_
                  refine j_st C0 hH hJ hL (ix := 36 + 8 * l0) (by omega) (by decide) dL_isDone_274 (fun h H locs hH hJ => ?_)
                  obtain ⟨f_9, hf_9⟩ : ∃ z, z = upF f (36 + 8 * l0) (nI 1) := ⟨_, rfl⟩
                  obtain ⟨L_10, hL_10⟩ : ∃ z, z = setL L an 700 f_9 := ⟨_, rfl⟩
                  rw [← hf_9, ← hL_10] at hJ
                  have hL_L_10 : L_10 an = some (700, f_9) := by rw [hL_10]; exact setL_s _ _ _ _
                  refine lv_aload_n hx hb dL_isDone_275 rfl (lv_at hl 6 rfl) ?_
                  refine lv_iload_n hx hb dL_isDone_276 rfl (lv_at hl 7 rfl) ?_
                  refine lv_iconst (v := nI 3) hx hb dL_isDone_277 (by decide) ?_
                  refine lv_iadd hx hb dL_isDone_278 ?_
                  rw [show nI i0 + nI 3 = nI (i0 + 3) from nI_add _ _]
                  refine lv_iconst (v := nI 2) hx hb dL_isDone_279 (by decide) ?_
                  refine k_i hH (k_lS (rest := []) C0 hN hH (lL_in l Sc G A _ (i0 + 3) 2 (by omega) (by omega) (by omega)) mv_L_in ml_L_106 rfl ⟨Nat.le_of_ble_eq_true rfl, Nat.le_of_ble_eq_true rfl⟩ hl.1 rfl (Nat.le_of_ble_eq_true rfl) dL_isDone_280 ⟨by show _ ≤ 12 + (UC (cClo c (nI l0)) - UC c); omega, by show _ ≤ 72 + (US (cClo c (nI l0)) - US c); omega⟩) (fun rr h1 H locs hp hH => ?_)
                  obtain ⟨ea, eh⟩ := hp
                  rw [eh] at hH
                  rw [ea, show inN Sc (i0 + 3) 2 = inN Sc (i0 + 3) 2 from rfl]
                  refine lv_if_gt (tgt := 317) hx hb dL_isDone_283 (by decide) (fun c283_11 => ?_) (fun c283_11 => ?_)
                  · exact absurd ((nI_ltI (a := 0) (b := inN Sc (i0 + 3) 2) (by omega) (by omega)).mp c283_11) (by omega)
                  · replace c283_11 : ¬ (0 < inN Sc (i0 + 3) 2) := fun z => c283_11 ((nI_ltI (a := 0) (b := inN Sc (i0 + 3) 2) (by omega) (by omega)).mpr z)
                    refine lv_aload_n hx hb dL_isDone_286 rfl (lv_at hl 4 rfl) ?_
                    refine lv_iload hx hb dL_isDone_287 (lv_at hl 1 rfl) ?_
                    refine j_w1 (As := [.int (nI l0)]) (rest := []) (v := waits m (nI l0)) (c' := cClo c (nI l0)) C0 hN hH hJ ho (lW_closeLine (nI l0) hJ.own hJ.obj (cC_X10_closeLine l hlt G _ _ b c hJ.rest hwc (nI l0)) (hin_n hxa (fun E h9 z => z.1))) (hv_in0 hxa hcw (fun E h9 z => z.1)) ms_L_closeLine ml_L_196 rfl ⟨Nat.le_of_ble_eq_true rfl, Nat.le_of_ble_eq_true rfl⟩ hl.1 rfl (Nat.le_of_ble_eq_true rfl) dL_isDone_289 ⟨by show _ ≤ 12 + (UC (cClo c (nI l0)) - UC c); omega, by show _ ≤ 72 + (US (cClo c (nI l0)) - US c); omega⟩ (fun h b H locs hH hJ ho hwc => ?_)
                    refine lv_iload hx hb dL_isDone_292 (lv_at hl 0 rfl) ?_
                    refine lv_icmp_ne (tgt := 321) hx hb dL_isDone_294 (by decide) (fun c294_12 => ?_) (fun c294_12 => ?_)
                    · exact absurd rfl c294_12
                    · refine lv_aload_n hx hb dL_isDone_297 rfl (lv_at hl 4 rfl) ?_
                      refine lv_iload hx hb dL_isDone_298 (lv_at hl 1 rfl) ?_
                      refine j_w0 (As := [.int (nI l0)]) (rest := []) (v := -900002) C0 hN hH ho (lW_nextDeparture (nI l0) hJ.own hJ.obj (cC_X10_nextDeparture l hlt G _ _ b (cClo c (nI l0)) hJ.rest hwc (nI l0)) (hin_x (v_opnX hS1 hw1 hwc hl1 h91) (fun E h9 z => z.1) ⟨_, List.mem_cons_of_mem _ List.mem_cons_self⟩)) (hv_x0 (v_opnX hS1 hw1 hwc hl1 h91) rfl (fun r h9 z => z.1)) ms_L_nextDeparture ml_L_198 rfl ⟨Nat.le_of_ble_eq_true rfl, Nat.le_of_ble_eq_true rfl⟩ hl.1 rfl (Nat.le_of_ble_eq_true rfl) dL_isDone_300 ⟨by show _ ≤ 12 + (UC (cClo c (nI l0)) - UC c); omega, by show _ ≤ 72 + (US (cClo c (nI l0)) - US c); omega⟩ (fun H locs hH => ?_)
                      refine lv_ldc hx hb hown (hts _ kl_L_20) dL_isDone_303 ?_
                      refine lv_icmp_ne (tgt := 321) hx hb dL_isDone_305 (by decide) (fun c305_13 => ?_) (fun c305_13 => ?_)
                      · exact absurd (by decide) c305_13
                      · refine lv_aload_n hx hb dL_isDone_308 rfl (lv_at hl 4 rfl) ?_
                        refine lv_iload hx hb dL_isDone_309 (lv_at hl 1 rfl) ?_
                        refine j_q0 (rest := []) C0 hH hJ ho (cN_X10_waiting l hlt G _ _ b (cClo c (nI l0)) hJ.rest hwc (nI l0) (v_lX hS1 hw1 hwc hl1)) (v_lX hS1 hw1 hwc hl1) (v := nI 0) ((v_wait hS1 (nI l0)).trans hww) mv_X10_waiting ml_L_193 rfl ⟨Nat.le_of_ble_eq_true rfl, Nat.le_of_ble_eq_true rfl⟩ hl.1 rfl (Nat.le_of_ble_eq_true rfl) dL_isDone_311 ⟨by show _ ≤ 12 + (UC (cClo c (nI l0)) - UC c); omega, by show _ ≤ 72 + (US (cClo c (nI l0)) - US c); omega⟩ (fun H locs hH => ?_)
                        refine lv_if_ne (tgt := 321) hx hb dL_isDone_314 (by decide) (fun c314_14 => ?_) (fun c314_14 => ?_)
                        · exact absurd (by decide) c314_14
                        · refine lv_iconst (v := nI 1) hx hb dL_isDone_317 (by decide) ?_
                          refine lv_goto (tgt := 322) hx hb dL_isDone_318 (by decide) ?_
                          have ef : f_9 = upF f (36 + 8 * l0) 1 := by rw [hf_9]; rfl
                          rw [hL_10] at hJ
                          rw [ef] at hJ
                          exact e_Z C0 hr (by decide) hH ⟨rfl, b, _, m1, n + 1, hJ, ho, hwc, Nat.le_refl _, hSt1, hNT.1, hNT.2, hg9⟩ (by omega) (by omega) dL_isDone_322
              · exact absurd (c224_7.symm.trans h90) (by decide)
            · exact absurd ((nI_eq (by omega) (by omega)).mp c188_6) (by omega)
          · exact absurd ((nI_eq (by omega) (by omega)).mp c99_5) (by omega)
        · exact absurd ((nI_leI (by omega) (by omega)).mpr (by omega)) c80_4
      · exact absurd ((nI_leI (by omega) (by omega)).mpr (by omega)) c61_3
    · exact absurd ((nI_leI (by omega) (by omega)).mpr (by omega)) c44_2
  · replace c25_1 : npN m = 0 := (nI_eq (a := npN m) (b := 0) (by omega) (by omega)).mp c25_1
    rw [if_pos c25_1] at eac
    refine lv_iconst (v := nI 0) hx hb dL_isDone_28 (by decide) ?_
    refine lv_goto (tgt := 39) hx hb dL_isDone_29 (by decide) ?_
    rw [show nI 0 = nI ac by rw [← eac]]
    have hb2 : ac < 12 := by omega
    refine lv_istore (lv' := [(5, .int (nI ac)), (4, .int (nI p)), (0, .ref (o)), (1, .ref (an)), (2, .ref (Sc.1)), (3, .int (nI i0))]) hx hb dL_isDone_39 hl (by decide) rfl (fun ls hl => ?_)
    refine lv_iload hx hb dL_isDone_41 (lv_at hl 0 rfl) ?_
    refine lv_iconst (v := nI 3) hx hb dL_isDone_43 (by decide) ?_
    refine lv_icmp_ge (tgt := 57) hx hb dL_isDone_44 (by decide) (fun c44_15 => ?_) (fun c44_15 => ?_)
    · replace c44_15 : 3 ≤ ac := (nI_leI (a := 3) (b := ac) (by omega) (by omega)).mp c44_15
      refine lv_iload hx hb dL_isDone_57 (lv_at hl 0 rfl) ?_
      refine lv_bipush (v := nI 7) hx hb dL_isDone_59 (by decide) ?_
      refine lv_icmp_ge (tgt := 76) hx hb dL_isDone_61 (by decide) (fun c61_16 => ?_) (fun c61_16 => ?_)
      · replace c61_16 : 7 ≤ ac := (nI_leI (a := 7) (b := ac) (by omega) (by omega)).mp c61_16
        refine lv_iload hx hb dL_isDone_76 (lv_at hl 0 rfl) ?_
        refine lv_bipush (v := nI 9) hx hb dL_isDone_78 (by decide) ?_
        refine lv_icmp_ge (tgt := 95) hx hb dL_isDone_80 (by decide) (fun c80_17 => ?_) (fun c80_17 => ?_)
        · replace c80_17 : 9 ≤ ac := (nI_leI (a := 9) (b := ac) (by omega) (by omega)).mp c80_17
          refine lv_iload hx hb dL_isDone_95 (lv_at hl 0 rfl) ?_
          refine lv_bipush (v := nI 9) hx hb dL_isDone_97 (by decide) ?_
          refine lv_icmp_ne (tgt := 184) hx hb dL_isDone_99 (by decide) (fun c99_18 => ?_) (fun c99_18 => ?_)
          · replace c99_18 : ¬ (ac = 9) := fun z => c99_18 ((nI_eq (a := ac) (b := 9) (by omega) (by omega)).mpr z)
            refine lv_iload hx hb dL_isDone_184 (lv_at hl 0 rfl) ?_
            refine lv_bipush (v := nI 10) hx hb dL_isDone_186 (by decide) ?_
            refine lv_icmp_ne (tgt := 201) hx hb dL_isDone_188 (by decide) (fun c188_19 => ?_) (fun c188_19 => ?_)
            · replace c188_19 : ¬ (ac = 10) := fun z => c188_19 ((nI_eq (a := ac) (b := 10) (by omega) (by omega)).mpr z)
              refine lv_aload_n hx hb dL_isDone_201 rfl (lv_at hl 4 rfl) ?_
              refine lv_iload_n hx hb dL_isDone_202 rfl (lv_at hl 5 rfl) ?_
              refine lv_iconst (v := nI 2) hx hb dL_isDone_203 (by decide) ?_
              refine lv_iadd hx hb dL_isDone_204 ?_
              rw [show nI i0 + nI 2 = nI (i0 + 2) from nI_add _ _]
              refine lv_aload_n hx hb dL_isDone_205 rfl (lv_at hl 3 rfl) ?_
              refine lv_iconst (v := nI 1) hx hb dL_isDone_206 (by decide) ?_
              refine j_ld C0 hH hJ hL (ix := 1) (by omega) (by decide) (v := nI (nlN m)) hT.l0 dL_isDone_207 ?_
              refine k_i hH (k_lS (rest := []) C0 hN hH (lL_in l Sc G A _ (i0 + 2) (nlN m) (by omega) (by omega) (by omega)) mv_L_in ml_L_106 rfl ⟨Nat.le_of_ble_eq_true rfl, Nat.le_of_ble_eq_true rfl⟩ hl.1 rfl (Nat.le_of_ble_eq_true rfl) dL_isDone_208 ⟨by show _ ≤ 12 + (UC (cClo c (nI l0)) - UC c); omega, by show _ ≤ 72 + (US (cClo c (nI l0)) - US c); omega⟩) (fun rr h1 H locs hp hH => ?_)
              obtain ⟨ea, eh⟩ := hp
              rw [eh] at hH
              rw [ea, el]
              refine lv_istore (lv' := [(6, .int (nI l0)), (5, .int (nI ac)), (4, .int (nI p)), (0, .ref (o)), (1, .ref (an)), (2, .ref (Sc.1)), (3, .int (nI i0))]) hx hb dL_isDone_211 hl (by decide) rfl (fun ls hl => ?_)
              refine lv_aload_n hx hb dL_isDone_213 rfl (lv_at hl 4 rfl) ?_
              refine lv_bipush (v := nI 36) hx hb dL_isDone_214 (by decide) ?_
              refine lv_bipush (v := nI 8) hx hb dL_isDone_216 (by decide) ?_
              refine lv_iload hx hb dL_isDone_218 (lv_at hl 0 rfl) ?_
              refine lv_imul hx hb dL_isDone_220 ?_
              rw [show nI 8 * nI l0 = nI (8 * l0) from nI_mul]
              refine lv_iadd hx hb dL_isDone_221 ?_
              rw [show nI 36 + nI (8 * l0) = nI (36 + 8 * l0) from nI_add _ _]
              refine j_ld C0 hH hJ hL (ix := 36 + 8 * l0) (by omega) (by decide) (v := m 9 l0) (hT.cl (by omega)) dL_isDone_222 ?_
              refine lv_iconst (v := nI 1) hx hb dL_isDone_223 (by decide) ?_
              refine lv_icmp_ne (tgt := 232) hx hb dL_isDone_224 (by decide) (fun c224_20 => ?_) (fun c224_20 => ?_)
              · refine lv_aload_n hx hb dL_isDone_232 rfl (lv_at hl 3 rfl) ?_
                refine lv_iload hx hb dL_isDone_233 (lv_at hl 0 rfl) ?_
                refine j_q0 (rest := []) C0 hH hJ ho (cN_X10_waiting l hlt G _ _ b c hJ.rest hwc (nI l0) (v_lX hS hw hwc hl0)) (v_lX hS hw hwc hl0) (v := waits m (nI l0)) (v_wait hS (nI l0)) mv_X10_waiting ml_L_193 rfl ⟨Nat.le_of_ble_eq_true rfl, Nat.le_of_ble_eq_true rfl⟩ hl.1 rfl (Nat.le_of_ble_eq_true rfl) dL_isDone_235 ⟨by show _ ≤ 12 + (UC (cClo c (nI l0)) - UC c); omega, by show _ ≤ 72 + (US (cClo c (nI l0)) - US c); omega⟩ (fun H locs hH => ?_)
                refine lv_istore (lv' := [(7, .int (waits m (nI l0))), (6, .int (nI l0)), (5, .int (nI ac)), (4, .int (nI p)), (0, .ref (o)), (1, .ref (an)), (2, .ref (Sc.1)), (3, .int (nI i0))]) hx hb dL_isDone_238 hl (by decide) rfl (fun ls hl => ?_)
                refine lv_aload_n hx hb dL_isDone_240 rfl (lv_at hl 5 rfl) ?_
                refine lv_bipush (v := nI 36) hx hb dL_isDone_241 (by decide) ?_
                refine lv_bipush (v := nI 8) hx hb dL_isDone_243 (by decide) ?_
                refine lv_iload hx hb dL_isDone_245 (lv_at hl 1 rfl) ?_
                refine lv_imul hx hb dL_isDone_247 ?_
                rw [show nI 8 * nI l0 = nI (8 * l0) from nI_mul]
                refine lv_iadd hx hb dL_isDone_248 ?_
                rw [show nI 36 + nI (8 * l0) = nI (36 + 8 * l0) from nI_add _ _]
                refine lv_aload_n hx hb dL_isDone_249 rfl (lv_at hl 6 rfl) ?_
                refine lv_iload_n hx hb dL_isDone_250 rfl (lv_at hl 7 rfl) ?_
                refine lv_iconst (v := nI 3) hx hb dL_isDone_251 (by decide) ?_
                refine lv_iadd hx hb dL_isDone_252 ?_
                rw [show nI i0 + nI 3 = nI (i0 + 3) from nI_add _ _]
                refine lv_iconst (v := nI 2) hx hb dL_isDone_253 (by decide) ?_
                refine k_i hH (k_lS (rest := [.int (nI (36 + 8 * l0)), .ref (an)]) C0 hN hH (lL_in l Sc G A _ (i0 + 3) 2 (by omega) (by omega) (by omega)) mv_L_in ml_L_106 rfl ⟨Nat.le_of_ble_eq_true rfl, Nat.le_of_ble_eq_true rfl⟩ hl.1 rfl (Nat.le_of_ble_eq_true rfl) dL_isDone_254 ⟨by show _ ≤ 12 + (UC (cClo c (nI l0)) - UC c); omega, by show _ ≤ 72 + (US (cClo c (nI l0)) - US c); omega⟩) (fun rr h1 H locs hp hH => ?_)
                obtain ⟨ea, eh⟩ := hp
                rw [eh] at hH
                rw [ea, show inN Sc (i0 + 3) 2 = inN Sc (i0 + 3) 2 from rfl]
                refine lv_if_ne (tgt := 264) hx hb dL_isDone_257 (by decide) (fun c257_21 => ?_) (fun c257_21 => ?_)
                · exact absurd ((nI_eq (a := inN Sc (i0 + 3) 2) (b := 0) (by omega) (by omega)).mpr hcl) c257_21
                · replace c257_21 : inN Sc (i0 + 3) 2 = 0 := (nI_eq (a := inN Sc (i0 + 3) 2) (b := 0) (by omega) (by omega)).mp c257_21
                  refine lv_iconst (v := nI 1) hx hb dL_isDone_260 (by decide) ?_
                  refine lv_goto (tgt := 274) hx hb dL_isDone_261 (by decide) ?_
                  refine j_st C0 hH hJ hL (ix := 36 + 8 * l0) (by omega) (by decide) dL_isDone_274 (fun h H locs hH hJ => ?_)
                  obtain ⟨f_22, hf_22⟩ : ∃ z, z = upF f (36 + 8 * l0) (nI 1) := ⟨_, rfl⟩
                  obtain ⟨L_23, hL_23⟩ : ∃ z, z = setL L an 700 f_22 := ⟨_, rfl⟩
                  rw [← hf_22, ← hL_23] at hJ
                  have hL_L_23 : L_23 an = some (700, f_22) := by rw [hL_23]; exact setL_s _ _ _ _
                  refine lv_aload_n hx hb dL_isDone_275 rfl (lv_at hl 6 rfl) ?_
                  refine lv_iload_n hx hb dL_isDone_276 rfl (lv_at hl 7 rfl) ?_
                  refine lv_iconst (v := nI 3) hx hb dL_isDone_277 (by decide) ?_
                  refine lv_iadd hx hb dL_isDone_278 ?_
                  rw [show nI i0 + nI 3 = nI (i0 + 3) from nI_add _ _]
                  refine lv_iconst (v := nI 2) hx hb dL_isDone_279 (by decide) ?_
                  refine k_i hH (k_lS (rest := []) C0 hN hH (lL_in l Sc G A _ (i0 + 3) 2 (by omega) (by omega) (by omega)) mv_L_in ml_L_106 rfl ⟨Nat.le_of_ble_eq_true rfl, Nat.le_of_ble_eq_true rfl⟩ hl.1 rfl (Nat.le_of_ble_eq_true rfl) dL_isDone_280 ⟨by show _ ≤ 12 + (UC (cClo c (nI l0)) - UC c); omega, by show _ ≤ 72 + (US (cClo c (nI l0)) - US c); omega⟩) (fun rr h1 H locs hp hH => ?_)
                  obtain ⟨ea, eh⟩ := hp
                  rw [eh] at hH
                  rw [ea, show inN Sc (i0 + 3) 2 = inN Sc (i0 + 3) 2 from rfl]
                  refine lv_if_gt (tgt := 317) hx hb dL_isDone_283 (by decide) (fun c283_24 => ?_) (fun c283_24 => ?_)
                  · exact absurd ((nI_ltI (a := 0) (b := inN Sc (i0 + 3) 2) (by omega) (by omega)).mp c283_24) (by omega)
                  · replace c283_24 : ¬ (0 < inN Sc (i0 + 3) 2) := fun z => c283_24 ((nI_ltI (a := 0) (b := inN Sc (i0 + 3) 2) (by omega) (by omega)).mpr z)
                    refine lv_aload_n hx hb dL_isDone_286 rfl (lv_at hl 4 rfl) ?_
                    refine lv_iload hx hb dL_isDone_287 (lv_at hl 1 rfl) ?_
                    refine j_w1 (As := [.int (nI l0)]) (rest := []) (v := waits m (nI l0)) (c' := cClo c (nI l0)) C0 hN hH hJ ho (lW_closeLine (nI l0) hJ.own hJ.obj (cC_X10_closeLine l hlt G _ _ b c hJ.rest hwc (nI l0)) (hin_n hxa (fun E h9 z => z.1))) (hv_in0 hxa hcw (fun E h9 z => z.1)) ms_L_closeLine ml_L_196 rfl ⟨Nat.le_of_ble_eq_true rfl, Nat.le_of_ble_eq_true rfl⟩ hl.1 rfl (Nat.le_of_ble_eq_true rfl) dL_isDone_289 ⟨by show _ ≤ 12 + (UC (cClo c (nI l0)) - UC c); omega, by show _ ≤ 72 + (US (cClo c (nI l0)) - US c); omega⟩ (fun h b H locs hH hJ ho hwc => ?_)
                    refine lv_iload hx hb dL_isDone_292 (lv_at hl 0 rfl) ?_
                    refine lv_icmp_ne (tgt := 321) hx hb dL_isDone_294 (by decide) (fun c294_25 => ?_) (fun c294_25 => ?_)
                    · exact absurd rfl c294_25
                    · refine lv_aload_n hx hb dL_isDone_297 rfl (lv_at hl 4 rfl) ?_
                      refine lv_iload hx hb dL_isDone_298 (lv_at hl 1 rfl) ?_
                      refine j_w0 (As := [.int (nI l0)]) (rest := []) (v := -900002) C0 hN hH ho (lW_nextDeparture (nI l0) hJ.own hJ.obj (cC_X10_nextDeparture l hlt G _ _ b (cClo c (nI l0)) hJ.rest hwc (nI l0)) (hin_x (v_opnX hS1 hw1 hwc hl1 h91) (fun E h9 z => z.1) ⟨_, List.mem_cons_of_mem _ List.mem_cons_self⟩)) (hv_x0 (v_opnX hS1 hw1 hwc hl1 h91) rfl (fun r h9 z => z.1)) ms_L_nextDeparture ml_L_198 rfl ⟨Nat.le_of_ble_eq_true rfl, Nat.le_of_ble_eq_true rfl⟩ hl.1 rfl (Nat.le_of_ble_eq_true rfl) dL_isDone_300 ⟨by show _ ≤ 12 + (UC (cClo c (nI l0)) - UC c); omega, by show _ ≤ 72 + (US (cClo c (nI l0)) - US c); omega⟩ (fun H locs hH => ?_)
                      refine lv_ldc hx hb hown (hts _ kl_L_20) dL_isDone_303 ?_
                      refine lv_icmp_ne (tgt := 321) hx hb dL_isDone_305 (by decide) (fun c305_26 => ?_) (fun c305_26 => ?_)
                      · exact absurd (by decide) c305_26
                      · refine lv_aload_n hx hb dL_isDone_308 rfl (lv_at hl 4 rfl) ?_
                        refine lv_iload hx hb dL_isDone_309 (lv_at hl 1 rfl) ?_
                        refine j_q0 (rest := []) C0 hH hJ ho (cN_X10_waiting l hlt G _ _ b (cClo c (nI l0)) hJ.rest hwc (nI l0) (v_lX hS1 hw1 hwc hl1)) (v_lX hS1 hw1 hwc hl1) (v := nI 0) ((v_wait hS1 (nI l0)).trans hww) mv_X10_waiting ml_L_193 rfl ⟨Nat.le_of_ble_eq_true rfl, Nat.le_of_ble_eq_true rfl⟩ hl.1 rfl (Nat.le_of_ble_eq_true rfl) dL_isDone_311 ⟨by show _ ≤ 12 + (UC (cClo c (nI l0)) - UC c); omega, by show _ ≤ 72 + (US (cClo c (nI l0)) - US c); omega⟩ (fun H locs hH => ?_)
                        refine lv_if_ne (tgt := 321) hx hb dL_isDone_314 (by decide) (fun c314_27 => ?_) (fun c314_27 => ?_)
                        · exact absurd (by decide) c314_27
                        · refine lv_iconst (v := nI 1) hx hb dL_isDone_317 (by decide) ?_
                          refine lv_goto (tgt := 322) hx hb dL_isDone_318 (by decide) ?_
                          have ef : f_22 = upF f (36 + 8 * l0) 1 := by rw [hf_22]; rfl
                          rw [hL_23] at hJ
                          rw [ef] at hJ
                          exact e_Z C0 hr (by decide) hH ⟨rfl, b, _, m1, n + 1, hJ, ho, hwc, Nat.le_refl _, hSt1, hNT.1, hNT.2, hg9⟩ (by omega) (by omega) dL_isDone_322
              · exact absurd (c224_20.symm.trans h90) (by decide)
            · exact absurd ((nI_eq (by omega) (by omega)).mp c188_19) (by omega)
          · exact absurd ((nI_eq (by omega) (by omega)).mp c99_18) (by omega)
        · exact absurd ((nI_leI (by omega) (by omega)).mpr (by omega)) c80_17
      · exact absurd ((nI_leI (by omega) (by omega)).mpr (by omega)) c61_16
    · exact absurd ((nI_leI (by omega) (by omega)).mpr (by omega)) c44_15
set_option maxHeartbeats 1600000 in
set_option maxRecDepth 100000 in
theorem lL_isDone_clC (l : Launch) (hlt : l.stackTraces = false) (Sc : SCR) (G : GT) (A : Nat → Prop) (h : AH) (b : BA) (c m : MM) (n : Nat) (L : LNum) (M : LRef) (o : Nat) (hJ : JW G.2.2.1 h b c L M) (ho : b 14 0 = o) (hwc : WFc c) (hS : Sim n c m) (hw : WFa m) (hI : IV m) (hn : n < 512) (i0 : Nat) (hi0 : i0 < 2 ^ 19) (h2 : 2 ≤ nhN m) (hl9 : 1 ≤ nlN m) (p ac : Nat) (ep : inN Sc (i0 + 1) (npN m + 1) % (if npN m = 0 then 1 else npN m) = p) (eac : (if npN m = 0 then 0 else inN Sc i0 12) = ac) (an : Nat) (f : Nat → Int32) (hL : L an = some (700, f)) (hT : NT f m) (hac : ac = 11) (l0 : Nat) (el : inN Sc (i0 + 2) (nlN m) = l0) (hcl : inN Sc (i0 + 3) 2 = 0) (h90 : ¬ m 9 l0 = 0) : lcI l Sc G A yL_isDone cL_isDone 8 (Option.some FieldType.boolean) 14 475 (12 + (UC (cClo c (nI l0)) - UC c)) (72 + (US (cClo c (nI l0)) - US c)) [.ref (o), .ref (an), .ref (Sc.1), .int (nI i0)] h (fun r h' => r = nI 1 ∧ ∃ b' f' m' n', JW G.2.2.1 h' b' (cClo c (nI l0)) (setL L an 700 f') M ∧ b' 14 0 = o ∧ WFc (cClo c (nI l0)) ∧ n' ≤ n + 1 ∧ Stt n' (cClo c (nI l0)) m' ∧ NT f' m' ∧ Kp m m' ∧ UC c ≤ UC (cClo c (nI l0)) ∧ US c ≤ US (cClo c (nI l0))) := by
  refine lm_of rfl (Nat.le_of_ble_eq_true rfl) ?_
  intro pr e s m9 below meth c9 C0 hN hr hH ls hl
  obtain ⟨hx, hb, hml, hown, hts, hK, hA, -⟩ := id C0
  have hl : lv_has ls 8 [(0, .ref (o)), (1, .ref (an)), (2, .ref (Sc.1)), (3, .int (nI i0))] := hl
  have n40 := hw.np.2
  have n6 := hw.nh.2
  have nl12 := hw.nl.2
  have hq0 := inN_lt Sc (i0 + 2) (n := nlN m) (by omega)
  rw [el] at hq0
  have hl0 : l0 < nlN m := hq0
  have hq3 := inN_lt Sc (i0 + 3) (n := 2) (by omega)
  have h901 := (hw.ln hl0).2.2.2.2.2
  have hxa := v_opnX hS hw hwc hl0 h90
  have hcc : cClo c (nI l0) = c := by unfold cClo; rw [hxa]; exact if_neg (fun z => nomatch z)
  have hS1 : Sim n (cClo c (nI l0)) m := by rw [hcc]; exact hS
  have hww := waits_no hw hI hl0 h90
  have h91 := h90
  have hww0 : m 9 l0 = 1 := h901.resolve_left h90
  have hg9 := (gm_clo hwc (nI l0)).1
  refine lv_aload_n hx hb dL_isDone_0 rfl (lv_at hl 2 rfl) ?_
  refine lv_iload_n hx hb dL_isDone_1 rfl (lv_at hl 3 rfl) ?_
  refine lv_iconst (v := nI 1) hx hb dL_isDone_2 (by decide) ?_
  refine lv_iadd hx hb dL_isDone_3 ?_
  rw [show nI i0 + nI 1 = nI (i0 + 1) from nI_add _ _]
  refine lv_aload_n hx hb dL_isDone_4 rfl (lv_at hl 1 rfl) ?_
  refine lv_iconst (v := nI 2) hx hb dL_isDone_5 (by decide) ?_
  refine j_ld C0 hH hJ hL (ix := 2) (by omega) (by decide) (v := nI (npN m)) hT.p0 dL_isDone_6 ?_
  refine lv_iconst (v := nI 1) hx hb dL_isDone_7 (by decide) ?_
  refine lv_iadd hx hb dL_isDone_8 ?_
  rw [show nI (npN m) + nI 1 = nI (npN m + 1) from nI_add _ _]
  have hb1 := inN_lt Sc (i0 + 1) (n := npN m + 1) (by omega)
  refine k_i hH (k_lS (rest := []) C0 hN hH (lL_in l Sc G A _ (i0 + 1) (npN m + 1) (by omega) (by omega) (by omega)) mv_L_in ml_L_106 rfl ⟨Nat.le_of_ble_eq_true rfl, Nat.le_of_ble_eq_true rfl⟩ hl.1 rfl (Nat.le_of_ble_eq_true rfl) dL_isDone_9 ⟨by show _ ≤ 12 + (UC (cClo c (nI l0)) - UC c); omega, by show _ ≤ 72 + (US (cClo c (nI l0)) - US c); omega⟩) (fun rr h1 H locs hp hH => ?_)
  obtain ⟨ea, eh⟩ := hp
  rw [eh] at hH
  rw [ea, show inN Sc (i0 + 1) (npN m + 1) = inN Sc (i0 + 1) (npN m + 1) from rfl]
  refine lv_iconst (v := nI 1) hx hb dL_isDone_12 (by decide) ?_
  refine lv_aload_n hx hb dL_isDone_13 rfl (lv_at hl 1 rfl) ?_
  refine lv_iconst (v := nI 2) hx hb dL_isDone_14 (by decide) ?_
  refine j_ld C0 hH hJ hL (ix := 2) (by omega) (by decide) (v := nI (npN m)) hT.p0 dL_isDone_15 ?_
  refine o_mmax C0 ml_L_176 hl.1 dL_isDone_16 (Nat.le_of_ble_eq_true rfl) (Nat.le_of_ble_eq_true rfl) (by simp) ?_
  obtain ⟨mx, hmx⟩ : ∃ z, z = (if npN m = 0 then 1 else npN m) := ⟨_, rfl⟩
  have hmx0 : 0 < mx := by rw [hmx]; split <;> omega
  rw [show (if nI 1 < nI (npN m) then nI (npN m) else nI 1) = nI mx by rw [hmx]; by_cases y : npN m = 0; (· rw [if_pos y, y]; decide); (· rw [if_neg y]; by_cases y1 : npN m = 1; (· rw [y1]; decide); (· rw [if_pos (by rw [nI_ltI (by omega) (by omega)]; omega)]))]
  have hmx4 : mx ≤ 40 := by rw [hmx]; split <;> omega
  rw [← hmx] at ep
  refine lv_irem hx hb dL_isDone_19 (fun z => by have := (nI_eq (a := mx) (b := 0) (by omega) (by omega)).mp z; omega) ?_
  rw [nI_rem (show inN Sc (i0 + 1) (npN m + 1) < 2 ^ 31 by omega) (show mx < 2 ^ 31 by omega), ep]
  refine lv_istore (lv' := [(4, .int (nI p)), (0, .ref (o)), (1, .ref (an)), (2, .ref (Sc.1)), (3, .int (nI i0))]) hx hb dL_isDone_20 hl (by decide) rfl (fun ls hl => ?_)
  refine lv_aload_n hx hb dL_isDone_22 rfl (lv_at hl 2 rfl) ?_
  refine lv_iconst (v := nI 2) hx hb dL_isDone_23 (by decide) ?_
  refine j_ld C0 hH hJ hL (ix := 2) (by omega) (by decide) (v := nI (npN m)) hT.p0 dL_isDone_24 ?_
  refine lv_if_ne (tgt := 32) hx hb dL_isDone_25 (by decide) (fun c25_1 => ?_) (fun c25_1 => ?_)
  · replace c25_1 : ¬ (npN m = 0) := fun z => c25_1 ((nI_eq (a := npN m) (b := 0) (by omega) (by omega)).mpr z)
    rw [if_neg c25_1] at eac
    have hb2 := inN_lt Sc i0 (n := 12) (by omega)
    rw [eac] at hb2
    refine lv_aload_n hx hb dL_isDone_32 rfl (lv_at hl 3 rfl) ?_
    refine lv_iload_n hx hb dL_isDone_33 rfl (lv_at hl 4 rfl) ?_
    refine lv_bipush (v := nI 12) hx hb dL_isDone_34 (by decide) ?_
    refine k_i hH (k_lS (rest := []) C0 hN hH (lL_in l Sc G A _ i0 12 (by omega) (by omega) (by omega)) mv_L_in ml_L_106 rfl ⟨Nat.le_of_ble_eq_true rfl, Nat.le_of_ble_eq_true rfl⟩ hl.1 rfl (Nat.le_of_ble_eq_true rfl) dL_isDone_36 ⟨by show _ ≤ 12 + (UC (cClo c (nI l0)) - UC c); omega, by show _ ≤ 72 + (US (cClo c (nI l0)) - US c); omega⟩) (fun rr h1 H locs hp hH => ?_)
    obtain ⟨ea, eh⟩ := hp
    rw [eh] at hH
    rw [ea, eac]
    refine lv_istore (lv' := [(5, .int (nI ac)), (4, .int (nI p)), (0, .ref (o)), (1, .ref (an)), (2, .ref (Sc.1)), (3, .int (nI i0))]) hx hb dL_isDone_39 hl (by decide) rfl (fun ls hl => ?_)
    refine lv_iload hx hb dL_isDone_41 (lv_at hl 0 rfl) ?_
    refine lv_iconst (v := nI 3) hx hb dL_isDone_43 (by decide) ?_
    refine lv_icmp_ge (tgt := 57) hx hb dL_isDone_44 (by decide) (fun c44_2 => ?_) (fun c44_2 => ?_)
    · replace c44_2 : 3 ≤ ac := (nI_leI (a := 3) (b := ac) (by omega) (by omega)).mp c44_2
      refine lv_iload hx hb dL_isDone_57 (lv_at hl 0 rfl) ?_
      refine lv_bipush (v := nI 7) hx hb dL_isDone_59 (by decide) ?_
      refine lv_icmp_ge (tgt := 76) hx hb dL_isDone_61 (by decide) (fun c61_3 => ?_) (fun c61_3 => ?_)
      · replace c61_3 : 7 ≤ ac := (nI_leI (a := 7) (b := ac) (by omega) (by omega)).mp c61_3
        refine lv_iload hx hb dL_isDone_76 (lv_at hl 0 rfl) ?_
        refine lv_bipush (v := nI 9) hx hb dL_isDone_78 (by decide) ?_
        refine lv_icmp_ge (tgt := 95) hx hb dL_isDone_80 (by decide) (fun c80_4 => ?_) (fun c80_4 => ?_)
        · replace c80_4 : 9 ≤ ac := (nI_leI (a := 9) (b := ac) (by omega) (by omega)).mp c80_4
          refine lv_iload hx hb dL_isDone_95 (lv_at hl 0 rfl) ?_
          refine lv_bipush (v := nI 9) hx hb dL_isDone_97 (by decide) ?_
          refine lv_icmp_ne (tgt := 184) hx hb dL_isDone_99 (by decide) (fun c99_5 => ?_) (fun c99_5 => ?_)
          · replace c99_5 : ¬ (ac = 9) := fun z => c99_5 ((nI_eq (a := ac) (b := 9) (by omega) (by omega)).mpr z)
            refine lv_iload hx hb dL_isDone_184 (lv_at hl 0 rfl) ?_
            refine lv_bipush (v := nI 10) hx hb dL_isDone_186 (by decide) ?_
            refine lv_icmp_ne (tgt := 201) hx hb dL_isDone_188 (by decide) (fun c188_6 => ?_) (fun c188_6 => ?_)
            · replace c188_6 : ¬ (ac = 10) := fun z => c188_6 ((nI_eq (a := ac) (b := 10) (by omega) (by omega)).mpr z)
              refine lv_aload_n hx hb dL_isDone_201 rfl (lv_at hl 4 rfl) ?_
              refine lv_iload_n hx hb dL_isDone_202 rfl (lv_at hl 5 rfl) ?_
              refine lv_iconst (v := nI 2) hx hb dL_isDone_203 (by decide) ?_
              refine lv_iadd hx hb dL_isDone_204 ?_
              rw [show nI i0 + nI 2 = nI (i0 + 2) from nI_add _ _]
              refine lv_aload_n hx hb dL_isDone_205 rfl (lv_at hl 3 rfl) ?_
              refine lv_iconst (v := nI 1) hx hb dL_isDone_206 (by decide) ?_
              refine j_ld C0 hH hJ hL (ix := 1) (by omega) (by decide) (v := nI (nlN m)) hT.l0 dL_isDone_207 ?_
              refine k_i hH (k_lS (rest := []) C0 hN hH (lL_in l Sc G A _ (i0 + 2) (nlN m) (by omega) (by omega) (by omega)) mv_L_in ml_L_106 rfl ⟨Nat.le_of_ble_eq_true rfl, Nat.le_of_ble_eq_true rfl⟩ hl.1 rfl (Nat.le_of_ble_eq_true rfl) dL_isDone_208 ⟨by show _ ≤ 12 + (UC (cClo c (nI l0)) - UC c); omega, by show _ ≤ 72 + (US (cClo c (nI l0)) - US c); omega⟩) (fun rr h1 H locs hp hH => ?_)
              obtain ⟨ea, eh⟩ := hp
              rw [eh] at hH
              rw [ea, el]
              refine lv_istore (lv' := [(6, .int (nI l0)), (5, .int (nI ac)), (4, .int (nI p)), (0, .ref (o)), (1, .ref (an)), (2, .ref (Sc.1)), (3, .int (nI i0))]) hx hb dL_isDone_211 hl (by decide) rfl (fun ls hl => ?_)
              refine lv_aload_n hx hb dL_isDone_213 rfl (lv_at hl 4 rfl) ?_
              refine lv_bipush (v := nI 36) hx hb dL_isDone_214 (by decide) ?_
              refine lv_bipush (v := nI 8) hx hb dL_isDone_216 (by decide) ?_
              refine lv_iload hx hb dL_isDone_218 (lv_at hl 0 rfl) ?_
              refine lv_imul hx hb dL_isDone_220 ?_
              rw [show nI 8 * nI l0 = nI (8 * l0) from nI_mul]
              refine lv_iadd hx hb dL_isDone_221 ?_
              rw [show nI 36 + nI (8 * l0) = nI (36 + 8 * l0) from nI_add _ _]
              refine j_ld C0 hH hJ hL (ix := 36 + 8 * l0) (by omega) (by decide) (v := m 9 l0) (hT.cl (by omega)) dL_isDone_222 ?_
              refine lv_iconst (v := nI 1) hx hb dL_isDone_223 (by decide) ?_
              refine lv_icmp_ne (tgt := 232) hx hb dL_isDone_224 (by decide) (fun c224_7 => ?_) (fun c224_7 => ?_)
              · exact absurd (h901.resolve_left h90) c224_7
              · refine lv_ldc hx hb hown (hts _ kl_L_20) dL_isDone_227 ?_
                refine lv_goto (tgt := 238) hx hb dL_isDone_229 (by decide) ?_
                refine lv_istore (lv' := [(7, .int (-900002)), (6, .int (nI l0)), (5, .int (nI ac)), (4, .int (nI p)), (0, .ref (o)), (1, .ref (an)), (2, .ref (Sc.1)), (3, .int (nI i0))]) hx hb dL_isDone_238 hl (by decide) rfl (fun ls hl => ?_)
                refine lv_aload_n hx hb dL_isDone_240 rfl (lv_at hl 5 rfl) ?_
                refine lv_bipush (v := nI 36) hx hb dL_isDone_241 (by decide) ?_
                refine lv_bipush (v := nI 8) hx hb dL_isDone_243 (by decide) ?_
                refine lv_iload hx hb dL_isDone_245 (lv_at hl 1 rfl) ?_
                refine lv_imul hx hb dL_isDone_247 ?_
                rw [show nI 8 * nI l0 = nI (8 * l0) from nI_mul]
                refine lv_iadd hx hb dL_isDone_248 ?_
                rw [show nI 36 + nI (8 * l0) = nI (36 + 8 * l0) from nI_add _ _]
                refine lv_aload_n hx hb dL_isDone_249 rfl (lv_at hl 6 rfl) ?_
                refine lv_iload_n hx hb dL_isDone_250 rfl (lv_at hl 7 rfl) ?_
                refine lv_iconst (v := nI 3) hx hb dL_isDone_251 (by decide) ?_
                refine lv_iadd hx hb dL_isDone_252 ?_
                rw [show nI i0 + nI 3 = nI (i0 + 3) from nI_add _ _]
                refine lv_iconst (v := nI 2) hx hb dL_isDone_253 (by decide) ?_
                refine k_i hH (k_lS (rest := [.int (nI (36 + 8 * l0)), .ref (an)]) C0 hN hH (lL_in l Sc G A _ (i0 + 3) 2 (by omega) (by omega) (by omega)) mv_L_in ml_L_106 rfl ⟨Nat.le_of_ble_eq_true rfl, Nat.le_of_ble_eq_true rfl⟩ hl.1 rfl (Nat.le_of_ble_eq_true rfl) dL_isDone_254 ⟨by show _ ≤ 12 + (UC (cClo c (nI l0)) - UC c); omega, by show _ ≤ 72 + (US (cClo c (nI l0)) - US c); omega⟩) (fun rr h1 H locs hp hH => ?_)
                obtain ⟨ea, eh⟩ := hp
                rw [eh] at hH
                rw [ea, show inN Sc (i0 + 3) 2 = inN Sc (i0 + 3) 2 from rfl]
                refine lv_if_ne (tgt := 264) hx hb dL_isDone_257 (by decide) (fun c257_8 => ?_) (fun c257_8 => ?_)
                · exact absurd ((nI_eq (a := inN Sc (i0 + 3) 2) (b := 0) (by omega) (by omega)).mpr hcl) c257_8
                · replace c257_8 : inN Sc (i0 + 3) 2 = 0 := (nI_eq (a := inN Sc (i0 + 3) 2) (b := 0) (by omega) (by omega)).mp c257_8
                  refine lv_iconst (v := nI 1) hx hb dL_isDone_260 (by decide) ?_
                  refine lv_goto (tgt := 274) hx hb dL_isDone_261 (by decide) ?_
                  refine j_st C0 hH hJ hL (ix := 36 + 8 * l0) (by omega) (by decide) dL_isDone_274 (fun h H locs hH hJ => ?_)
                  obtain ⟨f_9, hf_9⟩ : ∃ z, z = upF f (36 + 8 * l0) (nI 1) := ⟨_, rfl⟩
                  obtain ⟨L_10, hL_10⟩ : ∃ z, z = setL L an 700 f_9 := ⟨_, rfl⟩
                  rw [← hf_9, ← hL_10] at hJ
                  have hL_L_10 : L_10 an = some (700, f_9) := by rw [hL_10]; exact setL_s _ _ _ _
                  refine lv_aload_n hx hb dL_isDone_275 rfl (lv_at hl 6 rfl) ?_
                  refine lv_iload_n hx hb dL_isDone_276 rfl (lv_at hl 7 rfl) ?_
                  refine lv_iconst (v := nI 3) hx hb dL_isDone_277 (by decide) ?_
                  refine lv_iadd hx hb dL_isDone_278 ?_
                  rw [show nI i0 + nI 3 = nI (i0 + 3) from nI_add _ _]
                  refine lv_iconst (v := nI 2) hx hb dL_isDone_279 (by decide) ?_
                  refine k_i hH (k_lS (rest := []) C0 hN hH (lL_in l Sc G A _ (i0 + 3) 2 (by omega) (by omega) (by omega)) mv_L_in ml_L_106 rfl ⟨Nat.le_of_ble_eq_true rfl, Nat.le_of_ble_eq_true rfl⟩ hl.1 rfl (Nat.le_of_ble_eq_true rfl) dL_isDone_280 ⟨by show _ ≤ 12 + (UC (cClo c (nI l0)) - UC c); omega, by show _ ≤ 72 + (US (cClo c (nI l0)) - US c); omega⟩) (fun rr h1 H locs hp hH => ?_)
                  obtain ⟨ea, eh⟩ := hp
                  rw [eh] at hH
                  rw [ea, show inN Sc (i0 + 3) 2 = inN Sc (i0 + 3) 2 from rfl]
                  refine lv_if_gt (tgt := 317) hx hb dL_isDone_283 (by decide) (fun c283_11 => ?_) (fun c283_11 => ?_)
                  · exact absurd ((nI_ltI (a := 0) (b := inN Sc (i0 + 3) 2) (by omega) (by omega)).mp c283_11) (by omega)
                  · replace c283_11 : ¬ (0 < inN Sc (i0 + 3) 2) := fun z => c283_11 ((nI_ltI (a := 0) (b := inN Sc (i0 + 3) 2) (by omega) (by omega)).mpr z)
                    refine lv_aload_n hx hb dL_isDone_286 rfl (lv_at hl 4 rfl) ?_
                    refine lv_iload hx hb dL_isDone_287 (lv_at hl 1 rfl) ?_
                    refine j_w1 (As := [.int (nI l0)]) (rest := []) (v := -900002) (c' := cClo c (nI l0)) C0 hN hH hJ ho (lW_closeLine (nI l0) hJ.own hJ.obj (cC_X10_closeLine l hlt G _ _ b c hJ.rest hwc (nI l0)) (hin_x hxa (fun E h9 z => z.1) ⟨_, List.mem_cons_of_mem _ List.mem_cons_self⟩)) (fun r h9 z => z.elim (fun y => absurd (hxa.symm.trans y.1) (fun q => nomatch q)) (fun ⟨E, y, e⟩ => by have q := Option.some.inj (hxa.symm.trans y.1); subst q; exact ⟨e, b, rfl, y.2⟩)) ms_L_closeLine ml_L_196 rfl ⟨Nat.le_of_ble_eq_true rfl, Nat.le_of_ble_eq_true rfl⟩ hl.1 rfl (Nat.le_of_ble_eq_true rfl) dL_isDone_289 ⟨by show _ ≤ 12 + (UC (cClo c (nI l0)) - UC c); omega, by show _ ≤ 72 + (US (cClo c (nI l0)) - US c); omega⟩ (fun h b H locs hH hJ ho hwc => ?_)
                    refine lv_iload hx hb dL_isDone_292 (lv_at hl 0 rfl) ?_
                    refine lv_icmp_ne (tgt := 321) hx hb dL_isDone_294 (by decide) (fun c294_12 => ?_) (fun c294_12 => ?_)
                    · exact absurd (by decide) c294_12
                    · refine lv_aload_n hx hb dL_isDone_297 rfl (lv_at hl 4 rfl) ?_
                      refine lv_iload hx hb dL_isDone_298 (lv_at hl 1 rfl) ?_
                      refine j_w0 (As := [.int (nI l0)]) (rest := []) (v := -900002) C0 hN hH ho (lW_nextDeparture (nI l0) hJ.own hJ.obj (cC_X10_nextDeparture l hlt G _ _ b (cClo c (nI l0)) hJ.rest hwc (nI l0)) (hin_x (v_opnX hS1 hw hwc hl0 h91) (fun E h9 z => z.1) ⟨_, List.mem_cons_of_mem _ List.mem_cons_self⟩)) (hv_x0 (v_opnX hS1 hw hwc hl0 h91) rfl (fun r h9 z => z.1)) ms_L_nextDeparture ml_L_198 rfl ⟨Nat.le_of_ble_eq_true rfl, Nat.le_of_ble_eq_true rfl⟩ hl.1 rfl (Nat.le_of_ble_eq_true rfl) dL_isDone_300 ⟨by show _ ≤ 12 + (UC (cClo c (nI l0)) - UC c); omega, by show _ ≤ 72 + (US (cClo c (nI l0)) - US c); omega⟩ (fun H locs hH => ?_)
                      refine lv_ldc hx hb hown (hts _ kl_L_20) dL_isDone_303 ?_
                      refine lv_icmp_ne (tgt := 321) hx hb dL_isDone_305 (by decide) (fun c305_13 => ?_) (fun c305_13 => ?_)
                      · exact absurd (by decide) c305_13
                      · refine lv_aload_n hx hb dL_isDone_308 rfl (lv_at hl 4 rfl) ?_
                        refine lv_iload hx hb dL_isDone_309 (lv_at hl 1 rfl) ?_
                        refine j_q0 (rest := []) C0 hH hJ ho (cN_X10_waiting l hlt G _ _ b (cClo c (nI l0)) hJ.rest hwc (nI l0) (v_lX hS1 hw hwc hl0)) (v_lX hS1 hw hwc hl0) (v := nI 0) ((v_wait hS1 (nI l0)).trans hww) mv_X10_waiting ml_L_193 rfl ⟨Nat.le_of_ble_eq_true rfl, Nat.le_of_ble_eq_true rfl⟩ hl.1 rfl (Nat.le_of_ble_eq_true rfl) dL_isDone_311 ⟨by show _ ≤ 12 + (UC (cClo c (nI l0)) - UC c); omega, by show _ ≤ 72 + (US (cClo c (nI l0)) - US c); omega⟩ (fun H locs hH => ?_)
                        refine lv_if_ne (tgt := 321) hx hb dL_isDone_314 (by decide) (fun c314_14 => ?_) (fun c314_14 => ?_)
                        · exact absurd (by decide) c314_14
                        · refine lv_iconst (v := nI 1) hx hb dL_isDone_317 (by decide) ?_
                          refine lv_goto (tgt := 322) hx hb dL_isDone_318 (by decide) ?_
                          have ef : f_9 = f := by rw [hf_9]; exact upF_id ((hT.cl (by omega)).trans hww0)
                          rw [hL_10] at hJ
                          rw [ef] at hJ
                          exact e_Z C0 hr (by decide) hH ⟨rfl, b, f, m, n, hJ, ho, hwc, by omega, ⟨hS1, hw, hI⟩, hT, ⟨rfl, Nat.le_refl _, rfl⟩, hg9⟩ (by omega) (by omega) dL_isDone_322
            · exact absurd ((nI_eq (by omega) (by omega)).mp c188_6) (by omega)
          · exact absurd ((nI_eq (by omega) (by omega)).mp c99_5) (by omega)
        · exact absurd ((nI_leI (by omega) (by omega)).mpr (by omega)) c80_4
      · exact absurd ((nI_leI (by omega) (by omega)).mpr (by omega)) c61_3
    · exact absurd ((nI_leI (by omega) (by omega)).mpr (by omega)) c44_2
  · replace c25_1 : npN m = 0 := (nI_eq (a := npN m) (b := 0) (by omega) (by omega)).mp c25_1
    rw [if_pos c25_1] at eac
    refine lv_iconst (v := nI 0) hx hb dL_isDone_28 (by decide) ?_
    refine lv_goto (tgt := 39) hx hb dL_isDone_29 (by decide) ?_
    rw [show nI 0 = nI ac by rw [← eac]]
    have hb2 : ac < 12 := by omega
    refine lv_istore (lv' := [(5, .int (nI ac)), (4, .int (nI p)), (0, .ref (o)), (1, .ref (an)), (2, .ref (Sc.1)), (3, .int (nI i0))]) hx hb dL_isDone_39 hl (by decide) rfl (fun ls hl => ?_)
    refine lv_iload hx hb dL_isDone_41 (lv_at hl 0 rfl) ?_
    refine lv_iconst (v := nI 3) hx hb dL_isDone_43 (by decide) ?_
    refine lv_icmp_ge (tgt := 57) hx hb dL_isDone_44 (by decide) (fun c44_15 => ?_) (fun c44_15 => ?_)
    · replace c44_15 : 3 ≤ ac := (nI_leI (a := 3) (b := ac) (by omega) (by omega)).mp c44_15
      refine lv_iload hx hb dL_isDone_57 (lv_at hl 0 rfl) ?_
      refine lv_bipush (v := nI 7) hx hb dL_isDone_59 (by decide) ?_
      refine lv_icmp_ge (tgt := 76) hx hb dL_isDone_61 (by decide) (fun c61_16 => ?_) (fun c61_16 => ?_)
      · replace c61_16 : 7 ≤ ac := (nI_leI (a := 7) (b := ac) (by omega) (by omega)).mp c61_16
        refine lv_iload hx hb dL_isDone_76 (lv_at hl 0 rfl) ?_
        refine lv_bipush (v := nI 9) hx hb dL_isDone_78 (by decide) ?_
        refine lv_icmp_ge (tgt := 95) hx hb dL_isDone_80 (by decide) (fun c80_17 => ?_) (fun c80_17 => ?_)
        · replace c80_17 : 9 ≤ ac := (nI_leI (a := 9) (b := ac) (by omega) (by omega)).mp c80_17
          refine lv_iload hx hb dL_isDone_95 (lv_at hl 0 rfl) ?_
          refine lv_bipush (v := nI 9) hx hb dL_isDone_97 (by decide) ?_
          refine lv_icmp_ne (tgt := 184) hx hb dL_isDone_99 (by decide) (fun c99_18 => ?_) (fun c99_18 => ?_)
          · replace c99_18 : ¬ (ac = 9) := fun z => c99_18 ((nI_eq (a := ac) (b := 9) (by omega) (by omega)).mpr z)
            refine lv_iload hx hb dL_isDone_184 (lv_at hl 0 rfl) ?_
            refine lv_bipush (v := nI 10) hx hb dL_isDone_186 (by decide) ?_
            refine lv_icmp_ne (tgt := 201) hx hb dL_isDone_188 (by decide) (fun c188_19 => ?_) (fun c188_19 => ?_)
            · replace c188_19 : ¬ (ac = 10) := fun z => c188_19 ((nI_eq (a := ac) (b := 10) (by omega) (by omega)).mpr z)
              refine lv_aload_n hx hb dL_isDone_201 rfl (lv_at hl 4 rfl) ?_
              refine lv_iload_n hx hb dL_isDone_202 rfl (lv_at hl 5 rfl) ?_
              refine lv_iconst (v := nI 2) hx hb dL_isDone_203 (by decide) ?_
              refine lv_iadd hx hb dL_isDone_204 ?_
              rw [show nI i0 + nI 2 = nI (i0 + 2) from nI_add _ _]
              refine lv_aload_n hx hb dL_isDone_205 rfl (lv_at hl 3 rfl) ?_
              refine lv_iconst (v := nI 1) hx hb dL_isDone_206 (by decide) ?_
              refine j_ld C0 hH hJ hL (ix := 1) (by omega) (by decide) (v := nI (nlN m)) hT.l0 dL_isDone_207 ?_
              refine k_i hH (k_lS (rest := []) C0 hN hH (lL_in l Sc G A _ (i0 + 2) (nlN m) (by omega) (by omega) (by omega)) mv_L_in ml_L_106 rfl ⟨Nat.le_of_ble_eq_true rfl, Nat.le_of_ble_eq_true rfl⟩ hl.1 rfl (Nat.le_of_ble_eq_true rfl) dL_isDone_208 ⟨by show _ ≤ 12 + (UC (cClo c (nI l0)) - UC c); omega, by show _ ≤ 72 + (US (cClo c (nI l0)) - US c); omega⟩) (fun rr h1 H locs hp hH => ?_)
              obtain ⟨ea, eh⟩ := hp
              rw [eh] at hH
              rw [ea, el]
              refine lv_istore (lv' := [(6, .int (nI l0)), (5, .int (nI ac)), (4, .int (nI p)), (0, .ref (o)), (1, .ref (an)), (2, .ref (Sc.1)), (3, .int (nI i0))]) hx hb dL_isDone_211 hl (by decide) rfl (fun ls hl => ?_)
              refine lv_aload_n hx hb dL_isDone_213 rfl (lv_at hl 4 rfl) ?_
              refine lv_bipush (v := nI 36) hx hb dL_isDone_214 (by decide) ?_
              refine lv_bipush (v := nI 8) hx hb dL_isDone_216 (by decide) ?_
              refine lv_iload hx hb dL_isDone_218 (lv_at hl 0 rfl) ?_
              refine lv_imul hx hb dL_isDone_220 ?_
              rw [show nI 8 * nI l0 = nI (8 * l0) from nI_mul]
              refine lv_iadd hx hb dL_isDone_221 ?_
              rw [show nI 36 + nI (8 * l0) = nI (36 + 8 * l0) from nI_add _ _]
              refine j_ld C0 hH hJ hL (ix := 36 + 8 * l0) (by omega) (by decide) (v := m 9 l0) (hT.cl (by omega)) dL_isDone_222 ?_
              refine lv_iconst (v := nI 1) hx hb dL_isDone_223 (by decide) ?_
              refine lv_icmp_ne (tgt := 232) hx hb dL_isDone_224 (by decide) (fun c224_20 => ?_) (fun c224_20 => ?_)
              · exact absurd (h901.resolve_left h90) c224_20
              · refine lv_ldc hx hb hown (hts _ kl_L_20) dL_isDone_227 ?_
                refine lv_goto (tgt := 238) hx hb dL_isDone_229 (by decide) ?_
                refine lv_istore (lv' := [(7, .int (-900002)), (6, .int (nI l0)), (5, .int (nI ac)), (4, .int (nI p)), (0, .ref (o)), (1, .ref (an)), (2, .ref (Sc.1)), (3, .int (nI i0))]) hx hb dL_isDone_238 hl (by decide) rfl (fun ls hl => ?_)
                refine lv_aload_n hx hb dL_isDone_240 rfl (lv_at hl 5 rfl) ?_
                refine lv_bipush (v := nI 36) hx hb dL_isDone_241 (by decide) ?_
                refine lv_bipush (v := nI 8) hx hb dL_isDone_243 (by decide) ?_
                refine lv_iload hx hb dL_isDone_245 (lv_at hl 1 rfl) ?_
                refine lv_imul hx hb dL_isDone_247 ?_
                rw [show nI 8 * nI l0 = nI (8 * l0) from nI_mul]
                refine lv_iadd hx hb dL_isDone_248 ?_
                rw [show nI 36 + nI (8 * l0) = nI (36 + 8 * l0) from nI_add _ _]
                refine lv_aload_n hx hb dL_isDone_249 rfl (lv_at hl 6 rfl) ?_
                refine lv_iload_n hx hb dL_isDone_250 rfl (lv_at hl 7 rfl) ?_
                refine lv_iconst (v := nI 3) hx hb dL_isDone_251 (by decide) ?_
                refine lv_iadd hx hb dL_isDone_252 ?_
                rw [show nI i0 + nI 3 = nI (i0 + 3) from nI_add _ _]
                refine lv_iconst (v := nI 2) hx hb dL_isDone_253 (by decide) ?_
                refine k_i hH (k_lS (rest := [.int (nI (36 + 8 * l0)), .ref (an)]) C0 hN hH (lL_in l Sc G A _ (i0 + 3) 2 (by omega) (by omega) (by omega)) mv_L_in ml_L_106 rfl ⟨Nat.le_of_ble_eq_true rfl, Nat.le_of_ble_eq_true rfl⟩ hl.1 rfl (Nat.le_of_ble_eq_true rfl) dL_isDone_254 ⟨by show _ ≤ 12 + (UC (cClo c (nI l0)) - UC c); omega, by show _ ≤ 72 + (US (cClo c (nI l0)) - US c); omega⟩) (fun rr h1 H locs hp hH => ?_)
                obtain ⟨ea, eh⟩ := hp
                rw [eh] at hH
                rw [ea, show inN Sc (i0 + 3) 2 = inN Sc (i0 + 3) 2 from rfl]
                refine lv_if_ne (tgt := 264) hx hb dL_isDone_257 (by decide) (fun c257_21 => ?_) (fun c257_21 => ?_)
                · exact absurd ((nI_eq (a := inN Sc (i0 + 3) 2) (b := 0) (by omega) (by omega)).mpr hcl) c257_21
                · replace c257_21 : inN Sc (i0 + 3) 2 = 0 := (nI_eq (a := inN Sc (i0 + 3) 2) (b := 0) (by omega) (by omega)).mp c257_21
                  refine lv_iconst (v := nI 1) hx hb dL_isDone_260 (by decide) ?_
                  refine lv_goto (tgt := 274) hx hb dL_isDone_261 (by decide) ?_
                  refine j_st C0 hH hJ hL (ix := 36 + 8 * l0) (by omega) (by decide) dL_isDone_274 (fun h H locs hH hJ => ?_)
                  obtain ⟨f_22, hf_22⟩ : ∃ z, z = upF f (36 + 8 * l0) (nI 1) := ⟨_, rfl⟩
                  obtain ⟨L_23, hL_23⟩ : ∃ z, z = setL L an 700 f_22 := ⟨_, rfl⟩
                  rw [← hf_22, ← hL_23] at hJ
                  have hL_L_23 : L_23 an = some (700, f_22) := by rw [hL_23]; exact setL_s _ _ _ _
                  refine lv_aload_n hx hb dL_isDone_275 rfl (lv_at hl 6 rfl) ?_
                  refine lv_iload_n hx hb dL_isDone_276 rfl (lv_at hl 7 rfl) ?_
                  refine lv_iconst (v := nI 3) hx hb dL_isDone_277 (by decide) ?_
                  refine lv_iadd hx hb dL_isDone_278 ?_
                  rw [show nI i0 + nI 3 = nI (i0 + 3) from nI_add _ _]
                  refine lv_iconst (v := nI 2) hx hb dL_isDone_279 (by decide) ?_
                  refine k_i hH (k_lS (rest := []) C0 hN hH (lL_in l Sc G A _ (i0 + 3) 2 (by omega) (by omega) (by omega)) mv_L_in ml_L_106 rfl ⟨Nat.le_of_ble_eq_true rfl, Nat.le_of_ble_eq_true rfl⟩ hl.1 rfl (Nat.le_of_ble_eq_true rfl) dL_isDone_280 ⟨by show _ ≤ 12 + (UC (cClo c (nI l0)) - UC c); omega, by show _ ≤ 72 + (US (cClo c (nI l0)) - US c); omega⟩) (fun rr h1 H locs hp hH => ?_)
                  obtain ⟨ea, eh⟩ := hp
                  rw [eh] at hH
                  rw [ea, show inN Sc (i0 + 3) 2 = inN Sc (i0 + 3) 2 from rfl]
                  refine lv_if_gt (tgt := 317) hx hb dL_isDone_283 (by decide) (fun c283_24 => ?_) (fun c283_24 => ?_)
                  · exact absurd ((nI_ltI (a := 0) (b := inN Sc (i0 + 3) 2) (by omega) (by omega)).mp c283_24) (by omega)
                  · replace c283_24 : ¬ (0 < inN Sc (i0 + 3) 2) := fun z => c283_24 ((nI_ltI (a := 0) (b := inN Sc (i0 + 3) 2) (by omega) (by omega)).mpr z)
                    refine lv_aload_n hx hb dL_isDone_286 rfl (lv_at hl 4 rfl) ?_
                    refine lv_iload hx hb dL_isDone_287 (lv_at hl 1 rfl) ?_
                    refine j_w1 (As := [.int (nI l0)]) (rest := []) (v := -900002) (c' := cClo c (nI l0)) C0 hN hH hJ ho (lW_closeLine (nI l0) hJ.own hJ.obj (cC_X10_closeLine l hlt G _ _ b c hJ.rest hwc (nI l0)) (hin_x hxa (fun E h9 z => z.1) ⟨_, List.mem_cons_of_mem _ List.mem_cons_self⟩)) (fun r h9 z => z.elim (fun y => absurd (hxa.symm.trans y.1) (fun q => nomatch q)) (fun ⟨E, y, e⟩ => by have q := Option.some.inj (hxa.symm.trans y.1); subst q; exact ⟨e, b, rfl, y.2⟩)) ms_L_closeLine ml_L_196 rfl ⟨Nat.le_of_ble_eq_true rfl, Nat.le_of_ble_eq_true rfl⟩ hl.1 rfl (Nat.le_of_ble_eq_true rfl) dL_isDone_289 ⟨by show _ ≤ 12 + (UC (cClo c (nI l0)) - UC c); omega, by show _ ≤ 72 + (US (cClo c (nI l0)) - US c); omega⟩ (fun h b H locs hH hJ ho hwc => ?_)
                    refine lv_iload hx hb dL_isDone_292 (lv_at hl 0 rfl) ?_
                    refine lv_icmp_ne (tgt := 321) hx hb dL_isDone_294 (by decide) (fun c294_25 => ?_) (fun c294_25 => ?_)
                    · exact absurd (by decide) c294_25
                    · refine lv_aload_n hx hb dL_isDone_297 rfl (lv_at hl 4 rfl) ?_
                      refine lv_iload hx hb dL_isDone_298 (lv_at hl 1 rfl) ?_
                      refine j_w0 (As := [.int (nI l0)]) (rest := []) (v := -900002) C0 hN hH ho (lW_nextDeparture (nI l0) hJ.own hJ.obj (cC_X10_nextDeparture l hlt G _ _ b (cClo c (nI l0)) hJ.rest hwc (nI l0)) (hin_x (v_opnX hS1 hw hwc hl0 h91) (fun E h9 z => z.1) ⟨_, List.mem_cons_of_mem _ List.mem_cons_self⟩)) (hv_x0 (v_opnX hS1 hw hwc hl0 h91) rfl (fun r h9 z => z.1)) ms_L_nextDeparture ml_L_198 rfl ⟨Nat.le_of_ble_eq_true rfl, Nat.le_of_ble_eq_true rfl⟩ hl.1 rfl (Nat.le_of_ble_eq_true rfl) dL_isDone_300 ⟨by show _ ≤ 12 + (UC (cClo c (nI l0)) - UC c); omega, by show _ ≤ 72 + (US (cClo c (nI l0)) - US c); omega⟩ (fun H locs hH => ?_)
                      refine lv_ldc hx hb hown (hts _ kl_L_20) dL_isDone_303 ?_
                      refine lv_icmp_ne (tgt := 321) hx hb dL_isDone_305 (by decide) (fun c305_26 => ?_) (fun c305_26 => ?_)
                      · exact absurd (by decide) c305_26
                      · refine lv_aload_n hx hb dL_isDone_308 rfl (lv_at hl 4 rfl) ?_
                        refine lv_iload hx hb dL_isDone_309 (lv_at hl 1 rfl) ?_
                        refine j_q0 (rest := []) C0 hH hJ ho (cN_X10_waiting l hlt G _ _ b (cClo c (nI l0)) hJ.rest hwc (nI l0) (v_lX hS1 hw hwc hl0)) (v_lX hS1 hw hwc hl0) (v := nI 0) ((v_wait hS1 (nI l0)).trans hww) mv_X10_waiting ml_L_193 rfl ⟨Nat.le_of_ble_eq_true rfl, Nat.le_of_ble_eq_true rfl⟩ hl.1 rfl (Nat.le_of_ble_eq_true rfl) dL_isDone_311 ⟨by show _ ≤ 12 + (UC (cClo c (nI l0)) - UC c); omega, by show _ ≤ 72 + (US (cClo c (nI l0)) - US c); omega⟩ (fun H locs hH => ?_)
                        refine lv_if_ne (tgt := 321) hx hb dL_isDone_314 (by decide) (fun c314_27 => ?_) (fun c314_27 => ?_)
                        · exact absurd (by decide) c314_27
                        · refine lv_iconst (v := nI 1) hx hb dL_isDone_317 (by decide) ?_
                          refine lv_goto (tgt := 322) hx hb dL_isDone_318 (by decide) ?_
                          have ef : f_22 = f := by rw [hf_22]; exact upF_id ((hT.cl (by omega)).trans hww0)
                          rw [hL_23] at hJ
                          rw [ef] at hJ
                          exact e_Z C0 hr (by decide) hH ⟨rfl, b, f, m, n, hJ, ho, hwc, by omega, ⟨hS1, hw, hI⟩, hT, ⟨rfl, Nat.le_refl _, rfl⟩, hg9⟩ (by omega) (by omega) dL_isDone_322
            · exact absurd ((nI_eq (by omega) (by omega)).mp c188_19) (by omega)
          · exact absurd ((nI_eq (by omega) (by omega)).mp c99_18) (by omega)
        · exact absurd ((nI_leI (by omega) (by omega)).mpr (by omega)) c80_17
      · exact absurd ((nI_leI (by omega) (by omega)).mpr (by omega)) c61_16
    · exact absurd ((nI_leI (by omega) (by omega)).mpr (by omega)) c44_15
