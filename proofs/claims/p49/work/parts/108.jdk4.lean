set_option maxHeartbeats 4000000 in
set_option maxRecDepth 100000 in
theorem cJ_Jx4a65c_rangeCheckForAdd_d00df (l : Launch) (G : GT) (A : Nat → Prop) (h : AH) (a n i : Nat) (hk : aK h a = 3) (hs : aI h 2 a = nI n) (hi : i ≤ n) (hn : n < 2 ^ 30) : cmV l G A yJx4a65c_rangeCheckForAdd_d00df cJx4a65c_rangeCheckForAdd_d00df 2 0 0 0 0 [.ref (a), .int (nI i)] h (fun h' => h' = h) := by
  refine cm_of "java/util/ArrayList" rfl (by decide) (Nat.le_of_ble_eq_true rfl) ?_
  intro pr e s m9 below meth c C0 hr hname hH ls hl
  obtain ⟨hx, hb, hml, hown, hts, hK, hA, -⟩ := id C0
  have hl : lv_has ls 2 [(0, .ref (a)), (1, .int (nI i))] := hl
  refine lv_iload_n hx hb dJx4a65c_rangeCheckForAdd_d00df_0 rfl (lv_at hl 1 rfl) ?_
  refine lv_aload_n hx hb dJx4a65c_rangeCheckForAdd_d00df_1 rfl (lv_at hl 0 rfl) ?_
  refine j_getI C0 hH hk 2 rfl "java/util/ArrayList" (Or.inl rfl) fl_Jx4a65c_48 (v := nI n) hs dJx4a65c_rangeCheckForAdd_d00df_2 ?_
  refine lv_icmp_gt (tgt := 12) hx hb dJx4a65c_rangeCheckForAdd_d00df_5 (by decide) (fun c5_1 => ?_) (fun c5_1 => ?_)
  · exact absurd (nI_le hi (by omega)) (Int32.not_le.mpr c5_1)
  · refine lv_iload_n hx hb dJx4a65c_rangeCheckForAdd_d00df_8 rfl (lv_at hl 1 rfl) ?_
    refine lv_if_ge (tgt := 25) hx hb dJx4a65c_rangeCheckForAdd_d00df_9 (by decide) (fun c9_2 => ?_) (fun c9_2 => ?_)
    · exact e_V C0 hr hH rfl (by omega) (by omega) dJx4a65c_rangeCheckForAdd_d00df_25
    · exact absurd (nI_pos' (by omega)) c9_2
set_option maxHeartbeats 4000000 in
set_option maxRecDepth 100000 in
theorem cJ_addAt_lt (l : Launch) (G : GT) (A : Nat → Prop) (h : AH) (a x arr n cap i : Nat) (hL : LSh G.2.2.1 h a arr n cap) (hx0 : obK (aK h x)) (hi : i ≤ n) (hlt : n < cap) : cmV l G A yJx4a65c_add_7a177 cJx4a65c_add_7a177 5 5 147 0 0 [.ref (a), .int (nI i), .ref (x)] h (fun h' => Ladd h h' a arr n cap (insG h arr x i)) := by
  refine cm_of "java/util/ArrayList" rfl (by decide) (Nat.le_of_ble_eq_true rfl) ?_
  intro pr e s m9 below meth c C0 hr hname hH ls hl
  obtain ⟨hx, hb, hml, hown, hts, hK, hA, -⟩ := id C0
  have hl : lv_has ls 5 [(0, .ref (a)), (1, .int (nI i)), (2, .ref (x))] := hl
  obtain ⟨hk, hs, hra, hnc, hcap, h6, h7⟩ := id hL
  have hk0 : aK (pI h 0 a (aI h 0 a + 1)) a = 3 := hk
  obtain ⟨ka, kn, kel⟩ := h7 (by omega)
  refine lv_aload_n hx hb dJx4a65c_add_7a177_0 rfl (lv_at hl 0 rfl) ?_
  refine lv_iload_n hx hb dJx4a65c_add_7a177_1 rfl (lv_at hl 1 rfl) ?_
  refine k_v hH (k_runV (rest := []) C0 hH (cJ_Jx4a65c_rangeCheckForAdd_d00df l G A h a n i hk hs hi (by omega)) mv_Jx4a65c_rangeCheckForAdd_d00df ml_Jx4a65c_135 ci_3 hk rfl ⟨Nat.le_of_ble_eq_true rfl, Nat.le_of_ble_eq_true rfl⟩ hl.1 rfl (Nat.le_of_ble_eq_true rfl) dJx4a65c_add_7a177_2 (by simp)) (fun h1 H locs hp hH => ?_)
  rw [hp] at hH
  clear hp h1
  refine lv_aload_n hx hb dJx4a65c_add_7a177_5 rfl (lv_at hl 0 rfl) ?_
  refine lv_dup hx hb dJx4a65c_add_7a177_6 rfl ?_
  refine j_getI C0 hH hk 0 rfl "java/util/ArrayList" (Or.inr ⟨rfl, rfl⟩) fl_Jx4a65c_63 (v := aI h 0 a) rfl dJx4a65c_add_7a177_7 ?_
  refine lv_iconst (v := 1) hx hb dJx4a65c_add_7a177_10 (by decide) ?_
  refine lv_iadd hx hb dJx4a65c_add_7a177_11 ?_
  refine j_putI C0 hH hk 0 rfl rfl "java/util/ArrayList" (Or.inr ⟨rfl, rfl⟩) fl_Jx4a65c_63 dJx4a65c_add_7a177_12 (fun H locs hH => ?_)
  refine lv_aload_n hx hb dJx4a65c_add_7a177_15 rfl (lv_at hl 0 rfl) ?_
  refine j_getI C0 hH hk0 2 rfl "java/util/ArrayList" (Or.inl rfl) fl_Jx4a65c_48 (v := nI n) (by rw [aI_pI, if_neg (fun z => absurd z.1 (by decide))]; exact hs) dJx4a65c_add_7a177_16 ?_
  refine lv_dup hx hb dJx4a65c_add_7a177_19 rfl ?_
  refine lv_istore_n (lv' := [(3, .int (nI n)), (0, .ref (a)), (1, .int (nI i)), (2, .ref (x))]) hx hb dJx4a65c_add_7a177_20 rfl hl (by decide) rfl (fun ls hl => ?_)
  refine lv_aload_n hx hb dJx4a65c_add_7a177_21 rfl (lv_at hl 1 rfl) ?_
  refine j_getR C0 hH hk0 fl_Jx4a65c_9 (v := some arr) hra dJx4a65c_add_7a177_22 ?_
  refine lv_dup hx hb dJx4a65c_add_7a177_25 rfl ?_
  refine lv_astore (lv' := [(4, .ref (arr)), (3, .int (nI n)), (0, .ref (a)), (1, .int (nI i)), (2, .ref (x))]) hx hb dJx4a65c_add_7a177_26 hl (by decide) rfl (fun ls hl => ?_)
  refine j_alen C0 hH ka kn dJx4a65c_add_7a177_28 ?_
  refine lv_icmp_ne (tgt := 38) hx hb dJx4a65c_add_7a177_29 (by decide) (fun c29_2 => ?_) (fun c29_2 => ?_)
  · refine lv_aload hx hb dJx4a65c_add_7a177_38 (lv_at hl 0 rfl) ?_
    refine lv_iload_n hx hb dJx4a65c_add_7a177_40 rfl (lv_at hl 3 rfl) ?_
    refine lv_aload hx hb dJx4a65c_add_7a177_41 (lv_at hl 0 rfl) ?_
    refine lv_iload_n hx hb dJx4a65c_add_7a177_43 rfl (lv_at hl 3 rfl) ?_
    refine lv_iconst (v := 1) hx hb dJx4a65c_add_7a177_44 (by decide) ?_
    refine lv_iadd hx hb dJx4a65c_add_7a177_45 ?_
    rw [nI_1]
    refine lv_iload_n hx hb dJx4a65c_add_7a177_46 rfl (lv_at hl 1 rfl) ?_
    refine lv_iload_n hx hb dJx4a65c_add_7a177_47 rfl (lv_at hl 3 rfl) ?_
    refine lv_isub hx hb dJx4a65c_add_7a177_48 ?_
    rw [pk_sub hi]
    refine k_copyO C0 hH ml_Jx4a65c_112 hl.1 ka ka kn kn (sp := nI i) (dp := nI (i + 1)) (n := nI (n - i)) (nI_pos (by omega)) (nI_pos (by omega)) (nI_pos (by omega)) (by rw [nI_clamp (by omega), nI_clamp (by omega)]; omega) (by rw [nI_clamp (by omega), nI_clamp (by omega)]; omega) (fun k hk9 y hy => ?_) (Nat.le_of_ble_eq_true rfl) (Nat.le_of_ble_eq_true rfl) dJx4a65c_add_7a177_49 (fun H locs hH => ?_)
    · rw [nI_clamp (by omega)] at hk9 hy
      exact kel _ y (by omega) hy
    rw [nI_clamp (show i < 2 ^ 31 by omega), nI_clamp (show i + 1 < 2 ^ 31 by omega), nI_clamp (show n - i < 2 ^ 31 by omega)] at hH
    refine lv_aload hx hb dJx4a65c_add_7a177_52 (lv_at hl 0 rfl) ?_
    refine lv_iload_n hx hb dJx4a65c_add_7a177_54 rfl (lv_at hl 3 rfl) ?_
    refine lv_aload_n hx hb dJx4a65c_add_7a177_55 rfl (lv_at hl 4 rfl) ?_
    refine k_astO C0 hH (by rw [aK_pF]; exact ka) (by rw [aN_pF]; exact kn) (vp_in_nI (show i < cap by omega) (by omega)) (by rw [aK_pF]; exact hx0) dJx4a65c_add_7a177_56 (fun H locs hH => ?_)
    rw [nI_clamp (show i < 2 ^ 31 by omega)] at hH
    refine lv_aload_n hx hb dJx4a65c_add_7a177_57 rfl (lv_at hl 2 rfl) ?_
    refine lv_iload_n hx hb dJx4a65c_add_7a177_58 rfl (lv_at hl 1 rfl) ?_
    refine lv_iconst (v := 1) hx hb dJx4a65c_add_7a177_59 (by decide) ?_
    refine lv_iadd hx hb dJx4a65c_add_7a177_60 ?_
    rw [nI_1]
    refine j_putI C0 hH (show _ = 3 from hk) 2 rfl rfl "java/util/ArrayList" (Or.inl rfl) fl_Jx4a65c_48 dJx4a65c_add_7a177_61 (fun H locs hH => ?_)
    exact e_V C0 hr hH ⟨arr, by rw [aR_pI, aR_pR, if_neg (fun z => (fun e => by rw [← e, hk] at ka; omega) z.2), aR_pF, if_neg (fun e => by rw [← e, hk] at ka; omega)]; exact hra, by rw [aI_pI, if_pos ⟨rfl, rfl⟩], hk, ka, by rw [aN_pI, aN_pR, aN_pF, aN_pI, kn]; unfold ncap; rw [if_neg (by omega)], fun k hk9 => by unfold insG; rw [aR_pI, aR_pR]; by_cases e : k = i; (· subst e; rw [if_pos ⟨rfl, rfl⟩, if_neg (Nat.lt_irrefl _), if_pos rfl]); (· rw [if_neg (fun z => e z.1), aR_pF, if_pos rfl]; unfold va_cpy; by_cases e2 : k < i; (· rw [if_neg (by omega), if_pos e2]; rfl); (· rw [if_pos ⟨by omega, by omega⟩, if_neg e2, if_neg e, show i + (k - (i + 1)) = k - 1 by omega]; rfl)), Or.inl ⟨rfl, hlt⟩, ((((SameX.pI h 0 a (aI h 0 a + 1)).trans (SameX.pF _ arr _)).trans (SameX.pR _ i arr (some x))).trans (SameX.pI _ 2 a _)).mono (fun y hy => hy.elim (fun z => z.elim (fun w => w.elim Or.inl Or.inr) Or.inr) Or.inl)⟩ (Nat.le_refl _) (Nat.le_refl _) dJx4a65c_add_7a177_64
  · exact absurd ((nI_eq (by omega) (by omega)).mp c29_2) (by omega)
set_option maxHeartbeats 4000000 in
set_option maxRecDepth 100000 in
theorem cJ_addAt_eq (l : Launch) (G : GT) (A : Nat → Prop) (h : AH) (a x arr n i : Nat) (hL : LSh G.2.2.1 h a arr n n) (hx0 : obK (aK h x)) (hi : i ≤ n) (h0 : 0 < n) : cmV l G A yJx4a65c_add_7a177 cJx4a65c_add_7a177 5 5 147 1 (gcap n) [.ref (a), .int (nI i), .ref (x)] h (fun h' => Ladd h h' a arr n n (insG h arr x i)) := by
  refine cm_of "java/util/ArrayList" rfl (by decide) (Nat.le_of_ble_eq_true rfl) ?_
  intro pr e s m9 below meth c C0 hr hname hH ls hl
  obtain ⟨hx, hb, hml, hown, hts, hK, hA, -⟩ := id C0
  have hl : lv_has ls 5 [(0, .ref (a)), (1, .int (nI i)), (2, .ref (x))] := hl
  obtain ⟨hk, hs, hra, hnc, hcap, h6, h7⟩ := id hL
  have hk0 : aK (pI h 0 a (aI h 0 a + 1)) a = 3 := hk
  obtain ⟨ka, kn, kel⟩ := h7 h0
  refine lv_aload_n hx hb dJx4a65c_add_7a177_0 rfl (lv_at hl 0 rfl) ?_
  refine lv_iload_n hx hb dJx4a65c_add_7a177_1 rfl (lv_at hl 1 rfl) ?_
  refine k_v hH (k_runV (rest := []) C0 hH (cJ_Jx4a65c_rangeCheckForAdd_d00df l G A h a n i hk hs hi (by omega)) mv_Jx4a65c_rangeCheckForAdd_d00df ml_Jx4a65c_135 ci_3 hk rfl ⟨Nat.le_of_ble_eq_true rfl, Nat.le_of_ble_eq_true rfl⟩ hl.1 rfl (Nat.le_of_ble_eq_true rfl) dJx4a65c_add_7a177_2 (by simp)) (fun h1 H locs hp hH => ?_)
  rw [hp] at hH
  clear hp h1
  refine lv_aload_n hx hb dJx4a65c_add_7a177_5 rfl (lv_at hl 0 rfl) ?_
  refine lv_dup hx hb dJx4a65c_add_7a177_6 rfl ?_
  refine j_getI C0 hH hk 0 rfl "java/util/ArrayList" (Or.inr ⟨rfl, rfl⟩) fl_Jx4a65c_63 (v := aI h 0 a) rfl dJx4a65c_add_7a177_7 ?_
  refine lv_iconst (v := 1) hx hb dJx4a65c_add_7a177_10 (by decide) ?_
  refine lv_iadd hx hb dJx4a65c_add_7a177_11 ?_
  refine j_putI C0 hH hk 0 rfl rfl "java/util/ArrayList" (Or.inr ⟨rfl, rfl⟩) fl_Jx4a65c_63 dJx4a65c_add_7a177_12 (fun H locs hH => ?_)
  refine lv_aload_n hx hb dJx4a65c_add_7a177_15 rfl (lv_at hl 0 rfl) ?_
  refine j_getI C0 hH hk0 2 rfl "java/util/ArrayList" (Or.inl rfl) fl_Jx4a65c_48 (v := nI n) (by rw [aI_pI, if_neg (fun z => absurd z.1 (by decide))]; exact hs) dJx4a65c_add_7a177_16 ?_
  refine lv_dup hx hb dJx4a65c_add_7a177_19 rfl ?_
  refine lv_istore_n (lv' := [(3, .int (nI n)), (0, .ref (a)), (1, .int (nI i)), (2, .ref (x))]) hx hb dJx4a65c_add_7a177_20 rfl hl (by decide) rfl (fun ls hl => ?_)
  refine lv_aload_n hx hb dJx4a65c_add_7a177_21 rfl (lv_at hl 1 rfl) ?_
  refine j_getR C0 hH hk0 fl_Jx4a65c_9 (v := some arr) hra dJx4a65c_add_7a177_22 ?_
  refine lv_dup hx hb dJx4a65c_add_7a177_25 rfl ?_
  refine lv_astore (lv' := [(4, .ref (arr)), (3, .int (nI n)), (0, .ref (a)), (1, .int (nI i)), (2, .ref (x))]) hx hb dJx4a65c_add_7a177_26 hl (by decide) rfl (fun ls hl => ?_)
  refine j_alen C0 hH ka kn dJx4a65c_add_7a177_28 ?_
  refine lv_icmp_ne (tgt := 38) hx hb dJx4a65c_add_7a177_29 (by decide) (fun c29_2 => ?_) (fun c29_2 => ?_)
  · exact absurd rfl c29_2
  · refine lv_aload_n hx hb dJx4a65c_add_7a177_32 rfl (lv_at hl 2 rfl) ?_
    refine k_q hH (k_runV (rest := []) C0 hH (cJ_Jx4a65c_grow_d5877 l G A (pI h 0 a (aI h 0 a + 1)) a arr n (hL.mod _)) mv_Jx4a65c_grow_d5877 ml_Jx4a65c_129 ci_3 hk0 rfl ⟨Nat.le_of_ble_eq_true rfl, Nat.le_of_ble_eq_true rfl⟩ hl.1 rfl (Nat.le_of_ble_eq_true rfl) dJx4a65c_add_7a177_33 ⟨by show 0 + 1 ≤ 1; omega, by show 0 + gcap n ≤ gcap n; omega⟩) (fun r_3 h1 H locs hp hH => ?_)
    obtain ⟨q, rfl, hq0, hq1, hq2, hq3, hq4, hq5, hq6, hq7⟩ := hp
    replace hq0 : aK h q = 0 := hq0
    have hne : a ≠ q := fun e => by rw [e, hq0] at hk; omega
    have hxq : x ≠ q := fun e => by rw [e, hq0] at hx0; unfold obK at hx0; omega
    have hxa : x ≠ a := fun e => by rw [e, hk] at hx0; unfold obK at hx0; omega
    have hx1 : obK (aK h1 x) := by rw [(hq7 x (fun z => z.elim hxq hxa)).1]; exact hx0
    have hg := gcap_gt n
    have hg2 := gcap_le n
    refine lv_astore (lv' := [(4, .ref (q)), (3, .int (nI n)), (0, .ref (a)), (1, .int (nI i)), (2, .ref (x))]) hx hb dJx4a65c_add_7a177_36 hl (by decide) rfl (fun ls hl => ?_)
    refine lv_aload hx hb dJx4a65c_add_7a177_38 (lv_at hl 0 rfl) ?_
    refine lv_iload_n hx hb dJx4a65c_add_7a177_40 rfl (lv_at hl 3 rfl) ?_
    refine lv_aload hx hb dJx4a65c_add_7a177_41 (lv_at hl 0 rfl) ?_
    refine lv_iload_n hx hb dJx4a65c_add_7a177_43 rfl (lv_at hl 3 rfl) ?_
    refine lv_iconst (v := 1) hx hb dJx4a65c_add_7a177_44 (by decide) ?_
    refine lv_iadd hx hb dJx4a65c_add_7a177_45 ?_
    rw [nI_1]
    refine lv_iload_n hx hb dJx4a65c_add_7a177_46 rfl (lv_at hl 1 rfl) ?_
    refine lv_iload_n hx hb dJx4a65c_add_7a177_47 rfl (lv_at hl 3 rfl) ?_
    refine lv_isub hx hb dJx4a65c_add_7a177_48 ?_
    rw [pk_sub hi]
    refine k_copyO C0 hH ml_Jx4a65c_112 hl.1 hq1 hq1 hq2 hq2 (sp := nI i) (dp := nI (i + 1)) (n := nI (n - i)) (nI_pos (by omega)) (nI_pos (by omega)) (nI_pos (by omega)) (by rw [nI_clamp (by omega), nI_clamp (by omega)]; omega) (by rw [nI_clamp (by omega), nI_clamp (by omega)]; omega) (fun k hk9 y hy => ?_) (Nat.le_of_ble_eq_true rfl) (Nat.le_of_ble_eq_true rfl) dJx4a65c_add_7a177_49 (fun H locs hH => ?_)
    · rw [nI_clamp (by omega)] at hk9 hy
      rw [hq3 _ (by omega)] at hy
      have ho := kel _ y (by omega) hy
      rw [(hq7 y (fun z => z.elim (fun e => by rw [e, hq0] at ho; unfold obK at ho; omega) (fun e => by rw [e, hk] at ho; unfold obK at ho; omega))).1]
      exact ho
    rw [nI_clamp (show i < 2 ^ 31 by omega), nI_clamp (show i + 1 < 2 ^ 31 by omega), nI_clamp (show n - i < 2 ^ 31 by omega)] at hH
    refine lv_aload hx hb dJx4a65c_add_7a177_52 (lv_at hl 0 rfl) ?_
    refine lv_iload_n hx hb dJx4a65c_add_7a177_54 rfl (lv_at hl 3 rfl) ?_
    refine lv_aload_n hx hb dJx4a65c_add_7a177_55 rfl (lv_at hl 4 rfl) ?_
    refine k_astO C0 hH (by rw [aK_pF]; exact hq1) (by rw [aN_pF]; exact hq2) (vp_in_nI (show i < gcap n by omega) (by omega)) (by rw [aK_pF]; exact hx1) dJx4a65c_add_7a177_56 (fun H locs hH => ?_)
    rw [nI_clamp (show i < 2 ^ 31 by omega)] at hH
    refine lv_aload_n hx hb dJx4a65c_add_7a177_57 rfl (lv_at hl 2 rfl) ?_
    refine lv_iload_n hx hb dJx4a65c_add_7a177_58 rfl (lv_at hl 1 rfl) ?_
    refine lv_iconst (v := 1) hx hb dJx4a65c_add_7a177_59 (by decide) ?_
    refine lv_iadd hx hb dJx4a65c_add_7a177_60 ?_
    rw [nI_1]
    refine j_putI C0 hH (show _ = 3 from hq6) 2 rfl rfl "java/util/ArrayList" (Or.inl rfl) fl_Jx4a65c_48 dJx4a65c_add_7a177_61 (fun H locs hH => ?_)
    exact e_V C0 hr hH ⟨q, by rw [aR_pI, aR_pR, if_neg (fun z => hne z.2), aR_pF, if_neg hne]; exact hq4, by rw [aI_pI, if_pos ⟨rfl, rfl⟩], hq6, hq1, by rw [aN_pI, aN_pR, aN_pF, hq2]; unfold ncap; rw [if_pos rfl], fun k hk9 => by unfold insG; rw [aR_pI, aR_pR]; by_cases e : k = i; (· subst e; rw [if_pos ⟨rfl, rfl⟩, if_neg (Nat.lt_irrefl _), if_pos rfl]); (· rw [if_neg (fun z => e z.1), aR_pF, if_pos rfl]; unfold va_cpy; by_cases e2 : k < i; (· rw [if_neg (by omega), if_pos e2]; exact hq3 k (by omega)); (· rw [if_pos ⟨by omega, by omega⟩, if_neg e2, if_neg e, show i + (k - (i + 1)) = k - 1 by omega]; exact hq3 _ (by omega))), Or.inr ⟨hq0, rfl⟩, (((((SameX.pI h 0 a (aI h 0 a + 1)).trans hq7).trans (SameX.pF _ q _)).trans (SameX.pR _ i q (some x))).trans (SameX.pI _ 2 a _)).mono (fun y hy => hy.elim (fun z => z.elim (fun w => w.elim (fun v => v.elim Or.inl (fun u => u.elim Or.inr Or.inl)) Or.inr) Or.inr) Or.inl)⟩ (by show 0 + 1 ≤ 1; omega) (by show 0 + gcap n ≤ gcap n; omega) dJx4a65c_add_7a177_64
set_option maxHeartbeats 4000000 in
set_option maxRecDepth 100000 in
theorem cJ_addAt_z (l : Launch) (G : GT) (A : Nat → Prop) (h : AH) (a x arr n i : Nat) (hL : LSh G.2.2.1 h a arr n n) (hx0 : obK (aK h x)) (hi : i ≤ n) (h0 : n = 0) : cmV l G A yJx4a65c_add_7a177 cJx4a65c_add_7a177 5 5 147 1 (gcap n) [.ref (a), .int (nI i), .ref (x)] h (fun h' => Ladd h h' a arr n n (insG h arr x i)) := by
  refine cm_of "java/util/ArrayList" rfl (by decide) (Nat.le_of_ble_eq_true rfl) ?_
  intro pr e s m9 below meth c C0 hr hname hH ls hl
  obtain ⟨hx, hb, hml, hown, hts, hK, hA, -⟩ := id C0
  have hl : lv_has ls 5 [(0, .ref (a)), (1, .int (nI i)), (2, .ref (x))] := hl
  obtain ⟨hk, hs, hra, hnc, hcap, h6, h7⟩ := id hL
  have hk0 : aK (pI h 0 a (aI h 0 a + 1)) a = 3 := hk
  have earr := h6 h0
  refine lv_aload_n hx hb dJx4a65c_add_7a177_0 rfl (lv_at hl 0 rfl) ?_
  refine lv_iload_n hx hb dJx4a65c_add_7a177_1 rfl (lv_at hl 1 rfl) ?_
  refine k_v hH (k_runV (rest := []) C0 hH (cJ_Jx4a65c_rangeCheckForAdd_d00df l G A h a n i hk hs hi (by omega)) mv_Jx4a65c_rangeCheckForAdd_d00df ml_Jx4a65c_135 ci_3 hk rfl ⟨Nat.le_of_ble_eq_true rfl, Nat.le_of_ble_eq_true rfl⟩ hl.1 rfl (Nat.le_of_ble_eq_true rfl) dJx4a65c_add_7a177_2 (by simp)) (fun h1 H locs hp hH => ?_)
  rw [hp] at hH
  clear hp h1
  refine lv_aload_n hx hb dJx4a65c_add_7a177_5 rfl (lv_at hl 0 rfl) ?_
  refine lv_dup hx hb dJx4a65c_add_7a177_6 rfl ?_
  refine j_getI C0 hH hk 0 rfl "java/util/ArrayList" (Or.inr ⟨rfl, rfl⟩) fl_Jx4a65c_63 (v := aI h 0 a) rfl dJx4a65c_add_7a177_7 ?_
  refine lv_iconst (v := 1) hx hb dJx4a65c_add_7a177_10 (by decide) ?_
  refine lv_iadd hx hb dJx4a65c_add_7a177_11 ?_
  refine j_putI C0 hH hk 0 rfl rfl "java/util/ArrayList" (Or.inr ⟨rfl, rfl⟩) fl_Jx4a65c_63 dJx4a65c_add_7a177_12 (fun H locs hH => ?_)
  refine lv_aload_n hx hb dJx4a65c_add_7a177_15 rfl (lv_at hl 0 rfl) ?_
  refine j_getI C0 hH hk0 2 rfl "java/util/ArrayList" (Or.inl rfl) fl_Jx4a65c_48 (v := nI n) (by rw [aI_pI, if_neg (fun z => absurd z.1 (by decide))]; exact hs) dJx4a65c_add_7a177_16 ?_
  refine lv_dup hx hb dJx4a65c_add_7a177_19 rfl ?_
  refine lv_istore_n (lv' := [(3, .int (nI n)), (0, .ref (a)), (1, .int (nI i)), (2, .ref (x))]) hx hb dJx4a65c_add_7a177_20 rfl hl (by decide) rfl (fun ls hl => ?_)
  refine lv_aload_n hx hb dJx4a65c_add_7a177_21 rfl (lv_at hl 1 rfl) ?_
  refine j_getR C0 hH hk0 fl_Jx4a65c_9 (v := some arr) hra dJx4a65c_add_7a177_22 ?_
  refine lv_dup hx hb dJx4a65c_add_7a177_25 rfl ?_
  refine lv_astore (lv' := [(4, .ref (arr)), (3, .int (nI n)), (0, .ref (a)), (1, .int (nI i)), (2, .ref (x))]) hx hb dJx4a65c_add_7a177_26 hl (by decide) rfl (fun ls hl => ?_)
  refine k_alen0e C0 hH earr dJx4a65c_add_7a177_28 ?_
  refine lv_icmp_ne (tgt := 38) hx hb dJx4a65c_add_7a177_29 (by decide) (fun c29_2 => ?_) (fun c29_2 => ?_)
  · exact absurd (by rw [h0]; rfl) c29_2
  · refine lv_aload_n hx hb dJx4a65c_add_7a177_32 rfl (lv_at hl 2 rfl) ?_
    refine k_q hH (k_runV (rest := []) C0 hH (cJ_Jx4a65c_grow_d5877 l G A (pI h 0 a (aI h 0 a + 1)) a arr n (hL.mod _)) mv_Jx4a65c_grow_d5877 ml_Jx4a65c_129 ci_3 hk0 rfl ⟨Nat.le_of_ble_eq_true rfl, Nat.le_of_ble_eq_true rfl⟩ hl.1 rfl (Nat.le_of_ble_eq_true rfl) dJx4a65c_add_7a177_33 ⟨by show 0 + 1 ≤ 1; omega, by show 0 + gcap n ≤ gcap n; omega⟩) (fun r_3 h1 H locs hp hH => ?_)
    obtain ⟨q, rfl, hq0, hq1, hq2, hq3, hq4, hq5, hq6, hq7⟩ := hp
    replace hq0 : aK h q = 0 := hq0
    have hne : a ≠ q := fun e => by rw [e, hq0] at hk; omega
    have hxq : x ≠ q := fun e => by rw [e, hq0] at hx0; unfold obK at hx0; omega
    have hxa : x ≠ a := fun e => by rw [e, hk] at hx0; unfold obK at hx0; omega
    have hx1 : obK (aK h1 x) := by rw [(hq7 x (fun z => z.elim hxq hxa)).1]; exact hx0
    have hg := gcap_gt n
    have hg2 := gcap_le n
    refine lv_astore (lv' := [(4, .ref (q)), (3, .int (nI n)), (0, .ref (a)), (1, .int (nI i)), (2, .ref (x))]) hx hb dJx4a65c_add_7a177_36 hl (by decide) rfl (fun ls hl => ?_)
    refine lv_aload hx hb dJx4a65c_add_7a177_38 (lv_at hl 0 rfl) ?_
    refine lv_iload_n hx hb dJx4a65c_add_7a177_40 rfl (lv_at hl 3 rfl) ?_
    refine lv_aload hx hb dJx4a65c_add_7a177_41 (lv_at hl 0 rfl) ?_
    refine lv_iload_n hx hb dJx4a65c_add_7a177_43 rfl (lv_at hl 3 rfl) ?_
    refine lv_iconst (v := 1) hx hb dJx4a65c_add_7a177_44 (by decide) ?_
    refine lv_iadd hx hb dJx4a65c_add_7a177_45 ?_
    rw [nI_1]
    refine lv_iload_n hx hb dJx4a65c_add_7a177_46 rfl (lv_at hl 1 rfl) ?_
    refine lv_iload_n hx hb dJx4a65c_add_7a177_47 rfl (lv_at hl 3 rfl) ?_
    refine lv_isub hx hb dJx4a65c_add_7a177_48 ?_
    rw [pk_sub hi]
    refine k_copyO C0 hH ml_Jx4a65c_112 hl.1 hq1 hq1 hq2 hq2 (sp := nI i) (dp := nI (i + 1)) (n := nI (n - i)) (nI_pos (by omega)) (nI_pos (by omega)) (nI_pos (by omega)) (by rw [nI_clamp (by omega), nI_clamp (by omega)]; omega) (by rw [nI_clamp (by omega), nI_clamp (by omega)]; omega) (fun k hk9 y hy => ?_) (Nat.le_of_ble_eq_true rfl) (Nat.le_of_ble_eq_true rfl) dJx4a65c_add_7a177_49 (fun H locs hH => ?_)
    · rw [nI_clamp (by omega)] at hk9
      omega
    rw [nI_clamp (show i < 2 ^ 31 by omega), nI_clamp (show i + 1 < 2 ^ 31 by omega), nI_clamp (show n - i < 2 ^ 31 by omega)] at hH
    refine lv_aload hx hb dJx4a65c_add_7a177_52 (lv_at hl 0 rfl) ?_
    refine lv_iload_n hx hb dJx4a65c_add_7a177_54 rfl (lv_at hl 3 rfl) ?_
    refine lv_aload_n hx hb dJx4a65c_add_7a177_55 rfl (lv_at hl 4 rfl) ?_
    refine k_astO C0 hH (by rw [aK_pF]; exact hq1) (by rw [aN_pF]; exact hq2) (vp_in_nI (show i < gcap n by omega) (by omega)) (by rw [aK_pF]; exact hx1) dJx4a65c_add_7a177_56 (fun H locs hH => ?_)
    rw [nI_clamp (show i < 2 ^ 31 by omega)] at hH
    refine lv_aload_n hx hb dJx4a65c_add_7a177_57 rfl (lv_at hl 2 rfl) ?_
    refine lv_iload_n hx hb dJx4a65c_add_7a177_58 rfl (lv_at hl 1 rfl) ?_
    refine lv_iconst (v := 1) hx hb dJx4a65c_add_7a177_59 (by decide) ?_
    refine lv_iadd hx hb dJx4a65c_add_7a177_60 ?_
    rw [nI_1]
    refine j_putI C0 hH (show _ = 3 from hq6) 2 rfl rfl "java/util/ArrayList" (Or.inl rfl) fl_Jx4a65c_48 dJx4a65c_add_7a177_61 (fun H locs hH => ?_)
    exact e_V C0 hr hH ⟨q, by rw [aR_pI, aR_pR, if_neg (fun z => hne z.2), aR_pF, if_neg hne]; exact hq4, by rw [aI_pI, if_pos ⟨rfl, rfl⟩], hq6, hq1, by rw [aN_pI, aN_pR, aN_pF, hq2]; unfold ncap; rw [if_pos rfl], fun k hk9 => by unfold insG; rw [aR_pI, aR_pR]; by_cases e : k = i; (· subst e; rw [if_pos ⟨rfl, rfl⟩, if_neg (Nat.lt_irrefl _), if_pos rfl]); (· rw [if_neg (fun z => e z.1), aR_pF, if_pos rfl]; unfold va_cpy; by_cases e2 : k < i; (· rw [if_neg (by omega), if_pos e2]; exact hq3 k (by omega)); (· rw [if_pos ⟨by omega, by omega⟩, if_neg e2, if_neg e, show i + (k - (i + 1)) = k - 1 by omega]; exact hq3 _ (by omega))), Or.inr ⟨hq0, rfl⟩, (((((SameX.pI h 0 a (aI h 0 a + 1)).trans hq7).trans (SameX.pF _ q _)).trans (SameX.pR _ i q (some x))).trans (SameX.pI _ 2 a _)).mono (fun y hy => hy.elim (fun z => z.elim (fun w => w.elim (fun v => v.elim Or.inl (fun u => u.elim Or.inr Or.inl)) Or.inr) Or.inr) Or.inl)⟩ (by show 0 + 1 ≤ 1; omega) (by show 0 + gcap n ≤ gcap n; omega) dJx4a65c_add_7a177_64
theorem cJ_addAt (l : Launch) (G : GT) (A : Nat → Prop) (h : AH) (a x arr n cap i : Nat) (hL : LSh G.2.2.1 h a arr n cap) (hx0 : obK (aK h x)) (hi : i ≤ n) : cmV l G A yJx4a65c_add_7a177 cJx4a65c_add_7a177 5 5 147 (aC n cap) (aS n cap) [.ref (a), .int (nI i), .ref (x)] h (fun h' => Ladd h h' a arr n cap (insG h arr x i)) := by
  by_cases h0 : n = cap
  · subst h0
    unfold aC aS
    rw [if_pos rfl, if_pos rfl]
    by_cases hz : n = 0
    · exact cJ_addAt_z l G A h a x arr n i hL hx0 hi hz
    · exact cJ_addAt_eq l G A h a x arr n i hL hx0 hi (Nat.pos_of_ne_zero hz)
  · unfold aC aS
    rw [if_neg h0, if_neg h0]
    exact cJ_addAt_lt l G A h a x arr n cap i hL hx0 hi (Nat.lt_of_le_of_ne hL.2.2.2.1 h0)

