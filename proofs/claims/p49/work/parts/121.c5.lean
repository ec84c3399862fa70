set_option maxHeartbeats 800000 in
set_option maxRecDepth 100000 in
theorem cC_X8_compare (l : Launch) (G : GT) (A : Nat → Prop) (h : AH) (b : BA) (u : MM) (hR : RC G.2.2.1 h b u) (hw : WFc u) (e0 sz : Int32) : cmV l G A yX8_compare cX8_compare 3 0 0 0 0 [.ref (b 12 0), .int (e0), .int (sz)] h (fun h' => RC G.2.2.1 h' b (cCmp u e0 sz) ∧ WFc (cCmp u e0 sz)) := by
  refine cm_of "Routepost$PathTrial" rfl (by decide) (Nat.le_of_ble_eq_true rfl) ?_
  intro pr e s m9 below meth c C0 hr hname hH ls hl
  obtain ⟨hx, hb, hml, hown, hts, hK, hA, -⟩ := id C0
  have hl : lv_has ls 3 [(0, .ref (b 12 0)), (1, .int (e0)), (2, .int (sz))] := hl
  have hc7 := hw.cnt6 7
  have hc8 := hw.cnt6 8
  have hc9 := hw.cnt6 9
  refine lv_aload_n hx hb dX8_compare_0 rfl (lv_at hl 0 rfl) ?_
  refine c_getI C0 hH hR ci_12 (i := 0) (j := 3) rfl rfl (by decide) rfl fl_X8_28 (v := u 153 0) rfl dX8_compare_1 ?_
  refine lv_iconst (v := (-1)) hx hb dX8_compare_4 (by decide) ?_
  refine lv_icmp_eq (tgt := 32) hx hb dX8_compare_5 (by decide) (fun c5_1 => ?_) (fun c5_1 => ?_)
  · refine lv_aload_n hx hb dX8_compare_32 rfl (lv_at hl 0 rfl) ?_
    refine lv_iload_n hx hb dX8_compare_33 rfl (lv_at hl 1 rfl) ?_
    refine c_putI C0 hH hR ci_12 (i := 0) (j := 3) rfl rfl (k := 153) rfl (by decide) (by decide) rfl fl_X8_28 rfl (x := e0) rfl rfl dX8_compare_34 (fun h H locs hH hR => ?_)
    replace hw := hw.upx (k := 153) (i := 0) (x := e0) (by unfold kWc kSz; decide)
    refine lv_aload_n hx hb dX8_compare_37 rfl (lv_at hl 0 rfl) ?_
    refine lv_iload_n hx hb dX8_compare_38 rfl (lv_at hl 2 rfl) ?_
    refine c_putI C0 hH hR ci_12 (i := 0) (j := 2) rfl rfl (k := 152) rfl (by decide) (by decide) rfl fl_X8_24 rfl (x := sz) rfl rfl dX8_compare_39 (fun h H locs hH hR => ?_)
    replace hw := hw.upx (k := 152) (i := 0) (x := sz) (by unfold kWc kSz; decide)
    refine lv_aload_n hx hb dX8_compare_42 rfl (lv_at hl 0 rfl) ?_
    refine lv_aload_n hx hb dX8_compare_43 rfl (lv_at hl 0 rfl) ?_
    refine c_getR C0 hH hR ci_12 (i := 0) (j := 1) rfl rfl (by decide) rfl fl_X8_20 (v := dec b 8 (u 151 0)) (show dec b 8 ((up (up u 153 0 e0) 152 0 sz) 151 0) = dec b 8 (u 151 0) from congrArg _ rfl) dX8_compare_44 ?_
    refine c_putR C0 hH hR ci_12 (i := 0) (j := 4) rfl rfl (k := 154) rfl (by decide) rfl fl_X8_31 rfl ⟨_, rfl⟩ (u 151 0) (v := dec b 8 (u 151 0)) rfl dX8_compare_47 (fun h H locs hH hR => ?_)
    replace hw := hw.upr (k := 154) (i := 0) (x := u 151 0) (by decide) (hw.rg (k := 151) (by decide) 0) (fun z => absurd z (by omega)) (fun z => absurd z (by omega)) (fun z => absurd z (by omega))
    have eM : (cCmp u e0 sz) = (up (up (up u 153 0 e0) 152 0 sz) 154 0 (u 151 0)) := by simp [cCmp, eq_true c5_1]
    exact e_V C0 hr hH (by rw [eM]; exact ⟨hR, hw⟩) (Nat.le_of_ble_eq_true rfl) (Nat.le_of_ble_eq_true rfl) dX8_compare_50
  · refine lv_iload_n hx hb dX8_compare_8 rfl (lv_at hl 1 rfl) ?_
    refine lv_aload_n hx hb dX8_compare_9 rfl (lv_at hl 0 rfl) ?_
    refine c_getI C0 hH hR ci_12 (i := 0) (j := 3) rfl rfl (by decide) rfl fl_X8_28 (v := u 153 0) rfl dX8_compare_10 ?_
    refine lv_icmp_lt (tgt := 32) hx hb dX8_compare_13 (by decide) (fun c13_2 => ?_) (fun c13_2 => ?_)
    · refine lv_aload_n hx hb dX8_compare_32 rfl (lv_at hl 0 rfl) ?_
      refine lv_iload_n hx hb dX8_compare_33 rfl (lv_at hl 1 rfl) ?_
      refine c_putI C0 hH hR ci_12 (i := 0) (j := 3) rfl rfl (k := 153) rfl (by decide) (by decide) rfl fl_X8_28 rfl (x := e0) rfl rfl dX8_compare_34 (fun h H locs hH hR => ?_)
      replace hw := hw.upx (k := 153) (i := 0) (x := e0) (by unfold kWc kSz; decide)
      refine lv_aload_n hx hb dX8_compare_37 rfl (lv_at hl 0 rfl) ?_
      refine lv_iload_n hx hb dX8_compare_38 rfl (lv_at hl 2 rfl) ?_
      refine c_putI C0 hH hR ci_12 (i := 0) (j := 2) rfl rfl (k := 152) rfl (by decide) (by decide) rfl fl_X8_24 rfl (x := sz) rfl rfl dX8_compare_39 (fun h H locs hH hR => ?_)
      replace hw := hw.upx (k := 152) (i := 0) (x := sz) (by unfold kWc kSz; decide)
      refine lv_aload_n hx hb dX8_compare_42 rfl (lv_at hl 0 rfl) ?_
      refine lv_aload_n hx hb dX8_compare_43 rfl (lv_at hl 0 rfl) ?_
      refine c_getR C0 hH hR ci_12 (i := 0) (j := 1) rfl rfl (by decide) rfl fl_X8_20 (v := dec b 8 (u 151 0)) (show dec b 8 ((up (up u 153 0 e0) 152 0 sz) 151 0) = dec b 8 (u 151 0) from congrArg _ rfl) dX8_compare_44 ?_
      refine c_putR C0 hH hR ci_12 (i := 0) (j := 4) rfl rfl (k := 154) rfl (by decide) rfl fl_X8_31 rfl ⟨_, rfl⟩ (u 151 0) (v := dec b 8 (u 151 0)) rfl dX8_compare_47 (fun h H locs hH hR => ?_)
      replace hw := hw.upr (k := 154) (i := 0) (x := u 151 0) (by decide) (hw.rg (k := 151) (by decide) 0) (fun z => absurd z (by omega)) (fun z => absurd z (by omega)) (fun z => absurd z (by omega))
      have eM : (cCmp u e0 sz) = (up (up (up u 153 0 e0) 152 0 sz) 154 0 (u 151 0)) := by simp [cCmp, eq_false c5_1, c13_2, Int32.not_le.mpr c13_2]
      exact e_V C0 hr hH (by rw [eM]; exact ⟨hR, hw⟩) (Nat.le_of_ble_eq_true rfl) (Nat.le_of_ble_eq_true rfl) dX8_compare_50
    · refine lv_iload_n hx hb dX8_compare_16 rfl (lv_at hl 1 rfl) ?_
      refine lv_aload_n hx hb dX8_compare_17 rfl (lv_at hl 0 rfl) ?_
      refine c_getI C0 hH hR ci_12 (i := 0) (j := 3) rfl rfl (by decide) rfl fl_X8_28 (v := u 153 0) rfl dX8_compare_18 ?_
      refine lv_icmp_ne (tgt := 50) hx hb dX8_compare_21 (by decide) (fun c21_3 => ?_) (fun c21_3 => ?_)
      · have eM : (cCmp u e0 sz) = u := by simp [cCmp, eq_false c5_1, c13_2, Int32.not_lt.mp c13_2, eq_false c21_3]
        exact e_V C0 hr hH (by rw [eM]; exact ⟨hR, hw⟩) (Nat.le_of_ble_eq_true rfl) (Nat.le_of_ble_eq_true rfl) dX8_compare_50
      · refine lv_iload_n hx hb dX8_compare_24 rfl (lv_at hl 2 rfl) ?_
        refine lv_aload_n hx hb dX8_compare_25 rfl (lv_at hl 0 rfl) ?_
        refine c_getI C0 hH hR ci_12 (i := 0) (j := 2) rfl rfl (by decide) rfl fl_X8_24 (v := u 152 0) rfl dX8_compare_26 ?_
        refine lv_icmp_ge (tgt := 50) hx hb dX8_compare_29 (by decide) (fun c29_4 => ?_) (fun c29_4 => ?_)
        · have eM : (cCmp u e0 sz) = u := by simp [cCmp, eq_false c5_1, c13_2, Int32.not_lt.mp c13_2, eq_true c21_3, c29_4, Int32.not_lt.mpr c29_4]
          exact e_V C0 hr hH (by rw [eM]; exact ⟨hR, hw⟩) (Nat.le_of_ble_eq_true rfl) (Nat.le_of_ble_eq_true rfl) dX8_compare_50
        · refine lv_aload_n hx hb dX8_compare_32 rfl (lv_at hl 0 rfl) ?_
          refine lv_iload_n hx hb dX8_compare_33 rfl (lv_at hl 1 rfl) ?_
          refine c_putI C0 hH hR ci_12 (i := 0) (j := 3) rfl rfl (k := 153) rfl (by decide) (by decide) rfl fl_X8_28 rfl (x := e0) rfl rfl dX8_compare_34 (fun h H locs hH hR => ?_)
          replace hw := hw.upx (k := 153) (i := 0) (x := e0) (by unfold kWc kSz; decide)
          refine lv_aload_n hx hb dX8_compare_37 rfl (lv_at hl 0 rfl) ?_
          refine lv_iload_n hx hb dX8_compare_38 rfl (lv_at hl 2 rfl) ?_
          refine c_putI C0 hH hR ci_12 (i := 0) (j := 2) rfl rfl (k := 152) rfl (by decide) (by decide) rfl fl_X8_24 rfl (x := sz) rfl rfl dX8_compare_39 (fun h H locs hH hR => ?_)
          replace hw := hw.upx (k := 152) (i := 0) (x := sz) (by unfold kWc kSz; decide)
          refine lv_aload_n hx hb dX8_compare_42 rfl (lv_at hl 0 rfl) ?_
          refine lv_aload_n hx hb dX8_compare_43 rfl (lv_at hl 0 rfl) ?_
          refine c_getR C0 hH hR ci_12 (i := 0) (j := 1) rfl rfl (by decide) rfl fl_X8_20 (v := dec b 8 (u 151 0)) (show dec b 8 ((up (up u 153 0 e0) 152 0 sz) 151 0) = dec b 8 (u 151 0) from congrArg _ rfl) dX8_compare_44 ?_
          refine c_putR C0 hH hR ci_12 (i := 0) (j := 4) rfl rfl (k := 154) rfl (by decide) rfl fl_X8_31 rfl ⟨_, rfl⟩ (u 151 0) (v := dec b 8 (u 151 0)) rfl dX8_compare_47 (fun h H locs hH hR => ?_)
          replace hw := hw.upr (k := 154) (i := 0) (x := u 151 0) (by decide) (hw.rg (k := 151) (by decide) 0) (fun z => absurd z (by omega)) (fun z => absurd z (by omega)) (fun z => absurd z (by omega))
          have eM : (cCmp u e0 sz) = (up (up (up u 153 0 e0) 152 0 sz) 154 0 (u 151 0)) := by simp [cCmp, eq_false c5_1, c13_2, Int32.not_lt.mp c13_2, eq_true c21_3, c29_4, Int32.not_le.mp c29_4]
          exact e_V C0 hr hH (by rw [eM]; exact ⟨hR, hw⟩) (Nat.le_of_ble_eq_true rfl) (Nat.le_of_ble_eq_true rfl) dX8_compare_50
theorem cTry_s (d size : Nat) (u : MM) (hb now rd vis : Int32) : cTry (d + 1) size u hb now rd vis = if hb = u 150 0 then cCmp u now (nI size) else if 5 ≤ size then u else cTryL (fun u' hb' now' rd' vis' => cTry d (size + 1) u' hb' now' rd' vis') hb rd vis size (nlN u) 0 u := rfl
theorem cCmp_key (u : MM) (e sz : Int32) {k : Nat} (hk : k < 151 ∨ 154 < k) : cCmp u e sz k = u k := by
  unfold cCmp
  split
  · rw [up_key (by omega), up_key (by omega), up_key (by omega)]
  · rfl
theorem cTryL_key (rec : MM → Int32 → Int32 → Int32 → Int32 → MM) (hb rd vis : Int32) (size : Nat) {k : Nat} (hk : k < 151 ∨ 154 < k) (hrec : ∀ u a b c d, rec u a b c d k = u k) : ∀ (n l : Nat) (u : MM), cTryL rec hb rd vis size n l u k = u k := by
  intro n
  induction n with
  | zero => intro l u; rfl
  | succ n ih =>
    intro l u
    show cTryL rec hb rd vis size n (l + 1) _ k = _
    rw [ih]
    split
    · rw [hrec]
      split
      · exact up_key (by omega)
      · rfl
    · rfl
theorem cTry_key : ∀ (d size : Nat) (u : MM) (hb now rd vis : Int32) {k : Nat}, (k < 151 ∨ 154 < k) → cTry d size u hb now rd vis k = u k := by
  intro d
  induction d with
  | zero => intro size u hb now rd vis k _; rfl
  | succ d ih =>
    intro size u hb now rd vis k hk
    rw [cTry_s]
    split
    · exact cCmp_key u now _ hk
    · split
      · rfl
      · exact cTryL_key _ _ _ _ _ hk (fun u a b c d => ih _ u a b c d hk) _ _ _
theorem cTry_n (d size : Nat) (u : MM) (hb now rd vis : Int32) : nhN (cTry d size u hb now rd vis) = nhN u ∧ nlN (cTry d size u hb now rd vis) = nlN u ∧ npN (cTry d size u hb now rd vis) = npN u := ⟨nhN_ext (cTry_key _ _ _ _ _ _ _ (by omega)), nlN_ext (cTry_key _ _ _ _ _ _ _ (by omega)), npN_ext (cTry_key _ _ _ _ _ _ _ (by omega))⟩
set_option maxHeartbeats 800000 in
set_option maxRecDepth 100000 in
theorem cC_X8_tryFrom (l : Launch) (G : GT) (A : Nat → Prop) (b : BA) : ∀ (d : Nat) (h : AH) (u : MM) (hR : RC G.2.2.1 h b u) (hw : WFc u) (x : Nat) (now rd vis : Int32) (size : Nat) (hx0 : x < nhN u) (hz : size + d = 6) (hz5 : size ≤ 5), cmV l G A yX8_tryFrom cX8_tryFrom 11 (d + 3) (30 * d + 70) 0 0 [.ref (b 12 0), .ref (b 3 1), .ref (b 7 x), .int (now), .int (rd), .int (vis), .int (nI size)] h (fun h' => RC G.2.2.1 h' b (cTry d size u (nI x) now rd vis) ∧ WFc (cTry d size u (nI x) now rd vis)) := by
  intro d
  induction d with
  | zero => intro h u hR hw x now rd vis size hx0 hz hz5; exact absurd hz (by omega)
  | succ d ihd =>
    intro h u hR hw x now rd vis size hx0 hz hz5
    refine cm_of "Routepost$PathTrial" rfl (by decide) (Nat.le_of_ble_eq_true rfl) ?_
    intro pr e s m9 below meth c C0 hr hname hH ls hl
    obtain ⟨hx, hb, hml, hown, hts, hK, hA, -⟩ := id C0
    have hl : lv_has ls 11 [(0, .ref (b 12 0)), (1, .ref (b 3 1)), (2, .ref (b 7 x)), (3, .int (now)), (4, .int (rd)), (5, .int (vis)), (6, .int (nI size))] := hl
    have hc7 := hw.cnt6 7
    have hc8 := hw.cnt6 8
    have hc9 := hw.cnt6 9
    have hx00 := hx0
    refine lv_aload_n hx hb dX8_tryFrom_0 rfl (lv_at hl 2 rfl) ?_
    refine lv_aload_n hx hb dX8_tryFrom_1 rfl (lv_at hl 0 rfl) ?_
    refine c_getR C0 hH hR ci_12 (i := 0) (j := 0) rfl rfl (by decide) rfl fl_X8_15 (v := dec b 7 (u 150 0)) (show dec b 7 (u 150 0) = dec b 7 (u 150 0) from congrArg _ rfl) dX8_tryFrom_2 ?_
    refine lv_acmp_ne (rx := some (b 7 x)) (ry := dec b 7 (u 150 0)) (tgt := 16) hx hb dX8_tryFrom_5 (by decide) (fun c5_1 => ?_) (fun c5_1 => ?_)
    · rw [(eq_comm.trans (hR.acQ hw (T := 7) (by omega) (hw.rg (k := 150) (by decide) 0) hx0)).trans eq_comm] at c5_1
      have c5 := c5_1
      refine lv_iload hx hb dX8_tryFrom_16 (lv_at hl 6 rfl) ?_
      refine lv_iconst (v := 5) hx hb dX8_tryFrom_18 (by decide) ?_
      refine lv_icmp_lt (tgt := 23) hx hb dX8_tryFrom_19 (by decide) (fun c19_2 => ?_) (fun c19_2 => ?_)
      · have hs5 : ¬ 5 ≤ size := fun z => absurd c19_2 (Int32.not_lt.mpr (by rw [show (5 : Int32) = nI 5 from rfl]; exact nI_le z (by omega)))
        refine lv_iconst (v := 0) hx hb dX8_tryFrom_23 (by decide) ?_
        refine lv_istore (lv' := [(7, .int (0)), (0, .ref (b 12 0)), (1, .ref (b 3 1)), (2, .ref (b 7 x)), (3, .int (now)), (4, .int (rd)), (5, .int (vis)), (6, .int (nI size))]) hx hb dX8_tryFrom_24 hl (by decide) rfl (fun ls hl => ?_)
        have K : ∀ (k : Nat) (l0 : Nat) (U : MM), l0 + k = nlN u → cTryL (fun u' hb' now' rd' vis' => cTry d (size + 1) u' hb' now' rd' vis') (nI x) rd vis size k l0 U = cTryL (fun u' hb' now' rd' vis' => cTry d (size + 1) u' hb' now' rd' vis') (nI x) rd vis size (nlN u) 0 u → nhN U = nhN u ∧ nlN U = nlN u → ∀ (h : AH) (H : Heap) (locs : List Loc) (hH : HS G.1 G.2.1 A s.heap h H locs) (hR : RC G.2.2.1 h b U) (hw : WFc U) (ls : Array Slot), lv_has ls 11 [(7, .int (nI l0)), (0, .ref (b 12 0)), (1, .ref (b 3 1)), (2, .ref (b 7 x)), (3, .int (now)), (4, .int (rd)), (5, .int (vis)), (6, .int (nI size))] → W pr l e (rmm (d + 1 + 3) (30 * (d + 1) + 70) 0 0) s m9 ([.ref (b 12 0), .ref (b 3 1), .ref (b 7 x), .int (now), .int (rd), .int (vis), .int (nI size)] : List Value).toArray below meth c H locs 0 0 (QV below G A (fun h' => RC G.2.2.1 h' b (cTry (d + 1) size u (nI x) now rd vis) ∧ WFc (cTry (d + 1) size u (nI x) now rd vis)) ([.ref (b 12 0), .ref (b 3 1), .ref (b 7 x), .int (now), .int (rd), .int (vis), .int (nI size)] : List Value).toArray s 0 0) (F0 m9 26 ls []) := by
          intro k
          induction k with
          | zero =>
            intro l0 U hik hT hnU h H locs hH hR hw ls hl
            have hc7 := hw.cnt6 7
            have hc8 := hw.cnt6 8
            have hx0 : x < nhN U := by rw [hnU.1]; exact hx00
            refine lv_iload hx hb dX8_tryFrom_26 (lv_at hl 0 rfl) ?_
            refine lv_aload_n hx hb dX8_tryFrom_28 rfl (lv_at hl 2 rfl) ?_
            refine k_i hH (k_runV (rest := [.int (nI l0)]) C0 hH (cL_size l G A _ b _ hR hw 1 (show 1 < 6 + npN _ by omega)) mv_Jx4a65c_size_8abf5 ml_X8_57 ci_3 (hR.kind (K := 3) (i := 1) (show 1 < 6 + npN _ by omega)) rfl ⟨by show 0 + 1 ≤ d + 1 + 3; omega, by show 8 + (1 + 11) + 0 ≤ 30 * (d + 1) + 70; omega⟩ hl.1 rfl (Nat.le_of_ble_eq_true rfl) dX8_tryFrom_29 (by simp)) (fun r9 h1 H locs hp hH => ?_)
            obtain ⟨er9, eh⟩ := hp
            rw [eh] at hH
            clear eh
            rw [hw.sz1] at er9
            subst er9
            refine lv_icmp_ge (tgt := 148) hx hb dX8_tryFrom_32 (by decide) (fun c32_3 => ?_) (fun c32_3 => ?_)
            · have eM : (cTry (d + 1) size u (nI x) now rd vis) = U := by rw [cTry_s, if_neg c5, if_neg hs5, ← hT]; rfl
              exact e_V C0 hr hH (by rw [eM]; exact ⟨hR, hw⟩) (Nat.le_of_ble_eq_true rfl) (Nat.le_of_ble_eq_true rfl) dX8_tryFrom_148
            · exact absurd (by rw [hnU.2, show l0 = nlN u by omega]; exact Int32.le_refl _) c32_3
          | succ k ih =>
            intro l0 U hik hT hnU h H locs hH hR hw ls hl
            have hc7 := hw.cnt6 7
            have hc8 := hw.cnt6 8
            have hx0 : x < nhN U := by rw [hnU.1]; exact hx00
            refine lv_iload hx hb dX8_tryFrom_26 (lv_at hl 0 rfl) ?_
            refine lv_aload_n hx hb dX8_tryFrom_28 rfl (lv_at hl 2 rfl) ?_
            refine k_i hH (k_runV (rest := [.int (nI l0)]) C0 hH (cL_size l G A _ b _ hR hw 1 (show 1 < 6 + npN _ by omega)) mv_Jx4a65c_size_8abf5 ml_X8_57 ci_3 (hR.kind (K := 3) (i := 1) (show 1 < 6 + npN _ by omega)) rfl ⟨by show 0 + 1 ≤ d + 1 + 3; omega, by show 8 + (1 + 11) + 0 ≤ 30 * (d + 1) + 70; omega⟩ hl.1 rfl (Nat.le_of_ble_eq_true rfl) dX8_tryFrom_29 (by simp)) (fun r9 h1 H locs hp hH => ?_)
            obtain ⟨er9, eh⟩ := hp
            rw [eh] at hH
            clear eh
            rw [hw.sz1] at er9
            subst er9
            refine lv_icmp_ge (tgt := 148) hx hb dX8_tryFrom_32 (by decide) (fun c32_4 => ?_) (fun c32_4 => ?_)
            · exact absurd c32_4 (nI_ge (show l0 < nlN U by omega) (by have := hw.nl; omega))
            · refine lv_aload_n hx hb dX8_tryFrom_35 rfl (lv_at hl 2 rfl) ?_
              refine lv_iload hx hb dX8_tryFrom_36 (lv_at hl 0 rfl) ?_
              refine k_q hH (k_runV (rest := []) C0 hH (cL_get l G A _ b _ hR hw 1 l0 (show 1 < 6 + npN _ by omega) (by rw [hw.sz1]; omega) (a := b 8 l0) rfl) mv_Jx4a65c_get_915e3 ml_X8_63 ci_3 (hR.kind (K := 3) (i := 1) (show 1 < 6 + npN _ by omega)) rfl ⟨by show 2 + 1 ≤ d + 1 + 3; omega, by show 8 + (2 + 11) + 43 ≤ 30 * (d + 1) + 70; omega⟩ hl.1 rfl (Nat.le_of_ble_eq_true rfl) dX8_tryFrom_38 (by simp)) (fun r9 h1 H locs hp hH => ?_)
              obtain ⟨er9, eh⟩ := hp
              rw [eh] at hH
              clear eh
              subst er9
              refine k_chk C0 hH ci_8 (hR.kind (K := 8) (i := l0) (show l0 < nlN U by omega)) cl_X8_67 dX8_tryFrom_41 ?_
              refine lv_astore (lv' := [(8, .ref (b 8 l0)), (7, .int (nI l0)), (0, .ref (b 12 0)), (1, .ref (b 3 1)), (2, .ref (b 7 x)), (3, .int (now)), (4, .int (rd)), (5, .int (vis)), (6, .int (nI size))]) hx hb dX8_tryFrom_44 hl (by decide) rfl (fun ls hl => ?_)
              refine lv_iconst (v := 1) hx hb dX8_tryFrom_46 (by decide) ?_
              refine lv_aload hx hb dX8_tryFrom_47 (lv_at hl 0 rfl) ?_
              obtain ⟨v_5, hv_5, ev_5⟩ := hw.exH (show vp_in (U 3 l0) _ from (hw.ln (show l0 < nlN U by omega)).2)
              have kv_5 : (U 3 l0).toNatClampNeg = v_5 := by rw [ev_5]; exact nI_clamp (by have := hw.nh; have := hw.np; omega)
              refine c_getR C0 hH hR ci_8 (i := l0) (j := 2) (show l0 < nlN U by omega) rfl (by decide) rfl fl_X8_69 (v := some (b 7 v_5)) (show dec b 7 (U 3 l0) = some (b 7 v_5) from by rw [show U 3 l0 = nI v_5 from Eq.trans rfl ev_5]; exact dec_nI (by have := hc7; have := (show v_5 < cnt U 7 from hv_5); omega)) dX8_tryFrom_49 ?_
              refine c_getI C0 hH hR ci_7 (i := v_5) (j := 0) hv_5 rfl (by decide) rfl fl_X8_46 (v := U 3 l0) ev_5.symm dX8_tryFrom_52 ?_
              refine lv_ishl hx hb dX8_tryFrom_55 ?_
              refine lv_istore (lv' := [(9, .int (1 <<< ((U 3 l0) &&& 31))), (8, .ref (b 8 l0)), (7, .int (nI l0)), (0, .ref (b 12 0)), (1, .ref (b 3 1)), (2, .ref (b 7 x)), (3, .int (now)), (4, .int (rd)), (5, .int (vis)), (6, .int (nI size))]) hx hb dX8_tryFrom_56 hl (by decide) rfl (fun ls hl => ?_)
              refine lv_aload hx hb dX8_tryFrom_58 (lv_at hl 1 rfl) ?_
              refine c_getI C0 hH hR ci_8 (i := l0) (j := 8) (show l0 < nlN U by omega) rfl (by decide) rfl fl_X8_72 (v := U 108 l0) rfl dX8_tryFrom_60 ?_
              refine lv_if_eq (tgt := 142) hx hb dX8_tryFrom_63 (by decide) (fun c63_6 => ?_) (fun c63_6 => ?_)
              · refine lv_iinc (v := nI (l0 + 1)) (lv' := [(7, .int (nI (l0 + 1))), (9, .int (1 <<< ((U 3 l0) &&& 31))), (8, .ref (b 8 l0)), (0, .ref (b 12 0)), (1, .ref (b 3 1)), (2, .ref (b 7 x)), (3, .int (now)), (4, .int (rd)), (5, .int (vis)), (6, .int (nI size))]) hx hb dX8_tryFrom_142 hl (k := 2) rfl (by rw [← nI_1]; rfl) (by decide) rfl (fun ls hl => ?_)
                refine lv_goto (tgt := 26) hx hb dX8_tryFrom_145 (by decide) ?_
                have eX : (if cGo U (nI x) vis l0 then ((fun u' hb' now' rd' vis' => cTry d (size + 1) u' hb' now' rd' vis') : MM → Int32 → Int32 → Int32 → Int32 → MM) (if size = 0 then up U 151 0 (nI l0) else U) (U 3 l0) (cDep U l0 rd + U 6 l0) (cRdy U (U 3 l0).toNatClampNeg (cDep U l0 rd + U 6 l0) (cDep U l0 rd + U 6 l0)) (vis ||| (1 <<< (U 3 l0 &&& 31))) else U) = U := if_neg (fun z => z.1 c63_6)
                exact ih (l0 + 1) U (by omega) (by rw [← hT]; show _ = cTryL (fun u' hb' now' rd' vis' => cTry d (size + 1) u' hb' now' rd' vis') (nI x) rd vis size k (l0 + 1) _; rw [eX]) (hnU) _ _ _ hH hR hw ls (lv_sub hl [0, 3, 4, 5, 6, 7, 8, 9] rfl)
              · refine lv_aload hx hb dX8_tryFrom_66 (lv_at hl 1 rfl) ?_
                obtain ⟨v_7, hv_7, ev_7⟩ := hw.exH (show vp_in (U 2 l0) _ from (hw.ln (show l0 < nlN U by omega)).1)
                have kv_7 : (U 2 l0).toNatClampNeg = v_7 := by rw [ev_7]; exact nI_clamp (by have := hw.nh; have := hw.np; omega)
                refine c_getR C0 hH hR ci_8 (i := l0) (j := 1) (show l0 < nlN U by omega) rfl (by decide) rfl fl_X8_76 (v := some (b 7 v_7)) (show dec b 7 (U 2 l0) = some (b 7 v_7) from by rw [show U 2 l0 = nI v_7 from Eq.trans rfl ev_7]; exact dec_nI (by have := hc7; have := (show v_7 < cnt U 7 from hv_7); omega)) dX8_tryFrom_68 ?_
                refine lv_aload_n hx hb dX8_tryFrom_71 rfl (lv_at hl 5 rfl) ?_
                refine lv_acmp_ne (rx := some (b 7 v_7)) (ry := some (b 7 x)) (tgt := 142) hx hb dX8_tryFrom_72 (by decide) (fun c72_8 => ?_) (fun c72_8 => ?_)
                · rw [hR.acR hw (T := 7) (by omega) hv_7 hx0] at c72_8
                  rw [← ev_7] at c72_8
                  refine lv_iinc (v := nI (l0 + 1)) (lv' := [(7, .int (nI (l0 + 1))), (9, .int (1 <<< ((U 3 l0) &&& 31))), (8, .ref (b 8 l0)), (0, .ref (b 12 0)), (1, .ref (b 3 1)), (2, .ref (b 7 x)), (3, .int (now)), (4, .int (rd)), (5, .int (vis)), (6, .int (nI size))]) hx hb dX8_tryFrom_142 hl (k := 2) rfl (by rw [← nI_1]; rfl) (by decide) rfl (fun ls hl => ?_)
                  refine lv_goto (tgt := 26) hx hb dX8_tryFrom_145 (by decide) ?_
                  have eX : (if cGo U (nI x) vis l0 then ((fun u' hb' now' rd' vis' => cTry d (size + 1) u' hb' now' rd' vis') : MM → Int32 → Int32 → Int32 → Int32 → MM) (if size = 0 then up U 151 0 (nI l0) else U) (U 3 l0) (cDep U l0 rd + U 6 l0) (cRdy U (U 3 l0).toNatClampNeg (cDep U l0 rd + U 6 l0) (cDep U l0 rd + U 6 l0)) (vis ||| (1 <<< (U 3 l0 &&& 31))) else U) = U := if_neg (fun z => c72_8 z.2.1)
                  exact ih (l0 + 1) U (by omega) (by rw [← hT]; show _ = cTryL (fun u' hb' now' rd' vis' => cTry d (size + 1) u' hb' now' rd' vis') (nI x) rd vis size k (l0 + 1) _; rw [eX]) (hnU) _ _ _ hH hR hw ls (lv_sub hl [0, 3, 4, 5, 6, 7, 8, 9] rfl)
                · rw [hR.acR hw (T := 7) (by omega) hv_7 hx0] at c72_8
                  rw [← ev_7] at c72_8
                  refine lv_iload hx hb dX8_tryFrom_75 (lv_at hl 8 rfl) ?_
                  refine lv_iload hx hb dX8_tryFrom_77 (lv_at hl 0 rfl) ?_
                  refine lv_iand hx hb dX8_tryFrom_79 ?_
                  refine lv_if_ne (tgt := 142) hx hb dX8_tryFrom_80 (by decide) (fun c80_9 => ?_) (fun c80_9 => ?_)
                  · refine lv_iinc (v := nI (l0 + 1)) (lv' := [(7, .int (nI (l0 + 1))), (9, .int (1 <<< ((U 3 l0) &&& 31))), (8, .ref (b 8 l0)), (0, .ref (b 12 0)), (1, .ref (b 3 1)), (2, .ref (b 7 x)), (3, .int (now)), (4, .int (rd)), (5, .int (vis)), (6, .int (nI size))]) hx hb dX8_tryFrom_142 hl (k := 2) rfl (by rw [← nI_1]; rfl) (by decide) rfl (fun ls hl => ?_)
                    refine lv_goto (tgt := 26) hx hb dX8_tryFrom_145 (by decide) ?_
                    have eX : (if cGo U (nI x) vis l0 then ((fun u' hb' now' rd' vis' => cTry d (size + 1) u' hb' now' rd' vis') : MM → Int32 → Int32 → Int32 → Int32 → MM) (if size = 0 then up U 151 0 (nI l0) else U) (U 3 l0) (cDep U l0 rd + U 6 l0) (cRdy U (U 3 l0).toNatClampNeg (cDep U l0 rd + U 6 l0) (cDep U l0 rd + U 6 l0)) (vis ||| (1 <<< (U 3 l0 &&& 31))) else U) = U := if_neg (fun z => c80_9 z.2.2)
                    exact ih (l0 + 1) U (by omega) (by rw [← hT]; show _ = cTryL (fun u' hb' now' rd' vis' => cTry d (size + 1) u' hb' now' rd' vis') (nI x) rd vis size k (l0 + 1) _; rw [eX]) (hnU) _ _ _ hH hR hw ls (lv_sub hl [0, 3, 4, 5, 6, 7, 8, 9] rfl)
                  · refine lv_iload hx hb dX8_tryFrom_83 (lv_at hl 9 rfl) ?_
                    refine lv_if_ne (tgt := 94) hx hb dX8_tryFrom_85 (by decide) (fun c85_10 => ?_) (fun c85_10 => ?_)
                    · have hz : ¬ size = 0 := fun z => c85_10 (by rw [z]; rfl)
                      refine lv_aload hx hb dX8_tryFrom_94 (lv_at hl 1 rfl) ?_
                      refine lv_iload hx hb dX8_tryFrom_96 (lv_at hl 7 rfl) ?_
                      refine k_i hH (k_runV (rest := []) C0 hH (cC_X4_departureFrom l G A _ b _ hR hw l0 rd (show l0 < nlN U by omega)) mv_X4_departureFrom ml_X8_79 ci_8 (hR.kind (K := 8) (i := l0) (show l0 < nlN U by omega)) rfl ⟨by show 0 + 1 ≤ d + 1 + 3; omega, by show 8 + (3 + 11) + 0 ≤ 30 * (d + 1) + 70; omega⟩ hl.1 rfl (Nat.le_of_ble_eq_true rfl) dX8_tryFrom_98 (by simp)) (fun r_11 h1 H locs hp hH => ?_)
                      obtain ⟨er_11, eh⟩ := hp
                      rw [eh] at hH
                      clear eh
                      subst er_11
                      refine lv_aload hx hb dX8_tryFrom_101 (lv_at hl 1 rfl) ?_
                      refine c_getI C0 hH hR ci_8 (i := l0) (j := 7) (show l0 < nlN U by omega) rfl (by decide) rfl fl_X8_83 (v := U 6 l0) rfl dX8_tryFrom_103 ?_
                      refine lv_iadd hx hb dX8_tryFrom_106 ?_
                      refine lv_istore (lv' := [(10, .int ((cDep U l0 rd) + (U 6 l0))), (9, .int (1 <<< ((U 3 l0) &&& 31))), (8, .ref (b 8 l0)), (7, .int (nI l0)), (0, .ref (b 12 0)), (1, .ref (b 3 1)), (2, .ref (b 7 x)), (3, .int (now)), (4, .int (rd)), (5, .int (vis)), (6, .int (nI size))]) hx hb dX8_tryFrom_107 hl (by decide) rfl (fun ls hl => ?_)
                      refine lv_aload_n hx hb dX8_tryFrom_109 rfl (lv_at hl 4 rfl) ?_
                      refine lv_aload_n hx hb dX8_tryFrom_110 rfl (lv_at hl 5 rfl) ?_
                      refine lv_aload hx hb dX8_tryFrom_111 (lv_at hl 2 rfl) ?_
                      refine c_getR C0 hH hR ci_8 (i := l0) (j := 2) (show l0 < nlN U by omega) rfl (by decide) rfl fl_X8_69 (v := some (b 7 v_5)) (show dec b 7 (U 3 l0) = some (b 7 v_5) from by rw [show U 3 l0 = nI v_5 from Eq.trans rfl ev_5]; exact dec_nI (by have := hc7; have := (show v_5 < cnt U 7 from hv_5); omega)) dX8_tryFrom_113 ?_
                      refine lv_iload hx hb dX8_tryFrom_116 (lv_at hl 0 rfl) ?_
                      refine lv_aload hx hb dX8_tryFrom_118 (lv_at hl 2 rfl) ?_
                      refine c_getR C0 hH hR ci_8 (i := l0) (j := 2) (show l0 < nlN U by omega) rfl (by decide) rfl fl_X8_69 (v := some (b 7 v_5)) (show dec b 7 (U 3 l0) = some (b 7 v_5) from by rw [show U 3 l0 = nI v_5 from Eq.trans rfl ev_5]; exact dec_nI (by have := hc7; have := (show v_5 < cnt U 7 from hv_5); omega)) dX8_tryFrom_120 ?_
                      refine lv_iload hx hb dX8_tryFrom_123 (lv_at hl 0 rfl) ?_
                      refine lv_iload hx hb dX8_tryFrom_125 (lv_at hl 0 rfl) ?_
                      refine k_i hH (k_runV (rest := [.int ((cDep U l0 rd) + (U 6 l0)), .ref (b 7 v_5), .ref (b 3 1), .ref (b 12 0)]) C0 hH (cC_X3_readyFrom l G A _ b _ hR hw v_5 ((cDep U l0 rd) + (U 6 l0)) ((cDep U l0 rd) + (U 6 l0)) hv_5) mv_X3_readyFrom ml_X8_40 ci_7 (hR.kind (K := 7) (i := v_5) hv_5) rfl ⟨by show 1 + 1 ≤ d + 1 + 3; omega, by show 8 + (3 + 11) + 21 ≤ 30 * (d + 1) + 70; omega⟩ hl.1 rfl (Nat.le_of_ble_eq_true rfl) dX8_tryFrom_127 (by simp)) (fun r_12 h1 H locs hp hH => ?_)
                      obtain ⟨er_12, eh⟩ := hp
                      rw [eh] at hH
                      clear eh
                      subst er_12
                      refine lv_iload hx hb dX8_tryFrom_130 (lv_at hl 9 rfl) ?_
                      refine lv_iload hx hb dX8_tryFrom_132 (lv_at hl 1 rfl) ?_
                      refine lv_ior hx hb dX8_tryFrom_134 ?_
                      refine lv_iload hx hb dX8_tryFrom_135 (lv_at hl 10 rfl) ?_
                      refine lv_iconst (v := 1) hx hb dX8_tryFrom_137 (by decide) ?_
                      refine lv_iadd hx hb dX8_tryFrom_138 ?_
                      rw [nI_1]
                      refine k_v hH (k_runS (rest := []) C0 hH (ihd _ _ hR hw v_5 ((cDep U l0 rd) + (U 6 l0)) (cRdy U v_5 ((cDep U l0 rd) + (U 6 l0)) ((cDep U l0 rd) + (U 6 l0))) (vis ||| (1 <<< ((U 3 l0) &&& 31))) (size + 1) hv_5 (by omega) (by omega)) mv_X8_tryFrom ml_X8_49 rfl ⟨by show (d + 3) + 1 ≤ d + 1 + 3; omega, by show 8 + (11 + 11) + (30 * d + 70) ≤ 30 * (d + 1) + 70; omega⟩ hl.1 rfl (Nat.le_of_ble_eq_true rfl) dX8_tryFrom_139 (by simp)) (fun h H locs hp hH => ?_)
                      obtain ⟨hR, hw⟩ := hp
                      rw [← ev_5] at hR hw
                      refine lv_iinc (v := nI (l0 + 1)) (lv' := [(7, .int (nI (l0 + 1))), (10, .int ((cDep U l0 rd) + (U 6 l0))), (9, .int (1 <<< ((U 3 l0) &&& 31))), (8, .ref (b 8 l0)), (0, .ref (b 12 0)), (1, .ref (b 3 1)), (2, .ref (b 7 x)), (3, .int (now)), (4, .int (rd)), (5, .int (vis)), (6, .int (nI size))]) hx hb dX8_tryFrom_142 hl (k := 3) rfl (by rw [← nI_1]; rfl) (by decide) rfl (fun ls hl => ?_)
                      refine lv_goto (tgt := 26) hx hb dX8_tryFrom_145 (by decide) ?_
                      have eX : (if cGo U (nI x) vis l0 then ((fun u' hb' now' rd' vis' => cTry d (size + 1) u' hb' now' rd' vis') : MM → Int32 → Int32 → Int32 → Int32 → MM) (if size = 0 then up U 151 0 (nI l0) else U) (U 3 l0) (cDep U l0 rd + U 6 l0) (cRdy U (U 3 l0).toNatClampNeg (cDep U l0 rd + U 6 l0) (cDep U l0 rd + U 6 l0)) (vis ||| (1 <<< (U 3 l0 &&& 31))) else U) = (cTry d (size + 1) U (U 3 l0) ((cDep U l0 rd) + (U 6 l0)) (cRdy U v_5 ((cDep U l0 rd) + (U 6 l0)) ((cDep U l0 rd) + (U 6 l0))) (vis ||| (1 <<< ((U 3 l0) &&& 31)))) := by
                        rw [if_pos ⟨c63_6, c72_8, c80_9⟩, if_neg hz, kv_5]
                      exact ih (l0 + 1) (cTry d (size + 1) U (U 3 l0) ((cDep U l0 rd) + (U 6 l0)) (cRdy U v_5 ((cDep U l0 rd) + (U 6 l0)) ((cDep U l0 rd) + (U 6 l0))) (vis ||| (1 <<< ((U 3 l0) &&& 31)))) (by omega) (by rw [← hT]; show _ = cTryL (fun u' hb' now' rd' vis' => cTry d (size + 1) u' hb' now' rd' vis') (nI x) rd vis size k (l0 + 1) _; rw [eX]) (⟨(cTry_n _ _ _ _ _ _ _).1.trans hnU.1, (cTry_n _ _ _ _ _ _ _).2.1.trans hnU.2⟩) _ _ _ hH hR hw ls (lv_sub hl [0, 4, 5, 6, 7, 8, 9, 10] rfl)
                    · have hz : size = 0 := (nI_eq (by omega) (by omega)).mp c85_10
                      refine lv_aload_n hx hb dX8_tryFrom_88 rfl (lv_at hl 3 rfl) ?_
                      refine lv_aload hx hb dX8_tryFrom_89 (lv_at hl 1 rfl) ?_
                      refine c_putR C0 hH hR ci_12 (i := 0) (j := 1) rfl rfl (k := 151) rfl (by decide) rfl fl_X8_20 rfl ⟨_, rfl⟩ (nI l0) (v := some (b 8 l0)) (dec_nI (by have h9 : l0 < cnt U 8 := (show l0 < nlN U by omega); have := hc8; omega)).symm dX8_tryFrom_91 (fun h H locs hH hR => ?_)
                      replace hw := hw.upr (k := 151) (i := 0) (x := nI l0) (by decide) (RG_v (show l0 < nlN U by omega) (hw.cnt6 8)) (fun z => absurd z (by omega)) (fun z => absurd z (by omega)) (fun z => absurd z (by omega))
                      refine lv_aload hx hb dX8_tryFrom_94 (lv_at hl 1 rfl) ?_
                      refine lv_iload hx hb dX8_tryFrom_96 (lv_at hl 7 rfl) ?_
                      refine k_i hH (k_runV (rest := []) C0 hH (cC_X4_departureFrom l G A _ b _ hR hw l0 rd (show l0 < nlN U by omega)) mv_X4_departureFrom ml_X8_79 ci_8 (hR.kind (K := 8) (i := l0) (show l0 < nlN U by omega)) rfl ⟨by show 0 + 1 ≤ d + 1 + 3; omega, by show 8 + (3 + 11) + 0 ≤ 30 * (d + 1) + 70; omega⟩ hl.1 rfl (Nat.le_of_ble_eq_true rfl) dX8_tryFrom_98 (by simp)) (fun r_13 h1 H locs hp hH => ?_)
                      obtain ⟨er_13, eh⟩ := hp
                      rw [eh] at hH
                      clear eh
                      subst er_13
                      rw [show cDep (up U 151 0 (nI l0)) l0 rd = cDep U l0 rd from rfl]
                      refine lv_aload hx hb dX8_tryFrom_101 (lv_at hl 1 rfl) ?_
                      refine c_getI C0 hH hR ci_8 (i := l0) (j := 7) (show l0 < nlN U by omega) rfl (by decide) rfl fl_X8_83 (v := U 6 l0) rfl dX8_tryFrom_103 ?_
                      refine lv_iadd hx hb dX8_tryFrom_106 ?_
                      refine lv_istore (lv' := [(10, .int ((cDep U l0 rd) + (U 6 l0))), (9, .int (1 <<< ((U 3 l0) &&& 31))), (8, .ref (b 8 l0)), (7, .int (nI l0)), (0, .ref (b 12 0)), (1, .ref (b 3 1)), (2, .ref (b 7 x)), (3, .int (now)), (4, .int (rd)), (5, .int (vis)), (6, .int (nI size))]) hx hb dX8_tryFrom_107 hl (by decide) rfl (fun ls hl => ?_)
                      refine lv_aload_n hx hb dX8_tryFrom_109 rfl (lv_at hl 4 rfl) ?_
                      refine lv_aload_n hx hb dX8_tryFrom_110 rfl (lv_at hl 5 rfl) ?_
                      refine lv_aload hx hb dX8_tryFrom_111 (lv_at hl 2 rfl) ?_
                      refine c_getR C0 hH hR ci_8 (i := l0) (j := 2) (show l0 < nlN U by omega) rfl (by decide) rfl fl_X8_69 (v := some (b 7 v_5)) (show dec b 7 ((up U 151 0 (nI l0)) 3 l0) = some (b 7 v_5) from by rw [show (up U 151 0 (nI l0)) 3 l0 = nI v_5 from Eq.trans rfl ev_5]; exact dec_nI (by have := hc7; have := (show v_5 < cnt U 7 from hv_5); omega)) dX8_tryFrom_113 ?_
                      refine lv_iload hx hb dX8_tryFrom_116 (lv_at hl 0 rfl) ?_
                      refine lv_aload hx hb dX8_tryFrom_118 (lv_at hl 2 rfl) ?_
                      refine c_getR C0 hH hR ci_8 (i := l0) (j := 2) (show l0 < nlN U by omega) rfl (by decide) rfl fl_X8_69 (v := some (b 7 v_5)) (show dec b 7 ((up U 151 0 (nI l0)) 3 l0) = some (b 7 v_5) from by rw [show (up U 151 0 (nI l0)) 3 l0 = nI v_5 from Eq.trans rfl ev_5]; exact dec_nI (by have := hc7; have := (show v_5 < cnt U 7 from hv_5); omega)) dX8_tryFrom_120 ?_
                      refine lv_iload hx hb dX8_tryFrom_123 (lv_at hl 0 rfl) ?_
                      refine lv_iload hx hb dX8_tryFrom_125 (lv_at hl 0 rfl) ?_
                      refine k_i hH (k_runV (rest := [.int ((cDep U l0 rd) + (U 6 l0)), .ref (b 7 v_5), .ref (b 3 1), .ref (b 12 0)]) C0 hH (cC_X3_readyFrom l G A _ b _ hR hw v_5 ((cDep U l0 rd) + (U 6 l0)) ((cDep U l0 rd) + (U 6 l0)) hv_5) mv_X3_readyFrom ml_X8_40 ci_7 (hR.kind (K := 7) (i := v_5) hv_5) rfl ⟨by show 1 + 1 ≤ d + 1 + 3; omega, by show 8 + (3 + 11) + 21 ≤ 30 * (d + 1) + 70; omega⟩ hl.1 rfl (Nat.le_of_ble_eq_true rfl) dX8_tryFrom_127 (by simp)) (fun r_14 h1 H locs hp hH => ?_)
                      obtain ⟨er_14, eh⟩ := hp
                      rw [eh] at hH
                      clear eh
                      subst er_14
                      rw [show cRdy (up U 151 0 (nI l0)) v_5 ((cDep U l0 rd) + (U 6 l0)) ((cDep U l0 rd) + (U 6 l0)) = cRdy U v_5 ((cDep U l0 rd) + (U 6 l0)) ((cDep U l0 rd) + (U 6 l0)) from rfl]
                      refine lv_iload hx hb dX8_tryFrom_130 (lv_at hl 9 rfl) ?_
                      refine lv_iload hx hb dX8_tryFrom_132 (lv_at hl 1 rfl) ?_
                      refine lv_ior hx hb dX8_tryFrom_134 ?_
                      refine lv_iload hx hb dX8_tryFrom_135 (lv_at hl 10 rfl) ?_
                      refine lv_iconst (v := 1) hx hb dX8_tryFrom_137 (by decide) ?_
                      refine lv_iadd hx hb dX8_tryFrom_138 ?_
                      rw [nI_1]
                      refine k_v hH (k_runS (rest := []) C0 hH (ihd _ _ hR hw v_5 ((cDep U l0 rd) + (U 6 l0)) (cRdy U v_5 ((cDep U l0 rd) + (U 6 l0)) ((cDep U l0 rd) + (U 6 l0))) (vis ||| (1 <<< ((U 3 l0) &&& 31))) (size + 1) hv_5 (by omega) (by omega)) mv_X8_tryFrom ml_X8_49 rfl ⟨by show (d + 3) + 1 ≤ d + 1 + 3; omega, by show 8 + (11 + 11) + (30 * d + 70) ≤ 30 * (d + 1) + 70; omega⟩ hl.1 rfl (Nat.le_of_ble_eq_true rfl) dX8_tryFrom_139 (by simp)) (fun h H locs hp hH => ?_)
                      obtain ⟨hR, hw⟩ := hp
                      rw [← ev_5] at hR hw
                      refine lv_iinc (v := nI (l0 + 1)) (lv' := [(7, .int (nI (l0 + 1))), (10, .int ((cDep U l0 rd) + (U 6 l0))), (9, .int (1 <<< ((U 3 l0) &&& 31))), (8, .ref (b 8 l0)), (0, .ref (b 12 0)), (1, .ref (b 3 1)), (2, .ref (b 7 x)), (3, .int (now)), (4, .int (rd)), (5, .int (vis)), (6, .int (nI size))]) hx hb dX8_tryFrom_142 hl (k := 3) rfl (by rw [← nI_1]; rfl) (by decide) rfl (fun ls hl => ?_)
                      refine lv_goto (tgt := 26) hx hb dX8_tryFrom_145 (by decide) ?_
                      have eX : (if cGo U (nI x) vis l0 then ((fun u' hb' now' rd' vis' => cTry d (size + 1) u' hb' now' rd' vis') : MM → Int32 → Int32 → Int32 → Int32 → MM) (if size = 0 then up U 151 0 (nI l0) else U) (U 3 l0) (cDep U l0 rd + U 6 l0) (cRdy U (U 3 l0).toNatClampNeg (cDep U l0 rd + U 6 l0) (cDep U l0 rd + U 6 l0)) (vis ||| (1 <<< (U 3 l0 &&& 31))) else U) = (cTry d (size + 1) (up U 151 0 (nI l0)) (U 3 l0) ((cDep U l0 rd) + (U 6 l0)) (cRdy U v_5 ((cDep U l0 rd) + (U 6 l0)) ((cDep U l0 rd) + (U 6 l0))) (vis ||| (1 <<< ((U 3 l0) &&& 31)))) := by
                        rw [if_pos ⟨c63_6, c72_8, c80_9⟩, if_pos hz, kv_5]
                      exact ih (l0 + 1) (cTry d (size + 1) (up U 151 0 (nI l0)) (U 3 l0) ((cDep U l0 rd) + (U 6 l0)) (cRdy U v_5 ((cDep U l0 rd) + (U 6 l0)) ((cDep U l0 rd) + (U 6 l0))) (vis ||| (1 <<< ((U 3 l0) &&& 31)))) (by omega) (by rw [← hT]; show _ = cTryL (fun u' hb' now' rd' vis' => cTry d (size + 1) u' hb' now' rd' vis') (nI x) rd vis size k (l0 + 1) _; rw [eX]) (⟨(cTry_n _ _ _ _ _ _ _).1.trans hnU.1, (cTry_n _ _ _ _ _ _ _).2.1.trans hnU.2⟩) _ _ _ hH hR hw ls (lv_sub hl [0, 4, 5, 6, 7, 8, 9, 10] rfl)
        exact K (nlN u) 0 u (by omega) rfl ⟨rfl, rfl⟩ _ _ _ hH hR hw ls (lv_sub hl [0, 1, 2, 3, 4, 5, 6, 7] rfl)
      · have hs5 : 5 ≤ size := by have := Int32.not_lt.mp c19_2; rw [show (5 : Int32) = nI 5 from rfl] at this; exact (nI_leI (by omega) (by omega)).mp this
        have eM : (cTry (d + 1) size u (nI x) now rd vis) = u := by rw [cTry_s, if_neg c5, if_pos hs5]
        exact e_V C0 hr hH (by rw [eM]; exact ⟨hR, hw⟩) (Nat.le_of_ble_eq_true rfl) (Nat.le_of_ble_eq_true rfl) dX8_tryFrom_22
    · rw [(eq_comm.trans (hR.acQ hw (T := 7) (by omega) (hw.rg (k := 150) (by decide) 0) hx0)).trans eq_comm] at c5_1
      have c5 := c5_1
      refine lv_aload_n hx hb dX8_tryFrom_8 rfl (lv_at hl 0 rfl) ?_
      refine lv_iload_n hx hb dX8_tryFrom_9 rfl (lv_at hl 3 rfl) ?_
      refine lv_iload hx hb dX8_tryFrom_10 (lv_at hl 6 rfl) ?_
      refine k_v hH (k_runV (rest := []) C0 hH (cC_X8_compare l G A _ b _ hR hw now (nI size) ) mv_X8_compare ml_X8_53 ci_12 (hR.kind (K := 12) (i := 0) rfl) rfl ⟨by show 0 + 1 ≤ d + 1 + 3; omega, by show 8 + (3 + 11) + 0 ≤ 30 * (d + 1) + 70; omega⟩ hl.1 rfl (Nat.le_of_ble_eq_true rfl) dX8_tryFrom_12 (by simp)) (fun h H locs hp hH => ?_)
      obtain ⟨hR, hw⟩ := hp
      have eM : (cTry (d + 1) size u (nI x) now rd vis) = (cCmp u now (nI size)) := by rw [cTry_s, if_pos c5]
      exact e_V C0 hr hH (by rw [eM]; exact ⟨hR, hw⟩) (Nat.le_of_ble_eq_true rfl) (Nat.le_of_ble_eq_true rfl) dX8_tryFrom_15
set_option maxHeartbeats 800000 in
set_option maxRecDepth 100000 in
theorem cC_X8_tryAll (l : Launch) (G : GT) (A : Nat → Prop) (h : AH) (b : BA) (u : MM) (hR : RC G.2.2.1 h b u) (hw : WFc u) (p : Nat) (now : Int32) (hp0 : p < npN u) : cmV l G A yX8_tryAll cX8_tryAll 5 10 280 0 0 [.ref (b 12 0), .ref (b 3 1), .ref (b 9 p), .int (now)] h (fun h' => RC G.2.2.1 h' b (cAll u p now) ∧ WFc (cAll u p now)) := by
  refine cm_of "Routepost$PathTrial" rfl (by decide) (Nat.le_of_ble_eq_true rfl) ?_
  intro pr e s m9 below meth c C0 hr hname hH ls hl
  obtain ⟨hx, hb, hml, hown, hts, hK, hA, -⟩ := id C0
  have hl : lv_has ls 5 [(0, .ref (b 12 0)), (1, .ref (b 3 1)), (2, .ref (b 9 p)), (3, .int (now))] := hl
  have hc7 := hw.cnt6 7
  have hc8 := hw.cnt6 8
  have hc9 := hw.cnt6 9
  refine lv_aload_n hx hb dX8_tryAll_0 rfl (lv_at hl 0 rfl) ?_
  refine lv_aload_n hx hb dX8_tryAll_1 rfl (lv_at hl 2 rfl) ?_
  obtain ⟨v_1, hv_1, ev_1⟩ := hw.exH (show vp_in (u 14 p) _ from (hw.pa hp0).2.1)
  have kv_1 : (u 14 p).toNatClampNeg = v_1 := by rw [ev_1]; exact nI_clamp (by have := hw.nh; have := hw.np; omega)
  refine c_getR C0 hH hR ci_9 (i := p) (j := 6) hp0 rfl (by decide) rfl fl_X8_9 (v := some (b 7 v_1)) (show dec b 7 (u 14 p) = some (b 7 v_1) from by rw [show u 14 p = nI v_1 from Eq.trans rfl ev_1]; exact dec_nI (by have := hc7; have := (show v_1 < cnt u 7 from hv_1); omega)) dX8_tryAll_2 ?_
  refine c_putR C0 hH hR ci_12 (i := 0) (j := 0) rfl rfl (k := 150) rfl (by decide) rfl fl_X8_15 rfl ⟨_, rfl⟩ (nI v_1) (v := some (b 7 v_1)) (dec_nI (by have h9 : v_1 < cnt u 7 := hv_1; have := hc7; omega)).symm dX8_tryAll_5 (fun h H locs hH hR => ?_)
  replace hw := hw.upr (k := 150) (i := 0) (x := nI v_1) (by decide) (RG_v hv_1 (hw.cnt6 7)) (fun z => absurd z (by omega)) (fun z => absurd z (by omega)) (fun z => absurd z (by omega))
  rw [← ev_1] at hR hw
  refine lv_aload_n hx hb dX8_tryAll_8 rfl (lv_at hl 0 rfl) ?_
  refine lv_null hx hb dX8_tryAll_9 ?_
  refine c_putR C0 hH hR ci_12 (i := 0) (j := 1) rfl rfl (k := 151) rfl (by decide) rfl fl_X8_20 rfl ⟨_, rfl⟩ (-1) (v := none) dec_m1.symm dX8_tryAll_10 (fun h H locs hH hR => ?_)
  replace hw := hw.upr (k := 151) (i := 0) (x := -1) (by decide) (Or.inl rfl) (fun z => absurd z (by omega)) (fun z => absurd z (by omega)) (fun z => absurd z (by omega))
  refine lv_aload_n hx hb dX8_tryAll_13 rfl (lv_at hl 0 rfl) ?_
  refine lv_iconst (v := 0) hx hb dX8_tryAll_14 (by decide) ?_
  refine c_putI C0 hH hR ci_12 (i := 0) (j := 2) rfl rfl (k := 152) rfl (by decide) (by decide) rfl fl_X8_24 rfl (x := 0) rfl rfl dX8_tryAll_15 (fun h H locs hH hR => ?_)
  replace hw := hw.upx (k := 152) (i := 0) (x := 0) (by unfold kWc kSz; decide)
  refine lv_aload_n hx hb dX8_tryAll_18 rfl (lv_at hl 0 rfl) ?_
  refine lv_iconst (v := (-1)) hx hb dX8_tryAll_19 (by decide) ?_
  refine c_putI C0 hH hR ci_12 (i := 0) (j := 3) rfl rfl (k := 153) rfl (by decide) (by decide) rfl fl_X8_28 rfl (x := (-1)) rfl rfl dX8_tryAll_20 (fun h H locs hH hR => ?_)
  replace hw := hw.upx (k := 153) (i := 0) (x := (-1)) (by unfold kWc kSz; decide)
  refine lv_aload_n hx hb dX8_tryAll_23 rfl (lv_at hl 0 rfl) ?_
  refine lv_null hx hb dX8_tryAll_24 ?_
  refine c_putR C0 hH hR ci_12 (i := 0) (j := 4) rfl rfl (k := 154) rfl (by decide) rfl fl_X8_31 rfl ⟨_, rfl⟩ (-1) (v := none) dec_m1.symm dX8_tryAll_25 (fun h H locs hH hR => ?_)
  replace hw := hw.upr (k := 154) (i := 0) (x := -1) (by decide) (Or.inl rfl) (fun z => absurd z (by omega)) (fun z => absurd z (by omega)) (fun z => absurd z (by omega))
  refine lv_aload_n hx hb dX8_tryAll_28 rfl (lv_at hl 2 rfl) ?_
  obtain ⟨U0, hU0⟩ : ∃ z, z = (up (up (up (up (up u 150 0 (u 14 p)) 151 0 (-1)) 152 0 0) 153 0 (-1)) 154 0 (-1)) := ⟨_, rfl⟩
  rw [← hU0] at hR hw
  have hnU0 : nhN U0 = nhN u ∧ nlN U0 = nlN u ∧ npN U0 = npN u := by rw [hU0]; exact ⟨rfl, rfl, rfl⟩
  have hc7 := hw.cnt6 7
  have hc8 := hw.cnt6 8
  have hc9 := hw.cnt6 9
  replace hp0 : p < npN U0 := by rw [hnU0.2.2]; exact hp0
  replace hv_1 : v_1 < nhN U0 := by rw [hnU0.1]; exact hv_1
  have e15 : U0 15 p = u 15 p := by rw [hU0]; rfl
  have e18 : U0 18 p = u 18 p := by rw [hU0]; rfl
  have eC : ∀ q a z, cRdy u q a z = cRdy U0 q a z := by intro q a z; rw [hU0]; rfl
  obtain ⟨v_2, hv_2, ev_2⟩ := hw.exH (show vp_in (U0 15 p) _ from (hw.pa hp0).2.2)
  have kv_2 : (U0 15 p).toNatClampNeg = v_2 := by rw [ev_2]; exact nI_clamp (by have := hw.nh; have := hw.np; omega)
  refine c_getR C0 hH hR ci_9 (i := p) (j := 7) hp0 rfl (by decide) rfl fl_X8_34 (v := some (b 7 v_2)) (show dec b 7 (U0 15 p) = some (b 7 v_2) from by rw [show U0 15 p = nI v_2 from Eq.trans rfl ev_2]; exact dec_nI (by have := hc7; have := (show v_2 < cnt U0 7 from hv_2); omega)) dX8_tryAll_29 ?_
  refine lv_astore (lv' := [(4, .ref (b 7 v_2)), (0, .ref (b 12 0)), (1, .ref (b 3 1)), (2, .ref (b 9 p)), (3, .int (now))]) hx hb dX8_tryAll_32 hl (by decide) rfl (fun ls hl => ?_)
  refine lv_aload_n hx hb dX8_tryAll_34 rfl (lv_at hl 1 rfl) ?_
  refine lv_aload_n hx hb dX8_tryAll_35 rfl (lv_at hl 2 rfl) ?_
  refine lv_aload hx hb dX8_tryAll_36 (lv_at hl 0 rfl) ?_
  refine lv_iload_n hx hb dX8_tryAll_38 rfl (lv_at hl 4 rfl) ?_
  refine lv_aload hx hb dX8_tryAll_39 (lv_at hl 0 rfl) ?_
  refine lv_aload_n hx hb dX8_tryAll_41 rfl (lv_at hl 3 rfl) ?_
  refine c_getI C0 hH hR ci_9 (i := p) (j := 12) hp0 rfl (by decide) rfl fl_X8_37 (v := U0 18 p) rfl dX8_tryAll_42 ?_
  refine lv_iload_n hx hb dX8_tryAll_45 rfl (lv_at hl 4 rfl) ?_
  refine k_i hH (k_runV (rest := [.int (now), .ref (b 7 v_2), .ref (b 3 1), .ref (b 12 0)]) C0 hH (cC_X3_readyFrom l G A _ b _ hR hw v_2 (U0 18 p) now hv_2) mv_X3_readyFrom ml_X8_40 ci_7 (hR.kind (K := 7) (i := v_2) hv_2) rfl ⟨Nat.le_of_ble_eq_true rfl, Nat.le_of_ble_eq_true rfl⟩ hl.1 rfl (Nat.le_of_ble_eq_true rfl) dX8_tryAll_46 (by simp)) (fun r_3 h1 H locs hp hH => ?_)
  obtain ⟨er_3, eh⟩ := hp
  rw [eh] at hH
  clear eh
  subst er_3
  refine lv_iconst (v := 1) hx hb dX8_tryAll_49 (by decide) ?_
  refine lv_aload hx hb dX8_tryAll_50 (lv_at hl 0 rfl) ?_
  refine c_getI C0 hH hR ci_7 (i := v_2) (j := 0) hv_2 rfl (by decide) rfl fl_X8_46 (v := U0 15 p) ev_2.symm dX8_tryAll_52 ?_
  refine lv_ishl hx hb dX8_tryAll_55 ?_
  refine lv_iconst (v := 0) hx hb dX8_tryAll_56 (by decide) ?_
  refine k_v hH (k_runS (rest := []) C0 hH (cC_X8_tryFrom l G A b 6 _ _ hR hw v_2 now (cRdy U0 v_2 (U0 18 p) now) (1 <<< ((U0 15 p) &&& 31)) 0 hv_2 rfl (by omega)) mv_X8_tryFrom ml_X8_49 rfl ⟨Nat.le_of_ble_eq_true rfl, Nat.le_of_ble_eq_true rfl⟩ hl.1 rfl (Nat.le_of_ble_eq_true rfl) dX8_tryAll_57 (by simp)) (fun h H locs hp hH => ?_)
  obtain ⟨hR, hw⟩ := hp
  rw [← ev_2] at hR hw
  have eM : (cAll u p now) = (cTry 6 0 U0 (U0 15 p) (now) (cRdy U0 v_2 (U0 18 p) now) (1 <<< ((U0 15 p) &&& 31))) := by unfold cAll cAll0; rw [← hU0, ← e15, ← e18, eC, kv_2]
  exact e_V C0 hr hH (by rw [eM]; exact ⟨hR, hw⟩) (Nat.le_of_ble_eq_true rfl) (Nat.le_of_ble_eq_true rfl) dX8_tryAll_60

