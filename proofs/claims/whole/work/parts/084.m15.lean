set_option maxHeartbeats 4000000 in
set_option maxRecDepth 100000 in
theorem cM_lines (l : Launch) (G : GT) (A : Nat → Prop) (h : AH) (o : Nat) (ad : Nat → Nat) (m : MM) (hM : RM h o ad m) (x : Int32) (hw : WFa m) : cmI l G A yX11_lines cX11_lines 5 (Option.some FieldType.int) 1 22 0 0 [.ref (o), .int (x)] h (fun r h' => r = nI (fLin m x).1 ∧ RM h' o ad ((fLin m x).2)) := by
  refine cm_of "RoutepostModel" rfl (by decide) (Nat.le_of_ble_eq_true rfl) ?_
  intro pr e s m9 below meth c C0 hr hname hH ls hl
  obtain ⟨hx, hb, hml, hown, hts, hK, hA, -⟩ := id C0
  have hl : lv_has ls 5 [(0, .ref (o)), (1, .int (x))] := hl
  have hnp := hw.np
  refine lv_iconst (v := 0) hx hb dX11_lines_0 (by decide) ?_
  refine lv_istore_n (lv' := [(2, .int (0)), (0, .ref (o)), (1, .int (x))]) hx hb dX11_lines_1 rfl hl (by decide) rfl (fun ls hl => ?_)
  refine lv_iconst (v := 0) hx hb dX11_lines_2 (by decide) ?_
  refine lv_istore_n (lv' := [(3, .int (0)), (2, .int (0)), (0, .ref (o)), (1, .int (x))]) hx hb dX11_lines_3 rfl hl (by decide) rfl (fun ls hl => ?_)
  have K : ∀ (k i : Nat) (M : MM) (n : Nat), i + k = npN m → linL x k i n M = fLin m x → WFa M → npN M = npN m → rowOK n M → n ≤ i → ∀ (h : AH) (H : Heap) (locs : List Loc) (hH : HS G.1 G.2.1 A s.heap h H locs) (hM : RM h o ad M) (ls : Array Slot), lv_has ls 5 [(3, .int (nI i)), (2, .int (nI n)), (0, .ref (o)), (1, .int (x))] → W pr l e (rmm 1 22 0 0) s m9 ([.ref (o), .int (x)] : List Value).toArray below meth c H locs 0 0 (QI below G A (fun r h' => r = nI (fLin m x).1 ∧ RM h' o ad ((fLin m x).2)) ([.ref (o), .int (x)] : List Value).toArray s 0 0) (F0 m9 4 ls []) := by
    intro k
    induction k with
    | zero =>
      intro i M n hik hT hwM hnM hrow hni h H locs hH hM ls hl
      have hB : M 39 0 = nI (npN m) := by rw [← hnM]; exact hwM.np.1
      refine lv_iload_n hx hb dX11_lines_4 rfl (lv_at hl 0 rfl) ?_
      refine lv_aload_n hx hb dX11_lines_5 rfl (lv_at hl 2 rfl) ?_
      refine m_int C0 hH hM 39 (by decide) (by decide) fl_X11_144 (v := M 39 0) rfl dX11_lines_6 ?_
      refine lv_icmp_ge (tgt := 97) hx hb dX11_lines_9 (by decide) (fun c9_1 => ?_) (fun c9_1 => ?_)
      · refine lv_iload_n hx hb dX11_lines_97 rfl (lv_at hl 1 rfl) ?_
        have eR : nI n = nI (fLin m x).1 := by rw [← hT]; rfl
        have eM : (fLin m x).2 = M := by rw [← hT]; rfl
        exact e_I C0 hr hH ⟨eR, by rw [eM]; exact hM⟩ (Nat.le_refl _) (Nat.le_refl _) dX11_lines_98
      · exact absurd (by rw [hB]; exact nI_le (by omega) (by omega)) c9_1
    | succ k ih =>
      intro i M n hik hT hwM hnM hrow hni h H locs hH hM ls hl
      have hB : M 39 0 = nI (npN m) := by rw [← hnM]; exact hwM.np.1
      refine lv_iload_n hx hb dX11_lines_4 rfl (lv_at hl 0 rfl) ?_
      refine lv_aload_n hx hb dX11_lines_5 rfl (lv_at hl 2 rfl) ?_
      refine m_int C0 hH hM 39 (by decide) (by decide) fl_X11_144 (v := M 39 0) rfl dX11_lines_6 ?_
      refine lv_icmp_ge (tgt := 97) hx hb dX11_lines_9 (by decide) (fun c9_2 => ?_) (fun c9_2 => ?_)
      · exact absurd c9_2 (by rw [hB]; exact nI_ge (by omega) (by omega))
      · have hp : i < npN M := by omega
        refine lv_aload_n hx hb dX11_lines_12 rfl (lv_at hl 2 rfl) ?_
        refine m_arr C0 hH hM 28 (by decide) fl_X11_95 dX11_lines_13 ?_
        refine lv_iload_n hx hb dX11_lines_16 rfl (lv_at hl 0 rfl) ?_
        refine m_ldC C0 hH hM 28 (by decide) rfl (n := 40) rfl (ix := i) (nI_clamp (by omega)) (by first | assumption | exact vp_in_nI (by omega) (by omega)) (v := M 28 i) rfl dX11_lines_17 ?_
        refine lv_bipush (v := 115) hx hb dX11_lines_18 (by decide) ?_
        refine lv_icmp_ne (tgt := 91) hx hb dX11_lines_20 (by decide) (fun c20_3 => ?_) (fun c20_3 => ?_)
        · refine lv_iinc (v := nI (i + 1)) (lv' := [(3, .int (nI (i + 1))), (2, .int (nI n)), (0, .ref (o)), (1, .int (x))]) hx hb dX11_lines_91 hl (k := 0) rfl (by rw [← nI_1]; rfl) (by decide) rfl (fun ls hl => ?_)
          refine lv_goto (tgt := 4) hx hb dX11_lines_94 (by decide) ?_
          exact ih (i + 1) M n (by omega) (by rw [← hT]; exact (if_neg (by simp [c9_2, Int32.not_le.mp c9_2, eq_false c20_3])).symm) hwM hnM hrow (by omega) _ _ _ hH hM ls (lv_sub hl [0, 1, 2, 3] rfl)
        · refine lv_aload_n hx hb dX11_lines_23 rfl (lv_at hl 2 rfl) ?_
          refine m_arr C0 hH hM 19 (by decide) fl_X11_68 dX11_lines_24 ?_
          refine lv_iload_n hx hb dX11_lines_27 rfl (lv_at hl 0 rfl) ?_
          refine m_ldI C0 hH hM 19 (by decide) rfl (n := 40) rfl (ix := i) (nI_clamp (by omega)) (by first | assumption | exact vp_in_nI (by omega) (by omega)) (v := M 19 i) rfl dX11_lines_28 ?_
          refine lv_iload_n hx hb dX11_lines_29 rfl (lv_at hl 3 rfl) ?_
          refine lv_icmp_ne (tgt := 91) hx hb dX11_lines_30 (by decide) (fun c30_4 => ?_) (fun c30_4 => ?_)
          · refine lv_iinc (v := nI (i + 1)) (lv' := [(3, .int (nI (i + 1))), (2, .int (nI n)), (0, .ref (o)), (1, .int (x))]) hx hb dX11_lines_91 hl (k := 0) rfl (by rw [← nI_1]; rfl) (by decide) rfl (fun ls hl => ?_)
            refine lv_goto (tgt := 4) hx hb dX11_lines_94 (by decide) ?_
            exact ih (i + 1) M n (by omega) (by rw [← hT]; exact (if_neg (by simp [c9_2, Int32.not_le.mp c9_2, eq_true c20_3, eq_false c30_4])).symm) hwM hnM hrow (by omega) _ _ _ hH hM ls (lv_sub hl [0, 1, 2, 3] rfl)
          · refine lv_iload_n hx hb dX11_lines_33 rfl (lv_at hl 1 rfl) ?_
            refine lv_istore (lv' := [(4, .int (nI n)), (3, .int (nI i)), (2, .int (nI n)), (0, .ref (o)), (1, .int (x))]) hx hb dX11_lines_34 hl (by decide) rfl (fun ls hl => ?_)
            have hgo : M 28 i = 115 ∧ M 19 i = x := ⟨c20_3, c30_4⟩
            have K : ∀ (k2 : Nat) (M2 : MM), sinkL i k2 M2 = sinkL i n M → k2 ≤ n → (∀ j, j < n + 1 → j ≠ k2 → vp_in (M2 36 j) (npN m)) → WFa M2 → npN M2 = npN m → ∀ (h : AH) (H : Heap) (locs : List Loc) (hH : HS G.1 G.2.1 A s.heap h H locs) (hM : RM h o ad M2) (ls : Array Slot), lv_has ls 5 [(4, .int (nI k2)), (3, .int (nI i)), (2, .int (nI n)), (0, .ref (o)), (1, .int (x))] → W pr l e (rmm 1 22 0 0) s m9 ([.ref (o), .int (x)] : List Value).toArray below meth c H locs 0 0 (QI below G A (fun r h' => r = nI (fLin m x).1 ∧ RM h' o ad ((fLin m x).2)) ([.ref (o), .int (x)] : List Value).toArray s 0 0) (F0 m9 36 ls []) := by
              intro k2
              induction k2 with
              | zero =>
                intro M2 hT2 hk2 hr2 hwM2 hnM2 h H locs hH hM ls hl
                refine lv_iload hx hb dX11_lines_36 (lv_at hl 0 rfl) ?_
                refine lv_if_le (tgt := 80) hx hb dX11_lines_38 (by decide) (fun c38_5 => ?_) (fun c38_5 => ?_)
                · refine lv_aload_n hx hb dX11_lines_80 rfl (lv_at hl 3 rfl) ?_
                  refine m_arr C0 hH hM 36 (by decide) fl_X11_120 dX11_lines_81 ?_
                  refine lv_iload hx hb dX11_lines_84 (lv_at hl 0 rfl) ?_
                  refine lv_iload_n hx hb dX11_lines_86 rfl (lv_at hl 1 rfl) ?_
                  refine m_stI C0 hH hM 36 (by decide) rfl (n := 40) rfl (ix := 0) (nI_clamp (by omega)) (by first | assumption | exact vp_in_nI (by omega) (by omega)) dX11_lines_87 (fun h H locs hH hM => ?_)
                  obtain ⟨M3, hM3⟩ : ∃ z, z = sinkL i n M := ⟨_, rfl⟩
                  replace hM : RM h o ad M3 := by
                    rw [hM3, ← hT2]
                    first
                    | exact hM
                    | (rw [show sinkL i (k2 + 1) M2 = (up M2 36 0 (nI i)) from if_neg hk2]; exact hM)
                  refine lv_iinc (v := nI (n + 1)) (lv' := [(2, .int (nI (n + 1))), (4, .int (nI 0)), (3, .int (nI i)), (0, .ref (o)), (1, .int (x))]) hx hb dX11_lines_88 hl (k := 2) rfl (by rw [← nI_1]; rfl) (by decide) rfl (fun ls hl => ?_)
                  refine lv_iinc (v := nI (i + 1)) (lv' := [(3, .int (nI (i + 1))), (2, .int (nI (n + 1))), (4, .int (nI 0)), (0, .ref (o)), (1, .int (x))]) hx hb dX11_lines_91 hl (k := 2) rfl (by rw [← nI_1]; rfl) (by decide) rfl (fun ls hl => ?_)
                  refine lv_goto (tgt := 4) hx hb dX11_lines_94 (by decide) ?_
                  exact ih (i + 1) M3 (n + 1) (by omega) (by rw [hM3, ← hT]; exact (if_pos hgo).symm) (by rw [hM3]; exact hwM.sink i n) (by rw [hM3, npN_ext (sink_key i n M (by decide))]; exact hnM) (by rw [hM3]; exact hrow.sink hp (by omega)) (by omega) _ _ _ hH hM ls (lv_sub hl [0, 1, 3, 4] rfl)
                · exact absurd (by decide) c38_5
              | succ k2 ih2 =>
                intro M2 hT2 hk2 hr2 hwM2 hnM2 h H locs hH hM ls hl
                refine lv_iload hx hb dX11_lines_36 (lv_at hl 0 rfl) ?_
                refine lv_if_le (tgt := 80) hx hb dX11_lines_38 (by decide) (fun c38_6 => ?_) (fun c38_6 => ?_)
                · exact absurd ((nI_pos0 (by omega)).mp c38_6) (by omega)
                · refine lv_aload_n hx hb dX11_lines_41 rfl (lv_at hl 3 rfl) ?_
                  refine lv_iload_n hx hb dX11_lines_42 rfl (lv_at hl 1 rfl) ?_
                  refine lv_aload_n hx hb dX11_lines_43 rfl (lv_at hl 3 rfl) ?_
                  refine m_arr C0 hH hM 36 (by decide) fl_X11_120 dX11_lines_44 ?_
                  refine lv_iload hx hb dX11_lines_47 (lv_at hl 0 rfl) ?_
                  refine lv_iconst (v := 1) hx hb dX11_lines_49 (by decide) ?_
                  refine lv_isub hx hb dX11_lines_50 ?_
                  refine lv_topi (fun x9 ex9 => ?_)
                  replace ex9 : x9 = nI k2 := ex9.trans (by rw [nI_pred])
                  subst ex9
                  refine m_ldI C0 hH hM 36 (by decide) rfl (n := 40) rfl (ix := k2) (nI_clamp (by omega)) (by first | assumption | exact vp_in_nI (by omega) (by omega)) (v := M2 36 k2) rfl dX11_lines_51 ?_
                  have h36 := hr2 k2 (by omega) (by omega)
                  refine lv_topi (fun x9 ex9 => ?_)
                  replace ex9 : x9 = nI (M2 36 k2).toNatClampNeg := ex9.trans (vp_nI h36 (by omega))
                  subst ex9
                  have hq9 : (M2 36 k2).toNatClampNeg < npN M2 := by rw [hnM2]; exact vp_nat h36
                  refine k_i hH (k_runV (rest := []) C0 hH (cM_isAhead l G A _ o ad M2 hM i ((M2 36 k2).toNatClampNeg) hwM2 (by omega) hq9) mv_X11_isAhead ml_X11_222 ci_15 hM.1 rfl ⟨by decide, by decide⟩ hl.1 rfl (Nat.le_of_ble_eq_true rfl) dX11_lines_52 (by simp)) (fun r_7 h1 H locs hp hH => ?_)
                  obtain ⟨er_7, eh⟩ := hp
                  rw [eh] at hH
                  clear eh
                  subst er_7
                  refine lv_if_eq (tgt := 80) hx hb dX11_lines_55 (by decide) (fun c55_8 => ?_) (fun c55_8 => ?_)
                  · replace c55_8 := bi_0.mp c55_8
                    refine lv_aload_n hx hb dX11_lines_80 rfl (lv_at hl 3 rfl) ?_
                    refine m_arr C0 hH hM 36 (by decide) fl_X11_120 dX11_lines_81 ?_
                    refine lv_iload hx hb dX11_lines_84 (lv_at hl 0 rfl) ?_
                    refine lv_iload_n hx hb dX11_lines_86 rfl (lv_at hl 1 rfl) ?_
                    refine m_stI C0 hH hM 36 (by decide) rfl (n := 40) rfl (ix := (k2 + 1)) (nI_clamp (by omega)) (by first | assumption | exact vp_in_nI (by omega) (by omega)) dX11_lines_87 (fun h H locs hH hM => ?_)
                    obtain ⟨M3, hM3⟩ : ∃ z, z = sinkL i n M := ⟨_, rfl⟩
                    replace hM : RM h o ad M3 := by
                      rw [hM3, ← hT2]
                      first
                      | exact hM
                      | (rw [show sinkL i (k2 + 1) M2 = (up M2 36 (k2 + 1) (nI i)) from if_neg c55_8]; exact hM)
                    refine lv_iinc (v := nI (n + 1)) (lv' := [(2, .int (nI (n + 1))), (4, .int (nI (k2 + 1))), (3, .int (nI i)), (0, .ref (o)), (1, .int (x))]) hx hb dX11_lines_88 hl (k := 2) rfl (by rw [← nI_1]; rfl) (by decide) rfl (fun ls hl => ?_)
                    refine lv_iinc (v := nI (i + 1)) (lv' := [(3, .int (nI (i + 1))), (2, .int (nI (n + 1))), (4, .int (nI (k2 + 1))), (0, .ref (o)), (1, .int (x))]) hx hb dX11_lines_91 hl (k := 2) rfl (by rw [← nI_1]; rfl) (by decide) rfl (fun ls hl => ?_)
                    refine lv_goto (tgt := 4) hx hb dX11_lines_94 (by decide) ?_
                    exact ih (i + 1) M3 (n + 1) (by omega) (by rw [hM3, ← hT]; exact (if_pos hgo).symm) (by rw [hM3]; exact hwM.sink i n) (by rw [hM3, npN_ext (sink_key i n M (by decide))]; exact hnM) (by rw [hM3]; exact hrow.sink hp (by omega)) (by omega) _ _ _ hH hM ls (lv_sub hl [0, 1, 3, 4] rfl)
                  · replace c55_8 := bi_n0.mp c55_8
                    refine lv_aload_n hx hb dX11_lines_58 rfl (lv_at hl 3 rfl) ?_
                    refine m_arr C0 hH hM 36 (by decide) fl_X11_120 dX11_lines_59 ?_
                    refine lv_iload hx hb dX11_lines_62 (lv_at hl 0 rfl) ?_
                    refine lv_aload_n hx hb dX11_lines_64 rfl (lv_at hl 3 rfl) ?_
                    refine m_arr C0 hH hM 36 (by decide) fl_X11_120 dX11_lines_65 ?_
                    refine lv_iload hx hb dX11_lines_68 (lv_at hl 0 rfl) ?_
                    refine lv_iconst (v := 1) hx hb dX11_lines_70 (by decide) ?_
                    refine lv_isub hx hb dX11_lines_71 ?_
                    refine lv_topi (fun x9 ex9 => ?_)
                    replace ex9 : x9 = nI k2 := ex9.trans (by rw [nI_pred])
                    subst ex9
                    refine m_ldI C0 hH hM 36 (by decide) rfl (n := 40) rfl (ix := k2) (nI_clamp (by omega)) (by first | assumption | exact vp_in_nI (by omega) (by omega)) (v := M2 36 k2) rfl dX11_lines_72 ?_
                    refine m_stI C0 hH hM 36 (by decide) rfl (n := 40) rfl (ix := (k2 + 1)) (nI_clamp (by omega)) (by first | assumption | exact vp_in_nI (by omega) (by omega)) dX11_lines_73 (fun h H locs hH hM => ?_)
                    refine lv_iinc (v := nI k2) (lv' := [(4, .int (nI k2)), (3, .int (nI i)), (2, .int (nI n)), (0, .ref (o)), (1, .int (x))]) hx hb dX11_lines_74 hl (k := 0) rfl (pk_m1 k2) (by decide) rfl (fun ls hl => ?_)
                    refine lv_goto (tgt := 36) hx hb dX11_lines_77 (by decide) ?_
                    exact ih2 (up M2 36 (k2 + 1) (M2 36 k2)) (by rw [← hT2]; exact (if_pos c55_8).symm) (by omega) (fun j hj hne => by
                        by_cases e : j = k2 + 1
                        · subst e; rw [up_s]; exact hr2 k2 (by omega) (by omega)
                        · rw [up_i e]; exact hr2 j hj e) (hwM2.upx (by unfold kWF; omega)) (by rw [npN_up (by decide)]; exact hnM2) _ _ _ hH hM ls (lv_sub hl [0, 1, 2, 3, 4] rfl)
            exact K n M rfl (Nat.le_refl _) (fun j hj hne => by rw [← hnM]; exact hrow j (by omega)) hwM hnM _ _ _ hH hM ls (lv_sub hl [0, 1, 2, 3, 4] rfl)
  exact K (npN m) 0 m 0 (by omega) (rfl) hw rfl (fun j hj => absurd hj (Nat.not_lt_zero _)) (Nat.le_refl _) _ _ _ hH hM ls (lv_sub hl [0, 1, 2, 3] rfl)
