set_option maxHeartbeats 4000000 in
set_option maxRecDepth 100000 in
theorem cM_pass (l : Launch) (G : GT) (A : Nat → Prop) (h : AH) (o : Nat) (ad : Nat → Nat) (m : MM) (hM : RM h o ad m) (x : Int32) (hw : WFa m) (hU : logN m + 62400 ≤ 2 ^ 21) : cmI l G A yX11_pass cX11_pass 5 (Option.some FieldType.int) 12 309 (uC ((fPass m x).2) - uC m) (uS ((fPass m x).2) - uS m) [.ref (o), .int (x)] h (fun r h' => r = (fPass m x).1 ∧ ∃ ad', RM h' o ad' ((fPass m x).2)) := by
  refine cm_of "RoutepostModel" rfl (by decide) (Nat.le_of_ble_eq_true rfl) ?_
  intro pr e s m9 below meth c C0 hr hname hH ls hl
  obtain ⟨hx, hb, hml, hown, hts, hK, hA, -⟩ := id C0
  have hl : lv_has ls 5 [(0, .ref (o)), (1, .int (x))] := hl
  have hnp := hw.np
  refine lv_aload_n hx hb dX11_pass_0 rfl (lv_at hl 0 rfl) ?_
  refine lv_iload_n hx hb dX11_pass_1 rfl (lv_at hl 1 rfl) ?_
  refine lv_iconst (v := 1) hx hb dX11_pass_2 (by decide) ?_
  refine lv_bipush (v := 120) hx hb dX11_pass_3 (by decide) ?_
  refine k_i hH (k_runS (rest := [.ref (o)]) C0 hH (cM_isIn l G A _ x 1 120) mv_X11_isIn ml_X11_127 rfl ⟨Nat.le_of_ble_eq_true rfl, Nat.le_of_ble_eq_true rfl⟩ hl.1 rfl (Nat.le_of_ble_eq_true rfl) dX11_pass_5 ⟨by show _ ≤ uC ((fPass m x).2) - uC m; omega, by show _ ≤ uS ((fPass m x).2) - uS m; omega⟩) (fun r_1 h1 H locs hp hH => ?_)
  obtain ⟨er_1, eh⟩ := hp
  rw [eh] at hH
  clear eh
  subst er_1
  refine lv_if_ne (tgt := 15) hx hb dX11_pass_8 (by decide) (fun c8_2 => ?_) (fun c8_2 => ?_)
  · replace c8_2 := bi_n0.mp c8_2
    obtain ⟨N, hN, rfl⟩ := pass_in c8_2
    have hcl : (nI N).toNatClampNeg = N := nI_clamp (by omega)
    have hin := c8_2
    refine lv_iconst (v := 0) hx hb dX11_pass_15 (by decide) ?_
    refine lv_iconst (v := 1) hx hb dX11_pass_16 (by decide) ?_
    refine k_i hH (k_runV (rest := []) C0 hH (cM_isThrown l G A _ o ad m hM 0 1 rfl) mv_X11_isThrown ml_X11_140 ci_15 hM.1 rfl ⟨Nat.le_of_ble_eq_true rfl, Nat.le_of_ble_eq_true rfl⟩ hl.1 rfl (Nat.le_of_ble_eq_true rfl) dX11_pass_17 ⟨by show _ ≤ uC ((fPass m (nI N)).2) - uC m; omega, by show _ ≤ uS ((fPass m (nI N)).2) - uS m; omega⟩) (fun r_3 h H locs hp hH => ?_)
    obtain ⟨er_3, hM⟩ := hp
    subst er_3
    refine lv_if_eq (tgt := 25) hx hb dX11_pass_20 (by decide) (fun c20_4 => ?_) (fun c20_4 => ?_)
    · refine lv_iconst (v := 0) hx hb dX11_pass_25 (by decide) ?_
      obtain ⟨P0, hP0⟩ : ∃ z, z = thr m 0 1 := ⟨_, rfl⟩
      replace hM : RM h o ad P0 := by rw [hP0]; exact hM
      have hwP0 : WFa P0 := by rw [hP0]; exact hw.thr _ _
      have grP0 : Gr 0 m P0 := by rw [hP0]; exact Gr.thr m _ _
      obtain ⟨gnP0, glP0, ghP0, gcP0, gsP0, gaP0, gbP0⟩ := id grP0
      have geP0 : uC P0 = uC (thr m 0 1) ∧ uS P0 = uS (thr m 0 1) := by rw [hP0]; exact ⟨rfl, rfl⟩
      have hQ : minL N 0 P0 = fPass m (nI N) := by rw [fPass_eq hin, hcl, hP0]
      refine lv_istore_n (lv' := [(2, .int (0)), (0, .ref (o)), (1, .int ((nI N)))]) hx hb dX11_pass_26 rfl hl (by decide) rfl (fun ls hl => ?_)
      refine lv_iconst (v := 0) hx hb dX11_pass_27 (by decide) ?_
      refine lv_istore_n (lv' := [(3, .int (0)), (2, .int (0)), (0, .ref (o)), (1, .int ((nI N)))]) hx hb dX11_pass_28 rfl hl (by decide) rfl (fun ls hl => ?_)
      have K : ∀ (k i : Nat) (M : MM) (n : Int32) (ad : Nat → Nat) (cc : Nat) (ss : Nat), i + k = N → minL k n M = (fPass m (nI N)) → WFa M → Gr (520 * i) m M → cc ≤ uC M - uC m → ss ≤ uS M - uS m → ∀ (h : AH) (H : Heap) (locs : List Loc) (hH : HS G.1 G.2.1 A s.heap h H locs) (hM : RM h o ad M) (ls : Array Slot), lv_has ls 5 [(3, .int (nI i)), (2, .int (n)), (0, .ref (o)), (1, .int (nI N))] → W pr l e (rmm 12 309 (uC ((fPass m (nI N)).2) - uC m) (uS ((fPass m (nI N)).2) - uS m)) s m9 ([.ref (o), .int ((nI N))] : List Value).toArray below meth c H locs cc ss (QI below G A (fun r h' => r = (fPass m (nI N)).1 ∧ ∃ ad', RM h' o ad' ((fPass m (nI N)).2)) ([.ref (o), .int ((nI N))] : List Value).toArray s (uC ((fPass m (nI N)).2) - uC m) (uS ((fPass m (nI N)).2) - uS m)) (F0 m9 29 ls []) := by
        intro k
        induction k with
        | zero =>
          intro i M n ad cc ss hik hT hwM hgM hcc hss h H locs hH hM ls hl
          obtain ⟨gnM, glM, ghM, gcM, gsM, gaM, gbM⟩ := id hgM
          refine lv_iload_n hx hb dX11_pass_29 rfl (lv_at hl 0 rfl) ?_
          refine lv_iload_n hx hb dX11_pass_30 rfl (lv_at hl 3 rfl) ?_
          refine lv_icmp_ge (tgt := 150) hx hb dX11_pass_31 (by decide) (fun c31_5 => ?_) (fun c31_5 => ?_)
          · refine lv_iload_n hx hb dX11_pass_150 rfl (lv_at hl 1 rfl) ?_
            have eR : n = (fPass m (nI N)).1 := by rw [← hT]; rfl
            have eM : (fPass m (nI N)).2 = M := by rw [← hT]; rfl
            exact e_I C0 hr hH ⟨eR, _, by rw [eM]; exact hM⟩ (by rw [eM]; omega) (by rw [eM]; omega) dX11_pass_151
          · exact absurd (by rw [(rfl : nI N = nI N)]; exact nI_le (by omega) (by omega)) c31_5
        | succ k ih =>
          intro i M n ad cc ss hik hT hwM hgM hcc hss h H locs hH hM ls hl
          obtain ⟨gnM, glM, ghM, gcM, gsM, gaM, gbM⟩ := id hgM
          refine lv_iload_n hx hb dX11_pass_29 rfl (lv_at hl 0 rfl) ?_
          refine lv_iload_n hx hb dX11_pass_30 rfl (lv_at hl 3 rfl) ?_
          refine lv_icmp_ge (tgt := 150) hx hb dX11_pass_31 (by decide) (fun c31_6 => ?_) (fun c31_6 => ?_)
          · exact absurd c31_6 (by rw [(rfl : nI N = nI N)]; exact nI_ge (by omega) (by omega))
          · have hT1 : minL k (n + (fMin M).1) (fMin M).2 = (fPass m (nI N)) := by rw [← hT]; rfl
            have hm1 := fMin_ok hwM (by omega)
            have hm2 := minL_ok k (n + (fMin M).1) (fMin M).2 hm1.1 (by have := hm1.2.lg; omega)
            rw [hT1] at hm2
            obtain ⟨-, -, -, hg1, hg2, -, -⟩ := id hm2.2
            obtain ⟨-, -, -, hx1, hx2, -, -⟩ := id hm1.2
            refine lv_aload_n hx hb dX11_pass_34 rfl (lv_at hl 2 rfl) ?_
            refine lv_dup hx hb dX11_pass_35 rfl ?_
            refine m_int C0 hH hM 41 (by decide) (by decide) fl_X11_150 (v := M 41 0) rfl dX11_pass_36 ?_
            refine lv_iconst (v := 1) hx hb dX11_pass_39 (by decide) ?_
            refine lv_iadd hx hb dX11_pass_40 ?_
            refine m_put C0 hH hM 41 (by decide) (by decide) fl_X11_150 dX11_pass_41 (fun h H locs hH hM => ?_)
            refine lv_iload_n hx hb dX11_pass_44 rfl (lv_at hl 1 rfl) ?_
            refine lv_aload_n hx hb dX11_pass_45 rfl (lv_at hl 2 rfl) ?_
            obtain ⟨A1, hA1⟩ : ∃ z, z = (up M 41 0 ((M 41 0) + 1)) := ⟨_, rfl⟩
            replace hM : RM h o ad A1 := by rw [hA1]; exact hM
            have hwA1 : WFa A1 := by rw [hA1]; exact (WFa.upx hwM (by unfold kWF; omega))
            have grA1 : Gr 0 M A1 := by rw [hA1]; exact (((Gr.refl 0 M)).trans (Gr.up (by omega)))
            obtain ⟨gnA1, glA1, ghA1, gcA1, gsA1, gaA1, gbA1⟩ := id grA1
            have geA1 : uC A1 = uC (up M 41 0 ((M 41 0) + 1)) ∧ uS A1 = uS (up M 41 0 ((M 41 0) + 1)) := by rw [hA1]; exact ⟨rfl, rfl⟩
            have hMin1 : (fMin M).1 = (fArr A1).1 := by rw [hA1]; rfl
            have ha := fArr_ok hwA1 (by omega)
            obtain ⟨-, -, -, hg3, hg4, -, -⟩ := id ha.2
            have hal := ha.2.lg
            have han := ha.2.nl
            have hnl9 := ha.1.nl
            have hMin2 : (fMin M).2 = leftL (npN (passL (nlN (fArr A1).2) 0 (fArr A1).2)) 0 (passL (nlN (fArr A1).2) 0 (fArr A1).2) := by rw [hA1]; rfl
            have hpl := passL_ok (nlN (fArr A1).2) 0 (fArr A1).2 ha.1 (by omega) (by omega)
            obtain ⟨-, -, -, hg5, hg6, -, -⟩ := id hpl.2
            have hll := leftL_ok (npN (passL (nlN (fArr A1).2) 0 (fArr A1).2)) 0 _ hpl.1
            rw [← hMin2] at hll
            obtain ⟨-, -, -, hg7, hg8, -, -⟩ := id hll.2
            refine k_i hH (k_runV (rest := [.int (n)]) C0 hH (cM_arrives l G A _ o ad A1 hM  hwA1 (by omega)) mv_X11_arrives ml_X11_234 ci_15 hM.1 rfl ⟨Nat.le_of_ble_eq_true rfl, Nat.le_of_ble_eq_true rfl⟩ hl.1 rfl (Nat.le_of_ble_eq_true rfl) dX11_pass_46 ⟨by show _ ≤ uC ((fPass m (nI N)).2) - uC m; omega, by show _ ≤ uS ((fPass m (nI N)).2) - uS m; omega⟩) (fun r_7 h H locs hp hH => ?_)
            obtain ⟨er_7, ad, hM⟩ := hp
            subst er_7
            obtain ⟨A2, hA2⟩ : ∃ z, z = (fArr A1).2 := ⟨_, rfl⟩
            replace hM : RM h o ad A2 := by rw [hA2]; exact hM
            have hwA2 : WFa A2 := by rw [hA2]; exact ha.1
            have grA2 : Gr 40 A1 A2 := by rw [hA2]; exact ha.2
            obtain ⟨gnA2, glA2, ghA2, gcA2, gsA2, gaA2, gbA2⟩ := id grA2
            have geA2 : uC A2 = uC ((fArr A1).2) ∧ uS A2 = uS ((fArr A1).2) := by rw [hA2]; exact ⟨rfl, rfl⟩
            rw [← hA2] at hpl hMin2 hg3 hg4 hg5 hg6 hg7 hg8 hal han hnl9
            refine lv_iadd hx hb dX11_pass_49 ?_
            refine lv_istore_n (lv' := [(2, .int (n + ((fArr A1).1))), (3, .int (nI i)), (0, .ref (o)), (1, .int (nI N))]) hx hb dX11_pass_50 rfl hl (by decide) rfl (fun ls hl => ?_)
            refine lv_iconst (v := 0) hx hb dX11_pass_51 (by decide) ?_
            refine lv_istore (lv' := [(4, .int (0)), (2, .int (n + ((fArr A1).1))), (3, .int (nI i)), (0, .ref (o)), (1, .int (nI N))]) hx hb dX11_pass_52 hl (by decide) rfl (fun ls hl => ?_)
            have K2 : ∀ (k2 i2 : Nat) (B : MM) (ad : Nat → Nat) (cb : Nat) (sb : Nat), i2 + k2 = nlN A2 → passL k2 i2 B = (passL (nlN A2) 0 A2) → WFa B → Gr (40 * i2) A2 B → cb ≤ uC B - uC m → sb ≤ uS B - uS m → ∀ (h : AH) (H : Heap) (locs : List Loc) (hH : HS G.1 G.2.1 A s.heap h H locs) (hM : RM h o ad B) (ls : Array Slot), lv_has ls 5 [(4, .int (nI i2)), (3, .int (nI i)), (2, .int (n + (fArr A1).1)), (0, .ref (o)), (1, .int (nI N))] → W pr l e (rmm 12 309 (uC ((fPass m (nI N)).2) - uC m) (uS ((fPass m (nI N)).2) - uS m)) s m9 ([.ref (o), .int ((nI N))] : List Value).toArray below meth c H locs cb sb (QI below G A (fun r h' => r = (fPass m (nI N)).1 ∧ ∃ ad', RM h' o ad' ((fPass m (nI N)).2)) ([.ref (o), .int ((nI N))] : List Value).toArray s (uC ((fPass m (nI N)).2) - uC m) (uS ((fPass m (nI N)).2) - uS m)) (F0 m9 54 ls []) := by
              intro k2
              induction k2 with
              | zero =>
                intro i2 B ad cb sb hik2 hT2 hwB hgB hcb hsb h H locs hH hM ls hl
                obtain ⟨gnB, glB, ghB, gcB, gsB, gaB, gbB⟩ := id hgB
                have hB2 : B 38 0 = nI (nlN A2) := by rw [← glB]; exact hwB.nl.1
                have hi2 : i2 ≤ nlN A2 := by omega
                refine lv_iload hx hb dX11_pass_54 (lv_at hl 0 rfl) ?_
                refine lv_aload_n hx hb dX11_pass_56 rfl (lv_at hl 3 rfl) ?_
                refine m_int C0 hH hM 38 (by decide) (by decide) fl_X11_137 (v := B 38 0) rfl dX11_pass_57 ?_
                refine lv_icmp_ge (tgt := 102) hx hb dX11_pass_60 (by decide) (fun c60_8 => ?_) (fun c60_8 => ?_)
                · have hTB : B = (passL (nlN A2) 0 A2) := hT2
                  have hBc : uC B = uC (passL (nlN A2) 0 A2) ∧ uS B = uS (passL (nlN A2) 0 A2) := ⟨congrArg uC hTB, congrArg uS hTB⟩
                  refine lv_iconst (v := 0) hx hb dX11_pass_102 (by decide) ?_
                  refine lv_istore (lv' := [(4, .int (0)), (3, .int (nI i)), (2, .int (n + (fArr A1).1)), (0, .ref (o)), (1, .int (nI N))]) hx hb dX11_pass_103 hl (by decide) rfl (fun ls hl => ?_)
                  have K3 : ∀ (k3 i3 : Nat) (D : MM), i3 + k3 = npN B → leftL k3 i3 D = leftL (npN B) 0 B → WFa D → Gr 0 B D → ∀ (h : AH) (H : Heap) (locs : List Loc) (hH : HS G.1 G.2.1 A s.heap h H locs) (hM : RM h o ad D) (ls : Array Slot), lv_has ls 5 [(4, .int (nI i3)), (3, .int (nI i)), (2, .int (n + (fArr A1).1)), (0, .ref (o)), (1, .int (nI N))] → W pr l e (rmm 12 309 (uC ((fPass m (nI N)).2) - uC m) (uS ((fPass m (nI N)).2) - uS m)) s m9 ([.ref (o), .int ((nI N))] : List Value).toArray below meth c H locs cb sb (QI below G A (fun r h' => r = (fPass m (nI N)).1 ∧ ∃ ad', RM h' o ad' ((fPass m (nI N)).2)) ([.ref (o), .int ((nI N))] : List Value).toArray s (uC ((fPass m (nI N)).2) - uC m) (uS ((fPass m (nI N)).2) - uS m)) (F0 m9 105 ls []) := by
                    intro k3
                    induction k3 with
                    | zero =>
                      intro i3 D hik3 hT3 hwD hgD h H locs hH hM ls hl
                      obtain ⟨gnD, glD, ghD, gcD, gsD, gaD, gbD⟩ := id hgD
                      have hB3 : D 39 0 = nI (npN B) := by rw [← gnD]; exact hwD.np.1
                      refine lv_iload hx hb dX11_pass_105 (lv_at hl 0 rfl) ?_
                      refine lv_aload_n hx hb dX11_pass_107 rfl (lv_at hl 3 rfl) ?_
                      refine m_int C0 hH hM 39 (by decide) (by decide) fl_X11_144 (v := D 39 0) rfl dX11_pass_108 ?_
                      refine lv_icmp_ge (tgt := 144) hx hb dX11_pass_111 (by decide) (fun c111_9 => ?_) (fun c111_9 => ?_)
                      · have hDM : D = (fMin M).2 := by rw [hMin2, ← hTB]; exact hT3
                        refine lv_iinc (v := nI (i + 1)) (lv' := [(3, .int (nI (i + 1))), (4, .int (nI i3)), (2, .int (n + (fArr A1).1)), (0, .ref (o)), (1, .int (nI N))]) hx hb dX11_pass_144 hl (k := 1) rfl (by rw [← nI_1]; rfl) (by decide) rfl (fun ls hl => ?_)
                        refine lv_goto (tgt := 29) hx hb dX11_pass_147 (by decide) ?_
                        exact ih (i + 1) D (n + (fArr A1).1) ad _ _ (by omega) (by rw [hDM, ← hMin1]; exact hT1) hwD (((((hgM.trans grA1).trans grA2).trans hgB).trans hgD).mono (by omega)) (by omega) (by omega) _ _ _ hH hM ls (lv_sub hl [0, 2, 3, 4] rfl)
                      · exact absurd (by rw [hB3]; exact nI_le (by omega) (by omega)) c111_9
                    | succ k3 ih3 =>
                      intro i3 D hik3 hT3 hwD hgD h H locs hH hM ls hl
                      obtain ⟨gnD, glD, ghD, gcD, gsD, gaD, gbD⟩ := id hgD
                      have hB3 : D 39 0 = nI (npN B) := by rw [← gnD]; exact hwD.np.1
                      refine lv_iload hx hb dX11_pass_105 (lv_at hl 0 rfl) ?_
                      refine lv_aload_n hx hb dX11_pass_107 rfl (lv_at hl 3 rfl) ?_
                      refine m_int C0 hH hM 39 (by decide) (by decide) fl_X11_144 (v := D 39 0) rfl dX11_pass_108 ?_
                      refine lv_icmp_ge (tgt := 144) hx hb dX11_pass_111 (by decide) (fun c111_10 => ?_) (fun c111_10 => ?_)
                      · exact absurd c111_10 (by rw [hB3]; exact nI_ge (by omega) (by omega))
                      · have hp8 : i3 < npN D := by omega
                        have hnp8 := hwD.np
                        refine lv_aload_n hx hb dX11_pass_114 rfl (lv_at hl 3 rfl) ?_
                        refine m_arr C0 hH hM 30 (by decide) fl_X11_102 dX11_pass_115 ?_
                        refine lv_iload hx hb dX11_pass_118 (lv_at hl 0 rfl) ?_
                        refine m_ldZ C0 hH hM 30 (by decide) rfl (n := 40) rfl (ix := i3) (nI_clamp (by omega)) (by first | assumption | exact vp_in_nI (by omega) (by omega)) (v := D 30 i3) rfl dX11_pass_120 ?_
                        refine lv_if_eq (tgt := 138) hx hb dX11_pass_121 (by decide) (fun c121_11 => ?_) (fun c121_11 => ?_)
                        · refine lv_iinc (v := nI (i3 + 1)) (lv' := [(4, .int (nI (i3 + 1))), (3, .int (nI i)), (2, .int (n + (fArr A1).1)), (0, .ref (o)), (1, .int (nI N))]) hx hb dX11_pass_138 hl (k := 0) rfl (by rw [← nI_1]; rfl) (by decide) rfl (fun ls hl => ?_)
                          refine lv_goto (tgt := 105) hx hb dX11_pass_141 (by decide) ?_
                          exact ih3 (i3 + 1) D (by omega) (by rw [← hT3]; show _ = leftL k3 (i3 + 1) (if _ then _ else _); rw [if_neg (by simp [hcl, c111_10, Int32.not_le.mp c111_10, eq_true c121_11])]) hwD hgD _ _ _ hH hM ls (lv_sub hl [0, 1, 2, 3, 4] rfl)
                        · refine lv_aload_n hx hb dX11_pass_124 rfl (lv_at hl 3 rfl) ?_
                          refine m_arr C0 hH hM 30 (by decide) fl_X11_102 dX11_pass_125 ?_
                          refine lv_iload hx hb dX11_pass_128 (lv_at hl 0 rfl) ?_
                          refine lv_iconst (v := 0) hx hb dX11_pass_130 (by decide) ?_
                          refine m_stZ C0 hH hM 30 (by decide) rfl (n := 40) rfl (ix := i3) (nI_clamp (by omega)) (by first | assumption | exact vp_in_nI (by omega) (by omega)) (by decide) dX11_pass_131 (fun h H locs hH hM => ?_)
                          refine lv_aload_n hx hb dX11_pass_132 rfl (lv_at hl 3 rfl) ?_
                          refine lv_iload hx hb dX11_pass_133 (lv_at hl 0 rfl) ?_
                          have hc30 := c121_11
                          obtain ⟨D1, hD1⟩ : ∃ z, z = (up D 30 i3 0) := ⟨_, rfl⟩
                          replace hM : RM h o ad D1 := by rw [hD1]; exact hM
                          have hwD1 : WFa D1 := by rw [hD1]; exact (WFa.upx hwD (by unfold kWF; omega))
                          have grD1 : Gr 0 D D1 := by rw [hD1]; exact (((Gr.refl 0 D)).trans (Gr.up (by omega)))
                          obtain ⟨gnD1, glD1, ghD1, gcD1, gsD1, gaD1, gbD1⟩ := id grD1
                          have geD1 : uC D1 = uC (up D 30 i3 0) ∧ uS D1 = uS (up D 30 i3 0) := by rw [hD1]; exact ⟨rfl, rfl⟩
                          refine k_v hH (k_runV (rest := []) C0 hH (cM_plans l G A _ o ad D1 hM i3 hwD1 (by omega)) mv_X11_plans ml_X11_181 ci_15 hM.1 rfl ⟨Nat.le_of_ble_eq_true rfl, Nat.le_of_ble_eq_true rfl⟩ hl.1 rfl (Nat.le_of_ble_eq_true rfl) dX11_pass_135 ⟨by show _ ≤ uC ((fPass m (nI N)).2) - uC m; omega, by show _ ≤ uS ((fPass m (nI N)).2) - uS m; omega⟩) (fun h H locs hp hH => ?_)
                          have hM := hp
                          refine lv_iinc (v := nI (i3 + 1)) (lv' := [(4, .int (nI (i3 + 1))), (3, .int (nI i)), (2, .int (n + (fArr A1).1)), (0, .ref (o)), (1, .int (nI N))]) hx hb dX11_pass_138 hl (k := 0) rfl (by rw [← nI_1]; rfl) (by decide) rfl (fun ls hl => ?_)
                          refine lv_goto (tgt := 105) hx hb dX11_pass_141 (by decide) ?_
                          exact ih3 (i3 + 1) (fPlans D1 i3) (by omega) (by rw [← hT3]; show _ = leftL k3 (i3 + 1) (if _ then _ else _); rw [if_pos hc30, hD1]) (hwD1.plans i3) (((hgD.trans grD1).trans (Gr.plans D1 i3)).mono (by omega)) _ _ _ hH hM ls (lv_sub hl [0, 1, 2, 3, 4] rfl)
                  exact K3 (npN B) 0 B (by omega) (rfl) hwB (Gr.refl _ _) _ _ _ hH hM ls (lv_sub hl [0, 1, 2, 3, 4] rfl)
                · exact absurd (by rw [hB2]; exact nI_le (by omega) (by omega)) c60_8
              | succ k2 ih2 =>
                intro i2 B ad cb sb hik2 hT2 hwB hgB hcb hsb h H locs hH hM ls hl
                obtain ⟨gnB, glB, ghB, gcB, gsB, gaB, gbB⟩ := id hgB
                have hB2 : B 38 0 = nI (nlN A2) := by rw [← glB]; exact hwB.nl.1
                have hi2 : i2 ≤ nlN A2 := by omega
                refine lv_iload hx hb dX11_pass_54 (lv_at hl 0 rfl) ?_
                refine lv_aload_n hx hb dX11_pass_56 rfl (lv_at hl 3 rfl) ?_
                refine m_int C0 hH hM 38 (by decide) (by decide) fl_X11_137 (v := B 38 0) rfl dX11_pass_57 ?_
                refine lv_icmp_ge (tgt := 102) hx hb dX11_pass_60 (by decide) (fun c60_12 => ?_) (fun c60_12 => ?_)
                · exact absurd c60_12 (by rw [hB2]; exact nI_ge (by omega) (by omega))
                · have hl6 : i2 < nlN B := by omega
                  have hp9b := passL_ok (k2 + 1) i2 B hwB (by omega) (by omega)
                  rw [hT2] at hp9b
                  obtain ⟨-, -, -, hz1, hz2, -, -⟩ := id hp9b.2
                  refine lv_aload_n hx hb dX11_pass_63 rfl (lv_at hl 3 rfl) ?_
                  refine m_arr C0 hH hM 9 (by decide) fl_X11_37 dX11_pass_64 ?_
                  refine lv_iload hx hb dX11_pass_67 (lv_at hl 0 rfl) ?_
                  refine m_ldZ C0 hH hM 9 (by decide) rfl (n := 12) rfl (ix := i2) (nI_clamp (by omega)) (by first | assumption | exact vp_in_nI (by omega) (by omega)) (v := B 9 i2) rfl dX11_pass_69 ?_
                  refine lv_if_ne (tgt := 96) hx hb dX11_pass_70 (by decide) (fun c70_13 => ?_) (fun c70_13 => ?_)
                  · refine lv_iinc (v := nI (i2 + 1)) (lv' := [(4, .int (nI (i2 + 1))), (3, .int (nI i)), (2, .int (n + (fArr A1).1)), (0, .ref (o)), (1, .int (nI N))]) hx hb dX11_pass_96 hl (k := 0) rfl (by rw [← nI_1]; rfl) (by decide) rfl (fun ls hl => ?_)
                    refine lv_goto (tgt := 54) hx hb dX11_pass_99 (by decide) ?_
                    exact ih2 (i2 + 1) B ad _ _ (by omega) (by rw [← hT2]; show _ = passL k2 (i2 + 1) (if _ then _ else _); rw [if_neg (by simp [hcl, c60_12, Int32.not_le.mp c60_12, eq_false c70_13])]) hwB (hgB.mono (by omega)) hcb hsb _ _ _ hH hM ls (lv_sub hl [0, 1, 2, 3, 4] rfl)
                  · refine lv_aload_n hx hb dX11_pass_73 rfl (lv_at hl 3 rfl) ?_
                    refine lv_iload hx hb dX11_pass_74 (lv_at hl 0 rfl) ?_
                    refine lv_aload_n hx hb dX11_pass_76 rfl (lv_at hl 3 rfl) ?_
                    refine m_int C0 hH hM 41 (by decide) (by decide) fl_X11_150 (v := B 41 0) rfl dX11_pass_77 ?_
                    refine k_i hH (k_runV (rest := []) C0 hH (cM_leaves l G A _ o ad B hM i2 (B 41 0) hwB (by omega)) mv_X11_leaves ml_X11_166 ci_15 hM.1 rfl ⟨Nat.le_of_ble_eq_true rfl, Nat.le_of_ble_eq_true rfl⟩ hl.1 rfl (Nat.le_of_ble_eq_true rfl) dX11_pass_80 ⟨by show _ ≤ uC ((fPass m (nI N)).2) - uC m; omega, by show _ ≤ uS ((fPass m (nI N)).2) - uS m; omega⟩) (fun r_14 h1 H locs hp hH => ?_)
                    obtain ⟨er_14, eh⟩ := hp
                    rw [eh] at hH
                    clear eh
                    subst er_14
                    refine lv_aload_n hx hb dX11_pass_83 rfl (lv_at hl 3 rfl) ?_
                    refine m_int C0 hH hM 41 (by decide) (by decide) fl_X11_150 (v := B 41 0) rfl dX11_pass_84 ?_
                    refine lv_icmp_ne (tgt := 96) hx hb dX11_pass_87 (by decide) (fun c87_15 => ?_) (fun c87_15 => ?_)
                    · refine lv_iinc (v := nI (i2 + 1)) (lv' := [(4, .int (nI (i2 + 1))), (3, .int (nI i)), (2, .int (n + (fArr A1).1)), (0, .ref (o)), (1, .int (nI N))]) hx hb dX11_pass_96 hl (k := 0) rfl (by rw [← nI_1]; rfl) (by decide) rfl (fun ls hl => ?_)
                      refine lv_goto (tgt := 54) hx hb dX11_pass_99 (by decide) ?_
                      exact ih2 (i2 + 1) B ad _ _ (by omega) (by rw [← hT2]; show _ = passL k2 (i2 + 1) (if _ then _ else _); rw [if_neg (by simp [hcl, c60_12, Int32.not_le.mp c60_12, eq_true c70_13, eq_false c87_15])]) hwB (hgB.mono (by omega)) hcb hsb _ _ _ hH hM ls (lv_sub hl [0, 1, 2, 3, 4] rfl)
                    · refine lv_aload_n hx hb dX11_pass_90 rfl (lv_at hl 3 rfl) ?_
                      refine lv_iload hx hb dX11_pass_91 (lv_at hl 0 rfl) ?_
                      have hT22 : passL k2 (i2 + 1) (fLoads B i2) = (passL (nlN A2) 0 A2) := by rw [← hT2]; show _ = passL k2 (i2 + 1) (if _ then _ else _); rw [if_pos ⟨c70_13, c87_15⟩]
                      have hl9 := fLoads_ok hwB hl6 (by omega)
                      have hl8 := hl9.2.lg
                      have hl7 := hl9.2.nl
                      obtain ⟨-, -, -, hy1, hy2, -, -⟩ := id hl9.2
                      have hp9 := passL_ok k2 (i2 + 1) (fLoads B i2) hl9.1 (by omega) (by omega)
                      rw [hT22] at hp9
                      obtain ⟨-, -, -, hy3, hy4, -, -⟩ := id hp9.2
                      refine k_v hH (k_runV (rest := []) C0 hH (cM_loads l G A _ o ad B hM i2 hwB (by omega) (by omega)) mv_X11_loads ml_X11_238 ci_15 hM.1 rfl ⟨Nat.le_of_ble_eq_true rfl, Nat.le_of_ble_eq_true rfl⟩ hl.1 rfl (Nat.le_of_ble_eq_true rfl) dX11_pass_93 ⟨by show _ ≤ uC ((fPass m (nI N)).2) - uC m; omega, by show _ ≤ uS ((fPass m (nI N)).2) - uS m; omega⟩) (fun h H locs hp hH => ?_)
                      obtain ⟨ad, hM⟩ := hp
                      refine lv_iinc (v := nI (i2 + 1)) (lv' := [(4, .int (nI (i2 + 1))), (3, .int (nI i)), (2, .int (n + (fArr A1).1)), (0, .ref (o)), (1, .int (nI N))]) hx hb dX11_pass_96 hl (k := 0) rfl (by rw [← nI_1]; rfl) (by decide) rfl (fun ls hl => ?_)
                      refine lv_goto (tgt := 54) hx hb dX11_pass_99 (by decide) ?_
                      exact ih2 (i2 + 1) (fLoads B i2) ad _ _ (by omega) (hT22) hl9.1 ((hgB.trans hl9.2).mono (by omega)) (by omega) (by omega) _ _ _ hH hM ls (lv_sub hl [0, 1, 2, 3, 4] rfl)
            exact K2 (nlN A2) 0 A2 ad _ _ (by omega) (rfl) hwA2 (Gr.refl _ _) (by omega) (by omega) _ _ _ hH hM ls (lv_sub hl [0, 2, 1, 3, 4] rfl)
      exact K (N) 0 P0 0 ad 0 0 (by omega) (hQ) hwP0 (grP0.mono (by omega)) (Nat.zero_le _) (Nat.zero_le _) _ _ _ hH hM ls (lv_sub hl [0, 1, 2, 3] rfl)
    · exact absurd (by decide) c20_4
  · replace c8_2 := bi_0.mp c8_2
    refine lv_iconst (v := 1) hx hb dX11_pass_11 (by decide) ?_
    refine lv_goto (tgt := 16) hx hb dX11_pass_12 (by decide) ?_
    refine lv_iconst (v := 1) hx hb dX11_pass_16 (by decide) ?_
    refine k_i hH (k_runV (rest := []) C0 hH (cM_isThrown l G A _ o ad m hM 1 1 rfl) mv_X11_isThrown ml_X11_140 ci_15 hM.1 rfl ⟨Nat.le_of_ble_eq_true rfl, Nat.le_of_ble_eq_true rfl⟩ hl.1 rfl (Nat.le_of_ble_eq_true rfl) dX11_pass_17 ⟨by show _ ≤ uC ((fPass m x).2) - uC m; omega, by show _ ≤ uS ((fPass m x).2) - uS m; omega⟩) (fun r_16 h H locs hp hH => ?_)
    obtain ⟨er_16, hM⟩ := hp
    subst er_16
    refine lv_if_eq (tgt := 25) hx hb dX11_pass_20 (by decide) (fun c20_17 => ?_) (fun c20_17 => ?_)
    · exact absurd c20_17 (by decide)
    · refine lv_iconst (v := 0) hx hb dX11_pass_23 (by decide) ?_
      have eR : 0 = (fPass m x).1 := by simp [fPass, bi, thr, fNone, fNoLine, c8_2]
      have eM : (fPass m x).2 = (up m 45 0 (if 1 = 0 then 0 else 1)) := by simp [fPass, bi, thr, fNone, fNoLine, c8_2]
      exact e_I C0 hr hH ⟨eR, _, by rw [eM]; exact hM⟩ (by omega) (by omega) dX11_pass_24
