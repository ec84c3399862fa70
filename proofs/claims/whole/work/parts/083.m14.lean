set_option maxHeartbeats 4000000 in
set_option maxRecDepth 100000 in
theorem cM_arrives (l : Launch) (G : GT) (A : Nat → Prop) (h : AH) (o : Nat) (ad : Nat → Nat) (m : MM) (hM : RM h o ad m) (hw : WFa m) (hU : logN m + 40 ≤ 2 ^ 21) : cmI l G A yX11_arrives cX11_arrives 3 (Option.some FieldType.int) 1 25 (uC ((fArr m).2) - uC m) (uS ((fArr m).2) - uS m) [.ref (o)] h (fun r h' => r = (fArr m).1 ∧ ∃ ad', RM h' o ad' ((fArr m).2)) := by
  refine cm_of "RoutepostModel" rfl (by decide) (Nat.le_of_ble_eq_true rfl) ?_
  intro pr e s m9 below meth c C0 hr hname hH ls hl
  obtain ⟨hx, hb, hml, hown, hts, hK, hA, -⟩ := id C0
  have hl : lv_has ls 3 [(0, .ref (o))] := hl
  have hnp := hw.np
  refine lv_iconst (v := 0) hx hb dX11_arrives_0 (by decide) ?_
  refine lv_istore_n (lv' := [(1, .int (0)), (0, .ref (o))]) hx hb dX11_arrives_1 rfl hl (by decide) rfl (fun ls hl => ?_)
  refine lv_iconst (v := 0) hx hb dX11_arrives_2 (by decide) ?_
  refine lv_istore_n (lv' := [(2, .int (0)), (1, .int (0)), (0, .ref (o))]) hx hb dX11_arrives_3 rfl hl (by decide) rfl (fun ls hl => ?_)
  have K : ∀ (k i : Nat) (M : MM) (n : Int32) (ad : Nat → Nat) (cc : Nat) (ss : Nat), i + k = npN m → arrL k i n M = fArr m → WFa M → Gr i m M → cc ≤ uC M - uC m → ss ≤ uS M - uS m → ∀ (h : AH) (H : Heap) (locs : List Loc) (hH : HS G.1 G.2.1 A s.heap h H locs) (hM : RM h o ad M) (ls : Array Slot), lv_has ls 3 [(2, .int (nI i)), (1, .int (n)), (0, .ref (o))] → W pr l e (rmm 1 25 (uC ((fArr m).2) - uC m) (uS ((fArr m).2) - uS m)) s m9 ([.ref (o)] : List Value).toArray below meth c H locs cc ss (QI below G A (fun r h' => r = (fArr m).1 ∧ ∃ ad', RM h' o ad' ((fArr m).2)) ([.ref (o)] : List Value).toArray s (uC ((fArr m).2) - uC m) (uS ((fArr m).2) - uS m)) (F0 m9 4 ls []) := by
    intro k
    induction k with
    | zero =>
      intro i M n ad cc ss hik hT hwM hgM hcc hss h H locs hH hM ls hl
      obtain ⟨gnM, glM, ghM, gcM, gsM, gaM, gbM⟩ := id hgM
      have hB : M 39 0 = nI (npN m) := by rw [← gnM]; exact hwM.np.1
      have hZ : ∀ z : Int32 × MM, arrL 0 i n M = z → (n, M) = z := fun z q => q
      refine lv_iload_n hx hb dX11_arrives_4 rfl (lv_at hl 0 rfl) ?_
      refine lv_aload_n hx hb dX11_arrives_5 rfl (lv_at hl 2 rfl) ?_
      refine m_int C0 hH hM 39 (by decide) (by decide) fl_X11_144 (v := M 39 0) rfl dX11_arrives_6 ?_
      refine lv_icmp_ge (tgt := 83) hx hb dX11_arrives_9 (by decide) (fun c9_1 => ?_) (fun c9_1 => ?_)
      · refine lv_iload_n hx hb dX11_arrives_83 rfl (lv_at hl 1 rfl) ?_
        have eR : n = (fArr m).1 := by rw [← hT]; rfl
        have eM : (fArr m).2 = M := by rw [← hT]; rfl
        exact e_I C0 hr hH ⟨eR, _, by rw [eM]; exact hM⟩ (by rw [eM]; omega) (by rw [eM]; omega) dX11_arrives_84
      · exact absurd (by rw [hB]; exact nI_le (by omega) (by omega)) c9_1
    | succ k ih =>
      intro i M n ad cc ss hik hT hwM hgM hcc hss h H locs hH hM ls hl
      obtain ⟨gnM, glM, ghM, gcM, gsM, gaM, gbM⟩ := id hgM
      have hB : M 39 0 = nI (npN m) := by rw [← gnM]; exact hwM.np.1
      have hZ : ∀ z : Int32 × MM, arrL 0 i n M = z → (n, M) = z := fun z q => q
      refine lv_iload_n hx hb dX11_arrives_4 rfl (lv_at hl 0 rfl) ?_
      refine lv_aload_n hx hb dX11_arrives_5 rfl (lv_at hl 2 rfl) ?_
      refine m_int C0 hH hM 39 (by decide) (by decide) fl_X11_144 (v := M 39 0) rfl dX11_arrives_6 ?_
      refine lv_icmp_ge (tgt := 83) hx hb dX11_arrives_9 (by decide) (fun c9_2 => ?_) (fun c9_2 => ?_)
      · exact absurd c9_2 (by rw [hB]; exact nI_ge (by omega) (by omega))
      · have hp : i < npN M := by omega
        have h16 := (hwM.pa hp).2.2.2.1
        refine lv_aload_n hx hb dX11_arrives_12 rfl (lv_at hl 2 rfl) ?_
        refine m_arr C0 hH hM 28 (by decide) fl_X11_95 dX11_arrives_13 ?_
        refine lv_iload_n hx hb dX11_arrives_16 rfl (lv_at hl 0 rfl) ?_
        refine m_ldC C0 hH hM 28 (by decide) rfl (n := 40) rfl (ix := i) (nI_clamp (by omega)) (by first | assumption | exact vp_in_nI (by omega) (by omega)) (v := M 28 i) rfl dX11_arrives_17 ?_
        refine lv_bipush (v := 116) hx hb dX11_arrives_18 (by decide) ?_
        refine lv_icmp_ne (tgt := 77) hx hb dX11_arrives_20 (by decide) (fun c20_3 => ?_) (fun c20_3 => ?_)
        · refine lv_iinc (v := nI (i + 1)) (lv' := [(2, .int (nI (i + 1))), (1, .int (n)), (0, .ref (o))]) hx hb dX11_arrives_77 hl (k := 0) rfl (by rw [← nI_1]; rfl) (by decide) rfl (fun ls hl => ?_)
          refine lv_goto (tgt := 4) hx hb dX11_arrives_80 (by decide) ?_
          exact ih (i + 1) M n ad _ _ (by omega) (by rw [← hT]; simp [arrL, c9_2, Int32.not_le.mp c9_2, eq_false c20_3]) hwM (hgM.mono (by omega)) hcc hss _ _ _ hH hM ls (lv_sub hl [0, 1, 2] rfl)
        · refine lv_aload_n hx hb dX11_arrives_23 rfl (lv_at hl 2 rfl) ?_
          refine m_arr C0 hH hM 17 (by decide) fl_X11_62 dX11_arrives_24 ?_
          refine lv_iload_n hx hb dX11_arrives_27 rfl (lv_at hl 0 rfl) ?_
          refine m_ldI C0 hH hM 17 (by decide) rfl (n := 40) rfl (ix := i) (nI_clamp (by omega)) (by first | assumption | exact vp_in_nI (by omega) (by omega)) (v := M 17 i) rfl dX11_arrives_28 ?_
          refine lv_aload_n hx hb dX11_arrives_29 rfl (lv_at hl 2 rfl) ?_
          refine m_int C0 hH hM 41 (by decide) (by decide) fl_X11_150 (v := M 41 0) rfl dX11_arrives_30 ?_
          refine lv_icmp_ne (tgt := 77) hx hb dX11_arrives_33 (by decide) (fun c33_4 => ?_) (fun c33_4 => ?_)
          · refine lv_iinc (v := nI (i + 1)) (lv' := [(2, .int (nI (i + 1))), (1, .int (n)), (0, .ref (o))]) hx hb dX11_arrives_77 hl (k := 0) rfl (by rw [← nI_1]; rfl) (by decide) rfl (fun ls hl => ?_)
            refine lv_goto (tgt := 4) hx hb dX11_arrives_80 (by decide) ?_
            exact ih (i + 1) M n ad _ _ (by omega) (by rw [← hT]; simp [arrL, c9_2, Int32.not_le.mp c9_2, eq_true c20_3, eq_false c33_4]) hwM (hgM.mono (by omega)) hcc hss _ _ _ hH hM ls (lv_sub hl [0, 1, 2] rfl)
          · refine lv_aload_n hx hb dX11_arrives_36 rfl (lv_at hl 2 rfl) ?_
            refine m_arr C0 hH hM 28 (by decide) fl_X11_95 dX11_arrives_37 ?_
            refine lv_iload_n hx hb dX11_arrives_40 rfl (lv_at hl 0 rfl) ?_
            refine lv_bipush (v := 117) hx hb dX11_arrives_41 (by decide) ?_
            refine m_stC C0 hH hM 28 (by decide) rfl (n := 40) rfl (ix := i) (nI_clamp (by omega)) (by first | assumption | exact vp_in_nI (by omega) (by omega)) (by decide) dX11_arrives_43 (fun h H locs hH hM => ?_)
            refine lv_aload_n hx hb dX11_arrives_44 rfl (lv_at hl 2 rfl) ?_
            refine m_arr C0 hH hM 15 (by decide) fl_X11_56 dX11_arrives_45 ?_
            refine lv_iload_n hx hb dX11_arrives_48 rfl (lv_at hl 0 rfl) ?_
            refine lv_aload_n hx hb dX11_arrives_49 rfl (lv_at hl 2 rfl) ?_
            refine m_arr C0 hH hM 3 (by decide) fl_X11_19 dX11_arrives_50 ?_
            refine lv_aload_n hx hb dX11_arrives_53 rfl (lv_at hl 2 rfl) ?_
            refine m_arr C0 hH hM 16 (by decide) fl_X11_59 dX11_arrives_54 ?_
            refine lv_iload_n hx hb dX11_arrives_57 rfl (lv_at hl 0 rfl) ?_
            refine m_ldI C0 hH hM 16 (by decide) rfl (n := 40) rfl (ix := i) (nI_clamp (by omega)) (by first | assumption | exact vp_in_nI (by omega) (by omega)) (v := M 16 i) rfl dX11_arrives_58 ?_
            refine m_ldI C0 hH hM 3 (by decide) rfl (n := 12) rfl (ix := (M 16 i).toNatClampNeg) rfl h16 (v := M 3 ((M 16 i).toNatClampNeg)) rfl dX11_arrives_59 ?_
            refine m_stI C0 hH hM 15 (by decide) rfl (n := 40) rfl (ix := i) (nI_clamp (by omega)) (by first | assumption | exact vp_in_nI (by omega) (by omega)) dX11_arrives_60 (fun h H locs hH hM => ?_)
            refine lv_aload_n hx hb dX11_arrives_61 rfl (lv_at hl 2 rfl) ?_
            refine lv_iload_n hx hb dX11_arrives_62 rfl (lv_at hl 0 rfl) ?_
            refine lv_bipush (v := 117) hx hb dX11_arrives_63 (by decide) ?_
            refine lv_aload_n hx hb dX11_arrives_65 rfl (lv_at hl 2 rfl) ?_
            refine m_arr C0 hH hM 16 (by decide) fl_X11_59 dX11_arrives_66 ?_
            refine lv_iload_n hx hb dX11_arrives_69 rfl (lv_at hl 0 rfl) ?_
            refine m_ldI C0 hH hM 16 (by decide) rfl (n := 40) rfl (ix := i) (nI_clamp (by omega)) (by first | assumption | exact vp_in_nI (by omega) (by omega)) (v := M 16 i) rfl dX11_arrives_70 ?_
            obtain ⟨M1, hM1⟩ : ∃ z, z = (up (up M 28 i 117) 15 i (M 3 ((M 16 i).toNatClampNeg))) := ⟨_, rfl⟩
            replace hM : RM h o ad M1 := by rw [hM1]; exact hM
            have hwM1 : WFa M1 := by rw [hM1]; exact arr1_wf hwM hp c20_3
            have grM1 : Gr 0 M M1 := by rw [hM1]; exact (((((Gr.refl 0 M)).trans (Gr.up (by omega)))).trans (Gr.up (by omega)))
            obtain ⟨gnM1, glM1, ghM1, gcM1, gsM1, gaM1, gbM1⟩ := id grM1
            have geM1 : uC M1 = uC (up (up M 28 i 117) 15 i (M 3 ((M 16 i).toNatClampNeg))) ∧ uS M1 = uS (up (up M 28 i 117) 15 i (M 3 ((M 16 i).toNatClampNeg))) := by rw [hM1]; exact ⟨rfl, rfl⟩
            have hTT : arrL k (i + 1) (n + 1) (fHap M1 i 117 (M 16 i)) = fArr m := by rw [← hT, hM1]; simp [arrL, c9_2, Int32.not_le.mp c9_2, eq_true c20_3, eq_true c33_4]
            have hg9 := Gr.hap hwM1 i 117 (M 16 i)
            obtain ⟨-, -, -, hg1, hg2, -, -⟩ := id hg9
            have hgf := (arr_ok k (i + 1) (n + 1) _ (hwM1.hap (show i < npN M1 by omega) (kind := 117) rfl (M 16 i) (by omega)) (by rw [hg9.np]; omega) (by have := hg9.lg; omega)).2
            rw [hTT] at hgf
            obtain ⟨-, -, -, hg3, hg4, -, -⟩ := id hgf
            refine k_v hH (k_runV (rest := []) C0 hH (cM_happens l G A _ o ad M1 hM i 117 (M 16 i) hwM1 (by omega) (by omega)) mv_X11_happens ml_X11_188 ci_15 hM.1 rfl ⟨Nat.le_of_ble_eq_true rfl, Nat.le_of_ble_eq_true rfl⟩ hl.1 rfl (Nat.le_of_ble_eq_true rfl) dX11_arrives_71 ⟨by show _ ≤ uC ((fArr m).2) - uC m; omega, by show _ ≤ uS ((fArr m).2) - uS m; omega⟩) (fun h H locs hp hH => ?_)
            obtain ⟨ad, hM⟩ := hp
            refine lv_iinc (v := n + 1) (lv' := [(1, .int (n + 1)), (2, .int (nI i)), (0, .ref (o))]) hx hb dX11_arrives_74 hl (k := 1) rfl (rfl) (by decide) rfl (fun ls hl => ?_)
            obtain ⟨M2, hM2⟩ : ∃ z, z = fHap M1 i 117 (M 16 i) := ⟨_, rfl⟩
            replace hM : RM h o ad M2 := by rw [hM2]; exact hM
            have hwM2 : WFa M2 := by rw [hM2]; exact hwM1.hap (by omega) rfl _ (by omega)
            have grM2 : Gr 1 M1 M2 := by rw [hM2]; exact Gr.hap hwM1 i 117 (M 16 i)
            obtain ⟨gnM2, glM2, ghM2, gcM2, gsM2, gaM2, gbM2⟩ := id grM2
            have geM2 : uC M2 = uC (fHap M1 i 117 (M 16 i)) ∧ uS M2 = uS (fHap M1 i 117 (M 16 i)) := by rw [hM2]; exact ⟨rfl, rfl⟩
            refine lv_iinc (v := nI (i + 1)) (lv' := [(2, .int (nI (i + 1))), (1, .int (n + 1)), (0, .ref (o))]) hx hb dX11_arrives_77 hl (k := 1) rfl (by rw [← nI_1]; rfl) (by decide) rfl (fun ls hl => ?_)
            refine lv_goto (tgt := 4) hx hb dX11_arrives_80 (by decide) ?_
            exact ih (i + 1) M2 (n + 1) ad _ _ (by omega) (by rw [← hTT, hM2, hM1]) hwM2 (((hgM.trans grM1).trans grM2).mono (by omega)) (by omega) (by omega) _ _ _ hH hM ls (lv_sub hl [0, 1, 2] rfl)
  exact K (npN m) 0 m 0 ad 0 0 (by omega) (rfl) hw (Gr.refl _ _) (Nat.zero_le _) (Nat.zero_le _) _ _ _ hH hM ls (lv_sub hl [0, 1, 2] rfl)
