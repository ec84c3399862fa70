set_option maxHeartbeats 4000000 in
set_option maxRecDepth 100000 in
theorem cM_isPut (l : Launch) (G : GT) (A : Nat → Prop) (h : AH) (o : Nat) (ad : Nat → Nat) (m : MM) (hM : RM h o ad m) (p : Nat) (mo : Int32) (hw : WFa m) (hp : p < npN m) (hg : BG m) : cmI l G A yX11_isPut cX11_isPut 4 (Option.some FieldType.boolean) 0 0 0 0 [.ref (o), .int (nI p), .int (mo)] h (fun r h' => r = (fPut m p mo).1 ∧ RM h' o ad ((fPut m p mo).2)) := by
  refine cm_of "RoutepostModel" rfl (by decide) (Nat.le_of_ble_eq_true rfl) ?_
  intro pr e s m9 below meth c C0 hr hname hH ls hl
  obtain ⟨hx, hb, hml, hown, hts, hK, hA, -⟩ := id C0
  have hl : lv_has ls 4 [(0, .ref (o)), (1, .int (nI p)), (2, .int (mo))] := hl
  have hnp := hw.np
  obtain ⟨hB, hbg⟩ := hg
  refine lv_iconst (v := 0) hx hb dX11_isPut_0 (by decide) ?_
  refine lv_istore_n (lv' := [(3, .int (0)), (0, .ref (o)), (1, .int (nI p)), (2, .int (mo))]) hx hb dX11_isPut_1 rfl hl (by decide) rfl (fun ls hl => ?_)
  have K : ∀ (k i : Nat) , i + k = bagsN m → bagL m p k i = bagL m p (bagsN m) 0 → ∀ (ls : Array Slot), lv_has ls 4 [(3, .int (nI i)), (0, .ref (o)), (1, .int (nI p)), (2, .int (mo))] → W pr l e (rmm 0 0 0 0) s m9 ([.ref (o), .int (nI p), .int (mo)] : List Value).toArray below meth c s.heap [] 0 0 (QI below G A (fun r h' => r = (fPut m p mo).1 ∧ RM h' o ad ((fPut m p mo).2)) ([.ref (o), .int (nI p), .int (mo)] : List Value).toArray s 0 0) (F0 m9 2 ls []) := by
    intro k
    induction k with
    | zero =>
      intro i  hik hT  ls hl
      refine lv_iload_n hx hb dX11_isPut_2 rfl (lv_at hl 0 rfl) ?_
      refine lv_aload_n hx hb dX11_isPut_3 rfl (lv_at hl 1 rfl) ?_
      refine m_int C0 hH hM 44 (by decide) (by decide) fl_X11_226 (v := m 44 0) rfl dX11_isPut_4 ?_
      refine lv_icmp_ge (tgt := 49) hx hb dX11_isPut_7 (by decide) (fun c7_1 => ?_) (fun c7_1 => ?_)
      · refine lv_iload_n hx hb dX11_isPut_49 rfl (lv_at hl 0 rfl) ?_
        have hk9 : bagL m p (bagsN m) 0 = i := hT.symm
        have hib : i = bagsN m := by omega
        refine lv_aload_n hx hb dX11_isPut_50 rfl (lv_at hl 1 rfl) ?_
        refine m_int C0 hH hM 44 (by decide) (by decide) fl_X11_226 (v := m 44 0) rfl dX11_isPut_51 ?_
        refine lv_icmp_ne (tgt := 96) hx hb dX11_isPut_54 (by decide) (fun c54_2 => ?_) (fun c54_2 => ?_)
        · exact absurd (by rw [hB, hib]) c54_2
        · refine lv_aload_n hx hb dX11_isPut_57 rfl (lv_at hl 1 rfl) ?_
          refine m_int C0 hH hM 44 (by decide) (by decide) fl_X11_226 (v := m 44 0) rfl dX11_isPut_58 ?_
          refine lv_iload_n hx hb dX11_isPut_61 rfl (lv_at hl 3 rfl) ?_
          refine lv_icmp_ne (tgt := 67) hx hb dX11_isPut_62 (by decide) (fun c62_3 => ?_) (fun c62_3 => ?_)
          · refine lv_aload_n hx hb dX11_isPut_67 rfl (lv_at hl 1 rfl) ?_
            refine m_arr C0 hH hM 34 (by decide) fl_X11_114 dX11_isPut_68 ?_
            refine lv_iload_n hx hb dX11_isPut_71 rfl (lv_at hl 0 rfl) ?_
            refine lv_aload_n hx hb dX11_isPut_72 rfl (lv_at hl 1 rfl) ?_
            refine m_arr C0 hH hM 14 (by decide) fl_X11_53 dX11_isPut_73 ?_
            refine lv_iload_n hx hb dX11_isPut_76 rfl (lv_at hl 2 rfl) ?_
            refine m_ldI C0 hH hM 14 (by decide) rfl (n := 40) rfl (ix := p) (nI_clamp (by omega)) (by first | assumption | exact vp_in_nI (by omega) (by omega)) (v := m 14 p) rfl dX11_isPut_77 ?_
            refine m_stI C0 hH hM 34 (by decide) rfl (n := 40) rfl (ix := i) (nI_clamp (by omega)) (by first | assumption | exact vp_in_nI (by omega) (by omega)) dX11_isPut_78 (fun h H locs hH hM => ?_)
            refine lv_aload_n hx hb dX11_isPut_79 rfl (lv_at hl 1 rfl) ?_
            refine m_arr C0 hH hM 35 (by decide) fl_X11_117 dX11_isPut_80 ?_
            refine lv_iload_n hx hb dX11_isPut_83 rfl (lv_at hl 0 rfl) ?_
            refine lv_iconst (v := 0) hx hb dX11_isPut_84 (by decide) ?_
            refine m_stI C0 hH hM 35 (by decide) rfl (n := 40) rfl (ix := i) (nI_clamp (by omega)) (by first | assumption | exact vp_in_nI (by omega) (by omega)) dX11_isPut_85 (fun h H locs hH hM => ?_)
            refine lv_aload_n hx hb dX11_isPut_86 rfl (lv_at hl 1 rfl) ?_
            refine lv_dup hx hb dX11_isPut_87 rfl ?_
            refine m_int C0 hH hM 44 (by decide) (by decide) fl_X11_226 (v := m 44 0) rfl dX11_isPut_88 ?_
            refine lv_iconst (v := 1) hx hb dX11_isPut_91 (by decide) ?_
            refine lv_iadd hx hb dX11_isPut_92 ?_
            refine m_put C0 hH hM 44 (by decide) (by decide) fl_X11_226 dX11_isPut_93 (fun h H locs hH hM => ?_)
            refine lv_aload_n hx hb dX11_isPut_96 rfl (lv_at hl 1 rfl) ?_
            refine m_arr C0 hH hM 35 (by decide) fl_X11_117 dX11_isPut_97 ?_
            refine lv_iload_n hx hb dX11_isPut_100 rfl (lv_at hl 0 rfl) ?_
            refine lv_dup2_11 hx hb dX11_isPut_101 rfl rfl ?_
            refine m_ldI C0 hH hM 35 (by decide) rfl (n := 40) rfl (ix := i) (nI_clamp (by omega)) (by first | assumption | exact vp_in_nI (by omega) (by omega)) (v := 0) (by simp [up]) dX11_isPut_102 ?_
            refine lv_aload_n hx hb dX11_isPut_103 rfl (lv_at hl 1 rfl) ?_
            refine m_arr C0 hH hM 11 (by decide) fl_X11_44 dX11_isPut_104 ?_
            refine lv_iload_n hx hb dX11_isPut_107 rfl (lv_at hl 2 rfl) ?_
            refine m_ldI C0 hH hM 11 (by decide) rfl (n := 40) rfl (ix := p) (nI_clamp (by omega)) (by first | assumption | exact vp_in_nI (by omega) (by omega)) (v := m 11 p) rfl dX11_isPut_108 ?_
            refine lv_iadd hx hb dX11_isPut_109 ?_
            refine m_stI C0 hH hM 35 (by decide) rfl (n := 40) rfl (ix := i) (nI_clamp (by omega)) (by first | assumption | exact vp_in_nI (by omega) (by omega)) dX11_isPut_110 (fun h H locs hH hM => ?_)
            refine lv_iconst (v := 1) hx hb dX11_isPut_111 (by decide) ?_
            have eR : 1 = (fPut m p mo).1 := by unfold fPut; dsimp only; rw [hk9]; simp [hib, eq_false c62_3]
            have eM : (fPut m p mo).2 = (up (up (up (up m 34 i (m 14 p)) 35 i 0) 44 0 ((m 44 0) + 1)) 35 i (0 + (m 11 p))) := by unfold fPut; dsimp only; rw [hk9]; simp [hib, eq_false c62_3]
            exact e_Z C0 hr (by decide) hH ⟨eR, by rw [eM]; exact hM⟩ (Nat.le_refl _) (Nat.le_refl _) dX11_isPut_112
          · refine lv_iconst (v := 0) hx hb dX11_isPut_65 (by decide) ?_
            have eR : 0 = (fPut m p mo).1 := by unfold fPut; dsimp only; rw [hk9]; simp [hib, eq_true c62_3]
            have eM : (fPut m p mo).2 = m := by unfold fPut; dsimp only; rw [hk9]; simp [hib, eq_true c62_3]
            exact e_Z C0 hr (by decide) hH ⟨eR, by rw [eM]; exact hM⟩ (Nat.le_refl _) (Nat.le_refl _) dX11_isPut_66
      · exact absurd (by rw [hB]; exact nI_le (by omega) (by omega)) c7_1
    | succ k ih =>
      intro i  hik hT  ls hl
      refine lv_iload_n hx hb dX11_isPut_2 rfl (lv_at hl 0 rfl) ?_
      refine lv_aload_n hx hb dX11_isPut_3 rfl (lv_at hl 1 rfl) ?_
      refine m_int C0 hH hM 44 (by decide) (by decide) fl_X11_226 (v := m 44 0) rfl dX11_isPut_4 ?_
      refine lv_icmp_ge (tgt := 49) hx hb dX11_isPut_7 (by decide) (fun c7_4 => ?_) (fun c7_4 => ?_)
      · exact absurd c7_4 (by rw [hB]; exact nI_ge (by omega) (by omega))
      · refine lv_aload_n hx hb dX11_isPut_10 rfl (lv_at hl 1 rfl) ?_
        refine m_arr C0 hH hM 34 (by decide) fl_X11_114 dX11_isPut_11 ?_
        refine lv_iload_n hx hb dX11_isPut_14 rfl (lv_at hl 0 rfl) ?_
        refine m_ldI C0 hH hM 34 (by decide) rfl (n := 40) rfl (ix := i) (nI_clamp (by omega)) (by first | assumption | exact vp_in_nI (by omega) (by omega)) (v := m 34 i) rfl dX11_isPut_15 ?_
        refine lv_aload_n hx hb dX11_isPut_16 rfl (lv_at hl 1 rfl) ?_
        refine m_arr C0 hH hM 14 (by decide) fl_X11_53 dX11_isPut_17 ?_
        refine lv_iload_n hx hb dX11_isPut_20 rfl (lv_at hl 2 rfl) ?_
        refine m_ldI C0 hH hM 14 (by decide) rfl (n := 40) rfl (ix := p) (nI_clamp (by omega)) (by first | assumption | exact vp_in_nI (by omega) (by omega)) (v := m 14 p) rfl dX11_isPut_21 ?_
        refine lv_icmp_ne (tgt := 43) hx hb dX11_isPut_22 (by decide) (fun c22_5 => ?_) (fun c22_5 => ?_)
        · refine lv_iinc (v := nI (i + 1)) (lv' := [(3, .int (nI (i + 1))), (0, .ref (o)), (1, .int (nI p)), (2, .int (mo))]) hx hb dX11_isPut_43 hl (k := 0) rfl (by rw [← nI_1]; rfl) (by decide) rfl (fun ls hl => ?_)
          refine lv_goto (tgt := 2) hx hb dX11_isPut_46 (by decide) ?_
          exact ih (i + 1)  (by omega) (by rw [← hT]; simp [bagL, c7_4, Int32.not_le.mp c7_4, eq_false c22_5])  ls (lv_sub hl [0, 1, 2, 3] rfl)
        · refine lv_aload_n hx hb dX11_isPut_25 rfl (lv_at hl 1 rfl) ?_
          refine m_arr C0 hH hM 35 (by decide) fl_X11_117 dX11_isPut_26 ?_
          refine lv_iload_n hx hb dX11_isPut_29 rfl (lv_at hl 0 rfl) ?_
          refine m_ldI C0 hH hM 35 (by decide) rfl (n := 40) rfl (ix := i) (nI_clamp (by omega)) (by first | assumption | exact vp_in_nI (by omega) (by omega)) (v := m 35 i) rfl dX11_isPut_30 ?_
          refine lv_aload_n hx hb dX11_isPut_31 rfl (lv_at hl 1 rfl) ?_
          refine m_arr C0 hH hM 11 (by decide) fl_X11_44 dX11_isPut_32 ?_
          refine lv_iload_n hx hb dX11_isPut_35 rfl (lv_at hl 2 rfl) ?_
          refine m_ldI C0 hH hM 11 (by decide) rfl (n := 40) rfl (ix := p) (nI_clamp (by omega)) (by first | assumption | exact vp_in_nI (by omega) (by omega)) (v := m 11 p) rfl dX11_isPut_36 ?_
          refine lv_iadd hx hb dX11_isPut_37 ?_
          refine lv_bipush (v := 12) hx hb dX11_isPut_38 (by decide) ?_
          refine lv_icmp_le (tgt := 49) hx hb dX11_isPut_40 (by decide) (fun c40_6 => ?_) (fun c40_6 => ?_)
          · refine lv_iload_n hx hb dX11_isPut_49 rfl (lv_at hl 0 rfl) ?_
            have hk9 : bagL m p (bagsN m) 0 = i := by rw [← hT]; simp [bagL, c7_4, Int32.not_le.mp c7_4, eq_true c22_5, c40_6, Int32.not_lt.mpr c40_6]
            have hib : ¬ i = bagsN m := by omega
            refine lv_aload_n hx hb dX11_isPut_50 rfl (lv_at hl 1 rfl) ?_
            refine m_int C0 hH hM 44 (by decide) (by decide) fl_X11_226 (v := m 44 0) rfl dX11_isPut_51 ?_
            refine lv_icmp_ne (tgt := 96) hx hb dX11_isPut_54 (by decide) (fun c54_7 => ?_) (fun c54_7 => ?_)
            · refine lv_aload_n hx hb dX11_isPut_96 rfl (lv_at hl 1 rfl) ?_
              refine m_arr C0 hH hM 35 (by decide) fl_X11_117 dX11_isPut_97 ?_
              refine lv_iload_n hx hb dX11_isPut_100 rfl (lv_at hl 0 rfl) ?_
              refine lv_dup2_11 hx hb dX11_isPut_101 rfl rfl ?_
              refine m_ldI C0 hH hM 35 (by decide) rfl (n := 40) rfl (ix := i) (nI_clamp (by omega)) (by first | assumption | exact vp_in_nI (by omega) (by omega)) (v := m 35 i) rfl dX11_isPut_102 ?_
              refine lv_aload_n hx hb dX11_isPut_103 rfl (lv_at hl 1 rfl) ?_
              refine m_arr C0 hH hM 11 (by decide) fl_X11_44 dX11_isPut_104 ?_
              refine lv_iload_n hx hb dX11_isPut_107 rfl (lv_at hl 2 rfl) ?_
              refine m_ldI C0 hH hM 11 (by decide) rfl (n := 40) rfl (ix := p) (nI_clamp (by omega)) (by first | assumption | exact vp_in_nI (by omega) (by omega)) (v := m 11 p) rfl dX11_isPut_108 ?_
              refine lv_iadd hx hb dX11_isPut_109 ?_
              refine m_stI C0 hH hM 35 (by decide) rfl (n := 40) rfl (ix := i) (nI_clamp (by omega)) (by first | assumption | exact vp_in_nI (by omega) (by omega)) dX11_isPut_110 (fun h H locs hH hM => ?_)
              refine lv_iconst (v := 1) hx hb dX11_isPut_111 (by decide) ?_
              have eR : 1 = (fPut m p mo).1 := by unfold fPut; dsimp only; rw [hk9]; simp [hib]
              have eM : (fPut m p mo).2 = (up m 35 i ((m 35 i) + (m 11 p))) := by unfold fPut; dsimp only; rw [hk9]; simp [hib]
              exact e_Z C0 hr (by decide) hH ⟨eR, by rw [eM]; exact hM⟩ (Nat.le_refl _) (Nat.le_refl _) dX11_isPut_112
            · exact (hib (by have h9 := congrArg Int32.toNatClampNeg (hB ▸ c54_7); rw [nI_clamp (by omega), nI_clamp (by omega)] at h9; exact h9)).elim
          · refine lv_iinc (v := nI (i + 1)) (lv' := [(3, .int (nI (i + 1))), (0, .ref (o)), (1, .int (nI p)), (2, .int (mo))]) hx hb dX11_isPut_43 hl (k := 0) rfl (by rw [← nI_1]; rfl) (by decide) rfl (fun ls hl => ?_)
            refine lv_goto (tgt := 2) hx hb dX11_isPut_46 (by decide) ?_
            exact ih (i + 1)  (by omega) (by rw [← hT]; simp [bagL, c7_4, Int32.not_le.mp c7_4, eq_true c22_5, c40_6, Int32.not_le.mp c40_6])  ls (lv_sub hl [0, 1, 2, 3] rfl)
  exact K (bagsN m) 0  (by omega) (rfl)  ls (lv_sub hl [0, 1, 2, 3] rfl)
