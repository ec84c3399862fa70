theorem mtL_cnt (m : MM) : ∀ (k i a : Nat) (t : Int32), ∃ b, b ≤ a + k ∧ (mtL m k i (nI a) t).1 = nI b := by
  intro k
  induction k with
  | zero => intro i a t; exact ⟨a, Nat.le_refl _, rfl⟩
  | succ k ih =>
    intro i a t
    unfold mtL bi
    by_cases c : m 28 i = 100
    · rw [if_pos c, nI_1]
      obtain ⟨b, h1, h2⟩ := ih (i + 1) (a + 1) _
      exact ⟨b, by omega, h2⟩
    · rw [if_neg c, show nI a + 0 = nI a from Int32.add_zero _]
      obtain ⟨b, h1, h2⟩ := ih (i + 1) a _
      exact ⟨b, by omega, h2⟩
theorem mnt_num {m : MM} (hw : WFa m) {n t : Int32} (e : mtL m (npN m) 0 0 0 = (n, t)) (h : ¬ n = 0) : vf_n64 (FP.ddiv (FP.i2d t) (FP.i2d n)) := by
  have hnp := hw.np
  obtain ⟨b, h1, h2⟩ := mtL_cnt m (npN m) 0 0 0
  have h3 : n = nI b := by rw [show n = (mtL m (npN m) 0 0 0).1 by rw [e]]; exact h2
  have h4 : b ≠ 0 := fun z => h (by rw [h3, z]; rfl)
  obtain ⟨k, hk⟩ : ∃ k, b = k + 1 := ⟨b - 1, by omega⟩
  rw [h3, hk]
  exact mean_num t (by omega)
set_option maxHeartbeats 4000000 in
set_option maxRecDepth 100000 in
theorem cM_meanTime (l : Launch) (G : GT) (A : Nat → Prop) (h : AH) (o : Nat) (ad : Nat → Nat) (m : MM) (hM : RM h o ad m) (hw : WFa m) : cmD l G A yX11_meanTime cX11_meanTime 4 (Option.some FieldType.double) 1 22 0 0 [.ref (o)] h (fun r h' => r = (if (fMnT m).1.1 = 0 then FP.dconst0 else FP.ddiv (FP.i2d (fMnT m).1.2) (FP.i2d (fMnT m).1.1)) ∧ RM h' o ad ((fMnT m).2)) := by
  refine cm_of "RoutepostModel" rfl (by decide) (Nat.le_of_ble_eq_true rfl) ?_
  intro pr e s m9 below meth c C0 hr hname hH ls hl
  obtain ⟨hx, hb, hml, hown, hts, hK, hA, -⟩ := id C0
  have hl : lv_has ls 4 [(0, .ref (o))] := hl
  have hnp := hw.np
  have hB := hnp.1
  refine lv_iconst (v := 0) hx hb dX11_meanTime_0 (by decide) ?_
  refine lv_istore_n (lv' := [(1, .int (0)), (0, .ref (o))]) hx hb dX11_meanTime_1 rfl hl (by decide) rfl (fun ls hl => ?_)
  refine lv_iconst (v := 0) hx hb dX11_meanTime_2 (by decide) ?_
  refine lv_istore_n (lv' := [(2, .int (0)), (1, .int (0)), (0, .ref (o))]) hx hb dX11_meanTime_3 rfl hl (by decide) rfl (fun ls hl => ?_)
  refine lv_iconst (v := 0) hx hb dX11_meanTime_4 (by decide) ?_
  refine lv_istore_n (lv' := [(3, .int (0)), (2, .int (0)), (1, .int (0)), (0, .ref (o))]) hx hb dX11_meanTime_5 rfl hl (by decide) rfl (fun ls hl => ?_)
  have K : ∀ (k i : Nat) (n : Int32) (t : Int32), i + k = npN m → mtL m k i n t = mtL m (npN m) 0 0 0 → ∀ (ls : Array Slot), lv_has ls 4 [(3, .int (nI i)), (2, .int (t)), (1, .int (n)), (0, .ref (o))] → W pr l e (rmm 1 22 0 0) s m9 ([.ref (o)] : List Value).toArray below meth c s.heap [] 0 0 (MQ below (va_Qd (fun r h' => r = (if (fMnT m).1.1 = 0 then FP.dconst0 else FP.ddiv (FP.i2d (fMnT m).1.2) (FP.i2d (fMnT m).1.1)) ∧ RM h' o ad ((fMnT m).2)) (fun h' t => HW G.1 G.2.1 A h' t.heap) A) ([.ref (o)] : List Value).toArray s 0 0 A) (F0 m9 6 ls []) := by
    intro k
    induction k with
    | zero =>
      intro i n t hik hT  ls hl
      refine lv_iload_n hx hb dX11_meanTime_6 rfl (lv_at hl 0 rfl) ?_
      refine lv_aload_n hx hb dX11_meanTime_7 rfl (lv_at hl 3 rfl) ?_
      refine m_int C0 hH hM 39 (by decide) (by decide) fl_X11_144 (v := m 39 0) rfl dX11_meanTime_8 ?_
      refine lv_icmp_ge (tgt := 70) hx hb dX11_meanTime_11 (by decide) (fun c11_1 => ?_) (fun c11_1 => ?_)
      · refine lv_aload_n hx hb dX11_meanTime_70 rfl (lv_at hl 3 rfl) ?_
        refine lv_iload_n hx hb dX11_meanTime_71 rfl (lv_at hl 2 rfl) ?_
        refine lv_if_ne (tgt := 79) hx hb dX11_meanTime_72 (by decide) (fun c72_2 => ?_) (fun c72_2 => ?_)
        · refine lv_iconst (v := 0) hx hb dX11_meanTime_79 (by decide) ?_
          refine lv_iconst (v := 1) hx hb dX11_meanTime_80 (by decide) ?_
          refine k_i hH (k_runV (rest := []) C0 hH (cM_isThrown l G A _ o ad m hM 0 1 rfl) mv_X11_isThrown ml_X11_140 ci_15 hM.1 rfl ⟨by decide, by decide⟩ hl.1 rfl (Nat.le_of_ble_eq_true rfl) dX11_meanTime_81 (by simp)) (fun r_3 h H locs hp hH => ?_)
          obtain ⟨er_3, hM⟩ := hp
          subst er_3
          refine lv_if_eq (tgt := 91) hx hb dX11_meanTime_84 (by decide) (fun c84_4 => ?_) (fun c84_4 => ?_)
          · refine lv_iload_n hx hb dX11_meanTime_91 rfl (lv_at hl 1 rfl) ?_
            refine lv_i2d hx hb dX11_meanTime_92 ?_
            refine lv_iload_n hx hb dX11_meanTime_93 rfl (lv_at hl 2 rfl) ?_
            refine lv_i2d hx hb dX11_meanTime_94 ?_
            refine lv_ddiv hx hb dX11_meanTime_95 (mnt_num hw (show mtL m (npN m) 0 0 0 = (n, t) from hT.symm) (by assumption)) ?_
            have eR : FP.ddiv (FP.i2d t) (FP.i2d n) = (if (fMnT m).1.1 = 0 then FP.dconst0 else FP.ddiv (FP.i2d (fMnT m).1.2) (FP.i2d (fMnT m).1.1)) := by simp [fMnT, ← hT, mtL, c11_1, Int32.not_lt.mpr c11_1, eq_false c72_2]
            have eM : (fMnT m).2 = (up m 45 0 (if 0 = 0 then 0 else 1)) := by simp [fMnT, ← hT, mtL, thr, bi, c11_1, Int32.not_lt.mpr c11_1, eq_false c72_2]
            exact e_D C0 hr hH ⟨eR, by rw [eM]; exact hM⟩ (Nat.le_refl _) (Nat.le_refl _) dX11_meanTime_96
          · exact absurd (by decide) c84_4
        · refine lv_iconst (v := 1) hx hb dX11_meanTime_75 (by decide) ?_
          refine lv_goto (tgt := 80) hx hb dX11_meanTime_76 (by decide) ?_
          refine lv_iconst (v := 1) hx hb dX11_meanTime_80 (by decide) ?_
          refine k_i hH (k_runV (rest := []) C0 hH (cM_isThrown l G A _ o ad m hM 1 1 rfl) mv_X11_isThrown ml_X11_140 ci_15 hM.1 rfl ⟨by decide, by decide⟩ hl.1 rfl (Nat.le_of_ble_eq_true rfl) dX11_meanTime_81 (by simp)) (fun r_5 h H locs hp hH => ?_)
          obtain ⟨er_5, hM⟩ := hp
          subst er_5
          refine lv_if_eq (tgt := 91) hx hb dX11_meanTime_84 (by decide) (fun c84_6 => ?_) (fun c84_6 => ?_)
          · exact absurd c84_6 (by decide)
          · refine lv_dconst0 hx hb dX11_meanTime_87 ?_
            refine lv_goto (tgt := 96) hx hb dX11_meanTime_88 (by decide) ?_
            have eR : FP.dconst0 = (if (fMnT m).1.1 = 0 then FP.dconst0 else FP.ddiv (FP.i2d (fMnT m).1.2) (FP.i2d (fMnT m).1.1)) := by simp [fMnT, ← hT, mtL, c11_1, Int32.not_lt.mpr c11_1, eq_true c72_2]
            have eM : (fMnT m).2 = (up m 45 0 (if 1 = 0 then 0 else 1)) := by simp [fMnT, ← hT, mtL, thr, bi, c11_1, Int32.not_lt.mpr c11_1, eq_true c72_2]
            exact e_D C0 hr hH ⟨eR, by rw [eM]; exact hM⟩ (Nat.le_refl _) (Nat.le_refl _) dX11_meanTime_96
      · exact absurd (by rw [hB]; exact nI_le (by omega) (by omega)) c11_1
    | succ k ih =>
      intro i n t hik hT  ls hl
      refine lv_iload_n hx hb dX11_meanTime_6 rfl (lv_at hl 0 rfl) ?_
      refine lv_aload_n hx hb dX11_meanTime_7 rfl (lv_at hl 3 rfl) ?_
      refine m_int C0 hH hM 39 (by decide) (by decide) fl_X11_144 (v := m 39 0) rfl dX11_meanTime_8 ?_
      refine lv_icmp_ge (tgt := 70) hx hb dX11_meanTime_11 (by decide) (fun c11_7 => ?_) (fun c11_7 => ?_)
      · exact absurd c11_7 (by rw [hB]; exact nI_ge (by omega) (by omega))
      · have hp : i < npN m := by omega
        refine lv_iload_n hx hb dX11_meanTime_14 rfl (lv_at hl 2 rfl) ?_
        refine lv_aload_n hx hb dX11_meanTime_15 rfl (lv_at hl 3 rfl) ?_
        refine m_arr C0 hH hM 28 (by decide) fl_X11_95 dX11_meanTime_16 ?_
        refine lv_iload_n hx hb dX11_meanTime_19 rfl (lv_at hl 0 rfl) ?_
        refine m_ldC C0 hH hM 28 (by decide) rfl (n := 40) rfl (ix := i) (nI_clamp (by omega)) (by first | assumption | exact vp_in_nI (by omega) (by omega)) (v := m 28 i) rfl dX11_meanTime_20 ?_
        refine lv_bipush (v := 100) hx hb dX11_meanTime_21 (by decide) ?_
        refine lv_icmp_ne (tgt := 30) hx hb dX11_meanTime_23 (by decide) (fun c23_8 => ?_) (fun c23_8 => ?_)
        · refine lv_iconst (v := 0) hx hb dX11_meanTime_30 (by decide) ?_
          refine lv_iadd hx hb dX11_meanTime_31 ?_
          refine lv_istore_n (lv' := [(1, .int (n + 0)), (3, .int (nI i)), (2, .int (t)), (0, .ref (o))]) hx hb dX11_meanTime_32 rfl hl (by decide) rfl (fun ls hl => ?_)
          refine lv_iload_n hx hb dX11_meanTime_33 rfl (lv_at hl 2 rfl) ?_
          refine lv_aload_n hx hb dX11_meanTime_34 rfl (lv_at hl 3 rfl) ?_
          refine m_arr C0 hH hM 28 (by decide) fl_X11_95 dX11_meanTime_35 ?_
          refine lv_iload_n hx hb dX11_meanTime_38 rfl (lv_at hl 1 rfl) ?_
          refine m_ldC C0 hH hM 28 (by decide) rfl (n := 40) rfl (ix := i) (nI_clamp (by omega)) (by first | assumption | exact vp_in_nI (by omega) (by omega)) (v := m 28 i) rfl dX11_meanTime_39 ?_
          refine lv_bipush (v := 100) hx hb dX11_meanTime_40 (by decide) ?_
          refine lv_icmp_ne (tgt := 61) hx hb dX11_meanTime_42 (by decide) (fun c42_9 => ?_) (fun c42_9 => ?_)
          · refine lv_iconst (v := 0) hx hb dX11_meanTime_61 (by decide) ?_
            refine lv_iadd hx hb dX11_meanTime_62 ?_
            refine lv_istore_n (lv' := [(2, .int (t + 0)), (1, .int (n + 0)), (3, .int (nI i)), (0, .ref (o))]) hx hb dX11_meanTime_63 rfl hl (by decide) rfl (fun ls hl => ?_)
            refine lv_iinc (v := nI (i + 1)) (lv' := [(3, .int (nI (i + 1))), (2, .int (t + 0)), (1, .int (n + 0)), (0, .ref (o))]) hx hb dX11_meanTime_64 hl (k := 2) rfl (by rw [← nI_1]; rfl) (by decide) rfl (fun ls hl => ?_)
            refine lv_goto (tgt := 6) hx hb dX11_meanTime_67 (by decide) ?_
            exact ih (i + 1) (n + 0) (t + 0) (by omega) (by rw [← hT]; simp [mtL, bi, c11_7, Int32.not_le.mp c11_7, eq_false c23_8])  ls (lv_sub hl [0, 1, 2, 3] rfl)
          · exact absurd c42_9 c23_8
        · refine lv_iconst (v := 1) hx hb dX11_meanTime_26 (by decide) ?_
          refine lv_goto (tgt := 31) hx hb dX11_meanTime_27 (by decide) ?_
          refine lv_iadd hx hb dX11_meanTime_31 ?_
          refine lv_istore_n (lv' := [(1, .int (n + 1)), (3, .int (nI i)), (2, .int (t)), (0, .ref (o))]) hx hb dX11_meanTime_32 rfl hl (by decide) rfl (fun ls hl => ?_)
          refine lv_iload_n hx hb dX11_meanTime_33 rfl (lv_at hl 2 rfl) ?_
          refine lv_aload_n hx hb dX11_meanTime_34 rfl (lv_at hl 3 rfl) ?_
          refine m_arr C0 hH hM 28 (by decide) fl_X11_95 dX11_meanTime_35 ?_
          refine lv_iload_n hx hb dX11_meanTime_38 rfl (lv_at hl 1 rfl) ?_
          refine m_ldC C0 hH hM 28 (by decide) rfl (n := 40) rfl (ix := i) (nI_clamp (by omega)) (by first | assumption | exact vp_in_nI (by omega) (by omega)) (v := m 28 i) rfl dX11_meanTime_39 ?_
          refine lv_bipush (v := 100) hx hb dX11_meanTime_40 (by decide) ?_
          refine lv_icmp_ne (tgt := 61) hx hb dX11_meanTime_42 (by decide) (fun c42_10 => ?_) (fun c42_10 => ?_)
          · exact absurd c23_8 c42_10
          · refine lv_aload_n hx hb dX11_meanTime_45 rfl (lv_at hl 3 rfl) ?_
            refine m_arr C0 hH hM 26 (by decide) fl_X11_89 dX11_meanTime_46 ?_
            refine lv_iload_n hx hb dX11_meanTime_49 rfl (lv_at hl 1 rfl) ?_
            refine m_ldI C0 hH hM 26 (by decide) rfl (n := 40) rfl (ix := i) (nI_clamp (by omega)) (by first | assumption | exact vp_in_nI (by omega) (by omega)) (v := m 26 i) rfl dX11_meanTime_50 ?_
            refine lv_aload_n hx hb dX11_meanTime_51 rfl (lv_at hl 3 rfl) ?_
            refine m_arr C0 hH hM 25 (by decide) fl_X11_86 dX11_meanTime_52 ?_
            refine lv_iload_n hx hb dX11_meanTime_55 rfl (lv_at hl 1 rfl) ?_
            refine m_ldI C0 hH hM 25 (by decide) rfl (n := 40) rfl (ix := i) (nI_clamp (by omega)) (by first | assumption | exact vp_in_nI (by omega) (by omega)) (v := m 25 i) rfl dX11_meanTime_56 ?_
            refine lv_isub hx hb dX11_meanTime_57 ?_
            refine lv_goto (tgt := 62) hx hb dX11_meanTime_58 (by decide) ?_
            refine lv_iadd hx hb dX11_meanTime_62 ?_
            refine lv_istore_n (lv' := [(2, .int (t + ((m 26 i) - (m 25 i)))), (1, .int (n + 1)), (3, .int (nI i)), (0, .ref (o))]) hx hb dX11_meanTime_63 rfl hl (by decide) rfl (fun ls hl => ?_)
            refine lv_iinc (v := nI (i + 1)) (lv' := [(3, .int (nI (i + 1))), (2, .int (t + ((m 26 i) - (m 25 i)))), (1, .int (n + 1)), (0, .ref (o))]) hx hb dX11_meanTime_64 hl (k := 2) rfl (by rw [← nI_1]; rfl) (by decide) rfl (fun ls hl => ?_)
            refine lv_goto (tgt := 6) hx hb dX11_meanTime_67 (by decide) ?_
            exact ih (i + 1) (n + 1) (t + ((m 26 i) - (m 25 i))) (by omega) (by rw [← hT]; simp [mtL, bi, c11_7, Int32.not_le.mp c11_7, eq_true c23_8])  ls (lv_sub hl [0, 1, 2, 3] rfl)
  exact K (npN m) 0 0 0 (by omega) (rfl)  ls (lv_sub hl [0, 1, 2, 3] rfl)
