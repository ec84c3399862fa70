theorem ltL_cnt (m : MM) : ∀ (k i a : Nat), ∃ b, b ≤ a + k ∧ ltL m k i (nI a) = nI b := by
  intro k
  induction k with
  | zero => intro i a; exact ⟨a, Nat.le_refl _, rfl⟩
  | succ k ih =>
    intro i a
    unfold ltL bi
    by_cases c : late m i
    · rw [if_pos c, nI_1]
      obtain ⟨b, h1, h2⟩ := ih (i + 1) (a + 1)
      exact ⟨b, by omega, h2⟩
    · rw [if_neg c, show nI a + 0 = nI a from Int32.add_zero _]
      obtain ⟨b, h1, h2⟩ := ih (i + 1) a
      exact ⟨b, by omega, h2⟩
theorem lts_num {m : MM} (hw : WFa m) (h : ¬ m 39 0 = 0) : vf_n32 (FP.fdiv (FP.i2f (ltL m (npN m) 0 0)) (FP.i2f (m 39 0))) := by
  have hnp := hw.np
  obtain ⟨b, h1, h2⟩ := ltL_cnt m (npN m) 0 0
  have h3 : ltL m (npN m) 0 0 = nI b := h2
  rw [h3, hnp.1]
  have h4 : npN m ≠ 0 := fun z => h (by rw [hnp.1, z]; rfl)
  obtain ⟨k, hk⟩ : ∃ k, npN m = k + 1 := ⟨npN m - 1, by omega⟩
  rw [hk]
  exact share_num b (by omega) k (by omega)
set_option maxHeartbeats 4000000 in
set_option maxRecDepth 100000 in
theorem cM_lateShare (l : Launch) (G : GT) (A : Nat → Prop) (h : AH) (o : Nat) (ad : Nat → Nat) (m : MM) (hM : RM h o ad m) (hw : WFa m) : cmF l G A yX11_lateShare cX11_lateShare 3 (Option.some FieldType.float) 1 22 0 0 [.ref (o)] h (fun r h' => r = (if m 39 0 = 0 then FP.fconst0 else FP.fdiv (FP.i2f (fLtS m).1) (FP.i2f (m 39 0))) ∧ RM h' o ad ((fLtS m).2)) := by
  refine cm_of "RoutepostModel" rfl (by decide) (Nat.le_of_ble_eq_true rfl) ?_
  intro pr e s m9 below meth c C0 hr hname hH ls hl
  obtain ⟨hx, hb, hml, hown, hts, hK, hA, -⟩ := id C0
  have hl : lv_has ls 3 [(0, .ref (o))] := hl
  have hnp := hw.np
  have hB := hnp.1
  refine lv_iconst (v := 0) hx hb dX11_lateShare_0 (by decide) ?_
  refine lv_istore_n (lv' := [(1, .int (0)), (0, .ref (o))]) hx hb dX11_lateShare_1 rfl hl (by decide) rfl (fun ls hl => ?_)
  refine lv_iconst (v := 0) hx hb dX11_lateShare_2 (by decide) ?_
  refine lv_istore_n (lv' := [(2, .int (0)), (1, .int (0)), (0, .ref (o))]) hx hb dX11_lateShare_3 rfl hl (by decide) rfl (fun ls hl => ?_)
  have K : ∀ (k i : Nat) (n : Int32), i + k = npN m → ltL m k i n = ltL m (npN m) 0 0 → ∀ (h : AH) (H : Heap) (locs : List Loc) (hH : HS G.1 G.2.1 A s.heap h H locs) (hM : RM h o ad m) (ls : Array Slot), lv_has ls 3 [(2, .int (nI i)), (1, .int (n)), (0, .ref (o))] → W pr l e (rmm 1 22 0 0) s m9 ([.ref (o)] : List Value).toArray below meth c H locs 0 0 (MQ below (va_Qf (fun r h' => r = (if m 39 0 = 0 then FP.fconst0 else FP.fdiv (FP.i2f (fLtS m).1) (FP.i2f (m 39 0))) ∧ RM h' o ad ((fLtS m).2)) (fun h' t => HW G.1 G.2.1 A h' t.heap) A) ([.ref (o)] : List Value).toArray s 0 0 A) (F0 m9 4 ls []) := by
    intro k
    induction k with
    | zero =>
      intro i n hik hT  h H locs hH hM ls hl
      refine lv_iload_n hx hb dX11_lateShare_4 rfl (lv_at hl 0 rfl) ?_
      refine lv_aload_n hx hb dX11_lateShare_5 rfl (lv_at hl 2 rfl) ?_
      refine m_int C0 hH hM 39 (by decide) (by decide) fl_X11_144 (v := m 39 0) rfl dX11_lateShare_6 ?_
      refine lv_icmp_ge (tgt := 34) hx hb dX11_lateShare_9 (by decide) (fun c9_1 => ?_) (fun c9_1 => ?_)
      · refine lv_aload_n hx hb dX11_lateShare_34 rfl (lv_at hl 2 rfl) ?_
        refine lv_aload_n hx hb dX11_lateShare_35 rfl (lv_at hl 2 rfl) ?_
        refine m_int C0 hH hM 39 (by decide) (by decide) fl_X11_144 (v := m 39 0) rfl dX11_lateShare_36 ?_
        refine lv_if_ne (tgt := 46) hx hb dX11_lateShare_39 (by decide) (fun c39_2 => ?_) (fun c39_2 => ?_)
        · refine lv_iconst (v := 0) hx hb dX11_lateShare_46 (by decide) ?_
          refine lv_iconst (v := 1) hx hb dX11_lateShare_47 (by decide) ?_
          refine k_i hH (k_runV (rest := []) C0 hH (cM_isThrown l G A _ o ad m hM 0 1 rfl) mv_X11_isThrown ml_X11_140 ci_15 hM.1 rfl ⟨by decide, by decide⟩ hl.1 rfl (Nat.le_of_ble_eq_true rfl) dX11_lateShare_48 (by simp)) (fun r_3 h H locs hp hH => ?_)
          obtain ⟨er_3, hM⟩ := hp
          subst er_3
          refine lv_if_eq (tgt := 58) hx hb dX11_lateShare_51 (by decide) (fun c51_4 => ?_) (fun c51_4 => ?_)
          · refine lv_iload_n hx hb dX11_lateShare_58 rfl (lv_at hl 1 rfl) ?_
            refine lv_i2f hx hb dX11_lateShare_59 ?_
            refine lv_aload_n hx hb dX11_lateShare_60 rfl (lv_at hl 2 rfl) ?_
            refine m_int C0 hH hM 39 (by decide) (by decide) fl_X11_144 (v := m 39 0) rfl dX11_lateShare_61 ?_
            refine lv_i2f hx hb dX11_lateShare_64 ?_
            refine lv_fdiv hx hb dX11_lateShare_65 (by rw [show n = _ from hT]; exact lts_num hw (by assumption)) ?_
            have eR : FP.fdiv (FP.i2f n) (FP.i2f (m 39 0)) = (if m 39 0 = 0 then FP.fconst0 else FP.fdiv (FP.i2f (fLtS m).1) (FP.i2f (m 39 0))) := by simp [fLtS, ← hT, ltL, c9_1, Int32.not_lt.mpr c9_1, eq_false c39_2]
            have eM : (fLtS m).2 = (up m 45 0 (if 0 = 0 then 0 else 1)) := by simp [fLtS, thr, bi, c9_1, Int32.not_lt.mpr c9_1, eq_false c39_2]
            exact e_F C0 hr hH ⟨eR, by rw [eM]; exact hM⟩ (Nat.le_refl _) (Nat.le_refl _) dX11_lateShare_66
          · exact absurd (by decide) c51_4
        · refine lv_iconst (v := 1) hx hb dX11_lateShare_42 (by decide) ?_
          refine lv_goto (tgt := 47) hx hb dX11_lateShare_43 (by decide) ?_
          refine lv_iconst (v := 1) hx hb dX11_lateShare_47 (by decide) ?_
          refine k_i hH (k_runV (rest := []) C0 hH (cM_isThrown l G A _ o ad m hM 1 1 rfl) mv_X11_isThrown ml_X11_140 ci_15 hM.1 rfl ⟨by decide, by decide⟩ hl.1 rfl (Nat.le_of_ble_eq_true rfl) dX11_lateShare_48 (by simp)) (fun r_5 h H locs hp hH => ?_)
          obtain ⟨er_5, hM⟩ := hp
          subst er_5
          refine lv_if_eq (tgt := 58) hx hb dX11_lateShare_51 (by decide) (fun c51_6 => ?_) (fun c51_6 => ?_)
          · exact absurd c51_6 (by decide)
          · refine lv_fconst0 hx hb dX11_lateShare_54 ?_
            refine lv_goto (tgt := 66) hx hb dX11_lateShare_55 (by decide) ?_
            have eR : FP.fconst0 = (if m 39 0 = 0 then FP.fconst0 else FP.fdiv (FP.i2f (fLtS m).1) (FP.i2f (m 39 0))) := by simp [fLtS, ← hT, ltL, c9_1, Int32.not_lt.mpr c9_1, eq_true c39_2]
            have eM : (fLtS m).2 = (up m 45 0 (if 1 = 0 then 0 else 1)) := by simp [fLtS, thr, bi, c9_1, Int32.not_lt.mpr c9_1, eq_true c39_2]
            exact e_F C0 hr hH ⟨eR, by rw [eM]; exact hM⟩ (Nat.le_refl _) (Nat.le_refl _) dX11_lateShare_66
      · exact absurd (by rw [hB]; exact nI_le (by omega) (by omega)) c9_1
    | succ k ih =>
      intro i n hik hT  h H locs hH hM ls hl
      refine lv_iload_n hx hb dX11_lateShare_4 rfl (lv_at hl 0 rfl) ?_
      refine lv_aload_n hx hb dX11_lateShare_5 rfl (lv_at hl 2 rfl) ?_
      refine m_int C0 hH hM 39 (by decide) (by decide) fl_X11_144 (v := m 39 0) rfl dX11_lateShare_6 ?_
      refine lv_icmp_ge (tgt := 34) hx hb dX11_lateShare_9 (by decide) (fun c9_7 => ?_) (fun c9_7 => ?_)
      · exact absurd c9_7 (by rw [hB]; exact nI_ge (by omega) (by omega))
      · have hp : i < npN m := by omega
        refine lv_iload_n hx hb dX11_lateShare_12 rfl (lv_at hl 1 rfl) ?_
        refine lv_aload_n hx hb dX11_lateShare_13 rfl (lv_at hl 2 rfl) ?_
        refine lv_iload_n hx hb dX11_lateShare_14 rfl (lv_at hl 0 rfl) ?_
        refine k_i hH (k_runV (rest := [.int (n)]) C0 hH (cM_wasLate l G A _ o ad m hM i hw (by omega)) mv_X11_wasLate ml_X11_247 ci_15 hM.1 rfl ⟨by decide, by decide⟩ hl.1 rfl (Nat.le_of_ble_eq_true rfl) dX11_lateShare_15 (by simp)) (fun r_8 h1 H locs hp hH => ?_)
        obtain ⟨er_8, eh⟩ := hp
        rw [eh] at hH
        clear eh
        subst er_8
        refine lv_if_eq (tgt := 25) hx hb dX11_lateShare_18 (by decide) (fun c18_9 => ?_) (fun c18_9 => ?_)
        · replace c18_9 := bi_0.mp c18_9
          refine lv_iconst (v := 0) hx hb dX11_lateShare_25 (by decide) ?_
          refine lv_iadd hx hb dX11_lateShare_26 ?_
          refine lv_istore_n (lv' := [(1, .int (n + 0)), (2, .int (nI i)), (0, .ref (o))]) hx hb dX11_lateShare_27 rfl hl (by decide) rfl (fun ls hl => ?_)
          refine lv_iinc (v := nI (i + 1)) (lv' := [(2, .int (nI (i + 1))), (1, .int (n + 0)), (0, .ref (o))]) hx hb dX11_lateShare_28 hl (k := 1) rfl (by rw [← nI_1]; rfl) (by decide) rfl (fun ls hl => ?_)
          refine lv_goto (tgt := 4) hx hb dX11_lateShare_31 (by decide) ?_
          exact ih (i + 1) (n + 0) (by omega) (by rw [← hT]; show _ = ltL m k (i + 1) (n + bi (late m i)); unfold bi; first | rw [if_pos c18_9] | rw [if_neg c18_9])  _ _ _ hH hM ls (lv_sub hl [0, 1, 2] rfl)
        · replace c18_9 := bi_n0.mp c18_9
          refine lv_iconst (v := 1) hx hb dX11_lateShare_21 (by decide) ?_
          refine lv_goto (tgt := 26) hx hb dX11_lateShare_22 (by decide) ?_
          refine lv_iadd hx hb dX11_lateShare_26 ?_
          refine lv_istore_n (lv' := [(1, .int (n + 1)), (2, .int (nI i)), (0, .ref (o))]) hx hb dX11_lateShare_27 rfl hl (by decide) rfl (fun ls hl => ?_)
          refine lv_iinc (v := nI (i + 1)) (lv' := [(2, .int (nI (i + 1))), (1, .int (n + 1)), (0, .ref (o))]) hx hb dX11_lateShare_28 hl (k := 1) rfl (by rw [← nI_1]; rfl) (by decide) rfl (fun ls hl => ?_)
          refine lv_goto (tgt := 4) hx hb dX11_lateShare_31 (by decide) ?_
          exact ih (i + 1) (n + 1) (by omega) (by rw [← hT]; show _ = ltL m k (i + 1) (n + bi (late m i)); unfold bi; first | rw [if_pos c18_9] | rw [if_neg c18_9])  _ _ _ hH hM ls (lv_sub hl [0, 1, 2] rfl)
  exact K (npN m) 0 0 (by omega) (rfl)  _ _ _ hH hM ls (lv_sub hl [0, 1, 2] rfl)
