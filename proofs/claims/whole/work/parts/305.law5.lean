/-! the two wrappers that answer a double -/
theorem share_num64 : ∀ n, n < 41 → ∀ k, k < 40 → vf_n64 (FP.f2d (FP.fdiv (FP.i2f (nI n)) (FP.i2f (nI (k + 1))))) := by
  unfold vf_n64
  decide +kernel
theorem order_self {d : FP.Core.Datum} (h : d ≠ .nan) : FP.Core.order d d = some .eq := by
  cases d with
  | nan => exact absurd rfl h
  | inf s => show some (compareOfLessAndEq _ _) = _; unfold compareOfLessAndEq; rw [if_neg (Int.lt_irrefl _), if_pos rfl]
  | fin s c q => show some (compareOfLessAndEq _ _) = _; unfold compareOfLessAndEq; rw [if_neg (Int.lt_irrefl _), if_pos rfl]
theorem dcmp_self {v : UInt64} (h : vf_n64 v) : FP.dcmp v v = some .eq := order_self (dec_nan h)
theorem cl64 {u : MM} (hw : WFc u) (h : ¬ nI (npN u) = 0) : vf_n64 (FP.f2d (FP.fdiv (FP.i2f (cLsL u (npN u) 0 0)) (FP.i2f (nI (npN u))))) := by
  have hnp := hw.np
  obtain ⟨b, h1, h2⟩ := cLsL_cnt u (npN u) 0 0
  have h3 : cLsL u (npN u) 0 0 = nI b := h2
  rw [h3]
  have h4 : npN u ≠ 0 := fun z => h (by rw [z]; rfl)
  obtain ⟨k, hk⟩ : ∃ k, npN u = k + 1 := ⟨npN u - 1, by omega⟩
  rw [hk]
  exact share_num64 b (by omega) k (by omega)
theorem cW_lateShare (l : Launch) (hlt : l.stackTraces = false) (G : GT) (A : Nat → Prop) (h : AH) (b0 : BA) (u : MM) (hR : RC G.2.2.1 h b0 u) (hw : WFc u) (cL cD : ClassId) (o : Nat) (v0 : Value) :
    cwM l G A yL_lateShare cL_lateShare 3 [(0, 8, 11, 149)] (6 + 1) (8 + (4 + 11) + 90) 1 6 [.ref (b0 14 0), .ref o] h cL cD cD o v0 (WPost G.2.2.1 u b0 u [aeC] (xLat u) (.double (FP.f2d (FP.fdiv (FP.i2f (cLsL u (npN u) 0 0)) (FP.i2f (nI (npN u))))))) := by
  refine cw_of ms_L_lateShare (Nat.le_of_ble_eq_true rfl) ?_
  intro p e s m below meth c9 C0 hT hr hH hK ho hoA ls hl9
  have hxb := C0
  obtain ⟨hx, hb, -⟩ := hxb
  have hl9 : lv_has ls 3 [(0, .ref (b0 14 0)), (1, .ref o)] := hl9
  refine lv_aload_n hx hb dL_lateShare_0 rfl (lv_at hl9 1 rfl) ?_
  refine lv_iconst (v := 0) hx hb dL_lateShare_1 (by decide) ?_
  refine lv_aload_n hx hb dL_lateShare_2 rfl (lv_at hl9 0 rfl) ?_
  refine k_wf (rest := [.int 0, .ref o]) hH (k_xrunV (As := []) C0 hH (cC_X10_lateShare l hlt G A h b0 u hR hw) mv_X10_lateShare ml_L_145 ci_14 (hR.kind (K := 14) (i := 0) rfl) rfl ⟨Nat.le_refl _, Nat.le_refl _⟩ hl9.1 rfl (by show (1 + (1 + 0) : Nat) ≤ 8; decide) dL_lateShare_3 ⟨Nat.le_of_ble_eq_true rfl, Nat.le_of_ble_eq_true rfl⟩) ?_ ?_
  · intro E ce q9 h' H1 locs1 hx1 hH1 hce hcv hcl
    obtain ⟨hX, eh⟩ := hx1
    refine k_hands C0 hK (lv_sub hl9 [] rfl) hT hce hcv hcl [(0, 8, 11, 149)] [aeC] 0 [] rfl ⟨⟨by decide, by decide, cl_L_149, ca_1529, 2, 1, by decide, Or.inl ⟨2, rfl, dL_lateShare_11, rfl⟩, 1, by decide, dL_lateShare_12, dL_lateShare_13⟩, by decide +kernel, True.intro⟩ (xLat_in E hX) (fun z hz => by cases hz) (fun pc' ls' hd => ?_)
    exact k_wend C0 hr hH1.1 hH1.2.aw (ho.kept hoA hH1.2) (show WPost G.2.2.1 u b0 u [aeC] (xLat u) _ _ (h', v0) from ⟨by rw [hX]; rfl, fun e9 => (by rw [hX] at e9; cases e9), b0, BE.refl u b0, by rw [eh]; exact hR, hw⟩) (Nat.le_of_ble_eq_true rfl) (Nat.le_of_ble_eq_true rfl) hd
  · intro r h' H1 locs1 hp1 hH1
    obtain ⟨hX, rfl, eh⟩ := hp1
    refine lv_f2d hx hb dL_lateShare_6 (cl64 hw (fun z => by unfold xLat at hX; rw [if_pos z] at hX; cases hX)) ?_
    refine k_dast C0 hH1 hK.1.2 (ho.kept hoA hH1.2) hoA dL_lateShare_7 ?_
    intro H2 locs2 hW2 hS2 ho2
    refine lv_goto (tgt := 14) hx hb dL_lateShare_8 (by decide) ?_
    refine lv_iconst (v := 0) hx hb dL_lateShare_14 (by decide) ?_
    exact k_wend C0 hr hW2 hS2 ho2 (show WPost G.2.2.1 u b0 u [aeC] (xLat u) _ _ (h', _) from ⟨by rw [hX]; rfl, fun _ => rfl, b0, BE.refl u b0, by rw [eh]; exact hR, hw⟩) (Nat.le_of_ble_eq_true rfl) (Nat.le_of_ble_eq_true rfl) dL_lateShare_15
theorem cW_meanTime (l : Launch) (hlt : l.stackTraces = false) (G : GT) (A : Nat → Prop) (h : AH) (b0 : BA) (u : MM) (hR : RC G.2.2.1 h b0 u) (hw : WFc u) (cL cD : ClassId) (o : Nat) (v0 : Value) :
    cwM l G A yL_meanTime cL_meanTime 3 [(0, 7, 10, 149)] (6 + 1) (8 + (5 + 11) + 90) 1 6 [.ref (b0 14 0), .ref o] h cL cD cD o v0 (WPost G.2.2.1 u b0 u [aeC] (xMea u) (.double (FP.ddiv (FP.i2d (cMtL u (npN u) 0 0 0).2) (FP.i2d (cMtL u (npN u) 0 0 0).1)))) := by
  refine cw_of ms_L_meanTime (Nat.le_of_ble_eq_true rfl) ?_
  intro p e s m below meth c9 C0 hT hr hH hK ho hoA ls hl9
  have hxb := C0
  obtain ⟨hx, hb, -⟩ := hxb
  have hl9 : lv_has ls 3 [(0, .ref (b0 14 0)), (1, .ref o)] := hl9
  refine lv_aload_n hx hb dL_meanTime_0 rfl (lv_at hl9 1 rfl) ?_
  refine lv_iconst (v := 0) hx hb dL_meanTime_1 (by decide) ?_
  refine lv_aload_n hx hb dL_meanTime_2 rfl (lv_at hl9 0 rfl) ?_
  refine k_wd (rest := [.int 0, .ref o]) hH (k_xrunV (As := []) C0 hH (cC_X10_meanTime l hlt G A h b0 u hR hw) mv_X10_meanTime ml_L_151 ci_14 (hR.kind (K := 14) (i := 0) rfl) rfl ⟨Nat.le_refl _, Nat.le_refl _⟩ hl9.1 rfl (by show (1 + (1 + 0) : Nat) ≤ 8; decide) dL_meanTime_3 ⟨Nat.le_of_ble_eq_true rfl, Nat.le_of_ble_eq_true rfl⟩) ?_ ?_
  · intro E ce q9 h' H1 locs1 hx1 hH1 hce hcv hcl
    obtain ⟨hX, eh⟩ := hx1
    refine k_hands C0 hK (lv_sub hl9 [] rfl) hT hce hcv hcl [(0, 7, 10, 149)] [aeC] 0 [] rfl ⟨⟨by decide, by decide, cl_L_149, ca_1529, 2, 1, by decide, Or.inl ⟨2, rfl, dL_meanTime_10, rfl⟩, 1, by decide, dL_meanTime_11, dL_meanTime_12⟩, by decide +kernel, True.intro⟩ (xMea_in E hX) (fun z hz => by cases hz) (fun pc' ls' hd => ?_)
    exact k_wend C0 hr hH1.1 hH1.2.aw (ho.kept hoA hH1.2) (show WPost G.2.2.1 u b0 u [aeC] (xMea u) _ _ (h', v0) from ⟨by rw [hX]; rfl, fun e9 => (by rw [hX] at e9; cases e9), b0, BE.refl u b0, by rw [eh]; exact hR, hw⟩) (Nat.le_of_ble_eq_true rfl) (Nat.le_of_ble_eq_true rfl) hd
  · intro r h' H1 locs1 hp1 hH1
    obtain ⟨hX, rfl, eh⟩ := hp1
    refine k_dast C0 hH1 hK.1.2 (ho.kept hoA hH1.2) hoA dL_meanTime_6 ?_
    intro H2 locs2 hW2 hS2 ho2
    refine lv_goto (tgt := 13) hx hb dL_meanTime_7 (by decide) ?_
    refine lv_iconst (v := 0) hx hb dL_meanTime_13 (by decide) ?_
    exact k_wend C0 hr hW2 hS2 ho2 (show WPost G.2.2.1 u b0 u [aeC] (xMea u) _ _ (h', _) from ⟨by rw [hX]; rfl, fun _ => rfl, b0, BE.refl u b0, by rw [eh]; exact hR, hw⟩) (Nat.le_of_ble_eq_true rfl) (Nat.le_of_ble_eq_true rfl) dL_meanTime_14
