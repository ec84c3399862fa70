/-! lateShare and meanTime in the law -/
theorem lc_lateShare {p : Program} {l : Launch} {e : Env} {s : State} {m : MethodId} {below : List Frame} {meth : Method} {c : Code} {b L : Nat} {xs : Nat → Int32} {G : GT} {cL cD : ClassId} {oL oD : Nat} {H : Heap} {cells slots : Nat} {Q : State → Prop} {ls : Array Slot} {a o n : Nat} (hlt : l.stackTraces = false) (F : LwF p s m c b L xs G cL cD oL oD) (hn : n < 512) (hL : 7 * n + 6 < L) (hL2 : L ≤ 3584) (hS : LwS s G cL cD oL oD a o n H cells slots) (hl : lv_has ls 9 (lvs0 b a o oL oD (nI (7 * n))))
    (K : ∀ (H1 : Heap) (cells1 slots1 : Nat) (ls1 : Array Slot), LwS s G cL cD oL oD a o (n + 1) H1 cells1 slots1 → lv_has ls1 9 (lvs0 b a o oL oD (nI (7 * n))) → W p l e room_1 s m #[Value.ref b] below meth c H1 [] cells1 slots1 Q (F0 m 2903 ls1 [])) :
    W p l e room_1 s m #[Value.ref b] below meth c H [] cells slots Q (F0 m 2772 ls []) := by
  obtain ⟨hc, hr, bb, c9, mm, ad, vL, vD, I, ⟨hR, hw, ha⟩, ⟨hM, hwa, hSim⟩, hcl, hsl⟩ := hS
  have F' := F
  obtain ⟨⟨hx, hb, -⟩, -⟩ := F'
  obtain ⟨u1, u2, u3⟩ := uC_max hSim hwa (by omega)
  obtain ⟨x1, x2⟩ := UC_max hw
  obtain ⟨cE, cN, cT, cX, C3⟩ := call_lateShare hSim hwa
  obtain ⟨w1, w2, w3⟩ := rw_ltS hwa
  have C1 : (fLtS mm).2 45 0 = kod [aeC] (xLat c9) := by
    rw [cT, cX]
    by_cases z : mm 39 0 = 0
    · rw [if_pos z, if_pos z]; rfl
    · rw [if_neg z, if_neg z]; rfl
  have C2 : xLat c9 = none → ¬ mm 39 0 = 0 := fun h z => by rw [cX, if_pos z] at h; cases h
  refine lv_aload_n hx hb dL_law_2772 rfl (lv_at hl 4 rfl) ?_
  refine lv_aload hx hb dL_law_2773 (lv_at hl 1 rfl) ?_
  refine k_wrapD (rest := []) F I (fun A => cW_lateShare l hlt G A hc bb c9 hR hw cL cD oD vD) ms_L_lateShare ml_L_306 rfl ⟨Nat.le_of_ble_eq_true rfl, Nat.le_of_ble_eq_true rfl⟩ hl.1 (by rw [ha]; rfl) (by decide) dL_law_2775 ⟨by omega, by omega⟩ (fun k u H1 hp I1 => ?_)
  obtain ⟨ek, hv, b1, hBE, hR1, hw1⟩ := hp
  have ha1 : b1 14 0 = a := (hBE 14 0 (by decide) rfl).trans ha
  refine lv_istore (lv' := (6, .int k) :: lvs0 b a o oL oD (nI (7 * n))) hx hb dL_law_2778 hl (by decide) rfl (fun ls1 hl1 => ?_)
  refine lv_aload_n hx hb dL_law_2780 rfl (lv_at hl1 4 rfl) ?_
  refine k_virtF (As := []) (rest := []) F I1.swap (fun A => cM_lateShare l G A hr o ad mm hM hwa) mv_X11_lateShare ml_L_309 ci_15 hM.1 rfl ⟨Nat.le_of_ble_eq_true rfl, Nat.le_of_ble_eq_true rfl⟩ hl1.1 rfl (by decide) dL_law_2781 ⟨by omega, by omega⟩ (fun bv h2 H2 hp2 I2 => ?_)
  obtain ⟨eb, hM2⟩ := hp2
  refine lv_fstore (lv' := (7, .float bv) :: (6, .int k) :: lvs0 b a o oL oD (nI (7 * n))) hx hb dL_law_2784 hl1 (by decide) rfl (fun ls2 hl2 => ?_)
  refine lw_thr F I2.swap hM2 (C1.trans ek.symm) hl2.1 (lv_at hl2 5 rfl) (lv_at hl2 1 rfl) ⟨dL_law_2786, dL_law_2787, dL_law_2790, dL_law_2792, dL_law_2797⟩ ⟨by omega, by omega⟩ (fun H3 I3 => ?_)
  have hend : W p l e room_1 s m #[Value.ref b] below meth c H3 [] (cells + 1 + 0) (slots + 6 + 0) Q (F0 m 2835 ls2 []) := lv_goto (tgt := 2903) hx hb dL_law_2835 (by decide) (K H3 _ _ ls2 ⟨u.1, h2, b1, _, _, _, vL, u.2, I3.swap.swap, ⟨hR1, hw1, ha1⟩, ⟨hM2, w1, C3⟩, by omega, by omega⟩ (lv_sub hl2 [2, 3, 4, 5, 6, 7] rfl))
  refine lv_if_ne (tgt := 2835) hx hb dL_law_2799 (by decide) (fun _ => hend) (fun z => ?_)
  have hX := kod_0 (by decide) (ek.symm.trans z)
  have hz := C2 hX
  rw [if_neg hz] at eb
  have ebq : bv = FP.fdiv (FP.i2f (cLsL c9 (npN c9) 0 0)) (FP.i2f (nI (npN c9))) := by rw [eb, cE, cN]
  have hnum : vf_n64 (FP.f2d bv) := by rw [ebq]; exact cl64 hw (by rw [cN]; exact hz)
  refine lv_aload hx hb dL_law_2802 (lv_at hl2 3 rfl) ?_
  refine lv_iconst (v := 0) hx hb dL_law_2804 (by decide) ?_
  refine k_dald F I3 dL_law_2805 ?_
  rw [hv hX, ← ebq]
  refine lv_fload hx hb dL_law_2806 (lv_at hl2 0 rfl) ?_
  refine lv_f2d hx hb dL_law_2808 hnum ?_
  refine lv_dcmp hx hb dL_law_2809 ?_
  rw [dcmp_self hnum]
  exact lv_if_eq (tgt := 2835) hx hb dL_law_2810 (by decide) (fun _ => hend) (fun z => absurd rfl z)
theorem lc_meanTime {p : Program} {l : Launch} {e : Env} {s : State} {m : MethodId} {below : List Frame} {meth : Method} {c : Code} {b L : Nat} {xs : Nat → Int32} {G : GT} {cL cD : ClassId} {oL oD : Nat} {H : Heap} {cells slots : Nat} {Q : State → Prop} {ls : Array Slot} {a o n : Nat} (hlt : l.stackTraces = false) (F : LwF p s m c b L xs G cL cD oL oD) (hn : n < 512) (hL : 7 * n + 6 < L) (hL2 : L ≤ 3584) (hS : LwS s G cL cD oL oD a o n H cells slots) (hl : lv_has ls 9 (lvs0 b a o oL oD (nI (7 * n))))
    (K : ∀ (H1 : Heap) (cells1 slots1 : Nat) (ls1 : Array Slot), LwS s G cL cD oL oD a o (n + 1) H1 cells1 slots1 → lv_has ls1 9 (lvs0 b a o oL oD (nI (7 * n))) → W p l e room_1 s m #[Value.ref b] below meth c H1 [] cells1 slots1 Q (F0 m 2903 ls1 [])) :
    W p l e room_1 s m #[Value.ref b] below meth c H [] cells slots Q (F0 m 2838 ls []) := by
  obtain ⟨hc, hr, bb, c9, mm, ad, vL, vD, I, ⟨hR, hw, ha⟩, ⟨hM, hwa, hSim⟩, hcl, hsl⟩ := hS
  have F' := F
  obtain ⟨⟨hx, hb, -⟩, -⟩ := F'
  obtain ⟨u1, u2, u3⟩ := uC_max hSim hwa (by omega)
  obtain ⟨x1, x2⟩ := UC_max hw
  obtain ⟨cE, cT, cX, C3⟩ := call_meanTime hSim
  obtain ⟨w1, w2, w3⟩ := rw_mnT hwa
  have C1 : (fMnT mm).2 45 0 = kod [aeC] (xMea c9) := by
    rw [cT, cX]
    by_cases z : (fMnT mm).1.1 = 0
    · rw [if_pos z, if_pos z]; rfl
    · rw [if_neg z, if_neg z]; rfl
  have C2 : xMea c9 = none → ¬ (fMnT mm).1.1 = 0 := fun h z => by rw [cX, if_pos z] at h; cases h
  refine lv_aload_n hx hb dL_law_2838 rfl (lv_at hl 4 rfl) ?_
  refine lv_aload hx hb dL_law_2839 (lv_at hl 1 rfl) ?_
  refine k_wrapD (rest := []) F I (fun A => cW_meanTime l hlt G A hc bb c9 hR hw cL cD oD vD) ms_L_meanTime ml_L_310 rfl ⟨Nat.le_of_ble_eq_true rfl, Nat.le_of_ble_eq_true rfl⟩ hl.1 (by rw [ha]; rfl) (by decide) dL_law_2841 ⟨by omega, by omega⟩ (fun k u H1 hp I1 => ?_)
  obtain ⟨ek, hv, b1, hBE, hR1, hw1⟩ := hp
  have ha1 : b1 14 0 = a := (hBE 14 0 (by decide) rfl).trans ha
  refine lv_istore (lv' := (6, .int k) :: lvs0 b a o oL oD (nI (7 * n))) hx hb dL_law_2844 hl (by decide) rfl (fun ls1 hl1 => ?_)
  refine lv_aload_n hx hb dL_law_2846 rfl (lv_at hl1 4 rfl) ?_
  refine k_virtD (As := []) (rest := []) F I1.swap (fun A => cM_meanTime l G A hr o ad mm hM hwa) mv_X11_meanTime ml_L_312 ci_15 hM.1 rfl ⟨Nat.le_of_ble_eq_true rfl, Nat.le_of_ble_eq_true rfl⟩ hl1.1 rfl (by decide) dL_law_2847 ⟨by omega, by omega⟩ (fun bv h2 H2 hp2 I2 => ?_)
  obtain ⟨eb, hM2⟩ := hp2
  refine lv_dstore (lv' := (7, .double bv) :: (6, .int k) :: lvs0 b a o oL oD (nI (7 * n))) hx hb dL_law_2850 hl1 (by decide) rfl (fun ls2 hl2 => ?_)
  refine lw_thr F I2.swap hM2 (C1.trans ek.symm) hl2.1 (lv_at hl2 5 rfl) (lv_at hl2 1 rfl) ⟨dL_law_2852, dL_law_2853, dL_law_2856, dL_law_2858, dL_law_2863⟩ ⟨by omega, by omega⟩ (fun H3 I3 => ?_)
  have hend : W p l e room_1 s m #[Value.ref b] below meth c H3 [] (cells + 1 + 0) (slots + 6 + 0) Q (F0 m 2900 ls2 []) := lv_goto (tgt := 2903) hx hb dL_law_2900 (by decide) (K H3 _ _ ls2 ⟨u.1, h2, b1, _, _, _, vL, u.2, I3.swap.swap, ⟨hR1, hw1, ha1⟩, ⟨hM2, w1, C3⟩, by omega, by omega⟩ (lv_sub hl2 [2, 3, 4, 5, 6, 7] rfl))
  refine lv_if_ne (tgt := 2900) hx hb dL_law_2865 (by decide) (fun _ => hend) (fun z => ?_)
  have hX := kod_0 (by decide) (ek.symm.trans z)
  have hz := C2 hX
  rw [if_neg hz] at eb
  have ebq : bv = FP.ddiv (FP.i2d (cMtL c9 (npN c9) 0 0 0).2) (FP.i2d (cMtL c9 (npN c9) 0 0 0).1) := by rw [eb, cE]
  have hnum : vf_n64 bv := by rw [ebq]; exact cmt_num hw (n := (cMtL c9 (npN c9) 0 0 0).1) (t := (cMtL c9 (npN c9) 0 0 0).2) rfl (by rw [cE]; exact hz)
  refine lv_aload hx hb dL_law_2868 (lv_at hl2 3 rfl) ?_
  refine lv_iconst (v := 0) hx hb dL_law_2870 (by decide) ?_
  refine k_dald F I3 dL_law_2871 ?_
  rw [hv hX, ← ebq]
  refine lv_dload hx hb dL_law_2872 (lv_at hl2 0 rfl) ?_
  refine lv_dcmp hx hb dL_law_2874 ?_
  rw [dcmp_self hnum]
  exact lv_if_eq (tgt := 2900) hx hb dL_law_2875 (by decide) (fun _ => hend) (fun z => absurd rfl z)
