/-! the law's cases 2 -/
theorem lc_recall {p : Program} {l : Launch} {e : Env} {s : State} {m : MethodId} {below : List Frame} {meth : Method} {c : Code} {b L : Nat} {xs : Nat → Int32} {G : GT} {cL cD : ClassId} {oL oD : Nat} {H : Heap} {cells slots : Nat} {Q : State → Prop} {ls : Array Slot} {a o n : Nat} (hlt : l.stackTraces = false) (F : LwF p s m c b L xs G cL cD oL oD) (hn : n < 512) (hL : 7 * n + 6 < L) (hL2 : L ≤ 3584) (hS : LwS s G cL cD oL oD a o n H cells slots) (hl : lv_has ls 9 (lvs0 b a o oL oD (nI (7 * n))))
    (K : ∀ (H1 : Heap) (cells1 slots1 : Nat) (ls1 : Array Slot), LwS s G cL cD oL oD a o (n + 1) H1 cells1 slots1 → lv_has ls1 9 (lvs0 b a o oL oD (nI (7 * n))) → W p l e room_1 s m #[Value.ref b] below meth c H1 [] cells1 slots1 Q (F0 m 2903 ls1 [])) :
    W p l e room_1 s m #[Value.ref b] below meth c H [] cells slots Q (F0 m 730 ls []) := by
  obtain ⟨hc, hr, bb, c9, mm, ad, vL, vD, I, ⟨hR, hw, ha⟩, ⟨hM, hwa, hSim⟩, hcl, hsl⟩ := hS
  have F' := F
  obtain ⟨⟨hx, hb, -⟩, -⟩ := F'
  obtain ⟨u1, u2, u3⟩ := uC_max hSim hwa (by omega)
  obtain ⟨x1, x2⟩ := UC_max hw
  have C : CallOK n [nseC, iseC] (if xRec c9 (xs (7 * n + 1)) = none then (cTurn c9 (xs (7 * n + 1)).toNatClampNeg) else c9) (xRec c9 (xs (7 * n + 1))) (cTurn c9 (xs (7 * n + 1)).toNatClampNeg 20 (xs (7 * n + 1)).toNatClampNeg) (fRec mm (xs (7 * n + 1))) := call_recall hSim hn hwa hw (xs (7 * n + 1))
  obtain ⟨C1, C2, C3⟩ := C
  obtain ⟨w1, w2, w3⟩ := rw_rec hwa (by omega) (xs (7 * n + 1))
  obtain ⟨y1, y2, -⟩ := uC_max C3 w1 (by omega)
  obtain ⟨⟨g1, g2⟩, g3, g4⟩ : Gm c9 (if xRec c9 (xs (7 * n + 1)) = none then (cTurn c9 (xs (7 * n + 1)).toNatClampNeg) else c9) := gm_rec hw (xs (7 * n + 1))
  refine lv_aload_n hx hb dL_law_730 rfl (lv_at hl 4 rfl) ?_
  refine lw_arg (j := 1) F I (by omega) hL2 (lv_at hl 5 rfl) (lv_at hl 0 rfl) dL_law_731 dL_law_732 dL_law_734 (by decide) dL_law_735 dL_law_736 ?_
  refine lv_aload_n hx hb dL_law_737 rfl (lv_at hl 2 rfl) ?_
  refine k_wrapL (rest := []) F I (fun A => cW2_recall l hlt G A hc bb c9 hR hw (xs (7 * n + 1)) cL cD oL vL) ms_L_recall ml_L_188 rfl ⟨Nat.le_of_ble_eq_true rfl, Nat.le_of_ble_eq_true rfl⟩ hl.1 (by rw [ha]; rfl) (by decide) dL_law_738 ⟨by omega, by omega⟩ (fun k u H1 hp I1 => ?_)
  obtain ⟨ek, hv, b1, hBE, hR1, hw1⟩ := hp
  have ha1 : b1 14 0 = a := (hBE 14 0 (by decide) rfl).trans ha
  refine lv_istore (lv' := (6, .int k) :: lvs0 b a o oL oD (nI (7 * n))) hx hb dL_law_741 hl (by decide) rfl (fun ls1 hl1 => ?_)
  refine lv_aload_n hx hb dL_law_743 rfl (lv_at hl1 4 rfl) ?_
  refine lw_arg (j := 1) F I1 (by omega) hL2 (lv_at hl1 6 rfl) (lv_at hl1 1 rfl) dL_law_744 dL_law_745 dL_law_747 (by decide) dL_law_748 dL_law_749 ?_
  refine k_virtI (rest := []) F I1.swap (fun A => cM_recall l G A hr o ad mm hM (xs (7 * n + 1)) hwa (by omega)) mv_X11_recall ml_L_190 ci_15 hM.1 rfl ⟨Nat.le_of_ble_eq_true rfl, Nat.le_of_ble_eq_true rfl⟩ hl1.1 rfl (by decide) dL_law_750 ⟨by omega, by omega⟩ (fun bv h2 H2 hp2 I2 => ?_)
  obtain ⟨eb, ad2, hM2⟩ := hp2
  refine lv_istore (lv' := (7, .int bv) :: (6, .int k) :: lvs0 b a o oL oD (nI (7 * n))) hx hb dL_law_753 hl1 (by decide) rfl (fun ls2 hl2 => ?_)
  refine lw_tailI (off := 2120) (X := xRec c9 (xs (7 * n + 1))) (R := cTurn c9 (xs (7 * n + 1)).toNatClampNeg 20 (xs (7 * n + 1)).toNatClampNeg) F I2.swap hM2 (C1.trans ek.symm) ek (by decide) hv (fun z => (C2 z).trans eb.symm) hl2 ⟨dL_law_755, dL_law_756, dL_law_759, dL_law_761, dL_law_766⟩ ⟨dL_law_768, dL_law_771, dL_law_772, dL_law_773, dL_law_774, dL_law_776, dL_law_777, dL_law_778, dL_law_783, by decide⟩ ⟨by omega, by omega⟩ (fun H3 ls3 I3 hl3 => ?_)
  exact K H3 _ _ ls3 ⟨u.1, h2, b1, _, _, _, u.2, vD, I3, ⟨hR1, hw1, ha1⟩, ⟨hM2, w1, C3⟩, by omega, by omega⟩ hl3
theorem lc_pass {p : Program} {l : Launch} {e : Env} {s : State} {m : MethodId} {below : List Frame} {meth : Method} {c : Code} {b L : Nat} {xs : Nat → Int32} {G : GT} {cL cD : ClassId} {oL oD : Nat} {H : Heap} {cells slots : Nat} {Q : State → Prop} {ls : Array Slot} {a o n : Nat} (hlt : l.stackTraces = false) (F : LwF p s m c b L xs G cL cD oL oD) (hn : n < 512) (hL : 7 * n + 6 < L) (hL2 : L ≤ 3584) (hS : LwS s G cL cD oL oD a o n H cells slots) (hl : lv_has ls 9 (lvs0 b a o oL oD (nI (7 * n))))
    (K : ∀ (H1 : Heap) (cells1 slots1 : Nat) (ls1 : Array Slot), LwS s G cL cD oL oD a o (n + 1) H1 cells1 slots1 → lv_has ls1 9 (lvs0 b a o oL oD (nI (7 * n))) → W p l e room_1 s m #[Value.ref b] below meth c H1 [] cells1 slots1 Q (F0 m 2903 ls1 [])) :
    W p l e room_1 s m #[Value.ref b] below meth c H [] cells slots Q (F0 m 786 ls []) := by
  obtain ⟨hc, hr, bb, c9, mm, ad, vL, vD, I, ⟨hR, hw, ha⟩, ⟨hM, hwa, hSim⟩, hcl, hsl⟩ := hS
  have F' := F
  obtain ⟨⟨hx, hb, -⟩, -⟩ := F'
  obtain ⟨u1, u2, u3⟩ := uC_max hSim hwa (by omega)
  obtain ⟨x1, x2⟩ := UC_max hw
  have C : CallOK n [iaeC] (if xPas (xs (7 * n + 1)) = none then ((cPsL (xs (7 * n + 1)).toNatClampNeg 0 c9).2) else c9) (xPas (xs (7 * n + 1))) ((cPsL (xs (7 * n + 1)).toNatClampNeg 0 c9).1) (fPass mm (xs (7 * n + 1))) := call_pass hSim hn hwa (xs (7 * n + 1))
  obtain ⟨C1, C2, C3⟩ := C
  obtain ⟨w1, w2, w3⟩ := rw_pass hwa (by omega) (xs (7 * n + 1))
  obtain ⟨y1, y2, -⟩ := uC_max C3 w1 (by omega)
  obtain ⟨⟨g1, g2⟩, g3, g4⟩ : Gm c9 (if xPas (xs (7 * n + 1)) = none then ((cPsL (xs (7 * n + 1)).toNatClampNeg 0 c9).2) else c9) := gm_pass hw (xs (7 * n + 1))
  refine lv_aload_n hx hb dL_law_786 rfl (lv_at hl 4 rfl) ?_
  refine lw_arg (j := 1) F I (by omega) hL2 (lv_at hl 5 rfl) (lv_at hl 0 rfl) dL_law_787 dL_law_788 dL_law_790 (by decide) dL_law_791 dL_law_792 ?_
  refine lv_aload_n hx hb dL_law_793 rfl (lv_at hl 2 rfl) ?_
  refine k_wrapL (rest := []) F I (fun A => cW2_pass l hlt G A hc bb c9 hR hw (xs (7 * n + 1)) cL cD oL vL) ms_L_pass ml_L_191 rfl ⟨Nat.le_of_ble_eq_true rfl, Nat.le_of_ble_eq_true rfl⟩ hl.1 (by rw [ha]; rfl) (by decide) dL_law_794 ⟨by omega, by omega⟩ (fun k u H1 hp I1 => ?_)
  obtain ⟨ek, hv, b1, hBE, hR1, hw1⟩ := hp
  have ha1 : b1 14 0 = a := (hBE 14 0 (by decide) rfl).trans ha
  refine lv_istore (lv' := (6, .int k) :: lvs0 b a o oL oD (nI (7 * n))) hx hb dL_law_797 hl (by decide) rfl (fun ls1 hl1 => ?_)
  refine lv_aload_n hx hb dL_law_799 rfl (lv_at hl1 4 rfl) ?_
  refine lw_arg (j := 1) F I1 (by omega) hL2 (lv_at hl1 6 rfl) (lv_at hl1 1 rfl) dL_law_800 dL_law_801 dL_law_803 (by decide) dL_law_804 dL_law_805 ?_
  refine k_virtI (rest := []) F I1.swap (fun A => cM_pass l G A hr o ad mm hM (xs (7 * n + 1)) hwa (by omega)) mv_X11_pass ml_L_193 ci_15 hM.1 rfl ⟨Nat.le_of_ble_eq_true rfl, Nat.le_of_ble_eq_true rfl⟩ hl1.1 rfl (by decide) dL_law_806 ⟨by omega, by omega⟩ (fun bv h2 H2 hp2 I2 => ?_)
  obtain ⟨eb, ad2, hM2⟩ := hp2
  refine lv_istore (lv' := (7, .int bv) :: (6, .int k) :: lvs0 b a o oL oD (nI (7 * n))) hx hb dL_law_809 hl1 (by decide) rfl (fun ls2 hl2 => ?_)
  refine lw_tailI (off := 2064) (X := xPas (xs (7 * n + 1))) (R := (cPsL (xs (7 * n + 1)).toNatClampNeg 0 c9).1) F I2.swap hM2 (C1.trans ek.symm) ek (by decide) hv (fun z => (C2 z).trans eb.symm) hl2 ⟨dL_law_811, dL_law_812, dL_law_815, dL_law_817, dL_law_822⟩ ⟨dL_law_824, dL_law_827, dL_law_828, dL_law_829, dL_law_830, dL_law_832, dL_law_833, dL_law_834, dL_law_839, by decide⟩ ⟨by omega, by omega⟩ (fun H3 ls3 I3 hl3 => ?_)
  exact K H3 _ _ ls3 ⟨u.1, h2, b1, _, _, _, u.2, vD, I3, ⟨hR1, hw1, ha1⟩, ⟨hM2, w1, C3⟩, by omega, by omega⟩ hl3
theorem lc_hubOf {p : Program} {l : Launch} {e : Env} {s : State} {m : MethodId} {below : List Frame} {meth : Method} {c : Code} {b L : Nat} {xs : Nat → Int32} {G : GT} {cL cD : ClassId} {oL oD : Nat} {H : Heap} {cells slots : Nat} {Q : State → Prop} {ls : Array Slot} {a o n : Nat} (hlt : l.stackTraces = false) (F : LwF p s m c b L xs G cL cD oL oD) (hn : n < 512) (hL : 7 * n + 6 < L) (hL2 : L ≤ 3584) (hS : LwS s G cL cD oL oD a o n H cells slots) (hl : lv_has ls 9 (lvs0 b a o oL oD (nI (7 * n))))
    (K : ∀ (H1 : Heap) (cells1 slots1 : Nat) (ls1 : Array Slot), LwS s G cL cD oL oD a o (n + 1) H1 cells1 slots1 → lv_has ls1 9 (lvs0 b a o oL oD (nI (7 * n))) → W p l e room_1 s m #[Value.ref b] below meth c H1 [] cells1 slots1 Q (F0 m 2903 ls1 [])) :
    W p l e room_1 s m #[Value.ref b] below meth c H [] cells slots Q (F0 m 894 ls []) := by
  obtain ⟨hc, hr, bb, c9, mm, ad, vL, vD, I, ⟨hR, hw, ha⟩, ⟨hM, hwa, hSim⟩, hcl, hsl⟩ := hS
  have F' := F
  obtain ⟨⟨hx, hb, -⟩, -⟩ := F'
  obtain ⟨u1, u2, u3⟩ := uC_max hSim hwa (by omega)
  obtain ⟨x1, x2⟩ := UC_max hw
  have C : CallOK n [iaeC] c9 (xAd (xs (7 * n + 1))) (cHs c9 (xs (7 * n + 1))) (fHubOf mm (xs (7 * n + 1))) := call_hubOf hSim (xs (7 * n + 1))
  obtain ⟨C1, C2, C3⟩ := C
  obtain ⟨w1, w2, w3⟩ := rw_hubOf hwa (xs (7 * n + 1))
  obtain ⟨y1, y2, -⟩ := uC_max C3 w1 (by omega)
  obtain ⟨⟨g1, g2⟩, g3, g4⟩ : Gm c9 c9 := Gm.refl hw
  refine lv_aload_n hx hb dL_law_894 rfl (lv_at hl 4 rfl) ?_
  refine lw_arg (j := 1) F I (by omega) hL2 (lv_at hl 5 rfl) (lv_at hl 0 rfl) dL_law_895 dL_law_896 dL_law_898 (by decide) dL_law_899 dL_law_900 ?_
  refine lv_aload_n hx hb dL_law_901 rfl (lv_at hl 2 rfl) ?_
  refine k_wrapL (rest := []) F I (fun A => cW_hubOf l hlt G A hc bb c9 hR hw (xs (7 * n + 1)) cL cD oL vL) ms_L_hubOf ml_L_210 rfl ⟨Nat.le_of_ble_eq_true rfl, Nat.le_of_ble_eq_true rfl⟩ hl.1 (by rw [ha]; rfl) (by decide) dL_law_902 ⟨by omega, by omega⟩ (fun k u H1 hp I1 => ?_)
  obtain ⟨ek, hv, b1, hBE, hR1, hw1⟩ := hp
  have ha1 : b1 14 0 = a := (hBE 14 0 (by decide) rfl).trans ha
  refine lv_istore (lv' := (6, .int k) :: lvs0 b a o oL oD (nI (7 * n))) hx hb dL_law_905 hl (by decide) rfl (fun ls1 hl1 => ?_)
  refine lv_aload_n hx hb dL_law_907 rfl (lv_at hl1 4 rfl) ?_
  refine lw_arg (j := 1) F I1 (by omega) hL2 (lv_at hl1 6 rfl) (lv_at hl1 1 rfl) dL_law_908 dL_law_909 dL_law_911 (by decide) dL_law_912 dL_law_913 ?_
  refine k_virtI (rest := []) F I1.swap (fun A => cM_hubOf l G A hr o ad mm hM (xs (7 * n + 1)) hwa) mv_X11_hubOf ml_L_212 ci_15 hM.1 rfl ⟨Nat.le_of_ble_eq_true rfl, Nat.le_of_ble_eq_true rfl⟩ hl1.1 rfl (by decide) dL_law_914 ⟨by omega, by omega⟩ (fun bv h2 H2 hp2 I2 => ?_)
  obtain ⟨eb, hM2⟩ := hp2
  refine lv_istore (lv' := (7, .int bv) :: (6, .int k) :: lvs0 b a o oL oD (nI (7 * n))) hx hb dL_law_917 hl1 (by decide) rfl (fun ls2 hl2 => ?_)
  refine lw_tailI (off := 1956) (X := xAd (xs (7 * n + 1))) (R := cHs c9 (xs (7 * n + 1))) F I2.swap hM2 (C1.trans ek.symm) ek (by decide) hv (fun z => (C2 z).trans eb.symm) hl2 ⟨dL_law_919, dL_law_920, dL_law_923, dL_law_925, dL_law_930⟩ ⟨dL_law_932, dL_law_935, dL_law_936, dL_law_937, dL_law_938, dL_law_940, dL_law_941, dL_law_942, dL_law_947, by decide⟩ ⟨by omega, by omega⟩ (fun H3 ls3 I3 hl3 => ?_)
  exact K H3 _ _ ls3 ⟨u.1, h2, b1, _, _, _, u.2, vD, I3, ⟨hR1, hw1, ha1⟩, ⟨hM2, w1, C3⟩, by omega, by omega⟩ hl3
theorem lc_hubByTrying {p : Program} {l : Launch} {e : Env} {s : State} {m : MethodId} {below : List Frame} {meth : Method} {c : Code} {b L : Nat} {xs : Nat → Int32} {G : GT} {cL cD : ClassId} {oL oD : Nat} {H : Heap} {cells slots : Nat} {Q : State → Prop} {ls : Array Slot} {a o n : Nat} (hlt : l.stackTraces = false) (F : LwF p s m c b L xs G cL cD oL oD) (hn : n < 512) (hL : 7 * n + 6 < L) (hL2 : L ≤ 3584) (hS : LwS s G cL cD oL oD a o n H cells slots) (hl : lv_has ls 9 (lvs0 b a o oL oD (nI (7 * n))))
    (K : ∀ (H1 : Heap) (cells1 slots1 : Nat) (ls1 : Array Slot), LwS s G cL cD oL oD a o (n + 1) H1 cells1 slots1 → lv_has ls1 9 (lvs0 b a o oL oD (nI (7 * n))) → W p l e room_1 s m #[Value.ref b] below meth c H1 [] cells1 slots1 Q (F0 m 2903 ls1 [])) :
    W p l e room_1 s m #[Value.ref b] below meth c H [] cells slots Q (F0 m 950 ls []) := by
  obtain ⟨hc, hr, bb, c9, mm, ad, vL, vD, I, ⟨hR, hw, ha⟩, ⟨hM, hwa, hSim⟩, hcl, hsl⟩ := hS
  have F' := F
  obtain ⟨⟨hx, hb, -⟩, -⟩ := F'
  obtain ⟨u1, u2, u3⟩ := uC_max hSim hwa (by omega)
  obtain ⟨x1, x2⟩ := UC_max hw
  have C : CallOK n [iaeC] c9 (xAd (xs (7 * n + 1))) (cHt c9 (xs (7 * n + 1))) (fHubOf mm (xs (7 * n + 1))) := call_hubByTrying hSim (xs (7 * n + 1))
  obtain ⟨C1, C2, C3⟩ := C
  obtain ⟨w1, w2, w3⟩ := rw_hubOf hwa (xs (7 * n + 1))
  obtain ⟨y1, y2, -⟩ := uC_max C3 w1 (by omega)
  obtain ⟨⟨g1, g2⟩, g3, g4⟩ : Gm c9 c9 := Gm.refl hw
  refine lv_aload_n hx hb dL_law_950 rfl (lv_at hl 4 rfl) ?_
  refine lw_arg (j := 1) F I (by omega) hL2 (lv_at hl 5 rfl) (lv_at hl 0 rfl) dL_law_951 dL_law_952 dL_law_954 (by decide) dL_law_955 dL_law_956 ?_
  refine lv_aload_n hx hb dL_law_957 rfl (lv_at hl 2 rfl) ?_
  refine k_wrapL (rest := []) F I (fun A => cW_hubByTrying l hlt G A hc bb c9 hR hw (xs (7 * n + 1)) cL cD oL vL) ms_L_hubByTrying ml_L_213 rfl ⟨Nat.le_of_ble_eq_true rfl, Nat.le_of_ble_eq_true rfl⟩ hl.1 (by rw [ha]; rfl) (by decide) dL_law_958 ⟨by omega, by omega⟩ (fun k u H1 hp I1 => ?_)
  obtain ⟨ek, hv, b1, hBE, hR1, hw1⟩ := hp
  have ha1 : b1 14 0 = a := (hBE 14 0 (by decide) rfl).trans ha
  refine lv_istore (lv' := (6, .int k) :: lvs0 b a o oL oD (nI (7 * n))) hx hb dL_law_961 hl (by decide) rfl (fun ls1 hl1 => ?_)
  refine lv_aload_n hx hb dL_law_963 rfl (lv_at hl1 4 rfl) ?_
  refine lw_arg (j := 1) F I1 (by omega) hL2 (lv_at hl1 6 rfl) (lv_at hl1 1 rfl) dL_law_964 dL_law_965 dL_law_967 (by decide) dL_law_968 dL_law_969 ?_
  refine k_virtI (rest := []) F I1.swap (fun A => cM_hubByTrying l G A hr o ad mm hM (xs (7 * n + 1)) hwa) mv_X11_hubByTrying ml_L_215 ci_15 hM.1 rfl ⟨Nat.le_of_ble_eq_true rfl, Nat.le_of_ble_eq_true rfl⟩ hl1.1 rfl (by decide) dL_law_970 ⟨by omega, by omega⟩ (fun bv h2 H2 hp2 I2 => ?_)
  obtain ⟨eb, hM2⟩ := hp2
  refine lv_istore (lv' := (7, .int bv) :: (6, .int k) :: lvs0 b a o oL oD (nI (7 * n))) hx hb dL_law_973 hl1 (by decide) rfl (fun ls2 hl2 => ?_)
  refine lw_tailI (off := 1900) (X := xAd (xs (7 * n + 1))) (R := cHt c9 (xs (7 * n + 1))) F I2.swap hM2 (C1.trans ek.symm) ek (by decide) hv (fun z => (C2 z).trans eb.symm) hl2 ⟨dL_law_975, dL_law_976, dL_law_979, dL_law_981, dL_law_986⟩ ⟨dL_law_988, dL_law_991, dL_law_992, dL_law_993, dL_law_994, dL_law_996, dL_law_997, dL_law_998, dL_law_1003, by decide⟩ ⟨by omega, by omega⟩ (fun H3 ls3 I3 hl3 => ?_)
  exact K H3 _ _ ls3 ⟨u.1, h2, b1, _, _, _, u.2, vD, I3, ⟨hR1, hw1, ha1⟩, ⟨hM2, w1, C3⟩, by omega, by omega⟩ hl3
theorem lc_nextDeparture {p : Program} {l : Launch} {e : Env} {s : State} {m : MethodId} {below : List Frame} {meth : Method} {c : Code} {b L : Nat} {xs : Nat → Int32} {G : GT} {cL cD : ClassId} {oL oD : Nat} {H : Heap} {cells slots : Nat} {Q : State → Prop} {ls : Array Slot} {a o n : Nat} (hlt : l.stackTraces = false) (F : LwF p s m c b L xs G cL cD oL oD) (hn : n < 512) (hL : 7 * n + 6 < L) (hL2 : L ≤ 3584) (hS : LwS s G cL cD oL oD a o n H cells slots) (hl : lv_has ls 9 (lvs0 b a o oL oD (nI (7 * n))))
    (K : ∀ (H1 : Heap) (cells1 slots1 : Nat) (ls1 : Array Slot), LwS s G cL cD oL oD a o (n + 1) H1 cells1 slots1 → lv_has ls1 9 (lvs0 b a o oL oD (nI (7 * n))) → W p l e room_1 s m #[Value.ref b] below meth c H1 [] cells1 slots1 Q (F0 m 2903 ls1 [])) :
    W p l e room_1 s m #[Value.ref b] below meth c H [] cells slots Q (F0 m 1006 ls []) := by
  obtain ⟨hc, hr, bb, c9, mm, ad, vL, vD, I, ⟨hR, hw, ha⟩, ⟨hM, hwa, hSim⟩, hcl, hsl⟩ := hS
  have F' := F
  obtain ⟨⟨hx, hb, -⟩, -⟩ := F'
  obtain ⟨u1, u2, u3⟩ := uC_max hSim hwa (by omega)
  obtain ⟨x1, x2⟩ := UC_max hw
  have C : CallOK n [nseC, iseC] c9 (xOpn c9 (xs (7 * n + 1))) (cDep c9 (xs (7 * n + 1)).toNatClampNeg (c9 41 0 + 1)) (fNext mm (xs (7 * n + 1))) := call_nextDeparture hSim hwa hw (xs (7 * n + 1))
  obtain ⟨C1, C2, C3⟩ := C
  obtain ⟨w1, w2, w3⟩ := rw_next hwa (xs (7 * n + 1))
  obtain ⟨y1, y2, -⟩ := uC_max C3 w1 (by omega)
  obtain ⟨⟨g1, g2⟩, g3, g4⟩ : Gm c9 c9 := Gm.refl hw
  refine lv_aload_n hx hb dL_law_1006 rfl (lv_at hl 4 rfl) ?_
  refine lw_arg (j := 1) F I (by omega) hL2 (lv_at hl 5 rfl) (lv_at hl 0 rfl) dL_law_1007 dL_law_1008 dL_law_1010 (by decide) dL_law_1011 dL_law_1012 ?_
  refine lv_aload_n hx hb dL_law_1013 rfl (lv_at hl 2 rfl) ?_
  refine k_wrapL (rest := []) F I (fun A => cW_nextDeparture l hlt G A hc bb c9 hR hw (xs (7 * n + 1)) cL cD oL vL) ms_L_nextDeparture ml_L_216 rfl ⟨Nat.le_of_ble_eq_true rfl, Nat.le_of_ble_eq_true rfl⟩ hl.1 (by rw [ha]; rfl) (by decide) dL_law_1014 ⟨by omega, by omega⟩ (fun k u H1 hp I1 => ?_)
  obtain ⟨ek, hv, b1, hBE, hR1, hw1⟩ := hp
  have ha1 : b1 14 0 = a := (hBE 14 0 (by decide) rfl).trans ha
  refine lv_istore (lv' := (6, .int k) :: lvs0 b a o oL oD (nI (7 * n))) hx hb dL_law_1017 hl (by decide) rfl (fun ls1 hl1 => ?_)
  refine lv_aload_n hx hb dL_law_1019 rfl (lv_at hl1 4 rfl) ?_
  refine lw_arg (j := 1) F I1 (by omega) hL2 (lv_at hl1 6 rfl) (lv_at hl1 1 rfl) dL_law_1020 dL_law_1021 dL_law_1023 (by decide) dL_law_1024 dL_law_1025 ?_
  refine k_virtI (rest := []) F I1.swap (fun A => cM_nextDeparture l G A hr o ad mm hM (xs (7 * n + 1)) hwa) mv_X11_nextDeparture ml_L_218 ci_15 hM.1 rfl ⟨Nat.le_of_ble_eq_true rfl, Nat.le_of_ble_eq_true rfl⟩ hl1.1 rfl (by decide) dL_law_1026 ⟨by omega, by omega⟩ (fun bv h2 H2 hp2 I2 => ?_)
  obtain ⟨eb, hM2⟩ := hp2
  refine lv_istore (lv' := (7, .int bv) :: (6, .int k) :: lvs0 b a o oL oD (nI (7 * n))) hx hb dL_law_1029 hl1 (by decide) rfl (fun ls2 hl2 => ?_)
  refine lw_tailI (off := 1844) (X := xOpn c9 (xs (7 * n + 1))) (R := cDep c9 (xs (7 * n + 1)).toNatClampNeg (c9 41 0 + 1)) F I2.swap hM2 (C1.trans ek.symm) ek (by decide) hv (fun z => (C2 z).trans eb.symm) hl2 ⟨dL_law_1031, dL_law_1032, dL_law_1035, dL_law_1037, dL_law_1042⟩ ⟨dL_law_1044, dL_law_1047, dL_law_1048, dL_law_1049, dL_law_1050, dL_law_1052, dL_law_1053, dL_law_1054, dL_law_1059, by decide⟩ ⟨by omega, by omega⟩ (fun H3 ls3 I3 hl3 => ?_)
  exact K H3 _ _ ls3 ⟨u.1, h2, b1, _, _, _, u.2, vD, I3, ⟨hR1, hw1, ha1⟩, ⟨hM2, w1, C3⟩, by omega, by omega⟩ hl3
theorem lc_state {p : Program} {l : Launch} {e : Env} {s : State} {m : MethodId} {below : List Frame} {meth : Method} {c : Code} {b L : Nat} {xs : Nat → Int32} {G : GT} {cL cD : ClassId} {oL oD : Nat} {H : Heap} {cells slots : Nat} {Q : State → Prop} {ls : Array Slot} {a o n : Nat} (hlt : l.stackTraces = false) (F : LwF p s m c b L xs G cL cD oL oD) (hn : n < 512) (hL : 7 * n + 6 < L) (hL2 : L ≤ 3584) (hS : LwS s G cL cD oL oD a o n H cells slots) (hl : lv_has ls 9 (lvs0 b a o oL oD (nI (7 * n))))
    (K : ∀ (H1 : Heap) (cells1 slots1 : Nat) (ls1 : Array Slot), LwS s G cL cD oL oD a o (n + 1) H1 cells1 slots1 → lv_has ls1 9 (lvs0 b a o oL oD (nI (7 * n))) → W p l e room_1 s m #[Value.ref b] below meth c H1 [] cells1 slots1 Q (F0 m 2903 ls1 [])) :
    W p l e room_1 s m #[Value.ref b] below meth c H [] cells slots Q (F0 m 1062 ls []) := by
  obtain ⟨hc, hr, bb, c9, mm, ad, vL, vD, I, ⟨hR, hw, ha⟩, ⟨hM, hwa, hSim⟩, hcl, hsl⟩ := hS
  have F' := F
  obtain ⟨⟨hx, hb, -⟩, -⟩ := F'
  obtain ⟨u1, u2, u3⟩ := uC_max hSim hwa (by omega)
  obtain ⟨x1, x2⟩ := UC_max hw
  have C : CallOK n [nseC] c9 (xPa c9 (xs (7 * n + 1))) (c9 28 (xs (7 * n + 1)).toNatClampNeg) (fGet 28 mm (xs (7 * n + 1))) := call_getP hSim hwa hw (xs (7 * n + 1)) (k := 28) rfl
  obtain ⟨C1, C2, C3⟩ := C
  obtain ⟨w1, w2, w3⟩ := rw_get hwa 28 (xs (7 * n + 1))
  obtain ⟨y1, y2, -⟩ := uC_max C3 w1 (by omega)
  obtain ⟨⟨g1, g2⟩, g3, g4⟩ : Gm c9 c9 := Gm.refl hw
  refine lv_aload_n hx hb dL_law_1062 rfl (lv_at hl 4 rfl) ?_
  refine lw_arg (j := 1) F I (by omega) hL2 (lv_at hl 5 rfl) (lv_at hl 0 rfl) dL_law_1063 dL_law_1064 dL_law_1066 (by decide) dL_law_1067 dL_law_1068 ?_
  refine lv_aload_n hx hb dL_law_1069 rfl (lv_at hl 2 rfl) ?_
  refine k_wrapL (rest := []) F I (fun A => cW_state l hlt G A hc bb c9 hR hw (xs (7 * n + 1)) (fun z => sim_nar28 hSim hwa z) cL cD oL vL) ms_L_state ml_L_219 rfl ⟨Nat.le_of_ble_eq_true rfl, Nat.le_of_ble_eq_true rfl⟩ hl.1 (by rw [ha]; rfl) (by decide) dL_law_1070 ⟨by omega, by omega⟩ (fun k u H1 hp I1 => ?_)
  obtain ⟨ek, hv, b1, hBE, hR1, hw1⟩ := hp
  have ha1 : b1 14 0 = a := (hBE 14 0 (by decide) rfl).trans ha
  refine lv_istore (lv' := (6, .int k) :: lvs0 b a o oL oD (nI (7 * n))) hx hb dL_law_1073 hl (by decide) rfl (fun ls1 hl1 => ?_)
  refine lv_aload_n hx hb dL_law_1075 rfl (lv_at hl1 4 rfl) ?_
  refine lw_arg (j := 1) F I1 (by omega) hL2 (lv_at hl1 6 rfl) (lv_at hl1 1 rfl) dL_law_1076 dL_law_1077 dL_law_1079 (by decide) dL_law_1080 dL_law_1081 ?_
  refine k_virtI (rest := []) F I1.swap (fun A => cM_state l G A hr o ad mm hM (xs (7 * n + 1)) hwa) mv_X11_state ml_L_221 ci_15 hM.1 rfl ⟨Nat.le_of_ble_eq_true rfl, Nat.le_of_ble_eq_true rfl⟩ hl1.1 rfl (by decide) dL_law_1082 ⟨by omega, by omega⟩ (fun bv h2 H2 hp2 I2 => ?_)
  obtain ⟨eb, hM2⟩ := hp2
  refine lv_istore (lv' := (7, .int bv) :: (6, .int k) :: lvs0 b a o oL oD (nI (7 * n))) hx hb dL_law_1085 hl1 (by decide) rfl (fun ls2 hl2 => ?_)
  refine lw_tailI (off := 1788) (X := xPa c9 (xs (7 * n + 1))) (R := c9 28 (xs (7 * n + 1)).toNatClampNeg) F I2.swap hM2 (C1.trans ek.symm) ek (by decide) hv (fun z => (C2 z).trans eb.symm) hl2 ⟨dL_law_1087, dL_law_1088, dL_law_1091, dL_law_1093, dL_law_1098⟩ ⟨dL_law_1100, dL_law_1103, dL_law_1104, dL_law_1105, dL_law_1106, dL_law_1108, dL_law_1109, dL_law_1110, dL_law_1115, by decide⟩ ⟨by omega, by omega⟩ (fun H3 ls3 I3 hl3 => ?_)
  exact K H3 _ _ ls3 ⟨u.1, h2, b1, _, _, _, u.2, vD, I3, ⟨hR1, hw1, ha1⟩, ⟨hM2, w1, C3⟩, by omega, by omega⟩ hl3
