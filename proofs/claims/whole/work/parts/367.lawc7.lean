/-! the law's cases 7 -/
theorem lc_eventKind {p : Program} {l : Launch} {e : Env} {s : State} {m : MethodId} {below : List Frame} {meth : Method} {c : Code} {b L : Nat} {xs : Nat → Int32} {G : GT} {cL cD : ClassId} {oL oD : Nat} {H : Heap} {cells slots : Nat} {Q : State → Prop} {ls : Array Slot} {a o n : Nat} (hlt : l.stackTraces = false) (F : LwF p s m c b L xs G cL cD oL oD) (hn : n < 512) (hL : 7 * n + 6 < L) (hL2 : L ≤ 3584) (hS : LwS s G cL cD oL oD a o n H cells slots) (hl : lv_has ls 9 (lvs0 b a o oL oD (nI (7 * n))))
    (K : ∀ (H1 : Heap) (cells1 slots1 : Nat) (ls1 : Array Slot), LwS s G cL cD oL oD a o (n + 1) H1 cells1 slots1 → lv_has ls1 9 (lvs0 b a o oL oD (nI (7 * n))) → W p l e room_1 s m #[Value.ref b] below meth c H1 [] cells1 slots1 Q (F0 m 2903 ls1 [])) :
    W p l e room_1 s m #[Value.ref b] below meth c H [] cells slots Q (F0 m 2512 ls []) := by
  obtain ⟨hc, hr, bb, c9, mm, ad, vL, vD, I, ⟨hR, hw, ha⟩, ⟨hM, hwa, hSim⟩, hcl, hsl⟩ := hS
  have F' := F
  obtain ⟨⟨hx, hb, -⟩, -⟩ := F'
  obtain ⟨u1, u2, u3⟩ := uC_max hSim hwa (by omega)
  obtain ⟨x1, x2⟩ := UC_max hw
  have C : CallOK n [nseC, iobC] c9 (xEv c9 (xs (7 * n + 1)) (xs (7 * n + 2))) (c9 120 (1024 * (xs (7 * n + 1)).toNatClampNeg + (xs (7 * n + 2)).toNatClampNeg)) (fEvK 1 mm (xs (7 * n + 1)) (xs (7 * n + 2))) := call_event hSim hn hwa hw (xs (7 * n + 1)) (xs (7 * n + 2)) (k := 120) (jj := 1) (Or.inl ⟨rfl, rfl⟩)
  obtain ⟨C1, C2, C3⟩ := C
  obtain ⟨w1, w2, w3⟩ := rw_evK hwa 1 (xs (7 * n + 1)) (xs (7 * n + 2))
  obtain ⟨y1, y2, -⟩ := uC_max C3 w1 (by omega)
  obtain ⟨⟨g1, g2⟩, g3, g4⟩ : Gm c9 c9 := Gm.refl hw
  refine lv_aload_n hx hb dL_law_2512 rfl (lv_at hl 4 rfl) ?_
  refine lw_arg (j := 1) F I (by omega) hL2 (lv_at hl 5 rfl) (lv_at hl 0 rfl) dL_law_2513 dL_law_2514 dL_law_2516 (by decide) dL_law_2517 dL_law_2518 ?_
  refine lw_arg (j := 2) F I (by omega) hL2 (lv_at hl 5 rfl) (lv_at hl 0 rfl) dL_law_2519 dL_law_2520 dL_law_2522 (by decide) dL_law_2523 dL_law_2524 ?_
  refine lv_aload_n hx hb dL_law_2525 rfl (lv_at hl 2 rfl) ?_
  refine k_wrapL (rest := []) F I (fun A => cW_eventKind l hlt G A hc bb c9 hR hw (xs (7 * n + 1)) (xs (7 * n + 2)) (fun z => sim_nar120 hSim hwa hw z) cL cD oL vL) ms_L_eventKind ml_L_294 rfl ⟨Nat.le_of_ble_eq_true rfl, Nat.le_of_ble_eq_true rfl⟩ hl.1 (by rw [ha]; rfl) (by decide) dL_law_2526 ⟨by omega, by omega⟩ (fun k u H1 hp I1 => ?_)
  obtain ⟨ek, hv, b1, hBE, hR1, hw1⟩ := hp
  have ha1 : b1 14 0 = a := (hBE 14 0 (by decide) rfl).trans ha
  refine lv_istore (lv' := (6, .int k) :: lvs0 b a o oL oD (nI (7 * n))) hx hb dL_law_2529 hl (by decide) rfl (fun ls1 hl1 => ?_)
  refine lv_aload_n hx hb dL_law_2531 rfl (lv_at hl1 4 rfl) ?_
  refine lw_arg (j := 1) F I1 (by omega) hL2 (lv_at hl1 6 rfl) (lv_at hl1 1 rfl) dL_law_2532 dL_law_2533 dL_law_2535 (by decide) dL_law_2536 dL_law_2537 ?_
  refine lw_arg (j := 2) F I1 (by omega) hL2 (lv_at hl1 6 rfl) (lv_at hl1 1 rfl) dL_law_2538 dL_law_2539 dL_law_2541 (by decide) dL_law_2542 dL_law_2543 ?_
  refine k_virtI (rest := []) F I1.swap (fun A => cM_eventKind l G A hr o ad mm hM (xs (7 * n + 1)) (xs (7 * n + 2)) hwa) mv_X11_eventKind ml_L_296 ci_15 hM.1 rfl ⟨Nat.le_of_ble_eq_true rfl, Nat.le_of_ble_eq_true rfl⟩ hl1.1 rfl (by decide) dL_law_2544 ⟨by omega, by omega⟩ (fun bv h2 H2 hp2 I2 => ?_)
  obtain ⟨eb, hM2⟩ := hp2
  refine lv_istore (lv' := (7, .int bv) :: (6, .int k) :: lvs0 b a o oL oD (nI (7 * n))) hx hb dL_law_2547 hl1 (by decide) rfl (fun ls2 hl2 => ?_)
  refine lw_tailI (off := 326) (X := xEv c9 (xs (7 * n + 1)) (xs (7 * n + 2))) (R := c9 120 (1024 * (xs (7 * n + 1)).toNatClampNeg + (xs (7 * n + 2)).toNatClampNeg)) F I2.swap hM2 (C1.trans ek.symm) ek (by decide) hv (fun z => (C2 z).trans eb.symm) hl2 ⟨dL_law_2549, dL_law_2550, dL_law_2553, dL_law_2555, dL_law_2560⟩ ⟨dL_law_2562, dL_law_2565, dL_law_2566, dL_law_2567, dL_law_2568, dL_law_2570, dL_law_2571, dL_law_2572, dL_law_2577, by decide⟩ ⟨by omega, by omega⟩ (fun H3 ls3 I3 hl3 => ?_)
  exact K H3 _ _ ls3 ⟨u.1, h2, b1, _, _, _, u.2, vD, I3, ⟨hR1, hw1, ha1⟩, ⟨hM2, w1, C3⟩, by omega, by omega⟩ hl3
theorem lc_eventMinute {p : Program} {l : Launch} {e : Env} {s : State} {m : MethodId} {below : List Frame} {meth : Method} {c : Code} {b L : Nat} {xs : Nat → Int32} {G : GT} {cL cD : ClassId} {oL oD : Nat} {H : Heap} {cells slots : Nat} {Q : State → Prop} {ls : Array Slot} {a o n : Nat} (hlt : l.stackTraces = false) (F : LwF p s m c b L xs G cL cD oL oD) (hn : n < 512) (hL : 7 * n + 6 < L) (hL2 : L ≤ 3584) (hS : LwS s G cL cD oL oD a o n H cells slots) (hl : lv_has ls 9 (lvs0 b a o oL oD (nI (7 * n))))
    (K : ∀ (H1 : Heap) (cells1 slots1 : Nat) (ls1 : Array Slot), LwS s G cL cD oL oD a o (n + 1) H1 cells1 slots1 → lv_has ls1 9 (lvs0 b a o oL oD (nI (7 * n))) → W p l e room_1 s m #[Value.ref b] below meth c H1 [] cells1 slots1 Q (F0 m 2903 ls1 [])) :
    W p l e room_1 s m #[Value.ref b] below meth c H [] cells slots Q (F0 m 2580 ls []) := by
  obtain ⟨hc, hr, bb, c9, mm, ad, vL, vD, I, ⟨hR, hw, ha⟩, ⟨hM, hwa, hSim⟩, hcl, hsl⟩ := hS
  have F' := F
  obtain ⟨⟨hx, hb, -⟩, -⟩ := F'
  obtain ⟨u1, u2, u3⟩ := uC_max hSim hwa (by omega)
  obtain ⟨x1, x2⟩ := UC_max hw
  have C : CallOK n [nseC, iobC] c9 (xEv c9 (xs (7 * n + 1)) (xs (7 * n + 2))) (c9 121 (1024 * (xs (7 * n + 1)).toNatClampNeg + (xs (7 * n + 2)).toNatClampNeg)) (fEvK 2 mm (xs (7 * n + 1)) (xs (7 * n + 2))) := call_event hSim hn hwa hw (xs (7 * n + 1)) (xs (7 * n + 2)) (k := 121) (jj := 2) (Or.inr (Or.inl ⟨rfl, rfl⟩))
  obtain ⟨C1, C2, C3⟩ := C
  obtain ⟨w1, w2, w3⟩ := rw_evK hwa 2 (xs (7 * n + 1)) (xs (7 * n + 2))
  obtain ⟨y1, y2, -⟩ := uC_max C3 w1 (by omega)
  obtain ⟨⟨g1, g2⟩, g3, g4⟩ : Gm c9 c9 := Gm.refl hw
  refine lv_aload_n hx hb dL_law_2580 rfl (lv_at hl 4 rfl) ?_
  refine lw_arg (j := 1) F I (by omega) hL2 (lv_at hl 5 rfl) (lv_at hl 0 rfl) dL_law_2581 dL_law_2582 dL_law_2584 (by decide) dL_law_2585 dL_law_2586 ?_
  refine lw_arg (j := 2) F I (by omega) hL2 (lv_at hl 5 rfl) (lv_at hl 0 rfl) dL_law_2587 dL_law_2588 dL_law_2590 (by decide) dL_law_2591 dL_law_2592 ?_
  refine lv_aload_n hx hb dL_law_2593 rfl (lv_at hl 2 rfl) ?_
  refine k_wrapL (rest := []) F I (fun A => cW_eventMinute l hlt G A hc bb c9 hR hw (xs (7 * n + 1)) (xs (7 * n + 2)) cL cD oL vL) ms_L_eventMinute ml_L_297 rfl ⟨Nat.le_of_ble_eq_true rfl, Nat.le_of_ble_eq_true rfl⟩ hl.1 (by rw [ha]; rfl) (by decide) dL_law_2594 ⟨by omega, by omega⟩ (fun k u H1 hp I1 => ?_)
  obtain ⟨ek, hv, b1, hBE, hR1, hw1⟩ := hp
  have ha1 : b1 14 0 = a := (hBE 14 0 (by decide) rfl).trans ha
  refine lv_istore (lv' := (6, .int k) :: lvs0 b a o oL oD (nI (7 * n))) hx hb dL_law_2597 hl (by decide) rfl (fun ls1 hl1 => ?_)
  refine lv_aload_n hx hb dL_law_2599 rfl (lv_at hl1 4 rfl) ?_
  refine lw_arg (j := 1) F I1 (by omega) hL2 (lv_at hl1 6 rfl) (lv_at hl1 1 rfl) dL_law_2600 dL_law_2601 dL_law_2603 (by decide) dL_law_2604 dL_law_2605 ?_
  refine lw_arg (j := 2) F I1 (by omega) hL2 (lv_at hl1 6 rfl) (lv_at hl1 1 rfl) dL_law_2606 dL_law_2607 dL_law_2609 (by decide) dL_law_2610 dL_law_2611 ?_
  refine k_virtI (rest := []) F I1.swap (fun A => cM_eventMinute l G A hr o ad mm hM (xs (7 * n + 1)) (xs (7 * n + 2)) hwa) mv_X11_eventMinute ml_L_299 ci_15 hM.1 rfl ⟨Nat.le_of_ble_eq_true rfl, Nat.le_of_ble_eq_true rfl⟩ hl1.1 rfl (by decide) dL_law_2612 ⟨by omega, by omega⟩ (fun bv h2 H2 hp2 I2 => ?_)
  obtain ⟨eb, hM2⟩ := hp2
  refine lv_istore (lv' := (7, .int bv) :: (6, .int k) :: lvs0 b a o oL oD (nI (7 * n))) hx hb dL_law_2615 hl1 (by decide) rfl (fun ls2 hl2 => ?_)
  refine lw_tailI (off := 258) (X := xEv c9 (xs (7 * n + 1)) (xs (7 * n + 2))) (R := c9 121 (1024 * (xs (7 * n + 1)).toNatClampNeg + (xs (7 * n + 2)).toNatClampNeg)) F I2.swap hM2 (C1.trans ek.symm) ek (by decide) hv (fun z => (C2 z).trans eb.symm) hl2 ⟨dL_law_2617, dL_law_2618, dL_law_2621, dL_law_2623, dL_law_2628⟩ ⟨dL_law_2630, dL_law_2633, dL_law_2634, dL_law_2635, dL_law_2636, dL_law_2638, dL_law_2639, dL_law_2640, dL_law_2645, by decide⟩ ⟨by omega, by omega⟩ (fun H3 ls3 I3 hl3 => ?_)
  exact K H3 _ _ ls3 ⟨u.1, h2, b1, _, _, _, u.2, vD, I3, ⟨hR1, hw1, ha1⟩, ⟨hM2, w1, C3⟩, by omega, by omega⟩ hl3
theorem lc_eventHub {p : Program} {l : Launch} {e : Env} {s : State} {m : MethodId} {below : List Frame} {meth : Method} {c : Code} {b L : Nat} {xs : Nat → Int32} {G : GT} {cL cD : ClassId} {oL oD : Nat} {H : Heap} {cells slots : Nat} {Q : State → Prop} {ls : Array Slot} {a o n : Nat} (hlt : l.stackTraces = false) (F : LwF p s m c b L xs G cL cD oL oD) (hn : n < 512) (hL : 7 * n + 6 < L) (hL2 : L ≤ 3584) (hS : LwS s G cL cD oL oD a o n H cells slots) (hl : lv_has ls 9 (lvs0 b a o oL oD (nI (7 * n))))
    (K : ∀ (H1 : Heap) (cells1 slots1 : Nat) (ls1 : Array Slot), LwS s G cL cD oL oD a o (n + 1) H1 cells1 slots1 → lv_has ls1 9 (lvs0 b a o oL oD (nI (7 * n))) → W p l e room_1 s m #[Value.ref b] below meth c H1 [] cells1 slots1 Q (F0 m 2903 ls1 [])) :
    W p l e room_1 s m #[Value.ref b] below meth c H [] cells slots Q (F0 m 2648 ls []) := by
  obtain ⟨hc, hr, bb, c9, mm, ad, vL, vD, I, ⟨hR, hw, ha⟩, ⟨hM, hwa, hSim⟩, hcl, hsl⟩ := hS
  have F' := F
  obtain ⟨⟨hx, hb, -⟩, -⟩ := F'
  obtain ⟨u1, u2, u3⟩ := uC_max hSim hwa (by omega)
  obtain ⟨x1, x2⟩ := UC_max hw
  have C : CallOK n [nseC, iobC] c9 (xEv c9 (xs (7 * n + 1)) (xs (7 * n + 2))) (c9 122 (1024 * (xs (7 * n + 1)).toNatClampNeg + (xs (7 * n + 2)).toNatClampNeg)) (fEvK 3 mm (xs (7 * n + 1)) (xs (7 * n + 2))) := call_event hSim hn hwa hw (xs (7 * n + 1)) (xs (7 * n + 2)) (k := 122) (jj := 3) (Or.inr (Or.inr ⟨rfl, rfl⟩))
  obtain ⟨C1, C2, C3⟩ := C
  obtain ⟨w1, w2, w3⟩ := rw_evK hwa 3 (xs (7 * n + 1)) (xs (7 * n + 2))
  obtain ⟨y1, y2, -⟩ := uC_max C3 w1 (by omega)
  obtain ⟨⟨g1, g2⟩, g3, g4⟩ : Gm c9 c9 := Gm.refl hw
  refine lv_aload_n hx hb dL_law_2648 rfl (lv_at hl 4 rfl) ?_
  refine lw_arg (j := 1) F I (by omega) hL2 (lv_at hl 5 rfl) (lv_at hl 0 rfl) dL_law_2649 dL_law_2650 dL_law_2652 (by decide) dL_law_2653 dL_law_2654 ?_
  refine lw_arg (j := 2) F I (by omega) hL2 (lv_at hl 5 rfl) (lv_at hl 0 rfl) dL_law_2655 dL_law_2656 dL_law_2658 (by decide) dL_law_2659 dL_law_2660 ?_
  refine lv_aload_n hx hb dL_law_2661 rfl (lv_at hl 2 rfl) ?_
  refine k_wrapL (rest := []) F I (fun A => cW_eventHub l hlt G A hc bb c9 hR hw (xs (7 * n + 1)) (xs (7 * n + 2)) cL cD oL vL) ms_L_eventHub ml_L_300 rfl ⟨Nat.le_of_ble_eq_true rfl, Nat.le_of_ble_eq_true rfl⟩ hl.1 (by rw [ha]; rfl) (by decide) dL_law_2662 ⟨by omega, by omega⟩ (fun k u H1 hp I1 => ?_)
  obtain ⟨ek, hv, b1, hBE, hR1, hw1⟩ := hp
  have ha1 : b1 14 0 = a := (hBE 14 0 (by decide) rfl).trans ha
  refine lv_istore (lv' := (6, .int k) :: lvs0 b a o oL oD (nI (7 * n))) hx hb dL_law_2665 hl (by decide) rfl (fun ls1 hl1 => ?_)
  refine lv_aload_n hx hb dL_law_2667 rfl (lv_at hl1 4 rfl) ?_
  refine lw_arg (j := 1) F I1 (by omega) hL2 (lv_at hl1 6 rfl) (lv_at hl1 1 rfl) dL_law_2668 dL_law_2669 dL_law_2671 (by decide) dL_law_2672 dL_law_2673 ?_
  refine lw_arg (j := 2) F I1 (by omega) hL2 (lv_at hl1 6 rfl) (lv_at hl1 1 rfl) dL_law_2674 dL_law_2675 dL_law_2677 (by decide) dL_law_2678 dL_law_2679 ?_
  refine k_virtI (rest := []) F I1.swap (fun A => cM_eventHub l G A hr o ad mm hM (xs (7 * n + 1)) (xs (7 * n + 2)) hwa) mv_X11_eventHub ml_L_302 ci_15 hM.1 rfl ⟨Nat.le_of_ble_eq_true rfl, Nat.le_of_ble_eq_true rfl⟩ hl1.1 rfl (by decide) dL_law_2680 ⟨by omega, by omega⟩ (fun bv h2 H2 hp2 I2 => ?_)
  obtain ⟨eb, hM2⟩ := hp2
  refine lv_istore (lv' := (7, .int bv) :: (6, .int k) :: lvs0 b a o oL oD (nI (7 * n))) hx hb dL_law_2683 hl1 (by decide) rfl (fun ls2 hl2 => ?_)
  refine lw_tailI (off := 190) (X := xEv c9 (xs (7 * n + 1)) (xs (7 * n + 2))) (R := c9 122 (1024 * (xs (7 * n + 1)).toNatClampNeg + (xs (7 * n + 2)).toNatClampNeg)) F I2.swap hM2 (C1.trans ek.symm) ek (by decide) hv (fun z => (C2 z).trans eb.symm) hl2 ⟨dL_law_2685, dL_law_2686, dL_law_2689, dL_law_2691, dL_law_2696⟩ ⟨dL_law_2698, dL_law_2701, dL_law_2702, dL_law_2703, dL_law_2704, dL_law_2706, dL_law_2707, dL_law_2708, dL_law_2713, by decide⟩ ⟨by omega, by omega⟩ (fun H3 ls3 I3 hl3 => ?_)
  exact K H3 _ _ ls3 ⟨u.1, h2, b1, _, _, _, u.2, vD, I3, ⟨hR1, hw1, ha1⟩, ⟨hM2, w1, C3⟩, by omega, by omega⟩ hl3
theorem lc_trace {p : Program} {l : Launch} {e : Env} {s : State} {m : MethodId} {below : List Frame} {meth : Method} {c : Code} {b L : Nat} {xs : Nat → Int32} {G : GT} {cL cD : ClassId} {oL oD : Nat} {H : Heap} {cells slots : Nat} {Q : State → Prop} {ls : Array Slot} {a o n : Nat} (hlt : l.stackTraces = false) (F : LwF p s m c b L xs G cL cD oL oD) (hn : n < 512) (hL : 7 * n + 6 < L) (hL2 : L ≤ 3584) (hS : LwS s G cL cD oL oD a o n H cells slots) (hl : lv_has ls 9 (lvs0 b a o oL oD (nI (7 * n))))
    (K : ∀ (H1 : Heap) (cells1 slots1 : Nat) (ls1 : Array Slot), LwS s G cL cD oL oD a o (n + 1) H1 cells1 slots1 → lv_has ls1 9 (lvs0 b a o oL oD (nI (7 * n))) → W p l e room_1 s m #[Value.ref b] below meth c H1 [] cells1 slots1 Q (F0 m 2903 ls1 [])) :
    W p l e room_1 s m #[Value.ref b] below meth c H [] cells slots Q (F0 m 2716 ls []) := by
  obtain ⟨hc, hr, bb, c9, mm, ad, vL, vD, I, ⟨hR, hw, ha⟩, ⟨hM, hwa, hSim⟩, hcl, hsl⟩ := hS
  have F' := F
  obtain ⟨⟨hx, hb, -⟩, -⟩ := F'
  obtain ⟨u1, u2, u3⟩ := uC_max hSim hwa (by omega)
  obtain ⟨x1, x2⟩ := UC_max hw
  have C : CallOK n [nseC] c9 (xPa c9 (xs (7 * n + 1))) (c9 27 (xs (7 * n + 1)).toNatClampNeg) (fGet 27 mm (xs (7 * n + 1))) := call_getP hSim hwa hw (xs (7 * n + 1)) (k := 27) rfl
  obtain ⟨C1, C2, C3⟩ := C
  obtain ⟨w1, w2, w3⟩ := rw_get hwa 27 (xs (7 * n + 1))
  obtain ⟨y1, y2, -⟩ := uC_max C3 w1 (by omega)
  obtain ⟨⟨g1, g2⟩, g3, g4⟩ : Gm c9 c9 := Gm.refl hw
  refine lv_aload_n hx hb dL_law_2716 rfl (lv_at hl 4 rfl) ?_
  refine lw_arg (j := 1) F I (by omega) hL2 (lv_at hl 5 rfl) (lv_at hl 0 rfl) dL_law_2717 dL_law_2718 dL_law_2720 (by decide) dL_law_2721 dL_law_2722 ?_
  refine lv_aload_n hx hb dL_law_2723 rfl (lv_at hl 2 rfl) ?_
  refine k_wrapL (rest := []) F I (fun A => cW_trace l hlt G A hc bb c9 hR hw (xs (7 * n + 1)) cL cD oL vL) ms_L_trace ml_L_303 rfl ⟨Nat.le_of_ble_eq_true rfl, Nat.le_of_ble_eq_true rfl⟩ hl.1 (by rw [ha]; rfl) (by decide) dL_law_2724 ⟨by omega, by omega⟩ (fun k u H1 hp I1 => ?_)
  obtain ⟨ek, hv, b1, hBE, hR1, hw1⟩ := hp
  have ha1 : b1 14 0 = a := (hBE 14 0 (by decide) rfl).trans ha
  refine lv_istore (lv' := (6, .int k) :: lvs0 b a o oL oD (nI (7 * n))) hx hb dL_law_2727 hl (by decide) rfl (fun ls1 hl1 => ?_)
  refine lv_aload_n hx hb dL_law_2729 rfl (lv_at hl1 4 rfl) ?_
  refine lw_arg (j := 1) F I1 (by omega) hL2 (lv_at hl1 6 rfl) (lv_at hl1 1 rfl) dL_law_2730 dL_law_2731 dL_law_2733 (by decide) dL_law_2734 dL_law_2735 ?_
  refine k_virtI (rest := []) F I1.swap (fun A => cM_trace l G A hr o ad mm hM (xs (7 * n + 1)) hwa) mv_X11_trace ml_L_305 ci_15 hM.1 rfl ⟨Nat.le_of_ble_eq_true rfl, Nat.le_of_ble_eq_true rfl⟩ hl1.1 rfl (by decide) dL_law_2736 ⟨by omega, by omega⟩ (fun bv h2 H2 hp2 I2 => ?_)
  obtain ⟨eb, hM2⟩ := hp2
  refine lv_istore (lv' := (7, .int bv) :: (6, .int k) :: lvs0 b a o oL oD (nI (7 * n))) hx hb dL_law_2739 hl1 (by decide) rfl (fun ls2 hl2 => ?_)
  refine lw_tailI (off := 134) (X := xPa c9 (xs (7 * n + 1))) (R := c9 27 (xs (7 * n + 1)).toNatClampNeg) F I2.swap hM2 (C1.trans ek.symm) ek (by decide) hv (fun z => (C2 z).trans eb.symm) hl2 ⟨dL_law_2741, dL_law_2742, dL_law_2745, dL_law_2747, dL_law_2752⟩ ⟨dL_law_2754, dL_law_2757, dL_law_2758, dL_law_2759, dL_law_2760, dL_law_2762, dL_law_2763, dL_law_2764, dL_law_2769, by decide⟩ ⟨by omega, by omega⟩ (fun H3 ls3 I3 hl3 => ?_)
  exact K H3 _ _ ls3 ⟨u.1, h2, b1, _, _, _, u.2, vD, I3, ⟨hR1, hw1, ha1⟩, ⟨hM2, w1, C3⟩, by omega, by omega⟩ hl3
theorem lc_minute {p : Program} {l : Launch} {e : Env} {s : State} {m : MethodId} {below : List Frame} {meth : Method} {c : Code} {b L : Nat} {xs : Nat → Int32} {G : GT} {cL cD : ClassId} {oL oD : Nat} {H : Heap} {cells slots : Nat} {Q : State → Prop} {ls : Array Slot} {a o n : Nat} (hlt : l.stackTraces = false) (F : LwF p s m c b L xs G cL cD oL oD) (hn : n < 512) (hL : 7 * n + 6 < L) (hL2 : L ≤ 3584) (hS : LwS s G cL cD oL oD a o n H cells slots) (hl : lv_has ls 9 (lvs0 b a o oL oD (nI (7 * n))))
    (K : ∀ (H1 : Heap) (cells1 slots1 : Nat) (ls1 : Array Slot), LwS s G cL cD oL oD a o (n + 1) H1 cells1 slots1 → lv_has ls1 9 (lvs0 b a o oL oD (nI (7 * n))) → W p l e room_1 s m #[Value.ref b] below meth c H1 [] cells1 slots1 Q (F0 m 2903 ls1 [])) :
    W p l e room_1 s m #[Value.ref b] below meth c H [] cells slots Q (F0 m 842 ls []) := by
  obtain ⟨hc, hr, bb, c9, mm, ad, vL, vD, I, ⟨hR, hw, ha⟩, ⟨hM, hwa, hSim⟩, hcl, hsl⟩ := hS
  have F' := F
  obtain ⟨⟨hx, hb, -⟩, -⟩ := F'
  obtain ⟨u1, u2, u3⟩ := uC_max hSim hwa (by omega)
  obtain ⟨x1, x2⟩ := UC_max hw
  have hq := call_counts hSim hwa
  obtain ⟨w1, w2, w3⟩ := (show Rw mm (up mm 45 0 0) from rw_tell hwa 0)
  refine lv_aload_n hx hb dL_law_842 rfl (lv_at hl 4 rfl) ?_
  refine k_virtI (As := []) (rest := []) (r9 := a) F I (fun A => by have h9 := cC_X10_minute l G A hc bb c9 hR hw; rw [ha] at h9; exact h9) mv_X10_minute ml_L_194 ci_14 (by rw [← ha]; exact hR.kind (K := 14) (i := 0) rfl) rfl ⟨Nat.le_of_ble_eq_true rfl, Nat.le_of_ble_eq_true rfl⟩ hl.1 rfl (by decide) dL_law_843 ⟨by omega, by omega⟩ (fun r1 h1 H1 hp I1 => ?_)
  obtain ⟨e1, eh⟩ := hp
  rw [eh] at I1
  refine lv_aload_n hx hb dL_law_846 rfl (lv_at hl 3 rfl) ?_
  refine k_virtI (As := []) (rest := [.int r1]) F I1.swap (fun A => cM_minute l G A hr o ad mm hM) mv_X11_minute ml_L_197 ci_15 hM.1 rfl ⟨Nat.le_of_ble_eq_true rfl, Nat.le_of_ble_eq_true rfl⟩ hl.1 rfl (by show (1 + 0 : Nat) ≤ 8; decide) dL_law_847 ⟨by omega, by omega⟩ (fun r2 h2 H2 hp2 I2 => ?_)
  obtain ⟨e2, hM2⟩ := hp2
  refine lv_icmp_eq (tgt := 2903) hx hb dL_law_850 (by decide) (fun _ => ?_) (fun z => absurd ((e1.trans (hq.1)).trans e2.symm) z)
  exact K H2 _ _ ls ⟨hc, h2, bb, c9, _, ad, vL, vD, I2.swap, ⟨hR, hw, ha⟩, ⟨hM2, w1, hSim.tell 0⟩, by omega, by omega⟩ hl
theorem lc_hubs {p : Program} {l : Launch} {e : Env} {s : State} {m : MethodId} {below : List Frame} {meth : Method} {c : Code} {b L : Nat} {xs : Nat → Int32} {G : GT} {cL cD : ClassId} {oL oD : Nat} {H : Heap} {cells slots : Nat} {Q : State → Prop} {ls : Array Slot} {a o n : Nat} (hlt : l.stackTraces = false) (F : LwF p s m c b L xs G cL cD oL oD) (hn : n < 512) (hL : 7 * n + 6 < L) (hL2 : L ≤ 3584) (hS : LwS s G cL cD oL oD a o n H cells slots) (hl : lv_has ls 9 (lvs0 b a o oL oD (nI (7 * n))))
    (K : ∀ (H1 : Heap) (cells1 slots1 : Nat) (ls1 : Array Slot), LwS s G cL cD oL oD a o (n + 1) H1 cells1 slots1 → lv_has ls1 9 (lvs0 b a o oL oD (nI (7 * n))) → W p l e room_1 s m #[Value.ref b] below meth c H1 [] cells1 slots1 Q (F0 m 2903 ls1 [])) :
    W p l e room_1 s m #[Value.ref b] below meth c H [] cells slots Q (F0 m 855 ls []) := by
  obtain ⟨hc, hr, bb, c9, mm, ad, vL, vD, I, ⟨hR, hw, ha⟩, ⟨hM, hwa, hSim⟩, hcl, hsl⟩ := hS
  have F' := F
  obtain ⟨⟨hx, hb, -⟩, -⟩ := F'
  obtain ⟨u1, u2, u3⟩ := uC_max hSim hwa (by omega)
  obtain ⟨x1, x2⟩ := UC_max hw
  have hq := call_counts hSim hwa
  obtain ⟨w1, w2, w3⟩ := (show Rw mm (up mm 45 0 0) from rw_tell hwa 0)
  refine lv_aload_n hx hb dL_law_855 rfl (lv_at hl 4 rfl) ?_
  refine k_virtI (As := []) (rest := []) (r9 := a) F I (fun A => by have h9 := cC_X10_hubs l G A hc bb c9 hR hw; rw [ha] at h9; exact h9) mv_X10_hubs ml_L_198 ci_14 (by rw [← ha]; exact hR.kind (K := 14) (i := 0) rfl) rfl ⟨Nat.le_of_ble_eq_true rfl, Nat.le_of_ble_eq_true rfl⟩ hl.1 rfl (by decide) dL_law_856 ⟨by omega, by omega⟩ (fun r1 h1 H1 hp I1 => ?_)
  obtain ⟨e1, eh⟩ := hp
  rw [eh] at I1
  refine lv_aload_n hx hb dL_law_859 rfl (lv_at hl 3 rfl) ?_
  refine k_virtI (As := []) (rest := [.int r1]) F I1.swap (fun A => cM_hubs l G A hr o ad mm hM) mv_X11_hubs ml_L_201 ci_15 hM.1 rfl ⟨Nat.le_of_ble_eq_true rfl, Nat.le_of_ble_eq_true rfl⟩ hl.1 rfl (by show (1 + 0 : Nat) ≤ 8; decide) dL_law_860 ⟨by omega, by omega⟩ (fun r2 h2 H2 hp2 I2 => ?_)
  obtain ⟨e2, hM2⟩ := hp2
  refine lv_icmp_eq (tgt := 2903) hx hb dL_law_863 (by decide) (fun _ => ?_) (fun z => absurd ((e1.trans (hq.2.1)).trans e2.symm) z)
  exact K H2 _ _ ls ⟨hc, h2, bb, c9, _, ad, vL, vD, I2.swap, ⟨hR, hw, ha⟩, ⟨hM2, w1, hSim.tell 0⟩, by omega, by omega⟩ hl
