/-! the law's cases 4 -/
theorem lc_misroutes {p : Program} {l : Launch} {e : Env} {s : State} {m : MethodId} {below : List Frame} {meth : Method} {c : Code} {b L : Nat} {xs : Nat → Int32} {G : GT} {cL cD : ClassId} {oL oD : Nat} {H : Heap} {cells slots : Nat} {Q : State → Prop} {ls : Array Slot} {a o n : Nat} (hlt : l.stackTraces = false) (F : LwF p s m c b L xs G cL cD oL oD) (hn : n < 512) (hL : 7 * n + 6 < L) (hL2 : L ≤ 3584) (hS : LwS s G cL cD oL oD a o n H cells slots) (hl : lv_has ls 9 (lvs0 b a o oL oD (nI (7 * n))))
    (K : ∀ (H1 : Heap) (cells1 slots1 : Nat) (ls1 : Array Slot), LwS s G cL cD oL oD a o (n + 1) H1 cells1 slots1 → lv_has ls1 9 (lvs0 b a o oL oD (nI (7 * n))) → W p l e room_1 s m #[Value.ref b] below meth c H1 [] cells1 slots1 Q (F0 m 2903 ls1 [])) :
    W p l e room_1 s m #[Value.ref b] below meth c H [] cells slots Q (F0 m 1468 ls []) := by
  obtain ⟨hc, hr, bb, c9, mm, ad, vL, vD, I, ⟨hR, hw, ha⟩, ⟨hM, hwa, hSim⟩, hcl, hsl⟩ := hS
  have F' := F
  obtain ⟨⟨hx, hb, -⟩, -⟩ := F'
  obtain ⟨u1, u2, u3⟩ := uC_max hSim hwa (by omega)
  obtain ⟨x1, x2⟩ := UC_max hw
  have C : CallOK n [nseC] c9 (xPa c9 (xs (7 * n + 1))) (c9 22 (xs (7 * n + 1)).toNatClampNeg) (fGet 22 mm (xs (7 * n + 1))) := call_getP hSim hwa hw (xs (7 * n + 1)) (k := 22) rfl
  obtain ⟨C1, C2, C3⟩ := C
  obtain ⟨w1, w2, w3⟩ := rw_get hwa 22 (xs (7 * n + 1))
  obtain ⟨y1, y2, -⟩ := uC_max C3 w1 (by omega)
  obtain ⟨⟨g1, g2⟩, g3, g4⟩ : Gm c9 c9 := Gm.refl hw
  refine lv_aload_n hx hb dL_law_1468 rfl (lv_at hl 4 rfl) ?_
  refine lw_arg (j := 1) F I (by omega) hL2 (lv_at hl 5 rfl) (lv_at hl 0 rfl) dL_law_1469 dL_law_1470 dL_law_1472 (by decide) dL_law_1473 dL_law_1474 ?_
  refine lv_aload_n hx hb dL_law_1475 rfl (lv_at hl 2 rfl) ?_
  refine k_wrapL (rest := []) F I (fun A => cW_misroutes l hlt G A hc bb c9 hR hw (xs (7 * n + 1)) cL cD oL vL) ms_L_misroutes ml_L_240 rfl ⟨Nat.le_of_ble_eq_true rfl, Nat.le_of_ble_eq_true rfl⟩ hl.1 (by rw [ha]; rfl) (by decide) dL_law_1476 ⟨by omega, by omega⟩ (fun k u H1 hp I1 => ?_)
  obtain ⟨ek, hv, b1, hBE, hR1, hw1⟩ := hp
  have ha1 : b1 14 0 = a := (hBE 14 0 (by decide) rfl).trans ha
  refine lv_istore (lv' := (6, .int k) :: lvs0 b a o oL oD (nI (7 * n))) hx hb dL_law_1479 hl (by decide) rfl (fun ls1 hl1 => ?_)
  refine lv_aload_n hx hb dL_law_1481 rfl (lv_at hl1 4 rfl) ?_
  refine lw_arg (j := 1) F I1 (by omega) hL2 (lv_at hl1 6 rfl) (lv_at hl1 1 rfl) dL_law_1482 dL_law_1483 dL_law_1485 (by decide) dL_law_1486 dL_law_1487 ?_
  refine k_virtI (rest := []) F I1.swap (fun A => cM_misroutes l G A hr o ad mm hM (xs (7 * n + 1)) hwa) mv_X11_misroutes ml_L_242 ci_15 hM.1 rfl ⟨Nat.le_of_ble_eq_true rfl, Nat.le_of_ble_eq_true rfl⟩ hl1.1 rfl (by decide) dL_law_1488 ⟨by omega, by omega⟩ (fun bv h2 H2 hp2 I2 => ?_)
  obtain ⟨eb, hM2⟩ := hp2
  refine lv_istore (lv' := (7, .int bv) :: (6, .int k) :: lvs0 b a o oL oD (nI (7 * n))) hx hb dL_law_1491 hl1 (by decide) rfl (fun ls2 hl2 => ?_)
  refine lw_tailI (off := 1382) (X := xPa c9 (xs (7 * n + 1))) (R := c9 22 (xs (7 * n + 1)).toNatClampNeg) F I2.swap hM2 (C1.trans ek.symm) ek (by decide) hv (fun z => (C2 z).trans eb.symm) hl2 ⟨dL_law_1493, dL_law_1494, dL_law_1497, dL_law_1499, dL_law_1504⟩ ⟨dL_law_1506, dL_law_1509, dL_law_1510, dL_law_1511, dL_law_1512, dL_law_1514, dL_law_1515, dL_law_1516, dL_law_1521, by decide⟩ ⟨by omega, by omega⟩ (fun H3 ls3 I3 hl3 => ?_)
  exact K H3 _ _ ls3 ⟨u.1, h2, b1, _, _, _, u.2, vD, I3, ⟨hR1, hw1, ha1⟩, ⟨hM2, w1, C3⟩, by omega, by omega⟩ hl3
theorem lc_attempts {p : Program} {l : Launch} {e : Env} {s : State} {m : MethodId} {below : List Frame} {meth : Method} {c : Code} {b L : Nat} {xs : Nat → Int32} {G : GT} {cL cD : ClassId} {oL oD : Nat} {H : Heap} {cells slots : Nat} {Q : State → Prop} {ls : Array Slot} {a o n : Nat} (hlt : l.stackTraces = false) (F : LwF p s m c b L xs G cL cD oL oD) (hn : n < 512) (hL : 7 * n + 6 < L) (hL2 : L ≤ 3584) (hS : LwS s G cL cD oL oD a o n H cells slots) (hl : lv_has ls 9 (lvs0 b a o oL oD (nI (7 * n))))
    (K : ∀ (H1 : Heap) (cells1 slots1 : Nat) (ls1 : Array Slot), LwS s G cL cD oL oD a o (n + 1) H1 cells1 slots1 → lv_has ls1 9 (lvs0 b a o oL oD (nI (7 * n))) → W p l e room_1 s m #[Value.ref b] below meth c H1 [] cells1 slots1 Q (F0 m 2903 ls1 [])) :
    W p l e room_1 s m #[Value.ref b] below meth c H [] cells slots Q (F0 m 1524 ls []) := by
  obtain ⟨hc, hr, bb, c9, mm, ad, vL, vD, I, ⟨hR, hw, ha⟩, ⟨hM, hwa, hSim⟩, hcl, hsl⟩ := hS
  have F' := F
  obtain ⟨⟨hx, hb, -⟩, -⟩ := F'
  obtain ⟨u1, u2, u3⟩ := uC_max hSim hwa (by omega)
  obtain ⟨x1, x2⟩ := UC_max hw
  have C : CallOK n [nseC] c9 (xPa c9 (xs (7 * n + 1))) (c9 23 (xs (7 * n + 1)).toNatClampNeg) (fGet 23 mm (xs (7 * n + 1))) := call_getP hSim hwa hw (xs (7 * n + 1)) (k := 23) rfl
  obtain ⟨C1, C2, C3⟩ := C
  obtain ⟨w1, w2, w3⟩ := rw_get hwa 23 (xs (7 * n + 1))
  obtain ⟨y1, y2, -⟩ := uC_max C3 w1 (by omega)
  obtain ⟨⟨g1, g2⟩, g3, g4⟩ : Gm c9 c9 := Gm.refl hw
  refine lv_aload_n hx hb dL_law_1524 rfl (lv_at hl 4 rfl) ?_
  refine lw_arg (j := 1) F I (by omega) hL2 (lv_at hl 5 rfl) (lv_at hl 0 rfl) dL_law_1525 dL_law_1526 dL_law_1528 (by decide) dL_law_1529 dL_law_1530 ?_
  refine lv_aload_n hx hb dL_law_1531 rfl (lv_at hl 2 rfl) ?_
  refine k_wrapL (rest := []) F I (fun A => cW_attempts l hlt G A hc bb c9 hR hw (xs (7 * n + 1)) cL cD oL vL) ms_L_attempts ml_L_243 rfl ⟨Nat.le_of_ble_eq_true rfl, Nat.le_of_ble_eq_true rfl⟩ hl.1 (by rw [ha]; rfl) (by decide) dL_law_1532 ⟨by omega, by omega⟩ (fun k u H1 hp I1 => ?_)
  obtain ⟨ek, hv, b1, hBE, hR1, hw1⟩ := hp
  have ha1 : b1 14 0 = a := (hBE 14 0 (by decide) rfl).trans ha
  refine lv_istore (lv' := (6, .int k) :: lvs0 b a o oL oD (nI (7 * n))) hx hb dL_law_1535 hl (by decide) rfl (fun ls1 hl1 => ?_)
  refine lv_aload_n hx hb dL_law_1537 rfl (lv_at hl1 4 rfl) ?_
  refine lw_arg (j := 1) F I1 (by omega) hL2 (lv_at hl1 6 rfl) (lv_at hl1 1 rfl) dL_law_1538 dL_law_1539 dL_law_1541 (by decide) dL_law_1542 dL_law_1543 ?_
  refine k_virtI (rest := []) F I1.swap (fun A => cM_attempts l G A hr o ad mm hM (xs (7 * n + 1)) hwa) mv_X11_attempts ml_L_245 ci_15 hM.1 rfl ⟨Nat.le_of_ble_eq_true rfl, Nat.le_of_ble_eq_true rfl⟩ hl1.1 rfl (by decide) dL_law_1544 ⟨by omega, by omega⟩ (fun bv h2 H2 hp2 I2 => ?_)
  obtain ⟨eb, hM2⟩ := hp2
  refine lv_istore (lv' := (7, .int bv) :: (6, .int k) :: lvs0 b a o oL oD (nI (7 * n))) hx hb dL_law_1547 hl1 (by decide) rfl (fun ls2 hl2 => ?_)
  refine lw_tailI (off := 1326) (X := xPa c9 (xs (7 * n + 1))) (R := c9 23 (xs (7 * n + 1)).toNatClampNeg) F I2.swap hM2 (C1.trans ek.symm) ek (by decide) hv (fun z => (C2 z).trans eb.symm) hl2 ⟨dL_law_1549, dL_law_1550, dL_law_1553, dL_law_1555, dL_law_1560⟩ ⟨dL_law_1562, dL_law_1565, dL_law_1566, dL_law_1567, dL_law_1568, dL_law_1570, dL_law_1571, dL_law_1572, dL_law_1577, by decide⟩ ⟨by omega, by omega⟩ (fun H3 ls3 I3 hl3 => ?_)
  exact K H3 _ _ ls3 ⟨u.1, h2, b1, _, _, _, u.2, vD, I3, ⟨hR1, hw1, ha1⟩, ⟨hM2, w1, C3⟩, by omega, by omega⟩ hl3
theorem lc_missed {p : Program} {l : Launch} {e : Env} {s : State} {m : MethodId} {below : List Frame} {meth : Method} {c : Code} {b L : Nat} {xs : Nat → Int32} {G : GT} {cL cD : ClassId} {oL oD : Nat} {H : Heap} {cells slots : Nat} {Q : State → Prop} {ls : Array Slot} {a o n : Nat} (hlt : l.stackTraces = false) (F : LwF p s m c b L xs G cL cD oL oD) (hn : n < 512) (hL : 7 * n + 6 < L) (hL2 : L ≤ 3584) (hS : LwS s G cL cD oL oD a o n H cells slots) (hl : lv_has ls 9 (lvs0 b a o oL oD (nI (7 * n))))
    (K : ∀ (H1 : Heap) (cells1 slots1 : Nat) (ls1 : Array Slot), LwS s G cL cD oL oD a o (n + 1) H1 cells1 slots1 → lv_has ls1 9 (lvs0 b a o oL oD (nI (7 * n))) → W p l e room_1 s m #[Value.ref b] below meth c H1 [] cells1 slots1 Q (F0 m 2903 ls1 [])) :
    W p l e room_1 s m #[Value.ref b] below meth c H [] cells slots Q (F0 m 1580 ls []) := by
  obtain ⟨hc, hr, bb, c9, mm, ad, vL, vD, I, ⟨hR, hw, ha⟩, ⟨hM, hwa, hSim⟩, hcl, hsl⟩ := hS
  have F' := F
  obtain ⟨⟨hx, hb, -⟩, -⟩ := F'
  obtain ⟨u1, u2, u3⟩ := uC_max hSim hwa (by omega)
  obtain ⟨x1, x2⟩ := UC_max hw
  have C : CallOK n [nseC] c9 (xPa c9 (xs (7 * n + 1))) (c9 24 (xs (7 * n + 1)).toNatClampNeg) (fGet 24 mm (xs (7 * n + 1))) := call_getP hSim hwa hw (xs (7 * n + 1)) (k := 24) rfl
  obtain ⟨C1, C2, C3⟩ := C
  obtain ⟨w1, w2, w3⟩ := rw_get hwa 24 (xs (7 * n + 1))
  obtain ⟨y1, y2, -⟩ := uC_max C3 w1 (by omega)
  obtain ⟨⟨g1, g2⟩, g3, g4⟩ : Gm c9 c9 := Gm.refl hw
  refine lv_aload_n hx hb dL_law_1580 rfl (lv_at hl 4 rfl) ?_
  refine lw_arg (j := 1) F I (by omega) hL2 (lv_at hl 5 rfl) (lv_at hl 0 rfl) dL_law_1581 dL_law_1582 dL_law_1584 (by decide) dL_law_1585 dL_law_1586 ?_
  refine lv_aload_n hx hb dL_law_1587 rfl (lv_at hl 2 rfl) ?_
  refine k_wrapL (rest := []) F I (fun A => cW_missed l hlt G A hc bb c9 hR hw (xs (7 * n + 1)) cL cD oL vL) ms_L_missed ml_L_246 rfl ⟨Nat.le_of_ble_eq_true rfl, Nat.le_of_ble_eq_true rfl⟩ hl.1 (by rw [ha]; rfl) (by decide) dL_law_1588 ⟨by omega, by omega⟩ (fun k u H1 hp I1 => ?_)
  obtain ⟨ek, hv, b1, hBE, hR1, hw1⟩ := hp
  have ha1 : b1 14 0 = a := (hBE 14 0 (by decide) rfl).trans ha
  refine lv_istore (lv' := (6, .int k) :: lvs0 b a o oL oD (nI (7 * n))) hx hb dL_law_1591 hl (by decide) rfl (fun ls1 hl1 => ?_)
  refine lv_aload_n hx hb dL_law_1593 rfl (lv_at hl1 4 rfl) ?_
  refine lw_arg (j := 1) F I1 (by omega) hL2 (lv_at hl1 6 rfl) (lv_at hl1 1 rfl) dL_law_1594 dL_law_1595 dL_law_1597 (by decide) dL_law_1598 dL_law_1599 ?_
  refine k_virtI (rest := []) F I1.swap (fun A => cM_missed l G A hr o ad mm hM (xs (7 * n + 1)) hwa) mv_X11_missed ml_L_248 ci_15 hM.1 rfl ⟨Nat.le_of_ble_eq_true rfl, Nat.le_of_ble_eq_true rfl⟩ hl1.1 rfl (by decide) dL_law_1600 ⟨by omega, by omega⟩ (fun bv h2 H2 hp2 I2 => ?_)
  obtain ⟨eb, hM2⟩ := hp2
  refine lv_istore (lv' := (7, .int bv) :: (6, .int k) :: lvs0 b a o oL oD (nI (7 * n))) hx hb dL_law_1603 hl1 (by decide) rfl (fun ls2 hl2 => ?_)
  refine lw_tailI (off := 1270) (X := xPa c9 (xs (7 * n + 1))) (R := c9 24 (xs (7 * n + 1)).toNatClampNeg) F I2.swap hM2 (C1.trans ek.symm) ek (by decide) hv (fun z => (C2 z).trans eb.symm) hl2 ⟨dL_law_1605, dL_law_1606, dL_law_1609, dL_law_1611, dL_law_1616⟩ ⟨dL_law_1618, dL_law_1621, dL_law_1622, dL_law_1623, dL_law_1624, dL_law_1626, dL_law_1627, dL_law_1628, dL_law_1633, by decide⟩ ⟨by omega, by omega⟩ (fun H3 ls3 I3 hl3 => ?_)
  exact K H3 _ _ ls3 ⟨u.1, h2, b1, _, _, _, u.2, vD, I3, ⟨hR1, hw1, ha1⟩, ⟨hM2, w1, C3⟩, by omega, by omega⟩ hl3
theorem lc_nextLine {p : Program} {l : Launch} {e : Env} {s : State} {m : MethodId} {below : List Frame} {meth : Method} {c : Code} {b L : Nat} {xs : Nat → Int32} {G : GT} {cL cD : ClassId} {oL oD : Nat} {H : Heap} {cells slots : Nat} {Q : State → Prop} {ls : Array Slot} {a o n : Nat} (hlt : l.stackTraces = false) (F : LwF p s m c b L xs G cL cD oL oD) (hn : n < 512) (hL : 7 * n + 6 < L) (hL2 : L ≤ 3584) (hS : LwS s G cL cD oL oD a o n H cells slots) (hl : lv_has ls 9 (lvs0 b a o oL oD (nI (7 * n))))
    (K : ∀ (H1 : Heap) (cells1 slots1 : Nat) (ls1 : Array Slot), LwS s G cL cD oL oD a o (n + 1) H1 cells1 slots1 → lv_has ls1 9 (lvs0 b a o oL oD (nI (7 * n))) → W p l e room_1 s m #[Value.ref b] below meth c H1 [] cells1 slots1 Q (F0 m 2903 ls1 [])) :
    W p l e room_1 s m #[Value.ref b] below meth c H [] cells slots Q (F0 m 1636 ls []) := by
  obtain ⟨hc, hr, bb, c9, mm, ad, vL, vD, I, ⟨hR, hw, ha⟩, ⟨hM, hwa, hSim⟩, hcl, hsl⟩ := hS
  have F' := F
  obtain ⟨⟨hx, hb, -⟩, -⟩ := F'
  obtain ⟨u1, u2, u3⟩ := uC_max hSim hwa (by omega)
  obtain ⟨x1, x2⟩ := UC_max hw
  have C : CallOK n [nseC, iseC] c9 (xSc c9 (xs (7 * n + 1))) (c9 19 (xs (7 * n + 1)).toNatClampNeg) (fNxL mm (xs (7 * n + 1))) := call_nextLine hSim hwa hw (xs (7 * n + 1))
  obtain ⟨C1, C2, C3⟩ := C
  obtain ⟨w1, w2, w3⟩ := rw_nxL hwa (xs (7 * n + 1))
  obtain ⟨y1, y2, -⟩ := uC_max C3 w1 (by omega)
  obtain ⟨⟨g1, g2⟩, g3, g4⟩ : Gm c9 c9 := Gm.refl hw
  refine lv_aload_n hx hb dL_law_1636 rfl (lv_at hl 4 rfl) ?_
  refine lw_arg (j := 1) F I (by omega) hL2 (lv_at hl 5 rfl) (lv_at hl 0 rfl) dL_law_1637 dL_law_1638 dL_law_1640 (by decide) dL_law_1641 dL_law_1642 ?_
  refine lv_aload_n hx hb dL_law_1643 rfl (lv_at hl 2 rfl) ?_
  refine k_wrapL (rest := []) F I (fun A => cW_nextLine l hlt G A hc bb c9 hR hw (xs (7 * n + 1)) cL cD oL vL) ms_L_nextLine ml_L_249 rfl ⟨Nat.le_of_ble_eq_true rfl, Nat.le_of_ble_eq_true rfl⟩ hl.1 (by rw [ha]; rfl) (by decide) dL_law_1644 ⟨by omega, by omega⟩ (fun k u H1 hp I1 => ?_)
  obtain ⟨ek, hv, b1, hBE, hR1, hw1⟩ := hp
  have ha1 : b1 14 0 = a := (hBE 14 0 (by decide) rfl).trans ha
  refine lv_istore (lv' := (6, .int k) :: lvs0 b a o oL oD (nI (7 * n))) hx hb dL_law_1647 hl (by decide) rfl (fun ls1 hl1 => ?_)
  refine lv_aload_n hx hb dL_law_1649 rfl (lv_at hl1 4 rfl) ?_
  refine lw_arg (j := 1) F I1 (by omega) hL2 (lv_at hl1 6 rfl) (lv_at hl1 1 rfl) dL_law_1650 dL_law_1651 dL_law_1653 (by decide) dL_law_1654 dL_law_1655 ?_
  refine k_virtI (rest := []) F I1.swap (fun A => cM_nextLine l G A hr o ad mm hM (xs (7 * n + 1)) hwa) mv_X11_nextLine ml_L_251 ci_15 hM.1 rfl ⟨Nat.le_of_ble_eq_true rfl, Nat.le_of_ble_eq_true rfl⟩ hl1.1 rfl (by decide) dL_law_1656 ⟨by omega, by omega⟩ (fun bv h2 H2 hp2 I2 => ?_)
  obtain ⟨eb, hM2⟩ := hp2
  refine lv_istore (lv' := (7, .int bv) :: (6, .int k) :: lvs0 b a o oL oD (nI (7 * n))) hx hb dL_law_1659 hl1 (by decide) rfl (fun ls2 hl2 => ?_)
  refine lw_tailI (off := 1214) (X := xSc c9 (xs (7 * n + 1))) (R := c9 19 (xs (7 * n + 1)).toNatClampNeg) F I2.swap hM2 (C1.trans ek.symm) ek (by decide) hv (fun z => (C2 z).trans eb.symm) hl2 ⟨dL_law_1661, dL_law_1662, dL_law_1665, dL_law_1667, dL_law_1672⟩ ⟨dL_law_1674, dL_law_1677, dL_law_1678, dL_law_1679, dL_law_1680, dL_law_1682, dL_law_1683, dL_law_1684, dL_law_1689, by decide⟩ ⟨by omega, by omega⟩ (fun H3 ls3 I3 hl3 => ?_)
  exact K H3 _ _ ls3 ⟨u.1, h2, b1, _, _, _, u.2, vD, I3, ⟨hR1, hw1, ha1⟩, ⟨hM2, w1, C3⟩, by omega, by omega⟩ hl3
theorem lc_nextLineByPaths {p : Program} {l : Launch} {e : Env} {s : State} {m : MethodId} {below : List Frame} {meth : Method} {c : Code} {b L : Nat} {xs : Nat → Int32} {G : GT} {cL cD : ClassId} {oL oD : Nat} {H : Heap} {cells slots : Nat} {Q : State → Prop} {ls : Array Slot} {a o n : Nat} (hlt : l.stackTraces = false) (F : LwF p s m c b L xs G cL cD oL oD) (hn : n < 512) (hL : 7 * n + 6 < L) (hL2 : L ≤ 3584) (hS : LwS s G cL cD oL oD a o n H cells slots) (hl : lv_has ls 9 (lvs0 b a o oL oD (nI (7 * n))))
    (K : ∀ (H1 : Heap) (cells1 slots1 : Nat) (ls1 : Array Slot), LwS s G cL cD oL oD a o (n + 1) H1 cells1 slots1 → lv_has ls1 9 (lvs0 b a o oL oD (nI (7 * n))) → W p l e room_1 s m #[Value.ref b] below meth c H1 [] cells1 slots1 Q (F0 m 2903 ls1 [])) :
    W p l e room_1 s m #[Value.ref b] below meth c H [] cells slots Q (F0 m 1692 ls []) := by
  obtain ⟨hc, hr, bb, c9, mm, ad, vL, vD, I, ⟨hR, hw, ha⟩, ⟨hM, hwa, hSim⟩, hcl, hsl⟩ := hS
  have F' := F
  obtain ⟨⟨hx, hb, -⟩, -⟩ := F'
  obtain ⟨u1, u2, u3⟩ := uC_max hSim hwa (by omega)
  obtain ⟨x1, x2⟩ := UC_max hw
  have C : CallOK n [nseC, iseC] (cTr c9 (xs (7 * n + 1))) (xSc c9 (xs (7 * n + 1))) (cAll c9 (xs (7 * n + 1)).toNatClampNeg (c9 41 0) 154 0) (fNxP mm (xs (7 * n + 1))) := call_nextLineByPaths hSim hwa hw (xs (7 * n + 1))
  obtain ⟨C1, C2, C3⟩ := C
  obtain ⟨w1, w2, w3⟩ := rw_nxP hwa (xs (7 * n + 1))
  obtain ⟨y1, y2, -⟩ := uC_max C3 w1 (by omega)
  obtain ⟨⟨g1, g2⟩, g3, g4⟩ : Gm c9 (cTr c9 (xs (7 * n + 1))) := gm_tr hw (xs (7 * n + 1))
  refine lv_aload_n hx hb dL_law_1692 rfl (lv_at hl 4 rfl) ?_
  refine lw_arg (j := 1) F I (by omega) hL2 (lv_at hl 5 rfl) (lv_at hl 0 rfl) dL_law_1693 dL_law_1694 dL_law_1696 (by decide) dL_law_1697 dL_law_1698 ?_
  refine lv_aload_n hx hb dL_law_1699 rfl (lv_at hl 2 rfl) ?_
  refine k_wrapL (rest := []) F I (fun A => cW_nextLineByPaths l hlt G A hc bb c9 hR hw (xs (7 * n + 1)) cL cD oL vL) ms_L_nextLineByPaths ml_L_252 rfl ⟨Nat.le_of_ble_eq_true rfl, Nat.le_of_ble_eq_true rfl⟩ hl.1 (by rw [ha]; rfl) (by decide) dL_law_1700 ⟨by omega, by omega⟩ (fun k u H1 hp I1 => ?_)
  obtain ⟨ek, hv, b1, hBE, hR1, hw1⟩ := hp
  have ha1 : b1 14 0 = a := (hBE 14 0 (by decide) rfl).trans ha
  refine lv_istore (lv' := (6, .int k) :: lvs0 b a o oL oD (nI (7 * n))) hx hb dL_law_1703 hl (by decide) rfl (fun ls1 hl1 => ?_)
  refine lv_aload_n hx hb dL_law_1705 rfl (lv_at hl1 4 rfl) ?_
  refine lw_arg (j := 1) F I1 (by omega) hL2 (lv_at hl1 6 rfl) (lv_at hl1 1 rfl) dL_law_1706 dL_law_1707 dL_law_1709 (by decide) dL_law_1710 dL_law_1711 ?_
  refine k_virtI (rest := []) F I1.swap (fun A => cM_nextLineByPaths l G A hr o ad mm hM (xs (7 * n + 1)) hwa) mv_X11_nextLineByPaths ml_L_254 ci_15 hM.1 rfl ⟨Nat.le_of_ble_eq_true rfl, Nat.le_of_ble_eq_true rfl⟩ hl1.1 rfl (by decide) dL_law_1712 ⟨by omega, by omega⟩ (fun bv h2 H2 hp2 I2 => ?_)
  obtain ⟨eb, hM2⟩ := hp2
  refine lv_istore (lv' := (7, .int bv) :: (6, .int k) :: lvs0 b a o oL oD (nI (7 * n))) hx hb dL_law_1715 hl1 (by decide) rfl (fun ls2 hl2 => ?_)
  refine lw_tailI (off := 1158) (X := xSc c9 (xs (7 * n + 1))) (R := cAll c9 (xs (7 * n + 1)).toNatClampNeg (c9 41 0) 154 0) F I2.swap hM2 (C1.trans ek.symm) ek (by decide) hv (fun z => (C2 z).trans eb.symm) hl2 ⟨dL_law_1717, dL_law_1718, dL_law_1721, dL_law_1723, dL_law_1728⟩ ⟨dL_law_1730, dL_law_1733, dL_law_1734, dL_law_1735, dL_law_1736, dL_law_1738, dL_law_1739, dL_law_1740, dL_law_1745, by decide⟩ ⟨by omega, by omega⟩ (fun H3 ls3 I3 hl3 => ?_)
  exact K H3 _ _ ls3 ⟨u.1, h2, b1, _, _, _, u.2, vD, I3, ⟨hR1, hw1, ha1⟩, ⟨hM2, w1, C3⟩, by omega, by omega⟩ hl3
theorem lc_pathSize {p : Program} {l : Launch} {e : Env} {s : State} {m : MethodId} {below : List Frame} {meth : Method} {c : Code} {b L : Nat} {xs : Nat → Int32} {G : GT} {cL cD : ClassId} {oL oD : Nat} {H : Heap} {cells slots : Nat} {Q : State → Prop} {ls : Array Slot} {a o n : Nat} (hlt : l.stackTraces = false) (F : LwF p s m c b L xs G cL cD oL oD) (hn : n < 512) (hL : 7 * n + 6 < L) (hL2 : L ≤ 3584) (hS : LwS s G cL cD oL oD a o n H cells slots) (hl : lv_has ls 9 (lvs0 b a o oL oD (nI (7 * n))))
    (K : ∀ (H1 : Heap) (cells1 slots1 : Nat) (ls1 : Array Slot), LwS s G cL cD oL oD a o (n + 1) H1 cells1 slots1 → lv_has ls1 9 (lvs0 b a o oL oD (nI (7 * n))) → W p l e room_1 s m #[Value.ref b] below meth c H1 [] cells1 slots1 Q (F0 m 2903 ls1 [])) :
    W p l e room_1 s m #[Value.ref b] below meth c H [] cells slots Q (F0 m 1748 ls []) := by
  obtain ⟨hc, hr, bb, c9, mm, ad, vL, vD, I, ⟨hR, hw, ha⟩, ⟨hM, hwa, hSim⟩, hcl, hsl⟩ := hS
  have F' := F
  obtain ⟨⟨hx, hb, -⟩, -⟩ := F'
  obtain ⟨u1, u2, u3⟩ := uC_max hSim hwa (by omega)
  obtain ⟨x1, x2⟩ := UC_max hw
  have C : CallOK n [nseC, iseC] (cSr c9 (xs (7 * n + 1))) (xSc c9 (xs (7 * n + 1))) (cPsz c9 (xs (7 * n + 1))) (fPaS mm (xs (7 * n + 1))) := call_pathSize hSim hwa hw (xs (7 * n + 1))
  obtain ⟨C1, C2, C3⟩ := C
  obtain ⟨w1, w2, w3⟩ := rw_paS hwa (xs (7 * n + 1))
  obtain ⟨y1, y2, -⟩ := uC_max C3 w1 (by omega)
  obtain ⟨⟨g1, g2⟩, g3, g4⟩ : Gm c9 (cSr c9 (xs (7 * n + 1))) := gm_sr hw (xs (7 * n + 1))
  refine lv_aload_n hx hb dL_law_1748 rfl (lv_at hl 4 rfl) ?_
  refine lw_arg (j := 1) F I (by omega) hL2 (lv_at hl 5 rfl) (lv_at hl 0 rfl) dL_law_1749 dL_law_1750 dL_law_1752 (by decide) dL_law_1753 dL_law_1754 ?_
  refine lv_aload_n hx hb dL_law_1755 rfl (lv_at hl 2 rfl) ?_
  refine k_wrapL (rest := []) F I (fun A => cW_pathSize l hlt G A hc bb c9 hR hw (xs (7 * n + 1)) cL cD oL vL) ms_L_pathSize ml_L_255 rfl ⟨Nat.le_of_ble_eq_true rfl, Nat.le_of_ble_eq_true rfl⟩ hl.1 (by rw [ha]; rfl) (by decide) dL_law_1756 ⟨by omega, by omega⟩ (fun k u H1 hp I1 => ?_)
  obtain ⟨ek, hv, b1, hBE, hR1, hw1⟩ := hp
  have ha1 : b1 14 0 = a := (hBE 14 0 (by decide) rfl).trans ha
  refine lv_istore (lv' := (6, .int k) :: lvs0 b a o oL oD (nI (7 * n))) hx hb dL_law_1759 hl (by decide) rfl (fun ls1 hl1 => ?_)
  refine lv_aload_n hx hb dL_law_1761 rfl (lv_at hl1 4 rfl) ?_
  refine lw_arg (j := 1) F I1 (by omega) hL2 (lv_at hl1 6 rfl) (lv_at hl1 1 rfl) dL_law_1762 dL_law_1763 dL_law_1765 (by decide) dL_law_1766 dL_law_1767 ?_
  refine k_virtI (rest := []) F I1.swap (fun A => cM_pathSize l G A hr o ad mm hM (xs (7 * n + 1)) hwa) mv_X11_pathSize ml_L_257 ci_15 hM.1 rfl ⟨Nat.le_of_ble_eq_true rfl, Nat.le_of_ble_eq_true rfl⟩ hl1.1 rfl (by decide) dL_law_1768 ⟨by omega, by omega⟩ (fun bv h2 H2 hp2 I2 => ?_)
  obtain ⟨eb, hM2⟩ := hp2
  refine lv_istore (lv' := (7, .int bv) :: (6, .int k) :: lvs0 b a o oL oD (nI (7 * n))) hx hb dL_law_1771 hl1 (by decide) rfl (fun ls2 hl2 => ?_)
  refine lw_tailI (off := 1102) (X := xSc c9 (xs (7 * n + 1))) (R := cPsz c9 (xs (7 * n + 1))) F I2.swap hM2 (C1.trans ek.symm) ek (by decide) hv (fun z => (C2 z).trans eb.symm) hl2 ⟨dL_law_1773, dL_law_1774, dL_law_1777, dL_law_1779, dL_law_1784⟩ ⟨dL_law_1786, dL_law_1789, dL_law_1790, dL_law_1791, dL_law_1792, dL_law_1794, dL_law_1795, dL_law_1796, dL_law_1801, by decide⟩ ⟨by omega, by omega⟩ (fun H3 ls3 I3 hl3 => ?_)
  exact K H3 _ _ ls3 ⟨u.1, h2, b1, _, _, _, u.2, vD, I3, ⟨hR1, hw1, ha1⟩, ⟨hM2, w1, C3⟩, by omega, by omega⟩ hl3
