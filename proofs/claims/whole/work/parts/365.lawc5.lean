/-! the law's cases 5 -/
theorem lc_pathAt {p : Program} {l : Launch} {e : Env} {s : State} {m : MethodId} {below : List Frame} {meth : Method} {c : Code} {b L : Nat} {xs : Nat → Int32} {G : GT} {cL cD : ClassId} {oL oD : Nat} {H : Heap} {cells slots : Nat} {Q : State → Prop} {ls : Array Slot} {a o n : Nat} (hlt : l.stackTraces = false) (F : LwF p s m c b L xs G cL cD oL oD) (hn : n < 512) (hL : 7 * n + 6 < L) (hL2 : L ≤ 3584) (hS : LwS s G cL cD oL oD a o n H cells slots) (hl : lv_has ls 9 (lvs0 b a o oL oD (nI (7 * n))))
    (K : ∀ (H1 : Heap) (cells1 slots1 : Nat) (ls1 : Array Slot), LwS s G cL cD oL oD a o (n + 1) H1 cells1 slots1 → lv_has ls1 9 (lvs0 b a o oL oD (nI (7 * n))) → W p l e room_1 s m #[Value.ref b] below meth c H1 [] cells1 slots1 Q (F0 m 2903 ls1 [])) :
    W p l e room_1 s m #[Value.ref b] below meth c H [] cells slots Q (F0 m 1804 ls []) := by
  obtain ⟨hc, hr, bb, c9, mm, ad, vL, vD, I, ⟨hR, hw, ha⟩, ⟨hM, hwa, hSim⟩, hcl, hsl⟩ := hS
  have F' := F
  obtain ⟨⟨hx, hb, -⟩, -⟩ := F'
  obtain ⟨u1, u2, u3⟩ := uC_max hSim hwa (by omega)
  obtain ⟨x1, x2⟩ := UC_max hw
  have C : CallOK n [nseC, iseC, iobC] (cSr c9 (xs (7 * n + 1))) (xPaA c9 (xs (7 * n + 1)) (xs (7 * n + 2))) (cLnA (cBq c9 (xs (7 * n + 1))).2 (cBq c9 (xs (7 * n + 1))).1.toNatClampNeg (xs (7 * n + 2))) (fPaA mm (xs (7 * n + 1)) (xs (7 * n + 2))) := call_pathAt hSim hwa hw (xs (7 * n + 1)) (xs (7 * n + 2))
  obtain ⟨C1, C2, C3⟩ := C
  obtain ⟨w1, w2, w3⟩ := rw_paA hwa (xs (7 * n + 1)) (xs (7 * n + 2))
  obtain ⟨y1, y2, -⟩ := uC_max C3 w1 (by omega)
  obtain ⟨⟨g1, g2⟩, g3, g4⟩ : Gm c9 (cSr c9 (xs (7 * n + 1))) := gm_sr hw (xs (7 * n + 1))
  refine lv_aload_n hx hb dL_law_1804 rfl (lv_at hl 4 rfl) ?_
  refine lw_arg (j := 1) F I (by omega) hL2 (lv_at hl 5 rfl) (lv_at hl 0 rfl) dL_law_1805 dL_law_1806 dL_law_1808 (by decide) dL_law_1809 dL_law_1810 ?_
  refine lw_arg (j := 2) F I (by omega) hL2 (lv_at hl 5 rfl) (lv_at hl 0 rfl) dL_law_1811 dL_law_1812 dL_law_1814 (by decide) dL_law_1815 dL_law_1816 ?_
  refine lv_aload_n hx hb dL_law_1817 rfl (lv_at hl 2 rfl) ?_
  refine k_wrapL (rest := []) F I (fun A => cW_pathAt l hlt G A hc bb c9 hR hw (xs (7 * n + 1)) (xs (7 * n + 2)) cL cD oL vL) ms_L_pathAt ml_L_258 rfl ⟨Nat.le_of_ble_eq_true rfl, Nat.le_of_ble_eq_true rfl⟩ hl.1 (by rw [ha]; rfl) (by decide) dL_law_1818 ⟨by omega, by omega⟩ (fun k u H1 hp I1 => ?_)
  obtain ⟨ek, hv, b1, hBE, hR1, hw1⟩ := hp
  have ha1 : b1 14 0 = a := (hBE 14 0 (by decide) rfl).trans ha
  refine lv_istore (lv' := (6, .int k) :: lvs0 b a o oL oD (nI (7 * n))) hx hb dL_law_1821 hl (by decide) rfl (fun ls1 hl1 => ?_)
  refine lv_aload_n hx hb dL_law_1823 rfl (lv_at hl1 4 rfl) ?_
  refine lw_arg (j := 1) F I1 (by omega) hL2 (lv_at hl1 6 rfl) (lv_at hl1 1 rfl) dL_law_1824 dL_law_1825 dL_law_1827 (by decide) dL_law_1828 dL_law_1829 ?_
  refine lw_arg (j := 2) F I1 (by omega) hL2 (lv_at hl1 6 rfl) (lv_at hl1 1 rfl) dL_law_1830 dL_law_1831 dL_law_1833 (by decide) dL_law_1834 dL_law_1835 ?_
  refine k_virtI (rest := []) F I1.swap (fun A => cM_pathAt l G A hr o ad mm hM (xs (7 * n + 1)) (xs (7 * n + 2)) hwa) mv_X11_pathAt ml_L_260 ci_15 hM.1 rfl ⟨Nat.le_of_ble_eq_true rfl, Nat.le_of_ble_eq_true rfl⟩ hl1.1 rfl (by decide) dL_law_1836 ⟨by omega, by omega⟩ (fun bv h2 H2 hp2 I2 => ?_)
  obtain ⟨eb, hM2⟩ := hp2
  refine lv_istore (lv' := (7, .int bv) :: (6, .int k) :: lvs0 b a o oL oD (nI (7 * n))) hx hb dL_law_1839 hl1 (by decide) rfl (fun ls2 hl2 => ?_)
  refine lw_tailI (off := 1034) (X := xPaA c9 (xs (7 * n + 1)) (xs (7 * n + 2))) (R := cLnA (cBq c9 (xs (7 * n + 1))).2 (cBq c9 (xs (7 * n + 1))).1.toNatClampNeg (xs (7 * n + 2))) F I2.swap hM2 (C1.trans ek.symm) ek (by decide) hv (fun z => (C2 z).trans eb.symm) hl2 ⟨dL_law_1841, dL_law_1842, dL_law_1845, dL_law_1847, dL_law_1852⟩ ⟨dL_law_1854, dL_law_1857, dL_law_1858, dL_law_1859, dL_law_1860, dL_law_1862, dL_law_1863, dL_law_1864, dL_law_1869, by decide⟩ ⟨by omega, by omega⟩ (fun H3 ls3 I3 hl3 => ?_)
  exact K H3 _ _ ls3 ⟨u.1, h2, b1, _, _, _, u.2, vD, I3, ⟨hR1, hw1, ha1⟩, ⟨hM2, w1, C3⟩, by omega, by omega⟩ hl3
theorem lc_arrival {p : Program} {l : Launch} {e : Env} {s : State} {m : MethodId} {below : List Frame} {meth : Method} {c : Code} {b L : Nat} {xs : Nat → Int32} {G : GT} {cL cD : ClassId} {oL oD : Nat} {H : Heap} {cells slots : Nat} {Q : State → Prop} {ls : Array Slot} {a o n : Nat} (hlt : l.stackTraces = false) (F : LwF p s m c b L xs G cL cD oL oD) (hn : n < 512) (hL : 7 * n + 6 < L) (hL2 : L ≤ 3584) (hS : LwS s G cL cD oL oD a o n H cells slots) (hl : lv_has ls 9 (lvs0 b a o oL oD (nI (7 * n))))
    (K : ∀ (H1 : Heap) (cells1 slots1 : Nat) (ls1 : Array Slot), LwS s G cL cD oL oD a o (n + 1) H1 cells1 slots1 → lv_has ls1 9 (lvs0 b a o oL oD (nI (7 * n))) → W p l e room_1 s m #[Value.ref b] below meth c H1 [] cells1 slots1 Q (F0 m 2903 ls1 [])) :
    W p l e room_1 s m #[Value.ref b] below meth c H [] cells slots Q (F0 m 1872 ls []) := by
  obtain ⟨hc, hr, bb, c9, mm, ad, vL, vD, I, ⟨hR, hw, ha⟩, ⟨hM, hwa, hSim⟩, hcl, hsl⟩ := hS
  have F' := F
  obtain ⟨⟨hx, hb, -⟩, -⟩ := F'
  obtain ⟨u1, u2, u3⟩ := uC_max hSim hwa (by omega)
  obtain ⟨x1, x2⟩ := UC_max hw
  have C : CallOK n [nseC, iseC] (cSr c9 (xs (7 * n + 1))) (xSc c9 (xs (7 * n + 1))) (cArv c9 (xs (7 * n + 1))) (fArv mm (xs (7 * n + 1))) := call_arrival hSim hwa hw (xs (7 * n + 1))
  obtain ⟨C1, C2, C3⟩ := C
  obtain ⟨w1, w2, w3⟩ := rw_arv hwa (xs (7 * n + 1))
  obtain ⟨y1, y2, -⟩ := uC_max C3 w1 (by omega)
  obtain ⟨⟨g1, g2⟩, g3, g4⟩ : Gm c9 (cSr c9 (xs (7 * n + 1))) := gm_sr hw (xs (7 * n + 1))
  refine lv_aload_n hx hb dL_law_1872 rfl (lv_at hl 4 rfl) ?_
  refine lw_arg (j := 1) F I (by omega) hL2 (lv_at hl 5 rfl) (lv_at hl 0 rfl) dL_law_1873 dL_law_1874 dL_law_1876 (by decide) dL_law_1877 dL_law_1878 ?_
  refine lv_aload_n hx hb dL_law_1879 rfl (lv_at hl 2 rfl) ?_
  refine k_wrapL (rest := []) F I (fun A => cW_arrival l hlt G A hc bb c9 hR hw (xs (7 * n + 1)) cL cD oL vL) ms_L_arrival ml_L_261 rfl ⟨Nat.le_of_ble_eq_true rfl, Nat.le_of_ble_eq_true rfl⟩ hl.1 (by rw [ha]; rfl) (by decide) dL_law_1880 ⟨by omega, by omega⟩ (fun k u H1 hp I1 => ?_)
  obtain ⟨ek, hv, b1, hBE, hR1, hw1⟩ := hp
  have ha1 : b1 14 0 = a := (hBE 14 0 (by decide) rfl).trans ha
  refine lv_istore (lv' := (6, .int k) :: lvs0 b a o oL oD (nI (7 * n))) hx hb dL_law_1883 hl (by decide) rfl (fun ls1 hl1 => ?_)
  refine lv_aload_n hx hb dL_law_1885 rfl (lv_at hl1 4 rfl) ?_
  refine lw_arg (j := 1) F I1 (by omega) hL2 (lv_at hl1 6 rfl) (lv_at hl1 1 rfl) dL_law_1886 dL_law_1887 dL_law_1889 (by decide) dL_law_1890 dL_law_1891 ?_
  refine k_virtI (rest := []) F I1.swap (fun A => cM_arrival l G A hr o ad mm hM (xs (7 * n + 1)) hwa) mv_X11_arrival ml_L_263 ci_15 hM.1 rfl ⟨Nat.le_of_ble_eq_true rfl, Nat.le_of_ble_eq_true rfl⟩ hl1.1 rfl (by decide) dL_law_1892 ⟨by omega, by omega⟩ (fun bv h2 H2 hp2 I2 => ?_)
  obtain ⟨eb, hM2⟩ := hp2
  refine lv_istore (lv' := (7, .int bv) :: (6, .int k) :: lvs0 b a o oL oD (nI (7 * n))) hx hb dL_law_1895 hl1 (by decide) rfl (fun ls2 hl2 => ?_)
  refine lw_tailI (off := 978) (X := xSc c9 (xs (7 * n + 1))) (R := cArv c9 (xs (7 * n + 1))) F I2.swap hM2 (C1.trans ek.symm) ek (by decide) hv (fun z => (C2 z).trans eb.symm) hl2 ⟨dL_law_1897, dL_law_1898, dL_law_1901, dL_law_1903, dL_law_1908⟩ ⟨dL_law_1910, dL_law_1913, dL_law_1914, dL_law_1915, dL_law_1916, dL_law_1918, dL_law_1919, dL_law_1920, dL_law_1925, by decide⟩ ⟨by omega, by omega⟩ (fun H3 ls3 I3 hl3 => ?_)
  exact K H3 _ _ ls3 ⟨u.1, h2, b1, _, _, _, u.2, vD, I3, ⟨hR1, hw1, ha1⟩, ⟨hM2, w1, C3⟩, by omega, by omega⟩ hl3
theorem lc_arrivalByPaths {p : Program} {l : Launch} {e : Env} {s : State} {m : MethodId} {below : List Frame} {meth : Method} {c : Code} {b L : Nat} {xs : Nat → Int32} {G : GT} {cL cD : ClassId} {oL oD : Nat} {H : Heap} {cells slots : Nat} {Q : State → Prop} {ls : Array Slot} {a o n : Nat} (hlt : l.stackTraces = false) (F : LwF p s m c b L xs G cL cD oL oD) (hn : n < 512) (hL : 7 * n + 6 < L) (hL2 : L ≤ 3584) (hS : LwS s G cL cD oL oD a o n H cells slots) (hl : lv_has ls 9 (lvs0 b a o oL oD (nI (7 * n))))
    (K : ∀ (H1 : Heap) (cells1 slots1 : Nat) (ls1 : Array Slot), LwS s G cL cD oL oD a o (n + 1) H1 cells1 slots1 → lv_has ls1 9 (lvs0 b a o oL oD (nI (7 * n))) → W p l e room_1 s m #[Value.ref b] below meth c H1 [] cells1 slots1 Q (F0 m 2903 ls1 [])) :
    W p l e room_1 s m #[Value.ref b] below meth c H [] cells slots Q (F0 m 1928 ls []) := by
  obtain ⟨hc, hr, bb, c9, mm, ad, vL, vD, I, ⟨hR, hw, ha⟩, ⟨hM, hwa, hSim⟩, hcl, hsl⟩ := hS
  have F' := F
  obtain ⟨⟨hx, hb, -⟩, -⟩ := F'
  obtain ⟨u1, u2, u3⟩ := uC_max hSim hwa (by omega)
  obtain ⟨x1, x2⟩ := UC_max hw
  have C : CallOK n [nseC, iseC] (cTr c9 (xs (7 * n + 1))) (xSc c9 (xs (7 * n + 1))) (cAll c9 (xs (7 * n + 1)).toNatClampNeg (c9 41 0) 153 0) (fArv mm (xs (7 * n + 1))) := call_arrivalByPaths hSim hwa hw (xs (7 * n + 1))
  obtain ⟨C1, C2, C3⟩ := C
  obtain ⟨w1, w2, w3⟩ := rw_arv hwa (xs (7 * n + 1))
  obtain ⟨y1, y2, -⟩ := uC_max C3 w1 (by omega)
  obtain ⟨⟨g1, g2⟩, g3, g4⟩ : Gm c9 (cTr c9 (xs (7 * n + 1))) := gm_tr hw (xs (7 * n + 1))
  refine lv_aload_n hx hb dL_law_1928 rfl (lv_at hl 4 rfl) ?_
  refine lw_arg (j := 1) F I (by omega) hL2 (lv_at hl 5 rfl) (lv_at hl 0 rfl) dL_law_1929 dL_law_1930 dL_law_1932 (by decide) dL_law_1933 dL_law_1934 ?_
  refine lv_aload_n hx hb dL_law_1935 rfl (lv_at hl 2 rfl) ?_
  refine k_wrapL (rest := []) F I (fun A => cW_arrivalByPaths l hlt G A hc bb c9 hR hw (xs (7 * n + 1)) cL cD oL vL) ms_L_arrivalByPaths ml_L_264 rfl ⟨Nat.le_of_ble_eq_true rfl, Nat.le_of_ble_eq_true rfl⟩ hl.1 (by rw [ha]; rfl) (by decide) dL_law_1936 ⟨by omega, by omega⟩ (fun k u H1 hp I1 => ?_)
  obtain ⟨ek, hv, b1, hBE, hR1, hw1⟩ := hp
  have ha1 : b1 14 0 = a := (hBE 14 0 (by decide) rfl).trans ha
  refine lv_istore (lv' := (6, .int k) :: lvs0 b a o oL oD (nI (7 * n))) hx hb dL_law_1939 hl (by decide) rfl (fun ls1 hl1 => ?_)
  refine lv_aload_n hx hb dL_law_1941 rfl (lv_at hl1 4 rfl) ?_
  refine lw_arg (j := 1) F I1 (by omega) hL2 (lv_at hl1 6 rfl) (lv_at hl1 1 rfl) dL_law_1942 dL_law_1943 dL_law_1945 (by decide) dL_law_1946 dL_law_1947 ?_
  refine k_virtI (rest := []) F I1.swap (fun A => cM_arrivalByPaths l G A hr o ad mm hM (xs (7 * n + 1)) hwa) mv_X11_arrivalByPaths ml_L_266 ci_15 hM.1 rfl ⟨Nat.le_of_ble_eq_true rfl, Nat.le_of_ble_eq_true rfl⟩ hl1.1 rfl (by decide) dL_law_1948 ⟨by omega, by omega⟩ (fun bv h2 H2 hp2 I2 => ?_)
  obtain ⟨eb, hM2⟩ := hp2
  refine lv_istore (lv' := (7, .int bv) :: (6, .int k) :: lvs0 b a o oL oD (nI (7 * n))) hx hb dL_law_1951 hl1 (by decide) rfl (fun ls2 hl2 => ?_)
  refine lw_tailI (off := 922) (X := xSc c9 (xs (7 * n + 1))) (R := cAll c9 (xs (7 * n + 1)).toNatClampNeg (c9 41 0) 153 0) F I2.swap hM2 (C1.trans ek.symm) ek (by decide) hv (fun z => (C2 z).trans eb.symm) hl2 ⟨dL_law_1953, dL_law_1954, dL_law_1957, dL_law_1959, dL_law_1964⟩ ⟨dL_law_1966, dL_law_1969, dL_law_1970, dL_law_1971, dL_law_1972, dL_law_1974, dL_law_1975, dL_law_1976, dL_law_1981, by decide⟩ ⟨by omega, by omega⟩ (fun H3 ls3 I3 hl3 => ?_)
  exact K H3 _ _ ls3 ⟨u.1, h2, b1, _, _, _, u.2, vD, I3, ⟨hR1, hw1, ha1⟩, ⟨hM2, w1, C3⟩, by omega, by omega⟩ hl3
theorem lc_arrivalBySimulation {p : Program} {l : Launch} {e : Env} {s : State} {m : MethodId} {below : List Frame} {meth : Method} {c : Code} {b L : Nat} {xs : Nat → Int32} {G : GT} {cL cD : ClassId} {oL oD : Nat} {H : Heap} {cells slots : Nat} {Q : State → Prop} {ls : Array Slot} {a o n : Nat} (hlt : l.stackTraces = false) (F : LwF p s m c b L xs G cL cD oL oD) (hn : n < 512) (hL : 7 * n + 6 < L) (hL2 : L ≤ 3584) (hS : LwS s G cL cD oL oD a o n H cells slots) (hl : lv_has ls 9 (lvs0 b a o oL oD (nI (7 * n))))
    (K : ∀ (H1 : Heap) (cells1 slots1 : Nat) (ls1 : Array Slot), LwS s G cL cD oL oD a o (n + 1) H1 cells1 slots1 → lv_has ls1 9 (lvs0 b a o oL oD (nI (7 * n))) → W p l e room_1 s m #[Value.ref b] below meth c H1 [] cells1 slots1 Q (F0 m 2903 ls1 [])) :
    W p l e room_1 s m #[Value.ref b] below meth c H [] cells slots Q (F0 m 1984 ls []) := by
  obtain ⟨hc, hr, bb, c9, mm, ad, vL, vD, I, ⟨hR, hw, ha⟩, ⟨hM, hwa, hSim⟩, hcl, hsl⟩ := hS
  have F' := F
  obtain ⟨⟨hx, hb, -⟩, -⟩ := F'
  obtain ⟨u1, u2, u3⟩ := uC_max hSim hwa (by omega)
  obtain ⟨x1, x2⟩ := UC_max hw
  have C : CallOK n [nseC, iseC] (cSm c9 (xs (7 * n + 1))) (xSc c9 (xs (7 * n + 1))) ((cFa c9 (xs (7 * n + 1)).toNatClampNeg (c9 41 0)).1) (fArv mm (xs (7 * n + 1))) := call_arrivalBySimulation hSim hwa hw (xs (7 * n + 1))
  obtain ⟨C1, C2, C3⟩ := C
  obtain ⟨w1, w2, w3⟩ := rw_arv hwa (xs (7 * n + 1))
  obtain ⟨y1, y2, -⟩ := uC_max C3 w1 (by omega)
  obtain ⟨⟨g1, g2⟩, g3, g4⟩ : Gm c9 (cSm c9 (xs (7 * n + 1))) := gm_sm hw (xs (7 * n + 1))
  refine lv_aload_n hx hb dL_law_1984 rfl (lv_at hl 4 rfl) ?_
  refine lw_arg (j := 1) F I (by omega) hL2 (lv_at hl 5 rfl) (lv_at hl 0 rfl) dL_law_1985 dL_law_1986 dL_law_1988 (by decide) dL_law_1989 dL_law_1990 ?_
  refine lv_aload_n hx hb dL_law_1991 rfl (lv_at hl 2 rfl) ?_
  refine k_wrapL (rest := []) F I (fun A => cW_arrivalBySimulation l hlt G A hc bb c9 hR hw (xs (7 * n + 1)) cL cD oL vL) ms_L_arrivalBySimulation ml_L_267 rfl ⟨Nat.le_of_ble_eq_true rfl, Nat.le_of_ble_eq_true rfl⟩ hl.1 (by rw [ha]; rfl) (by decide) dL_law_1992 ⟨by omega, by omega⟩ (fun k u H1 hp I1 => ?_)
  obtain ⟨ek, hv, b1, hBE, hR1, hw1⟩ := hp
  have ha1 : b1 14 0 = a := (hBE 14 0 (by decide) rfl).trans ha
  refine lv_istore (lv' := (6, .int k) :: lvs0 b a o oL oD (nI (7 * n))) hx hb dL_law_1995 hl (by decide) rfl (fun ls1 hl1 => ?_)
  refine lv_aload_n hx hb dL_law_1997 rfl (lv_at hl1 4 rfl) ?_
  refine lw_arg (j := 1) F I1 (by omega) hL2 (lv_at hl1 6 rfl) (lv_at hl1 1 rfl) dL_law_1998 dL_law_1999 dL_law_2001 (by decide) dL_law_2002 dL_law_2003 ?_
  refine k_virtI (rest := []) F I1.swap (fun A => cM_arrivalBySimulation l G A hr o ad mm hM (xs (7 * n + 1)) hwa) mv_X11_arrivalBySimulation ml_L_269 ci_15 hM.1 rfl ⟨Nat.le_of_ble_eq_true rfl, Nat.le_of_ble_eq_true rfl⟩ hl1.1 rfl (by decide) dL_law_2004 ⟨by omega, by omega⟩ (fun bv h2 H2 hp2 I2 => ?_)
  obtain ⟨eb, hM2⟩ := hp2
  refine lv_istore (lv' := (7, .int bv) :: (6, .int k) :: lvs0 b a o oL oD (nI (7 * n))) hx hb dL_law_2007 hl1 (by decide) rfl (fun ls2 hl2 => ?_)
  refine lw_tailI (off := 866) (X := xSc c9 (xs (7 * n + 1))) (R := (cFa c9 (xs (7 * n + 1)).toNatClampNeg (c9 41 0)).1) F I2.swap hM2 (C1.trans ek.symm) ek (by decide) hv (fun z => (C2 z).trans eb.symm) hl2 ⟨dL_law_2009, dL_law_2010, dL_law_2013, dL_law_2015, dL_law_2020⟩ ⟨dL_law_2022, dL_law_2025, dL_law_2026, dL_law_2027, dL_law_2028, dL_law_2030, dL_law_2031, dL_law_2032, dL_law_2037, by decide⟩ ⟨by omega, by omega⟩ (fun H3 ls3 I3 hl3 => ?_)
  exact K H3 _ _ ls3 ⟨u.1, h2, b1, _, _, _, u.2, vD, I3, ⟨hR1, hw1, ha1⟩, ⟨hM2, w1, C3⟩, by omega, by omega⟩ hl3
theorem lc_waiting {p : Program} {l : Launch} {e : Env} {s : State} {m : MethodId} {below : List Frame} {meth : Method} {c : Code} {b L : Nat} {xs : Nat → Int32} {G : GT} {cL cD : ClassId} {oL oD : Nat} {H : Heap} {cells slots : Nat} {Q : State → Prop} {ls : Array Slot} {a o n : Nat} (hlt : l.stackTraces = false) (F : LwF p s m c b L xs G cL cD oL oD) (hn : n < 512) (hL : 7 * n + 6 < L) (hL2 : L ≤ 3584) (hS : LwS s G cL cD oL oD a o n H cells slots) (hl : lv_has ls 9 (lvs0 b a o oL oD (nI (7 * n))))
    (K : ∀ (H1 : Heap) (cells1 slots1 : Nat) (ls1 : Array Slot), LwS s G cL cD oL oD a o (n + 1) H1 cells1 slots1 → lv_has ls1 9 (lvs0 b a o oL oD (nI (7 * n))) → W p l e room_1 s m #[Value.ref b] below meth c H1 [] cells1 slots1 Q (F0 m 2903 ls1 [])) :
    W p l e room_1 s m #[Value.ref b] below meth c H [] cells slots Q (F0 m 2040 ls []) := by
  obtain ⟨hc, hr, bb, c9, mm, ad, vL, vD, I, ⟨hR, hw, ha⟩, ⟨hM, hwa, hSim⟩, hcl, hsl⟩ := hS
  have F' := F
  obtain ⟨⟨hx, hb, -⟩, -⟩ := F'
  obtain ⟨u1, u2, u3⟩ := uC_max hSim hwa (by omega)
  obtain ⟨x1, x2⟩ := UC_max hw
  have C : CallOK n [nseC] c9 (xLn c9 (xs (7 * n + 1))) (cCw c9 (xs (7 * n + 1))) (fWai mm (xs (7 * n + 1))) := call_waiting hSim hwa hw (xs (7 * n + 1))
  obtain ⟨C1, C2, C3⟩ := C
  obtain ⟨w1, w2, w3⟩ := rw_wai hwa (xs (7 * n + 1))
  obtain ⟨y1, y2, -⟩ := uC_max C3 w1 (by omega)
  obtain ⟨⟨g1, g2⟩, g3, g4⟩ : Gm c9 c9 := Gm.refl hw
  refine lv_aload_n hx hb dL_law_2040 rfl (lv_at hl 4 rfl) ?_
  refine lw_arg (j := 1) F I (by omega) hL2 (lv_at hl 5 rfl) (lv_at hl 0 rfl) dL_law_2041 dL_law_2042 dL_law_2044 (by decide) dL_law_2045 dL_law_2046 ?_
  refine lv_aload_n hx hb dL_law_2047 rfl (lv_at hl 2 rfl) ?_
  refine k_wrapL (rest := []) F I (fun A => cW_waiting l hlt G A hc bb c9 hR hw (xs (7 * n + 1)) cL cD oL vL) ms_L_waiting ml_L_270 rfl ⟨Nat.le_of_ble_eq_true rfl, Nat.le_of_ble_eq_true rfl⟩ hl.1 (by rw [ha]; rfl) (by decide) dL_law_2048 ⟨by omega, by omega⟩ (fun k u H1 hp I1 => ?_)
  obtain ⟨ek, hv, b1, hBE, hR1, hw1⟩ := hp
  have ha1 : b1 14 0 = a := (hBE 14 0 (by decide) rfl).trans ha
  refine lv_istore (lv' := (6, .int k) :: lvs0 b a o oL oD (nI (7 * n))) hx hb dL_law_2051 hl (by decide) rfl (fun ls1 hl1 => ?_)
  refine lv_aload_n hx hb dL_law_2053 rfl (lv_at hl1 4 rfl) ?_
  refine lw_arg (j := 1) F I1 (by omega) hL2 (lv_at hl1 6 rfl) (lv_at hl1 1 rfl) dL_law_2054 dL_law_2055 dL_law_2057 (by decide) dL_law_2058 dL_law_2059 ?_
  refine k_virtI (rest := []) F I1.swap (fun A => cM_waiting l G A hr o ad mm hM (xs (7 * n + 1)) hwa) mv_X11_waiting ml_L_272 ci_15 hM.1 rfl ⟨Nat.le_of_ble_eq_true rfl, Nat.le_of_ble_eq_true rfl⟩ hl1.1 rfl (by decide) dL_law_2060 ⟨by omega, by omega⟩ (fun bv h2 H2 hp2 I2 => ?_)
  obtain ⟨eb, hM2⟩ := hp2
  refine lv_istore (lv' := (7, .int bv) :: (6, .int k) :: lvs0 b a o oL oD (nI (7 * n))) hx hb dL_law_2063 hl1 (by decide) rfl (fun ls2 hl2 => ?_)
  refine lw_tailI (off := 810) (X := xLn c9 (xs (7 * n + 1))) (R := cCw c9 (xs (7 * n + 1))) F I2.swap hM2 (C1.trans ek.symm) ek (by decide) hv (fun z => (C2 z).trans eb.symm) hl2 ⟨dL_law_2065, dL_law_2066, dL_law_2069, dL_law_2071, dL_law_2076⟩ ⟨dL_law_2078, dL_law_2081, dL_law_2082, dL_law_2083, dL_law_2084, dL_law_2086, dL_law_2087, dL_law_2088, dL_law_2093, by decide⟩ ⟨by omega, by omega⟩ (fun H3 ls3 I3 hl3 => ?_)
  exact K H3 _ _ ls3 ⟨u.1, h2, b1, _, _, _, u.2, vD, I3, ⟨hR1, hw1, ha1⟩, ⟨hM2, w1, C3⟩, by omega, by omega⟩ hl3
theorem lc_waitingAt {p : Program} {l : Launch} {e : Env} {s : State} {m : MethodId} {below : List Frame} {meth : Method} {c : Code} {b L : Nat} {xs : Nat → Int32} {G : GT} {cL cD : ClassId} {oL oD : Nat} {H : Heap} {cells slots : Nat} {Q : State → Prop} {ls : Array Slot} {a o n : Nat} (hlt : l.stackTraces = false) (F : LwF p s m c b L xs G cL cD oL oD) (hn : n < 512) (hL : 7 * n + 6 < L) (hL2 : L ≤ 3584) (hS : LwS s G cL cD oL oD a o n H cells slots) (hl : lv_has ls 9 (lvs0 b a o oL oD (nI (7 * n))))
    (K : ∀ (H1 : Heap) (cells1 slots1 : Nat) (ls1 : Array Slot), LwS s G cL cD oL oD a o (n + 1) H1 cells1 slots1 → lv_has ls1 9 (lvs0 b a o oL oD (nI (7 * n))) → W p l e room_1 s m #[Value.ref b] below meth c H1 [] cells1 slots1 Q (F0 m 2903 ls1 [])) :
    W p l e room_1 s m #[Value.ref b] below meth c H [] cells slots Q (F0 m 2096 ls []) := by
  obtain ⟨hc, hr, bb, c9, mm, ad, vL, vD, I, ⟨hR, hw, ha⟩, ⟨hM, hwa, hSim⟩, hcl, hsl⟩ := hS
  have F' := F
  obtain ⟨⟨hx, hb, -⟩, -⟩ := F'
  obtain ⟨u1, u2, u3⟩ := uC_max hSim hwa (by omega)
  obtain ⟨x1, x2⟩ := UC_max hw
  have C : CallOK n [nseC, iobC] (cWt c9 (xs (7 * n + 1))) (xWat c9 (xs (7 * n + 1)) (xs (7 * n + 2))) (cQu c9 (xs (7 * n + 1)) 36 (xs (7 * n + 2)).toNatClampNeg) (fWaA mm (xs (7 * n + 1)) (xs (7 * n + 2))) := call_waitingAt hSim hwa hw (xs (7 * n + 1)) (xs (7 * n + 2))
  obtain ⟨C1, C2, C3⟩ := C
  obtain ⟨w1, w2, w3⟩ := rw_waA hwa (xs (7 * n + 1)) (xs (7 * n + 2))
  obtain ⟨y1, y2, -⟩ := uC_max C3 w1 (by omega)
  obtain ⟨⟨g1, g2⟩, g3, g4⟩ : Gm c9 (cWt c9 (xs (7 * n + 1))) := gm_wt hw (xs (7 * n + 1))
  refine lv_aload_n hx hb dL_law_2096 rfl (lv_at hl 4 rfl) ?_
  refine lw_arg (j := 1) F I (by omega) hL2 (lv_at hl 5 rfl) (lv_at hl 0 rfl) dL_law_2097 dL_law_2098 dL_law_2100 (by decide) dL_law_2101 dL_law_2102 ?_
  refine lw_arg (j := 2) F I (by omega) hL2 (lv_at hl 5 rfl) (lv_at hl 0 rfl) dL_law_2103 dL_law_2104 dL_law_2106 (by decide) dL_law_2107 dL_law_2108 ?_
  refine lv_aload_n hx hb dL_law_2109 rfl (lv_at hl 2 rfl) ?_
  refine k_wrapL (rest := []) F I (fun A => cW_waitingAt l hlt G A hc bb c9 hR hw (xs (7 * n + 1)) (xs (7 * n + 2)) cL cD oL vL) ms_L_waitingAt ml_L_273 rfl ⟨Nat.le_of_ble_eq_true rfl, Nat.le_of_ble_eq_true rfl⟩ hl.1 (by rw [ha]; rfl) (by decide) dL_law_2110 ⟨by omega, by omega⟩ (fun k u H1 hp I1 => ?_)
  obtain ⟨ek, hv, b1, hBE, hR1, hw1⟩ := hp
  have ha1 : b1 14 0 = a := (hBE 14 0 (by decide) rfl).trans ha
  refine lv_istore (lv' := (6, .int k) :: lvs0 b a o oL oD (nI (7 * n))) hx hb dL_law_2113 hl (by decide) rfl (fun ls1 hl1 => ?_)
  refine lv_aload_n hx hb dL_law_2115 rfl (lv_at hl1 4 rfl) ?_
  refine lw_arg (j := 1) F I1 (by omega) hL2 (lv_at hl1 6 rfl) (lv_at hl1 1 rfl) dL_law_2116 dL_law_2117 dL_law_2119 (by decide) dL_law_2120 dL_law_2121 ?_
  refine lw_arg (j := 2) F I1 (by omega) hL2 (lv_at hl1 6 rfl) (lv_at hl1 1 rfl) dL_law_2122 dL_law_2123 dL_law_2125 (by decide) dL_law_2126 dL_law_2127 ?_
  refine k_virtI (rest := []) F I1.swap (fun A => cM_waitingAt l G A hr o ad mm hM (xs (7 * n + 1)) (xs (7 * n + 2)) hwa) mv_X11_waitingAt ml_L_275 ci_15 hM.1 rfl ⟨Nat.le_of_ble_eq_true rfl, Nat.le_of_ble_eq_true rfl⟩ hl1.1 rfl (by decide) dL_law_2128 ⟨by omega, by omega⟩ (fun bv h2 H2 hp2 I2 => ?_)
  obtain ⟨eb, hM2⟩ := hp2
  refine lv_istore (lv' := (7, .int bv) :: (6, .int k) :: lvs0 b a o oL oD (nI (7 * n))) hx hb dL_law_2131 hl1 (by decide) rfl (fun ls2 hl2 => ?_)
  refine lw_tailI (off := 742) (X := xWat c9 (xs (7 * n + 1)) (xs (7 * n + 2))) (R := cQu c9 (xs (7 * n + 1)) 36 (xs (7 * n + 2)).toNatClampNeg) F I2.swap hM2 (C1.trans ek.symm) ek (by decide) hv (fun z => (C2 z).trans eb.symm) hl2 ⟨dL_law_2133, dL_law_2134, dL_law_2137, dL_law_2139, dL_law_2144⟩ ⟨dL_law_2146, dL_law_2149, dL_law_2150, dL_law_2151, dL_law_2152, dL_law_2154, dL_law_2155, dL_law_2156, dL_law_2161, by decide⟩ ⟨by omega, by omega⟩ (fun H3 ls3 I3 hl3 => ?_)
  exact K H3 _ _ ls3 ⟨u.1, h2, b1, _, _, _, u.2, vD, I3, ⟨hR1, hw1, ha1⟩, ⟨hM2, w1, C3⟩, by omega, by omega⟩ hl3
