/-! the law's cases 3 -/
theorem lc_at {p : Program} {l : Launch} {e : Env} {s : State} {m : MethodId} {below : List Frame} {meth : Method} {c : Code} {b L : Nat} {xs : Nat → Int32} {G : GT} {cL cD : ClassId} {oL oD : Nat} {H : Heap} {cells slots : Nat} {Q : State → Prop} {ls : Array Slot} {a o n : Nat} (hlt : l.stackTraces = false) (F : LwF p s m c b L xs G cL cD oL oD) (hn : n < 512) (hL : 7 * n + 6 < L) (hL2 : L ≤ 3584) (hS : LwS s G cL cD oL oD a o n H cells slots) (hl : lv_has ls 9 (lvs0 b a o oL oD (nI (7 * n))))
    (K : ∀ (H1 : Heap) (cells1 slots1 : Nat) (ls1 : Array Slot), LwS s G cL cD oL oD a o (n + 1) H1 cells1 slots1 → lv_has ls1 9 (lvs0 b a o oL oD (nI (7 * n))) → W p l e room_1 s m #[Value.ref b] below meth c H1 [] cells1 slots1 Q (F0 m 2903 ls1 [])) :
    W p l e room_1 s m #[Value.ref b] below meth c H [] cells slots Q (F0 m 1118 ls []) := by
  obtain ⟨hc, hr, bb, c9, mm, ad, vL, vD, I, ⟨hR, hw, ha⟩, ⟨hM, hwa, hSim⟩, hcl, hsl⟩ := hS
  have F' := F
  obtain ⟨⟨hx, hb, -⟩, -⟩ := F'
  obtain ⟨u1, u2, u3⟩ := uC_max hSim hwa (by omega)
  obtain ⟨x1, x2⟩ := UC_max hw
  have C : CallOK n [nseC, iseC] c9 (xAt c9 (xs (7 * n + 1))) (c9 15 (xs (7 * n + 1)).toNatClampNeg) (fAt mm (xs (7 * n + 1))) := call_at hSim hwa hw (xs (7 * n + 1))
  obtain ⟨C1, C2, C3⟩ := C
  obtain ⟨w1, w2, w3⟩ := rw_at hwa (xs (7 * n + 1))
  obtain ⟨y1, y2, -⟩ := uC_max C3 w1 (by omega)
  obtain ⟨⟨g1, g2⟩, g3, g4⟩ : Gm c9 c9 := Gm.refl hw
  refine lv_aload_n hx hb dL_law_1118 rfl (lv_at hl 4 rfl) ?_
  refine lw_arg (j := 1) F I (by omega) hL2 (lv_at hl 5 rfl) (lv_at hl 0 rfl) dL_law_1119 dL_law_1120 dL_law_1122 (by decide) dL_law_1123 dL_law_1124 ?_
  refine lv_aload_n hx hb dL_law_1125 rfl (lv_at hl 2 rfl) ?_
  refine k_wrapL (rest := []) F I (fun A => cW_at l hlt G A hc bb c9 hR hw (xs (7 * n + 1)) cL cD oL vL) ms_L_at ml_L_222 rfl ⟨Nat.le_of_ble_eq_true rfl, Nat.le_of_ble_eq_true rfl⟩ hl.1 (by rw [ha]; rfl) (by decide) dL_law_1126 ⟨by omega, by omega⟩ (fun k u H1 hp I1 => ?_)
  obtain ⟨ek, hv, b1, hBE, hR1, hw1⟩ := hp
  have ha1 : b1 14 0 = a := (hBE 14 0 (by decide) rfl).trans ha
  refine lv_istore (lv' := (6, .int k) :: lvs0 b a o oL oD (nI (7 * n))) hx hb dL_law_1129 hl (by decide) rfl (fun ls1 hl1 => ?_)
  refine lv_aload_n hx hb dL_law_1131 rfl (lv_at hl1 4 rfl) ?_
  refine lw_arg (j := 1) F I1 (by omega) hL2 (lv_at hl1 6 rfl) (lv_at hl1 1 rfl) dL_law_1132 dL_law_1133 dL_law_1135 (by decide) dL_law_1136 dL_law_1137 ?_
  refine k_virtI (rest := []) F I1.swap (fun A => cM_at l G A hr o ad mm hM (xs (7 * n + 1)) hwa) mv_X11_at ml_L_224 ci_15 hM.1 rfl ⟨Nat.le_of_ble_eq_true rfl, Nat.le_of_ble_eq_true rfl⟩ hl1.1 rfl (by decide) dL_law_1138 ⟨by omega, by omega⟩ (fun bv h2 H2 hp2 I2 => ?_)
  obtain ⟨eb, hM2⟩ := hp2
  refine lv_istore (lv' := (7, .int bv) :: (6, .int k) :: lvs0 b a o oL oD (nI (7 * n))) hx hb dL_law_1141 hl1 (by decide) rfl (fun ls2 hl2 => ?_)
  refine lw_tailI (off := 1732) (X := xAt c9 (xs (7 * n + 1))) (R := c9 15 (xs (7 * n + 1)).toNatClampNeg) F I2.swap hM2 (C1.trans ek.symm) ek (by decide) hv (fun z => (C2 z).trans eb.symm) hl2 ⟨dL_law_1143, dL_law_1144, dL_law_1147, dL_law_1149, dL_law_1154⟩ ⟨dL_law_1156, dL_law_1159, dL_law_1160, dL_law_1161, dL_law_1162, dL_law_1164, dL_law_1165, dL_law_1166, dL_law_1171, by decide⟩ ⟨by omega, by omega⟩ (fun H3 ls3 I3 hl3 => ?_)
  exact K H3 _ _ ls3 ⟨u.1, h2, b1, _, _, _, u.2, vD, I3, ⟨hR1, hw1, ha1⟩, ⟨hM2, w1, C3⟩, by omega, by omega⟩ hl3
theorem lc_rides {p : Program} {l : Launch} {e : Env} {s : State} {m : MethodId} {below : List Frame} {meth : Method} {c : Code} {b L : Nat} {xs : Nat → Int32} {G : GT} {cL cD : ClassId} {oL oD : Nat} {H : Heap} {cells slots : Nat} {Q : State → Prop} {ls : Array Slot} {a o n : Nat} (hlt : l.stackTraces = false) (F : LwF p s m c b L xs G cL cD oL oD) (hn : n < 512) (hL : 7 * n + 6 < L) (hL2 : L ≤ 3584) (hS : LwS s G cL cD oL oD a o n H cells slots) (hl : lv_has ls 9 (lvs0 b a o oL oD (nI (7 * n))))
    (K : ∀ (H1 : Heap) (cells1 slots1 : Nat) (ls1 : Array Slot), LwS s G cL cD oL oD a o (n + 1) H1 cells1 slots1 → lv_has ls1 9 (lvs0 b a o oL oD (nI (7 * n))) → W p l e room_1 s m #[Value.ref b] below meth c H1 [] cells1 slots1 Q (F0 m 2903 ls1 [])) :
    W p l e room_1 s m #[Value.ref b] below meth c H [] cells slots Q (F0 m 1174 ls []) := by
  obtain ⟨hc, hr, bb, c9, mm, ad, vL, vD, I, ⟨hR, hw, ha⟩, ⟨hM, hwa, hSim⟩, hcl, hsl⟩ := hS
  have F' := F
  obtain ⟨⟨hx, hb, -⟩, -⟩ := F'
  obtain ⟨u1, u2, u3⟩ := uC_max hSim hwa (by omega)
  obtain ⟨x1, x2⟩ := UC_max hw
  have C : CallOK n [nseC, iseC] c9 (xRd c9 (xs (7 * n + 1))) (c9 116 (xs (7 * n + 1)).toNatClampNeg) (fRides mm (xs (7 * n + 1))) := call_rides hSim hwa hw (xs (7 * n + 1))
  obtain ⟨C1, C2, C3⟩ := C
  obtain ⟨w1, w2, w3⟩ := rw_rides hwa (xs (7 * n + 1))
  obtain ⟨y1, y2, -⟩ := uC_max C3 w1 (by omega)
  obtain ⟨⟨g1, g2⟩, g3, g4⟩ : Gm c9 c9 := Gm.refl hw
  refine lv_aload_n hx hb dL_law_1174 rfl (lv_at hl 4 rfl) ?_
  refine lw_arg (j := 1) F I (by omega) hL2 (lv_at hl 5 rfl) (lv_at hl 0 rfl) dL_law_1175 dL_law_1176 dL_law_1178 (by decide) dL_law_1179 dL_law_1180 ?_
  refine lv_aload_n hx hb dL_law_1181 rfl (lv_at hl 2 rfl) ?_
  refine k_wrapL (rest := []) F I (fun A => cW_rides l hlt G A hc bb c9 hR hw (xs (7 * n + 1)) cL cD oL vL) ms_L_rides ml_L_225 rfl ⟨Nat.le_of_ble_eq_true rfl, Nat.le_of_ble_eq_true rfl⟩ hl.1 (by rw [ha]; rfl) (by decide) dL_law_1182 ⟨by omega, by omega⟩ (fun k u H1 hp I1 => ?_)
  obtain ⟨ek, hv, b1, hBE, hR1, hw1⟩ := hp
  have ha1 : b1 14 0 = a := (hBE 14 0 (by decide) rfl).trans ha
  refine lv_istore (lv' := (6, .int k) :: lvs0 b a o oL oD (nI (7 * n))) hx hb dL_law_1185 hl (by decide) rfl (fun ls1 hl1 => ?_)
  refine lv_aload_n hx hb dL_law_1187 rfl (lv_at hl1 4 rfl) ?_
  refine lw_arg (j := 1) F I1 (by omega) hL2 (lv_at hl1 6 rfl) (lv_at hl1 1 rfl) dL_law_1188 dL_law_1189 dL_law_1191 (by decide) dL_law_1192 dL_law_1193 ?_
  refine k_virtI (rest := []) F I1.swap (fun A => cM_rides l G A hr o ad mm hM (xs (7 * n + 1)) hwa) mv_X11_rides ml_L_227 ci_15 hM.1 rfl ⟨Nat.le_of_ble_eq_true rfl, Nat.le_of_ble_eq_true rfl⟩ hl1.1 rfl (by decide) dL_law_1194 ⟨by omega, by omega⟩ (fun bv h2 H2 hp2 I2 => ?_)
  obtain ⟨eb, hM2⟩ := hp2
  refine lv_istore (lv' := (7, .int bv) :: (6, .int k) :: lvs0 b a o oL oD (nI (7 * n))) hx hb dL_law_1197 hl1 (by decide) rfl (fun ls2 hl2 => ?_)
  refine lw_tailI (off := 1676) (X := xRd c9 (xs (7 * n + 1))) (R := c9 116 (xs (7 * n + 1)).toNatClampNeg) F I2.swap hM2 (C1.trans ek.symm) ek (by decide) hv (fun z => (C2 z).trans eb.symm) hl2 ⟨dL_law_1199, dL_law_1200, dL_law_1203, dL_law_1205, dL_law_1210⟩ ⟨dL_law_1212, dL_law_1215, dL_law_1216, dL_law_1217, dL_law_1218, dL_law_1220, dL_law_1221, dL_law_1222, dL_law_1227, by decide⟩ ⟨by omega, by omega⟩ (fun H3 ls3 I3 hl3 => ?_)
  exact K H3 _ _ ls3 ⟨u.1, h2, b1, _, _, _, u.2, vD, I3, ⟨hR1, hw1, ha1⟩, ⟨hM2, w1, C3⟩, by omega, by omega⟩ hl3
theorem lc_destination {p : Program} {l : Launch} {e : Env} {s : State} {m : MethodId} {below : List Frame} {meth : Method} {c : Code} {b L : Nat} {xs : Nat → Int32} {G : GT} {cL cD : ClassId} {oL oD : Nat} {H : Heap} {cells slots : Nat} {Q : State → Prop} {ls : Array Slot} {a o n : Nat} (hlt : l.stackTraces = false) (F : LwF p s m c b L xs G cL cD oL oD) (hn : n < 512) (hL : 7 * n + 6 < L) (hL2 : L ≤ 3584) (hS : LwS s G cL cD oL oD a o n H cells slots) (hl : lv_has ls 9 (lvs0 b a o oL oD (nI (7 * n))))
    (K : ∀ (H1 : Heap) (cells1 slots1 : Nat) (ls1 : Array Slot), LwS s G cL cD oL oD a o (n + 1) H1 cells1 slots1 → lv_has ls1 9 (lvs0 b a o oL oD (nI (7 * n))) → W p l e room_1 s m #[Value.ref b] below meth c H1 [] cells1 slots1 Q (F0 m 2903 ls1 [])) :
    W p l e room_1 s m #[Value.ref b] below meth c H [] cells slots Q (F0 m 1230 ls []) := by
  obtain ⟨hc, hr, bb, c9, mm, ad, vL, vD, I, ⟨hR, hw, ha⟩, ⟨hM, hwa, hSim⟩, hcl, hsl⟩ := hS
  have F' := F
  obtain ⟨⟨hx, hb, -⟩, -⟩ := F'
  obtain ⟨u1, u2, u3⟩ := uC_max hSim hwa (by omega)
  obtain ⟨x1, x2⟩ := UC_max hw
  have C : CallOK n [nseC] c9 (xPa c9 (xs (7 * n + 1))) (c9 14 (xs (7 * n + 1)).toNatClampNeg) (fGet 14 mm (xs (7 * n + 1))) := call_getP hSim hwa hw (xs (7 * n + 1)) (k := 14) rfl
  obtain ⟨C1, C2, C3⟩ := C
  obtain ⟨w1, w2, w3⟩ := rw_get hwa 14 (xs (7 * n + 1))
  obtain ⟨y1, y2, -⟩ := uC_max C3 w1 (by omega)
  obtain ⟨⟨g1, g2⟩, g3, g4⟩ : Gm c9 c9 := Gm.refl hw
  refine lv_aload_n hx hb dL_law_1230 rfl (lv_at hl 4 rfl) ?_
  refine lw_arg (j := 1) F I (by omega) hL2 (lv_at hl 5 rfl) (lv_at hl 0 rfl) dL_law_1231 dL_law_1232 dL_law_1234 (by decide) dL_law_1235 dL_law_1236 ?_
  refine lv_aload_n hx hb dL_law_1237 rfl (lv_at hl 2 rfl) ?_
  refine k_wrapL (rest := []) F I (fun A => cW_destination l hlt G A hc bb c9 hR hw (xs (7 * n + 1)) cL cD oL vL) ms_L_destination ml_L_228 rfl ⟨Nat.le_of_ble_eq_true rfl, Nat.le_of_ble_eq_true rfl⟩ hl.1 (by rw [ha]; rfl) (by decide) dL_law_1238 ⟨by omega, by omega⟩ (fun k u H1 hp I1 => ?_)
  obtain ⟨ek, hv, b1, hBE, hR1, hw1⟩ := hp
  have ha1 : b1 14 0 = a := (hBE 14 0 (by decide) rfl).trans ha
  refine lv_istore (lv' := (6, .int k) :: lvs0 b a o oL oD (nI (7 * n))) hx hb dL_law_1241 hl (by decide) rfl (fun ls1 hl1 => ?_)
  refine lv_aload_n hx hb dL_law_1243 rfl (lv_at hl1 4 rfl) ?_
  refine lw_arg (j := 1) F I1 (by omega) hL2 (lv_at hl1 6 rfl) (lv_at hl1 1 rfl) dL_law_1244 dL_law_1245 dL_law_1247 (by decide) dL_law_1248 dL_law_1249 ?_
  refine k_virtI (rest := []) F I1.swap (fun A => cM_destination l G A hr o ad mm hM (xs (7 * n + 1)) hwa) mv_X11_destination ml_L_230 ci_15 hM.1 rfl ⟨Nat.le_of_ble_eq_true rfl, Nat.le_of_ble_eq_true rfl⟩ hl1.1 rfl (by decide) dL_law_1250 ⟨by omega, by omega⟩ (fun bv h2 H2 hp2 I2 => ?_)
  obtain ⟨eb, hM2⟩ := hp2
  refine lv_istore (lv' := (7, .int bv) :: (6, .int k) :: lvs0 b a o oL oD (nI (7 * n))) hx hb dL_law_1253 hl1 (by decide) rfl (fun ls2 hl2 => ?_)
  refine lw_tailI (off := 1620) (X := xPa c9 (xs (7 * n + 1))) (R := c9 14 (xs (7 * n + 1)).toNatClampNeg) F I2.swap hM2 (C1.trans ek.symm) ek (by decide) hv (fun z => (C2 z).trans eb.symm) hl2 ⟨dL_law_1255, dL_law_1256, dL_law_1259, dL_law_1261, dL_law_1266⟩ ⟨dL_law_1268, dL_law_1271, dL_law_1272, dL_law_1273, dL_law_1274, dL_law_1276, dL_law_1277, dL_law_1278, dL_law_1283, by decide⟩ ⟨by omega, by omega⟩ (fun H3 ls3 I3 hl3 => ?_)
  exact K H3 _ _ ls3 ⟨u.1, h2, b1, _, _, _, u.2, vD, I3, ⟨hR1, hw1, ha1⟩, ⟨hM2, w1, C3⟩, by omega, by omega⟩ hl3
theorem lc_isReturn {p : Program} {l : Launch} {e : Env} {s : State} {m : MethodId} {below : List Frame} {meth : Method} {c : Code} {b L : Nat} {xs : Nat → Int32} {G : GT} {cL cD : ClassId} {oL oD : Nat} {H : Heap} {cells slots : Nat} {Q : State → Prop} {ls : Array Slot} {a o n : Nat} (hlt : l.stackTraces = false) (F : LwF p s m c b L xs G cL cD oL oD) (hn : n < 512) (hL : 7 * n + 6 < L) (hL2 : L ≤ 3584) (hS : LwS s G cL cD oL oD a o n H cells slots) (hl : lv_has ls 9 (lvs0 b a o oL oD (nI (7 * n))))
    (K : ∀ (H1 : Heap) (cells1 slots1 : Nat) (ls1 : Array Slot), LwS s G cL cD oL oD a o (n + 1) H1 cells1 slots1 → lv_has ls1 9 (lvs0 b a o oL oD (nI (7 * n))) → W p l e room_1 s m #[Value.ref b] below meth c H1 [] cells1 slots1 Q (F0 m 2903 ls1 [])) :
    W p l e room_1 s m #[Value.ref b] below meth c H [] cells slots Q (F0 m 1286 ls []) := by
  obtain ⟨hc, hr, bb, c9, mm, ad, vL, vD, I, ⟨hR, hw, ha⟩, ⟨hM, hwa, hSim⟩, hcl, hsl⟩ := hS
  have F' := F
  obtain ⟨⟨hx, hb, -⟩, -⟩ := F'
  obtain ⟨u1, u2, u3⟩ := uC_max hSim hwa (by omega)
  obtain ⟨x1, x2⟩ := UC_max hw
  have C : CallOK n [nseC] c9 (xPa c9 (xs (7 * n + 1))) (c9 29 (xs (7 * n + 1)).toNatClampNeg) (fIsRet mm (xs (7 * n + 1))) := call_isReturn hSim hwa hw (xs (7 * n + 1))
  obtain ⟨C1, C2, C3⟩ := C
  obtain ⟨w1, w2, w3⟩ := rw_isRet hwa (xs (7 * n + 1))
  obtain ⟨y1, y2, -⟩ := uC_max C3 w1 (by omega)
  obtain ⟨⟨g1, g2⟩, g3, g4⟩ : Gm c9 c9 := Gm.refl hw
  refine lv_aload_n hx hb dL_law_1286 rfl (lv_at hl 4 rfl) ?_
  refine lw_arg (j := 1) F I (by omega) hL2 (lv_at hl 5 rfl) (lv_at hl 0 rfl) dL_law_1287 dL_law_1288 dL_law_1290 (by decide) dL_law_1291 dL_law_1292 ?_
  refine lv_aload_n hx hb dL_law_1293 rfl (lv_at hl 2 rfl) ?_
  refine k_wrapL (rest := []) F I (fun A => cW_isReturn l hlt G A hc bb c9 hR hw (xs (7 * n + 1)) (fun z => sim_nar29 hSim hwa z) cL cD oL vL) ms_L_isReturn ml_L_231 rfl ⟨Nat.le_of_ble_eq_true rfl, Nat.le_of_ble_eq_true rfl⟩ hl.1 (by rw [ha]; rfl) (by decide) dL_law_1294 ⟨by omega, by omega⟩ (fun k u H1 hp I1 => ?_)
  obtain ⟨ek, hv, b1, hBE, hR1, hw1⟩ := hp
  have ha1 : b1 14 0 = a := (hBE 14 0 (by decide) rfl).trans ha
  refine lv_istore (lv' := (6, .int k) :: lvs0 b a o oL oD (nI (7 * n))) hx hb dL_law_1297 hl (by decide) rfl (fun ls1 hl1 => ?_)
  refine lv_aload_n hx hb dL_law_1299 rfl (lv_at hl1 4 rfl) ?_
  refine lw_arg (j := 1) F I1 (by omega) hL2 (lv_at hl1 6 rfl) (lv_at hl1 1 rfl) dL_law_1300 dL_law_1301 dL_law_1303 (by decide) dL_law_1304 dL_law_1305 ?_
  refine k_virtI (rest := []) F I1.swap (fun A => cM_isReturn l G A hr o ad mm hM (xs (7 * n + 1)) hwa) mv_X11_isReturn ml_L_233 ci_15 hM.1 rfl ⟨Nat.le_of_ble_eq_true rfl, Nat.le_of_ble_eq_true rfl⟩ hl1.1 rfl (by decide) dL_law_1306 ⟨by omega, by omega⟩ (fun bv h2 H2 hp2 I2 => ?_)
  obtain ⟨eb, hM2⟩ := hp2
  refine lv_istore (lv' := (7, .int bv) :: (6, .int k) :: lvs0 b a o oL oD (nI (7 * n))) hx hb dL_law_1309 hl1 (by decide) rfl (fun ls2 hl2 => ?_)
  refine lw_tailZ (off := 1557) (X := xPa c9 (xs (7 * n + 1))) (R := c9 29 (xs (7 * n + 1)).toNatClampNeg) F I2.swap hM2 (C1.trans ek.symm) ek (by decide) hv (fun z => (C2 z).trans eb.symm) hl2 ⟨dL_law_1311, dL_law_1312, dL_law_1315, dL_law_1317, dL_law_1322⟩ ⟨dL_law_1324, dL_law_1327, dL_law_1328, dL_law_1329, dL_law_1330, dL_law_1332, dL_law_1335, dL_law_1336, dL_law_1339, dL_law_1340, dL_law_1341, dL_law_1346, by decide⟩ ⟨by omega, by omega⟩ (fun H3 ls3 I3 hl3 => ?_)
  exact K H3 _ _ ls3 ⟨u.1, h2, b1, _, _, _, u.2, vD, I3, ⟨hR1, hw1, ha1⟩, ⟨hM2, w1, C3⟩, by omega, by omega⟩ hl3
theorem lc_promise {p : Program} {l : Launch} {e : Env} {s : State} {m : MethodId} {below : List Frame} {meth : Method} {c : Code} {b L : Nat} {xs : Nat → Int32} {G : GT} {cL cD : ClassId} {oL oD : Nat} {H : Heap} {cells slots : Nat} {Q : State → Prop} {ls : Array Slot} {a o n : Nat} (hlt : l.stackTraces = false) (F : LwF p s m c b L xs G cL cD oL oD) (hn : n < 512) (hL : 7 * n + 6 < L) (hL2 : L ≤ 3584) (hS : LwS s G cL cD oL oD a o n H cells slots) (hl : lv_has ls 9 (lvs0 b a o oL oD (nI (7 * n))))
    (K : ∀ (H1 : Heap) (cells1 slots1 : Nat) (ls1 : Array Slot), LwS s G cL cD oL oD a o (n + 1) H1 cells1 slots1 → lv_has ls1 9 (lvs0 b a o oL oD (nI (7 * n))) → W p l e room_1 s m #[Value.ref b] below meth c H1 [] cells1 slots1 Q (F0 m 2903 ls1 [])) :
    W p l e room_1 s m #[Value.ref b] below meth c H [] cells slots Q (F0 m 1349 ls []) := by
  obtain ⟨hc, hr, bb, c9, mm, ad, vL, vD, I, ⟨hR, hw, ha⟩, ⟨hM, hwa, hSim⟩, hcl, hsl⟩ := hS
  have F' := F
  obtain ⟨⟨hx, hb, -⟩, -⟩ := F'
  obtain ⟨u1, u2, u3⟩ := uC_max hSim hwa (by omega)
  obtain ⟨x1, x2⟩ := UC_max hw
  have C : CallOK n [nseC] c9 (xPa c9 (xs (7 * n + 1))) (c9 20 (xs (7 * n + 1)).toNatClampNeg) (fGet 20 mm (xs (7 * n + 1))) := call_getP hSim hwa hw (xs (7 * n + 1)) (k := 20) rfl
  obtain ⟨C1, C2, C3⟩ := C
  obtain ⟨w1, w2, w3⟩ := rw_get hwa 20 (xs (7 * n + 1))
  obtain ⟨y1, y2, -⟩ := uC_max C3 w1 (by omega)
  obtain ⟨⟨g1, g2⟩, g3, g4⟩ : Gm c9 c9 := Gm.refl hw
  refine lv_aload_n hx hb dL_law_1349 rfl (lv_at hl 4 rfl) ?_
  refine lw_arg (j := 1) F I (by omega) hL2 (lv_at hl 5 rfl) (lv_at hl 0 rfl) dL_law_1350 dL_law_1351 dL_law_1353 (by decide) dL_law_1354 dL_law_1355 ?_
  refine lv_aload_n hx hb dL_law_1356 rfl (lv_at hl 2 rfl) ?_
  refine k_wrapL (rest := []) F I (fun A => cW_promise l hlt G A hc bb c9 hR hw (xs (7 * n + 1)) cL cD oL vL) ms_L_promise ml_L_234 rfl ⟨Nat.le_of_ble_eq_true rfl, Nat.le_of_ble_eq_true rfl⟩ hl.1 (by rw [ha]; rfl) (by decide) dL_law_1357 ⟨by omega, by omega⟩ (fun k u H1 hp I1 => ?_)
  obtain ⟨ek, hv, b1, hBE, hR1, hw1⟩ := hp
  have ha1 : b1 14 0 = a := (hBE 14 0 (by decide) rfl).trans ha
  refine lv_istore (lv' := (6, .int k) :: lvs0 b a o oL oD (nI (7 * n))) hx hb dL_law_1360 hl (by decide) rfl (fun ls1 hl1 => ?_)
  refine lv_aload_n hx hb dL_law_1362 rfl (lv_at hl1 4 rfl) ?_
  refine lw_arg (j := 1) F I1 (by omega) hL2 (lv_at hl1 6 rfl) (lv_at hl1 1 rfl) dL_law_1363 dL_law_1364 dL_law_1366 (by decide) dL_law_1367 dL_law_1368 ?_
  refine k_virtI (rest := []) F I1.swap (fun A => cM_promise l G A hr o ad mm hM (xs (7 * n + 1)) hwa) mv_X11_promise ml_L_236 ci_15 hM.1 rfl ⟨Nat.le_of_ble_eq_true rfl, Nat.le_of_ble_eq_true rfl⟩ hl1.1 rfl (by decide) dL_law_1369 ⟨by omega, by omega⟩ (fun bv h2 H2 hp2 I2 => ?_)
  obtain ⟨eb, hM2⟩ := hp2
  refine lv_istore (lv' := (7, .int bv) :: (6, .int k) :: lvs0 b a o oL oD (nI (7 * n))) hx hb dL_law_1372 hl1 (by decide) rfl (fun ls2 hl2 => ?_)
  refine lw_tailI (off := 1501) (X := xPa c9 (xs (7 * n + 1))) (R := c9 20 (xs (7 * n + 1)).toNatClampNeg) F I2.swap hM2 (C1.trans ek.symm) ek (by decide) hv (fun z => (C2 z).trans eb.symm) hl2 ⟨dL_law_1374, dL_law_1375, dL_law_1378, dL_law_1380, dL_law_1385⟩ ⟨dL_law_1387, dL_law_1390, dL_law_1391, dL_law_1392, dL_law_1393, dL_law_1395, dL_law_1396, dL_law_1397, dL_law_1402, by decide⟩ ⟨by omega, by omega⟩ (fun H3 ls3 I3 hl3 => ?_)
  exact K H3 _ _ ls3 ⟨u.1, h2, b1, _, _, _, u.2, vD, I3, ⟨hR1, hw1, ha1⟩, ⟨hM2, w1, C3⟩, by omega, by omega⟩ hl3
theorem lc_isLate {p : Program} {l : Launch} {e : Env} {s : State} {m : MethodId} {below : List Frame} {meth : Method} {c : Code} {b L : Nat} {xs : Nat → Int32} {G : GT} {cL cD : ClassId} {oL oD : Nat} {H : Heap} {cells slots : Nat} {Q : State → Prop} {ls : Array Slot} {a o n : Nat} (hlt : l.stackTraces = false) (F : LwF p s m c b L xs G cL cD oL oD) (hn : n < 512) (hL : 7 * n + 6 < L) (hL2 : L ≤ 3584) (hS : LwS s G cL cD oL oD a o n H cells slots) (hl : lv_has ls 9 (lvs0 b a o oL oD (nI (7 * n))))
    (K : ∀ (H1 : Heap) (cells1 slots1 : Nat) (ls1 : Array Slot), LwS s G cL cD oL oD a o (n + 1) H1 cells1 slots1 → lv_has ls1 9 (lvs0 b a o oL oD (nI (7 * n))) → W p l e room_1 s m #[Value.ref b] below meth c H1 [] cells1 slots1 Q (F0 m 2903 ls1 [])) :
    W p l e room_1 s m #[Value.ref b] below meth c H [] cells slots Q (F0 m 1405 ls []) := by
  obtain ⟨hc, hr, bb, c9, mm, ad, vL, vD, I, ⟨hR, hw, ha⟩, ⟨hM, hwa, hSim⟩, hcl, hsl⟩ := hS
  have F' := F
  obtain ⟨⟨hx, hb, -⟩, -⟩ := F'
  obtain ⟨u1, u2, u3⟩ := uC_max hSim hwa (by omega)
  obtain ⟨x1, x2⟩ := UC_max hw
  have C : CallOK n [nseC] c9 (xPa c9 (xs (7 * n + 1))) (cMiss c9 (xs (7 * n + 1)).toNatClampNeg (c9 41 0)) (fLate mm (xs (7 * n + 1))) := call_isLate hSim hwa hw (xs (7 * n + 1))
  obtain ⟨C1, C2, C3⟩ := C
  obtain ⟨w1, w2, w3⟩ := rw_late hwa (xs (7 * n + 1))
  obtain ⟨y1, y2, -⟩ := uC_max C3 w1 (by omega)
  obtain ⟨⟨g1, g2⟩, g3, g4⟩ : Gm c9 c9 := Gm.refl hw
  refine lv_aload_n hx hb dL_law_1405 rfl (lv_at hl 4 rfl) ?_
  refine lw_arg (j := 1) F I (by omega) hL2 (lv_at hl 5 rfl) (lv_at hl 0 rfl) dL_law_1406 dL_law_1407 dL_law_1409 (by decide) dL_law_1410 dL_law_1411 ?_
  refine lv_aload_n hx hb dL_law_1412 rfl (lv_at hl 2 rfl) ?_
  refine k_wrapL (rest := []) F I (fun A => cW_isLate l hlt G A hc bb c9 hR hw (xs (7 * n + 1)) cL cD oL vL) ms_L_isLate ml_L_237 rfl ⟨Nat.le_of_ble_eq_true rfl, Nat.le_of_ble_eq_true rfl⟩ hl.1 (by rw [ha]; rfl) (by decide) dL_law_1413 ⟨by omega, by omega⟩ (fun k u H1 hp I1 => ?_)
  obtain ⟨ek, hv, b1, hBE, hR1, hw1⟩ := hp
  have ha1 : b1 14 0 = a := (hBE 14 0 (by decide) rfl).trans ha
  refine lv_istore (lv' := (6, .int k) :: lvs0 b a o oL oD (nI (7 * n))) hx hb dL_law_1416 hl (by decide) rfl (fun ls1 hl1 => ?_)
  refine lv_aload_n hx hb dL_law_1418 rfl (lv_at hl1 4 rfl) ?_
  refine lw_arg (j := 1) F I1 (by omega) hL2 (lv_at hl1 6 rfl) (lv_at hl1 1 rfl) dL_law_1419 dL_law_1420 dL_law_1422 (by decide) dL_law_1423 dL_law_1424 ?_
  refine k_virtI (rest := []) F I1.swap (fun A => cM_isLate l G A hr o ad mm hM (xs (7 * n + 1)) hwa) mv_X11_isLate ml_L_239 ci_15 hM.1 rfl ⟨Nat.le_of_ble_eq_true rfl, Nat.le_of_ble_eq_true rfl⟩ hl1.1 rfl (by decide) dL_law_1425 ⟨by omega, by omega⟩ (fun bv h2 H2 hp2 I2 => ?_)
  obtain ⟨eb, hM2⟩ := hp2
  refine lv_istore (lv' := (7, .int bv) :: (6, .int k) :: lvs0 b a o oL oD (nI (7 * n))) hx hb dL_law_1428 hl1 (by decide) rfl (fun ls2 hl2 => ?_)
  refine lw_tailZ (off := 1438) (X := xPa c9 (xs (7 * n + 1))) (R := cMiss c9 (xs (7 * n + 1)).toNatClampNeg (c9 41 0)) F I2.swap hM2 (C1.trans ek.symm) ek (by decide) hv (fun z => (C2 z).trans eb.symm) hl2 ⟨dL_law_1430, dL_law_1431, dL_law_1434, dL_law_1436, dL_law_1441⟩ ⟨dL_law_1443, dL_law_1446, dL_law_1447, dL_law_1448, dL_law_1449, dL_law_1451, dL_law_1454, dL_law_1455, dL_law_1458, dL_law_1459, dL_law_1460, dL_law_1465, by decide⟩ ⟨by omega, by omega⟩ (fun H3 ls3 I3 hl3 => ?_)
  exact K H3 _ _ ls3 ⟨u.1, h2, b1, _, _, _, u.2, vD, I3, ⟨hR1, hw1, ha1⟩, ⟨hM2, w1, C3⟩, by omega, by omega⟩ hl3
