/-! constructors -/
set_option maxHeartbeats 800000 in
set_option maxRecDepth 100000 in
theorem cC_X1_init (l : Launch) (G : GT) (A : Nat → Prop) (h : AH) (a y : Nat) (L t : Int32) (hk : aK h a = 5) (hL : narrow .char (.int L) = .int L) (hL2 : fits .char (.int L) = true) : cmV l G A yX1_init cX1_init 4 1 12 0 0 [.ref a, .int L, .int t, .ref y] h (fun h' => h' = pR (pI (pI h 0 a L) 1 a t) 2 a (some y)) := by
  refine cm_of "Routepost$Event" rfl (by decide) (Nat.le_of_ble_eq_true rfl) ?_
  intro pr e s m9 below meth c C0 hr hname hH ls hl
  obtain ⟨hx, hb, hml, hown, hts, hK, hA, -⟩ := id C0
  have hl : lv_has ls 4 [(0, .ref a), (1, .int L), (2, .int t), (3, .ref y)] := hl
  have hin : meth.name = "<init>" := hname
  refine lv_aload_n hx hb dX1_init_0 rfl (lv_at hl 0 rfl) ?_
  refine o_objI C0 ml_X1_1 hl.1 dX1_init_1 (by decide) (by decide) ?_
  refine lv_aload_n hx hb dX1_init_4 rfl (lv_at hl 0 rfl) ?_
  refine lv_iload_n hx hb dX1_init_5 rfl (lv_at hl 1 rfl) ?_
  refine o_putFI hx hb hts hown hK hH ci_5 hk (j := 0) rfl rfl fl_X1_7 rfl hin rfl hL hL2 dX1_init_6 (fun H locs hH => ?_)
  refine lv_aload_n hx hb dX1_init_9 rfl (lv_at hl 0 rfl) ?_
  refine lv_iload_n hx hb dX1_init_10 rfl (lv_at hl 2 rfl) ?_
  refine o_putFI hx hb hts hown hK hH ci_5 (show aK (pI h 0 a L) a = 5 from hk) (j := 1) rfl rfl fl_X1_13 rfl hin rfl rfl rfl dX1_init_11 (fun H locs hH => ?_)
  refine lv_aload_n hx hb dX1_init_14 rfl (lv_at hl 0 rfl) ?_
  refine lv_aload_n hx hb dX1_init_15 rfl (lv_at hl 3 rfl) ?_
  refine o_putFR (x := some y) hx hb hts hown hK hH ci_5 (show aK (pI (pI h 0 a L) 1 a t) a = 5 from hk) (j := 2) rfl rfl fl_X1_17 rfl hin rfl (fun x => by cases x <;> exact ⟨rfl, rfl⟩) dX1_init_16 (fun H locs hH => ?_)
  exact e_V C0 hr hH rfl (by omega) (by omega) dX1_init_19

