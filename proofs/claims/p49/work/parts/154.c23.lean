def NewLine (h h' : AH) (a n f t : Nat) (mb : Int32) : Prop := ∃ g q1 q2, aK h g = 0 ∧ g ≠ a ∧ NewA h h' q1 30 40 ∧ NewA h h' q2 20 40 ∧ q1 ≠ q2 ∧ q1 ≠ g ∧ q2 ≠ g ∧ q1 ≠ a ∧ q2 ≠ a ∧ aK h' g = 4 ∧ aR h' 0 g = some q1 ∧ aR h' 1 g = some q2 ∧ aI h' 2 g = 0 ∧ aK h' a = 8 ∧ aI h' 0 a = nI n ∧ aR h' 1 a = some f ∧ aR h' 2 a = some t ∧ aI h' 3 a = mb ∧ aR h' 4 a = some g ∧ aI h' 8 a = 1 ∧ SameX h h' (fun y => y = a ∨ y = g ∨ y = q1 ∨ y = q2)
def NewParcel (E : Nat) (h h' : AH) (a n o d : Nat) (vol ser now : Int32) : Prop := ∃ g q, aK h g = 0 ∧ g ≠ a ∧ aK h q = 0 ∧ q ≠ g ∧ q ≠ a ∧ aK h' q = 3 ∧ aI h' 2 q = 0 ∧ aR h' 1 q = some E ∧ aK h' g = 6 ∧ aR h' 0 g = some q ∧ aI h' 1 g = 0 ∧ aK h' a = 9 ∧ aI h' 0 a = nI n ∧ aI h' 1 a = vol ∧ aI h' 2 a = ser ∧ aI h' 3 a = now ∧ aR h' 4 a = some o ∧ aR h' 5 a = some g ∧ aR h' 6 a = some d ∧ aR h' 7 a = some o ∧ aI h' 13 a = -1 ∧ (∀ j, aI h j a = 0) ∧ (∀ j, aR h j a = none) ∧ SameX h h' (fun y => y = a ∨ y = g ∨ y = q) ∧ (∀ j, ¬ (j = 0 ∨ j = 1 ∨ j = 2 ∨ j = 3 ∨ j = 13) → aI h' j a = 0) ∧ (∀ j, ¬ (j = 4 ∨ j = 5 ∨ j = 6 ∨ j = 7) → aR h' j a = none)
set_option maxHeartbeats 800000 in
set_option maxRecDepth 100000 in
theorem cC_X4_init (l : Launch) (G : GT) (A : Nat → Prop) (h : AH) (a n f t : Nat) (mb : Int32) (hk : aK h a = 8) : cmV l G A yX4_init cX4_init 5 2 33 3 83 [.ref (a), .int (nI n), .ref (f), .ref (t), .int (mb)] h (fun h' => NewLine h h' a n f t mb) := by
  refine cm_of "Routepost$Line" rfl (by decide) (Nat.le_of_ble_eq_true rfl) ?_
  intro pr e s m9 below meth c C0 hr hname hH ls hl
  obtain ⟨hx, hb, hml, hown, hts, hK, hA, -⟩ := id C0
  have hl : lv_has ls 5 [(0, .ref (a)), (1, .int (nI n)), (2, .ref (f)), (3, .ref (t)), (4, .int (mb))] := hl
  have hin : meth.name = "<init>" := hname
  refine lv_aload_n hx hb dX4_init_0 rfl (lv_at hl 0 rfl) ?_
  refine o_objI C0 ml_X4_1 hl.1 dX4_init_1 (Nat.le_of_ble_eq_true rfl) (Nat.le_of_ble_eq_true rfl) ?_
  refine lv_aload_n hx hb dX4_init_4 rfl (lv_at hl 0 rfl) ?_
  refine lv_iload_n hx hb dX4_init_5 rfl (lv_at hl 1 rfl) ?_
  refine o_putFI hx hb hts hown hK hH ci_8 hk (j := 0) rfl rfl fl_X4_7 rfl hin rfl rfl rfl dX4_init_6 (fun H locs hH => ?_)
  obtain ⟨h_1, e_1⟩ : ∃ z, z = pI h 0 a (nI n) := ⟨_, rfl⟩
  rw [← e_1] at hH
  have hk : aK h_1 a = 8 := by rw [e_1]; exact hk
  refine lv_aload_n hx hb dX4_init_9 rfl (lv_at hl 0 rfl) ?_
  refine lv_aload_n hx hb dX4_init_10 rfl (lv_at hl 2 rfl) ?_
  refine o_putFR (x := some f) hx hb hts hown hK hH ci_8 hk (j := 1) rfl rfl fl_X4_13 rfl hin rfl (fun x => by cases x <;> exact ⟨rfl, rfl⟩) dX4_init_11 (fun H locs hH => ?_)
  obtain ⟨h_2, e_2⟩ : ∃ z, z = pR h_1 1 a (some f) := ⟨_, rfl⟩
  rw [← e_2] at hH
  have hk : aK h_2 a = 8 := by rw [e_2]; exact hk
  refine lv_aload_n hx hb dX4_init_14 rfl (lv_at hl 0 rfl) ?_
  refine lv_aload_n hx hb dX4_init_15 rfl (lv_at hl 3 rfl) ?_
  refine o_putFR (x := some t) hx hb hts hown hK hH ci_8 hk (j := 2) rfl rfl fl_X4_17 rfl hin rfl (fun x => by cases x <;> exact ⟨rfl, rfl⟩) dX4_init_16 (fun H locs hH => ?_)
  obtain ⟨h_3, e_3⟩ : ∃ z, z = pR h_2 2 a (some t) := ⟨_, rfl⟩
  rw [← e_3] at hH
  have hk : aK h_3 a = 8 := by rw [e_3]; exact hk
  refine lv_aload_n hx hb dX4_init_19 rfl (lv_at hl 0 rfl) ?_
  refine lv_iload hx hb dX4_init_20 (lv_at hl 4 rfl) ?_
  refine o_putFI hx hb hts hown hK hH ci_8 hk (j := 3) rfl rfl fl_X4_20 rfl hin rfl rfl rfl dX4_init_22 (fun H locs hH => ?_)
  obtain ⟨h_4, e_4⟩ : ∃ z, z = pI h_3 3 a mb := ⟨_, rfl⟩
  rw [← e_4] at hH
  have hk : aK h_4 a = 8 := by rw [e_4]; exact hk
  refine lv_aload_n hx hb dX4_init_25 rfl (lv_at hl 0 rfl) ?_
  refine o_new hx hb hts hown hK hA hH ci_4 cl_X4_23 im_X0 in_X0 (fun j hj => by rcases (by omega : j = 0 ∨ j = 1 ∨ j = 2) with rfl | rfl | rfl <;> rfl) (by show _ ≤ 3; omega) (by show _ ≤ 83; omega) dX4_init_26 (fun q1 H hq1 hqs hH => ?_)
  have n_a_q1 : a ≠ q1 := fun z => by rw [z, hq1] at hk; exact absurd hk (by decide)
  obtain ⟨h_5, e_5⟩ : ∃ z, z = pN h_4 q1 4 0 := ⟨_, rfl⟩
  rw [← e_5] at hH
  have hk : aK h_5 a = 8 := by rw [e_5, aK_pN, if_neg n_a_q1]; exact hk
  have kq1 : aK h_5 q1 = 4 := by rw [e_5, aK_pN, if_pos rfl]
  refine lv_dup hx hb dX4_init_29 rfl ?_
  have hg0 : aK h q1 = 0 := by simpa [e_1, e_2, e_3, e_4, aK_pI, aK_pR] using hq1
  have f0 : aI h_5 0 a = nI n := by simp [e_1, e_2, e_3, e_4, e_5, aK_pI, aK_pR, aI_pI, aI_pR, aR_pI, aR_pR, aN_pI, aN_pR, aK_pN, aI_pN, aR_pN, aN_pN, n_a_q1, Ne.symm n_a_q1]
  have f1 : aR h_5 1 a = some f := by simp [e_1, e_2, e_3, e_4, e_5, aK_pI, aK_pR, aI_pI, aI_pR, aR_pI, aR_pR, aN_pI, aN_pR, aK_pN, aI_pN, aR_pN, aN_pN, n_a_q1, Ne.symm n_a_q1]
  have f2 : aR h_5 2 a = some t := by simp [e_1, e_2, e_3, e_4, e_5, aK_pI, aK_pR, aI_pI, aI_pR, aR_pI, aR_pR, aN_pI, aN_pR, aK_pN, aI_pN, aR_pN, aN_pN, n_a_q1, Ne.symm n_a_q1]
  have f3 : aI h_5 3 a = mb := by simp [e_1, e_2, e_3, e_4, e_5, aK_pI, aK_pR, aI_pI, aI_pR, aR_pI, aR_pR, aN_pI, aN_pR, aK_pN, aI_pN, aR_pN, aN_pN, n_a_q1, Ne.symm n_a_q1]
  have fg : aI h_5 2 q1 = 0 := by simp [e_1, e_2, e_3, e_4, e_5, aK_pI, aK_pR, aI_pI, aI_pR, aR_pI, aR_pR, aN_pI, aN_pR, aK_pN, aI_pN, aR_pN, aN_pN, n_a_q1, Ne.symm n_a_q1]
  refine k_v hH (k_runI (rest := [.ref (q1), .ref (a)]) C0 hH (cC_X0_init l G A h_5 q1 kq1) mv_X0_init ml_X4_25 rfl ⟨Nat.le_of_ble_eq_true rfl, Nat.le_of_ble_eq_true rfl⟩ hl.1 rfl (Nat.le_of_ble_eq_true rfl) dX4_init_30 ⟨by show _ ≤ 3; omega, by show _ ≤ 83; omega⟩) (fun h8 H locs hp hH => ?_)
  obtain ⟨q8, q9, ⟨w1, w2, w3, w4, w5⟩, ⟨z1, z2, z3, z4, z5⟩, n_q8_q9, y1, y2, y3, y4, y5⟩ := hp
  have n_a_q8 : a ≠ q8 := fun z => by rw [z, w1] at hk; exact absurd hk (by decide)
  have n_a_q9 : a ≠ q9 := fun z => by rw [z, z1] at hk; exact absurd hk (by decide)
  have n_q1_q8 : q1 ≠ q8 := fun z => by rw [z, w1] at kq1; exact absurd kq1 (by decide)
  have n_q1_q9 : q1 ≠ q9 := fun z => by rw [z, z1] at kq1; exact absurd kq1 (by decide)
  have sa := y5 a (by simp [n_a_q1, n_a_q8, n_a_q9])
  have w10 : aK h q8 = 0 := by simpa [e_1, e_2, e_3, e_4, e_5, aK_pI, aK_pR, aK_pN, Ne.symm n_q1_q8] using w1
  have z10 : aK h q9 = 0 := by simpa [e_1, e_2, e_3, e_4, e_5, aK_pI, aK_pR, aK_pN, Ne.symm n_q1_q9] using z1
  have x_1 : SameX h h_1 (fun y => y = a ∨ y = q1 ∨ y = q8 ∨ y = q9) := sx_in (SameX.refl h _) (by rw [e_1]; exact SameX.pI _ _ _ _) (fun y hy => by simp only [hy]; simp)
  have x_2 : SameX h h_2 (fun y => y = a ∨ y = q1 ∨ y = q8 ∨ y = q9) := sx_in x_1 (by rw [e_2]; exact SameX.pR _ _ _ _) (fun y hy => by simp only [hy]; simp)
  have x_3 : SameX h h_3 (fun y => y = a ∨ y = q1 ∨ y = q8 ∨ y = q9) := sx_in x_2 (by rw [e_3]; exact SameX.pR _ _ _ _) (fun y hy => by simp only [hy]; simp)
  have x_4 : SameX h h_4 (fun y => y = a ∨ y = q1 ∨ y = q8 ∨ y = q9) := sx_in x_3 (by rw [e_4]; exact SameX.pI _ _ _ _) (fun y hy => by simp only [hy]; simp)
  have x_5 : SameX h h_5 (fun y => y = a ∨ y = q1 ∨ y = q8 ∨ y = q9) := sx_in x_4 (by rw [e_5]; exact SameX.pN _ _ _ _) (fun y hy => by simp only [hy]; simp)
  have x9 : SameX h h8 (fun y => y = a ∨ y = q1 ∨ y = q8 ∨ y = q9) := sx_in x_5 y5 (fun y hy => Or.inr hy)
  have hk : aK h8 a = 8 := by rw [sa.1]; exact hk
  rw [← sa.2.1 0] at f0
  rw [← sa.2.1 3] at f3
  rw [← sa.2.2.1 1] at f1
  rw [← sa.2.2.1 2] at f2
  rw [← y4] at fg
  refine o_putFR (x := some q1) hx hb hts hown hK hH ci_8 hk (j := 4) rfl rfl fl_X4_26 rfl hin rfl (fun x => by cases x <;> exact ⟨rfl, rfl⟩) dX4_init_33 (fun H locs hH => ?_)
  obtain ⟨h_6, e_6⟩ : ∃ z, z = pR h8 4 a (some q1) := ⟨_, rfl⟩
  rw [← e_6] at hH
  have hk : aK h_6 a = 8 := by rw [e_6]; exact hk
  refine lv_aload_n hx hb dX4_init_36 rfl (lv_at hl 0 rfl) ?_
  refine lv_iconst (v := 1) hx hb dX4_init_37 (by decide) ?_
  refine o_putI hx hb hts hown hK hH ci_8 hk (j := 8) rfl rfl fl_X4_30 rfl (by decide) (by decide) dX4_init_38 (fun H locs hH => ?_)
  obtain ⟨h_7, e_7⟩ : ∃ z, z = pI h_6 8 a 1 := ⟨_, rfl⟩
  rw [← e_7] at hH
  have hk : aK h_7 a = 8 := by rw [e_7]; exact hk
  have x_e_6 : SameX h h_6 (fun y => y = a ∨ y = q1 ∨ y = q8 ∨ y = q9) := sx_in x9 (by rw [e_6]; exact SameX.pR _ _ _ _) (fun y hy => by simp only [hy]; simp)
  have x_e_7 : SameX h h_7 (fun y => y = a ∨ y = q1 ∨ y = q8 ∨ y = q9) := sx_in x_e_6 (by rw [e_7]; exact SameX.pI _ _ _ _) (fun y hy => by simp only [hy]; simp)
  exact e_V C0 hr hH ⟨q1, q8, q9, hg0, Ne.symm n_a_q1, ⟨w10, by simp [e_6, e_7, aK_pI, aK_pR, aI_pI, aI_pR, aR_pI, aR_pR, aN_pI, aN_pR, aK_pN, aI_pN, aR_pN, aN_pN, f0, f1, f2, f3, fg, y1, y2, y3, w2, w3, w4, w5, z2, z3, z4, z5, n_a_q1, n_a_q8, n_a_q9, Ne.symm n_a_q1, Ne.symm n_a_q8, Ne.symm n_a_q9, hk], by simp [e_6, e_7, aK_pI, aK_pR, aI_pI, aI_pR, aR_pI, aR_pR, aN_pI, aN_pR, aK_pN, aI_pN, aR_pN, aN_pN, f0, f1, f2, f3, fg, y1, y2, y3, w2, w3, w4, w5, z2, z3, z4, z5, n_a_q1, n_a_q8, n_a_q9, Ne.symm n_a_q1, Ne.symm n_a_q8, Ne.symm n_a_q9, hk], fun k => by simp [e_6, e_7, aK_pI, aK_pR, aI_pI, aI_pR, aR_pI, aR_pR, aN_pI, aN_pR, aK_pN, aI_pN, aR_pN, aN_pN, f0, f1, f2, f3, fg, y1, y2, y3, w2, w3, w4, w5, z2, z3, z4, z5, n_a_q1, n_a_q8, n_a_q9, Ne.symm n_a_q1, Ne.symm n_a_q8, Ne.symm n_a_q9, hk], fun k => by simp [e_6, e_7, aK_pI, aK_pR, aI_pI, aI_pR, aR_pI, aR_pR, aN_pI, aN_pR, aK_pN, aI_pN, aR_pN, aN_pN, f0, f1, f2, f3, fg, y1, y2, y3, w2, w3, w4, w5, z2, z3, z4, z5, n_a_q1, n_a_q8, n_a_q9, Ne.symm n_a_q1, Ne.symm n_a_q8, Ne.symm n_a_q9, hk]⟩, ⟨z10, by simp [e_6, e_7, aK_pI, aK_pR, aI_pI, aI_pR, aR_pI, aR_pR, aN_pI, aN_pR, aK_pN, aI_pN, aR_pN, aN_pN, f0, f1, f2, f3, fg, y1, y2, y3, w2, w3, w4, w5, z2, z3, z4, z5, n_a_q1, n_a_q8, n_a_q9, Ne.symm n_a_q1, Ne.symm n_a_q8, Ne.symm n_a_q9, hk], by simp [e_6, e_7, aK_pI, aK_pR, aI_pI, aI_pR, aR_pI, aR_pR, aN_pI, aN_pR, aK_pN, aI_pN, aR_pN, aN_pN, f0, f1, f2, f3, fg, y1, y2, y3, w2, w3, w4, w5, z2, z3, z4, z5, n_a_q1, n_a_q8, n_a_q9, Ne.symm n_a_q1, Ne.symm n_a_q8, Ne.symm n_a_q9, hk], fun k => by simp [e_6, e_7, aK_pI, aK_pR, aI_pI, aI_pR, aR_pI, aR_pR, aN_pI, aN_pR, aK_pN, aI_pN, aR_pN, aN_pN, f0, f1, f2, f3, fg, y1, y2, y3, w2, w3, w4, w5, z2, z3, z4, z5, n_a_q1, n_a_q8, n_a_q9, Ne.symm n_a_q1, Ne.symm n_a_q8, Ne.symm n_a_q9, hk], fun k => by simp [e_6, e_7, aK_pI, aK_pR, aI_pI, aI_pR, aR_pI, aR_pR, aN_pI, aN_pR, aK_pN, aI_pN, aR_pN, aN_pN, f0, f1, f2, f3, fg, y1, y2, y3, w2, w3, w4, w5, z2, z3, z4, z5, n_a_q1, n_a_q8, n_a_q9, Ne.symm n_a_q1, Ne.symm n_a_q8, Ne.symm n_a_q9, hk]⟩, n_q8_q9, Ne.symm n_q1_q8, Ne.symm n_q1_q9, Ne.symm n_a_q8, Ne.symm n_a_q9, by simp [e_6, e_7, aK_pI, aK_pR, aI_pI, aI_pR, aR_pI, aR_pR, aN_pI, aN_pR, aK_pN, aI_pN, aR_pN, aN_pN, f0, f1, f2, f3, fg, y1, y2, y3, w2, w3, w4, w5, z2, z3, z4, z5, n_a_q1, n_a_q8, n_a_q9, Ne.symm n_a_q1, Ne.symm n_a_q8, Ne.symm n_a_q9, hk], by simp [e_6, e_7, aK_pI, aK_pR, aI_pI, aI_pR, aR_pI, aR_pR, aN_pI, aN_pR, aK_pN, aI_pN, aR_pN, aN_pN, f0, f1, f2, f3, fg, y1, y2, y3, w2, w3, w4, w5, z2, z3, z4, z5, n_a_q1, n_a_q8, n_a_q9, Ne.symm n_a_q1, Ne.symm n_a_q8, Ne.symm n_a_q9, hk], by simp [e_6, e_7, aK_pI, aK_pR, aI_pI, aI_pR, aR_pI, aR_pR, aN_pI, aN_pR, aK_pN, aI_pN, aR_pN, aN_pN, f0, f1, f2, f3, fg, y1, y2, y3, w2, w3, w4, w5, z2, z3, z4, z5, n_a_q1, n_a_q8, n_a_q9, Ne.symm n_a_q1, Ne.symm n_a_q8, Ne.symm n_a_q9, hk], by simp [e_6, e_7, aK_pI, aK_pR, aI_pI, aI_pR, aR_pI, aR_pR, aN_pI, aN_pR, aK_pN, aI_pN, aR_pN, aN_pN, f0, f1, f2, f3, fg, y1, y2, y3, w2, w3, w4, w5, z2, z3, z4, z5, n_a_q1, n_a_q8, n_a_q9, Ne.symm n_a_q1, Ne.symm n_a_q8, Ne.symm n_a_q9, hk], hk, by simp [e_6, e_7, aK_pI, aK_pR, aI_pI, aI_pR, aR_pI, aR_pR, aN_pI, aN_pR, aK_pN, aI_pN, aR_pN, aN_pN, f0, f1, f2, f3, fg, y1, y2, y3, w2, w3, w4, w5, z2, z3, z4, z5, n_a_q1, n_a_q8, n_a_q9, Ne.symm n_a_q1, Ne.symm n_a_q8, Ne.symm n_a_q9, hk], by simp [e_6, e_7, aK_pI, aK_pR, aI_pI, aI_pR, aR_pI, aR_pR, aN_pI, aN_pR, aK_pN, aI_pN, aR_pN, aN_pN, f0, f1, f2, f3, fg, y1, y2, y3, w2, w3, w4, w5, z2, z3, z4, z5, n_a_q1, n_a_q8, n_a_q9, Ne.symm n_a_q1, Ne.symm n_a_q8, Ne.symm n_a_q9, hk], by simp [e_6, e_7, aK_pI, aK_pR, aI_pI, aI_pR, aR_pI, aR_pR, aN_pI, aN_pR, aK_pN, aI_pN, aR_pN, aN_pN, f0, f1, f2, f3, fg, y1, y2, y3, w2, w3, w4, w5, z2, z3, z4, z5, n_a_q1, n_a_q8, n_a_q9, Ne.symm n_a_q1, Ne.symm n_a_q8, Ne.symm n_a_q9, hk], by simp [e_6, e_7, aK_pI, aK_pR, aI_pI, aI_pR, aR_pI, aR_pR, aN_pI, aN_pR, aK_pN, aI_pN, aR_pN, aN_pN, f0, f1, f2, f3, fg, y1, y2, y3, w2, w3, w4, w5, z2, z3, z4, z5, n_a_q1, n_a_q8, n_a_q9, Ne.symm n_a_q1, Ne.symm n_a_q8, Ne.symm n_a_q9, hk], by simp [e_6, e_7, aK_pI, aK_pR, aI_pI, aI_pR, aR_pI, aR_pR, aN_pI, aN_pR, aK_pN, aI_pN, aR_pN, aN_pN, f0, f1, f2, f3, fg, y1, y2, y3, w2, w3, w4, w5, z2, z3, z4, z5, n_a_q1, n_a_q8, n_a_q9, Ne.symm n_a_q1, Ne.symm n_a_q8, Ne.symm n_a_q9, hk], by simp [e_6, e_7, aK_pI, aK_pR, aI_pI, aI_pR, aR_pI, aR_pR, aN_pI, aN_pR, aK_pN, aI_pN, aR_pN, aN_pN, f0, f1, f2, f3, fg, y1, y2, y3, w2, w3, w4, w5, z2, z3, z4, z5, n_a_q1, n_a_q8, n_a_q9, Ne.symm n_a_q1, Ne.symm n_a_q8, Ne.symm n_a_q9, hk], x_e_7⟩ (by show _ ≤ 3; omega) (by show _ ≤ 83; omega) dX4_init_41
set_option maxHeartbeats 800000 in
set_option maxRecDepth 100000 in
theorem cC_X5_init (l : Launch) (G : GT) (A : Nat → Prop) (h : AH) (a n o d : Nat) (vol ser now : Int32) (hk : aK h a = 9) (hz1 : ∀ j, aI h j a = 0) (hz2 : ∀ j, aR h j a = none) : cmV l G A yX5_init cX5_init 7 5 92 3 5 [.ref (a), .int (nI n), .ref (o), .ref (d), .int (vol), .int (ser), .int (now)] h (fun h' => NewParcel G.2.2.1 h h' a n o d vol ser now) := by
  refine cm_of "Routepost$Parcel" rfl (by decide) (Nat.le_of_ble_eq_true rfl) ?_
  intro pr e s m9 below meth c C0 hr hname hH ls hl
  obtain ⟨hx, hb, hml, hown, hts, hK, hA, -⟩ := id C0
  have hl : lv_has ls 7 [(0, .ref (a)), (1, .int (nI n)), (2, .ref (o)), (3, .ref (d)), (4, .int (vol)), (5, .int (ser)), (6, .int (now))] := hl
  have hin : meth.name = "<init>" := hname
  refine lv_aload_n hx hb dX5_init_0 rfl (lv_at hl 0 rfl) ?_
  refine o_objI C0 ml_X5_3 hl.1 dX5_init_1 (Nat.le_of_ble_eq_true rfl) (Nat.le_of_ble_eq_true rfl) ?_
  refine lv_aload_n hx hb dX5_init_4 rfl (lv_at hl 0 rfl) ?_
  refine lv_iload_n hx hb dX5_init_5 rfl (lv_at hl 1 rfl) ?_
  refine o_putFI hx hb hts hown hK hH ci_9 hk (j := 0) rfl rfl fl_X5_9 rfl hin rfl rfl rfl dX5_init_6 (fun H locs hH => ?_)
  obtain ⟨h_1, e_1⟩ : ∃ z, z = pI h 0 a (nI n) := ⟨_, rfl⟩
  rw [← e_1] at hH
  have hk : aK h_1 a = 9 := by rw [e_1]; exact hk
  refine lv_aload_n hx hb dX5_init_9 rfl (lv_at hl 0 rfl) ?_
  refine lv_iload hx hb dX5_init_10 (lv_at hl 4 rfl) ?_
  refine o_putFI hx hb hts hown hK hH ci_9 hk (j := 1) rfl rfl fl_X5_15 rfl hin rfl rfl rfl dX5_init_12 (fun H locs hH => ?_)
  obtain ⟨h_2, e_2⟩ : ∃ z, z = pI h_1 1 a vol := ⟨_, rfl⟩
  rw [← e_2] at hH
  have hk : aK h_2 a = 9 := by rw [e_2]; exact hk
  refine lv_aload_n hx hb dX5_init_15 rfl (lv_at hl 0 rfl) ?_
  refine lv_iload hx hb dX5_init_16 (lv_at hl 5 rfl) ?_
  refine o_putFI hx hb hts hown hK hH ci_9 hk (j := 2) rfl rfl fl_X5_18 rfl hin rfl rfl rfl dX5_init_18 (fun H locs hH => ?_)
  obtain ⟨h_3, e_3⟩ : ∃ z, z = pI h_2 2 a ser := ⟨_, rfl⟩
  rw [← e_3] at hH
  have hk : aK h_3 a = 9 := by rw [e_3]; exact hk
  refine lv_aload_n hx hb dX5_init_21 rfl (lv_at hl 0 rfl) ?_
  refine lv_aload_n hx hb dX5_init_22 rfl (lv_at hl 2 rfl) ?_
  refine o_putFR (x := some o) hx hb hts hown hK hH ci_9 hk (j := 4) rfl rfl fl_X5_21 rfl hin rfl (fun x => by cases x <;> exact ⟨rfl, rfl⟩) dX5_init_23 (fun H locs hH => ?_)
  obtain ⟨h_4, e_4⟩ : ∃ z, z = pR h_3 4 a (some o) := ⟨_, rfl⟩
  rw [← e_4] at hH
  have hk : aK h_4 a = 9 := by rw [e_4]; exact hk
  refine lv_aload_n hx hb dX5_init_26 rfl (lv_at hl 0 rfl) ?_
  refine lv_aload_n hx hb dX5_init_27 rfl (lv_at hl 3 rfl) ?_
  refine o_putR (x := some d) hx hb hts hown hK hH ci_9 hk (j := 6) rfl rfl fl_X5_25 rfl (fun x => by cases x <;> exact ⟨rfl, rfl⟩) dX5_init_28 (fun H locs hH => ?_)
  obtain ⟨h_5, e_5⟩ : ∃ z, z = pR h_4 6 a (some d) := ⟨_, rfl⟩
  rw [← e_5] at hH
  have hk : aK h_5 a = 9 := by rw [e_5]; exact hk
  refine lv_aload_n hx hb dX5_init_31 rfl (lv_at hl 0 rfl) ?_
  refine lv_iload hx hb dX5_init_32 (lv_at hl 6 rfl) ?_
  refine o_putFI hx hb hts hown hK hH ci_9 hk (j := 3) rfl rfl fl_X5_28 rfl hin rfl rfl rfl dX5_init_34 (fun H locs hH => ?_)
  obtain ⟨h_6, e_6⟩ : ∃ z, z = pI h_5 3 a now := ⟨_, rfl⟩
  rw [← e_6] at hH
  have hk : aK h_6 a = 9 := by rw [e_6]; exact hk
  refine lv_aload_n hx hb dX5_init_37 rfl (lv_at hl 0 rfl) ?_
  refine lv_aload_n hx hb dX5_init_38 rfl (lv_at hl 2 rfl) ?_
  refine o_putR (x := some o) hx hb hts hown hK hH ci_9 hk (j := 7) rfl rfl fl_X5_31 rfl (fun x => by cases x <;> exact ⟨rfl, rfl⟩) dX5_init_39 (fun H locs hH => ?_)
  obtain ⟨h_7, e_7⟩ : ∃ z, z = pR h_6 7 a (some o) := ⟨_, rfl⟩
  rw [← e_7] at hH
  have hk : aK h_7 a = 9 := by rw [e_7]; exact hk
  refine lv_aload_n hx hb dX5_init_42 rfl (lv_at hl 0 rfl) ?_
  refine o_new hx hb hts hown hK hA hH ci_6 cl_X5_34 im_X2 in_X2 (fun j hj => by rcases (by omega : j = 0 ∨ j = 1) with rfl | rfl <;> rfl) (by show _ ≤ 3; omega) (by show _ ≤ 5; omega) dX5_init_43 (fun q1 H hq1 hqs hH => ?_)
  have n_a_q1 : a ≠ q1 := fun z => by rw [z, hq1] at hk; exact absurd hk (by decide)
  obtain ⟨h_8, e_8⟩ : ∃ z, z = pN h_7 q1 6 0 := ⟨_, rfl⟩
  rw [← e_8] at hH
  have hk : aK h_8 a = 9 := by rw [e_8, aK_pN, if_neg n_a_q1]; exact hk
  have kq1 : aK h_8 q1 = 6 := by rw [e_8, aK_pN, if_pos rfl]
  refine lv_dup hx hb dX5_init_46 rfl ?_
  have hg0 : aK h q1 = 0 := by simpa [e_1, e_2, e_3, e_4, e_5, e_6, e_7, aK_pI, aK_pR] using hq1
  have f0 : aI h_8 0 a = nI n := by simp [e_1, e_2, e_3, e_4, e_5, e_6, e_7, e_8, aK_pI, aK_pR, aI_pI, aI_pR, aR_pI, aR_pR, aN_pI, aN_pR, aK_pN, aI_pN, aR_pN, aN_pN, n_a_q1, Ne.symm n_a_q1, hz1, hz2]
  have f1 : aI h_8 1 a = vol := by simp [e_1, e_2, e_3, e_4, e_5, e_6, e_7, e_8, aK_pI, aK_pR, aI_pI, aI_pR, aR_pI, aR_pR, aN_pI, aN_pR, aK_pN, aI_pN, aR_pN, aN_pN, n_a_q1, Ne.symm n_a_q1, hz1, hz2]
  have f2 : aI h_8 2 a = ser := by simp [e_1, e_2, e_3, e_4, e_5, e_6, e_7, e_8, aK_pI, aK_pR, aI_pI, aI_pR, aR_pI, aR_pR, aN_pI, aN_pR, aK_pN, aI_pN, aR_pN, aN_pN, n_a_q1, Ne.symm n_a_q1, hz1, hz2]
  have f3 : aI h_8 3 a = now := by simp [e_1, e_2, e_3, e_4, e_5, e_6, e_7, e_8, aK_pI, aK_pR, aI_pI, aI_pR, aR_pI, aR_pR, aN_pI, aN_pR, aK_pN, aI_pN, aR_pN, aN_pN, n_a_q1, Ne.symm n_a_q1, hz1, hz2]
  have f4 : aR h_8 4 a = some o := by simp [e_1, e_2, e_3, e_4, e_5, e_6, e_7, e_8, aK_pI, aK_pR, aI_pI, aI_pR, aR_pI, aR_pR, aN_pI, aN_pR, aK_pN, aI_pN, aR_pN, aN_pN, n_a_q1, Ne.symm n_a_q1, hz1, hz2]
  have f6 : aR h_8 6 a = some d := by simp [e_1, e_2, e_3, e_4, e_5, e_6, e_7, e_8, aK_pI, aK_pR, aI_pI, aI_pR, aR_pI, aR_pR, aN_pI, aN_pR, aK_pN, aI_pN, aR_pN, aN_pN, n_a_q1, Ne.symm n_a_q1, hz1, hz2]
  have f7 : aR h_8 7 a = some o := by simp [e_1, e_2, e_3, e_4, e_5, e_6, e_7, e_8, aK_pI, aK_pR, aI_pI, aI_pR, aR_pI, aR_pR, aN_pI, aN_pR, aK_pN, aI_pN, aR_pN, aN_pN, n_a_q1, Ne.symm n_a_q1, hz1, hz2]
  have fI : ∀ j, ¬ (j = 0 ∨ j = 1 ∨ j = 2 ∨ j = 3) → aI h_8 j a = 0 := fun j hj => by simp [e_1, e_2, e_3, e_4, e_5, e_6, e_7, e_8, aK_pI, aK_pR, aI_pI, aI_pR, aR_pI, aR_pR, aN_pI, aN_pR, aK_pN, aI_pN, aR_pN, aN_pN, n_a_q1, Ne.symm n_a_q1, hz1, hz2, show j ≠ 0 by omega, show j ≠ 1 by omega, show j ≠ 2 by omega, show j ≠ 3 by omega]
  have fR : ∀ j, ¬ (j = 4 ∨ j = 6 ∨ j = 7) → aR h_8 j a = none := fun j hj => by simp [e_1, e_2, e_3, e_4, e_5, e_6, e_7, e_8, aK_pI, aK_pR, aI_pI, aI_pR, aR_pI, aR_pR, aN_pI, aN_pR, aK_pN, aI_pN, aR_pN, aN_pN, n_a_q1, Ne.symm n_a_q1, hz1, hz2, show j ≠ 4 by omega, show j ≠ 6 by omega, show j ≠ 7 by omega]
  have fg : aI h_8 1 q1 = 0 := by simp [e_1, e_2, e_3, e_4, e_5, e_6, e_7, e_8, aK_pI, aK_pR, aI_pI, aI_pR, aR_pI, aR_pR, aN_pI, aN_pR, aK_pN, aI_pN, aR_pN, aN_pN, n_a_q1, Ne.symm n_a_q1, hz1, hz2]
  refine k_v hH (k_runI (rest := [.ref (q1), .ref (a)]) C0 hH (cC_X2_init l G A h_8 q1 kq1) mv_X2_init ml_X5_36 rfl ⟨Nat.le_of_ble_eq_true rfl, Nat.le_of_ble_eq_true rfl⟩ hl.1 rfl (Nat.le_of_ble_eq_true rfl) dX5_init_47 ⟨by show _ ≤ 3; omega, by show _ ≤ 5; omega⟩) (fun h8 H locs hp hH => ?_)
  obtain ⟨q8, w1, w2, w3, w4, y1, y2, y4, y5⟩ := hp
  have n_a_q8 : a ≠ q8 := fun z => by rw [z, w1] at hk; exact absurd hk (by decide)
  have n_q1_q8 : q1 ≠ q8 := fun z => by rw [z, w1] at kq1; exact absurd kq1 (by decide)
  have sa := y5 a (by simp [n_a_q1, n_a_q8])
  have w10 : aK h q8 = 0 := by simpa [e_1, e_2, e_3, e_4, e_5, e_6, e_7, e_8, aK_pI, aK_pR, aK_pN, Ne.symm n_q1_q8] using w1
  have x_1 : SameX h h_1 (fun y => y = a ∨ y = q1 ∨ y = q8) := sx_in (SameX.refl h _) (by rw [e_1]; exact SameX.pI _ _ _ _) (fun y hy => by simp only [hy]; simp)
  have x_2 : SameX h h_2 (fun y => y = a ∨ y = q1 ∨ y = q8) := sx_in x_1 (by rw [e_2]; exact SameX.pI _ _ _ _) (fun y hy => by simp only [hy]; simp)
  have x_3 : SameX h h_3 (fun y => y = a ∨ y = q1 ∨ y = q8) := sx_in x_2 (by rw [e_3]; exact SameX.pI _ _ _ _) (fun y hy => by simp only [hy]; simp)
  have x_4 : SameX h h_4 (fun y => y = a ∨ y = q1 ∨ y = q8) := sx_in x_3 (by rw [e_4]; exact SameX.pR _ _ _ _) (fun y hy => by simp only [hy]; simp)
  have x_5 : SameX h h_5 (fun y => y = a ∨ y = q1 ∨ y = q8) := sx_in x_4 (by rw [e_5]; exact SameX.pR _ _ _ _) (fun y hy => by simp only [hy]; simp)
  have x_6 : SameX h h_6 (fun y => y = a ∨ y = q1 ∨ y = q8) := sx_in x_5 (by rw [e_6]; exact SameX.pI _ _ _ _) (fun y hy => by simp only [hy]; simp)
  have x_7 : SameX h h_7 (fun y => y = a ∨ y = q1 ∨ y = q8) := sx_in x_6 (by rw [e_7]; exact SameX.pR _ _ _ _) (fun y hy => by simp only [hy]; simp)
  have x_8 : SameX h h_8 (fun y => y = a ∨ y = q1 ∨ y = q8) := sx_in x_7 (by rw [e_8]; exact SameX.pN _ _ _ _) (fun y hy => by simp only [hy]; simp)
  have x9 : SameX h h8 (fun y => y = a ∨ y = q1 ∨ y = q8) := sx_in x_8 y5 (fun y hy => Or.inr hy)
  have hk : aK h8 a = 9 := by rw [sa.1]; exact hk
  rw [← sa.2.1 0] at f0
  rw [← sa.2.1 1] at f1
  rw [← sa.2.1 2] at f2
  rw [← sa.2.1 3] at f3
  rw [← sa.2.2.1 4] at f4
  rw [← sa.2.2.1 6] at f6
  rw [← sa.2.2.1 7] at f7
  rw [← y4] at fg
  replace fI : ∀ j, ¬ (j = 0 ∨ j = 1 ∨ j = 2 ∨ j = 3) → aI h8 j a = 0 := fun j hj => by rw [sa.2.1]; exact fI j hj
  replace fR : ∀ j, ¬ (j = 4 ∨ j = 6 ∨ j = 7) → aR h8 j a = none := fun j hj => by rw [sa.2.2.1]; exact fR j hj
  refine o_putFR (x := some q1) hx hb hts hown hK hH ci_9 hk (j := 5) rfl rfl fl_X5_37 rfl hin rfl (fun x => by cases x <;> exact ⟨rfl, rfl⟩) dX5_init_50 (fun H locs hH => ?_)
  obtain ⟨h_9, e_9⟩ : ∃ z, z = pR h8 5 a (some q1) := ⟨_, rfl⟩
  rw [← e_9] at hH
  have hk : aK h_9 a = 9 := by rw [e_9]; exact hk
  refine lv_aload_n hx hb dX5_init_53 rfl (lv_at hl 0 rfl) ?_
  refine lv_iconst (v := (-1)) hx hb dX5_init_54 (by decide) ?_
  refine o_putI hx hb hts hown hK hH ci_9 hk (j := 13) rfl rfl fl_X5_41 rfl rfl rfl dX5_init_55 (fun H locs hH => ?_)
  obtain ⟨h_10, e_10⟩ : ∃ z, z = pI h_9 13 a (-1) := ⟨_, rfl⟩
  rw [← e_10] at hH
  have hk : aK h_10 a = 9 := by rw [e_10]; exact hk
  have x_e_9 : SameX h h_9 (fun y => y = a ∨ y = q1 ∨ y = q8) := sx_in x9 (by rw [e_9]; exact SameX.pR _ _ _ _) (fun y hy => by simp only [hy]; simp)
  have x_e_10 : SameX h h_10 (fun y => y = a ∨ y = q1 ∨ y = q8) := sx_in x_e_9 (by rw [e_10]; exact SameX.pI _ _ _ _) (fun y hy => by simp only [hy]; simp)
  exact e_V C0 hr hH ⟨q1, q8, hg0, Ne.symm n_a_q1, w10, Ne.symm n_q1_q8, Ne.symm n_a_q8, by simp [e_9, e_10, aK_pI, aK_pR, aI_pI, aI_pR, aR_pI, aR_pR, aN_pI, aN_pR, aK_pN, aI_pN, aR_pN, aN_pN, f0, f1, f2, f3, f4, f6, f7, fg, y1, y2, w2, w3, w4, n_a_q1, n_a_q8, Ne.symm n_a_q1, Ne.symm n_a_q8, hk], by simp [e_9, e_10, aK_pI, aK_pR, aI_pI, aI_pR, aR_pI, aR_pR, aN_pI, aN_pR, aK_pN, aI_pN, aR_pN, aN_pN, f0, f1, f2, f3, f4, f6, f7, fg, y1, y2, w2, w3, w4, n_a_q1, n_a_q8, Ne.symm n_a_q1, Ne.symm n_a_q8, hk], by simp [e_9, e_10, aK_pI, aK_pR, aI_pI, aI_pR, aR_pI, aR_pR, aN_pI, aN_pR, aK_pN, aI_pN, aR_pN, aN_pN, f0, f1, f2, f3, f4, f6, f7, fg, y1, y2, w2, w3, w4, n_a_q1, n_a_q8, Ne.symm n_a_q1, Ne.symm n_a_q8, hk], by simp [e_9, e_10, aK_pI, aK_pR, aI_pI, aI_pR, aR_pI, aR_pR, aN_pI, aN_pR, aK_pN, aI_pN, aR_pN, aN_pN, f0, f1, f2, f3, f4, f6, f7, fg, y1, y2, w2, w3, w4, n_a_q1, n_a_q8, Ne.symm n_a_q1, Ne.symm n_a_q8, hk], by simp [e_9, e_10, aK_pI, aK_pR, aI_pI, aI_pR, aR_pI, aR_pR, aN_pI, aN_pR, aK_pN, aI_pN, aR_pN, aN_pN, f0, f1, f2, f3, f4, f6, f7, fg, y1, y2, w2, w3, w4, n_a_q1, n_a_q8, Ne.symm n_a_q1, Ne.symm n_a_q8, hk], by simp [e_9, e_10, aK_pI, aK_pR, aI_pI, aI_pR, aR_pI, aR_pR, aN_pI, aN_pR, aK_pN, aI_pN, aR_pN, aN_pN, f0, f1, f2, f3, f4, f6, f7, fg, y1, y2, w2, w3, w4, n_a_q1, n_a_q8, Ne.symm n_a_q1, Ne.symm n_a_q8, hk], hk, by simp [e_9, e_10, aK_pI, aK_pR, aI_pI, aI_pR, aR_pI, aR_pR, aN_pI, aN_pR, aK_pN, aI_pN, aR_pN, aN_pN, f0, f1, f2, f3, f4, f6, f7, fg, y1, y2, w2, w3, w4, n_a_q1, n_a_q8, Ne.symm n_a_q1, Ne.symm n_a_q8, hk], by simp [e_9, e_10, aK_pI, aK_pR, aI_pI, aI_pR, aR_pI, aR_pR, aN_pI, aN_pR, aK_pN, aI_pN, aR_pN, aN_pN, f0, f1, f2, f3, f4, f6, f7, fg, y1, y2, w2, w3, w4, n_a_q1, n_a_q8, Ne.symm n_a_q1, Ne.symm n_a_q8, hk], by simp [e_9, e_10, aK_pI, aK_pR, aI_pI, aI_pR, aR_pI, aR_pR, aN_pI, aN_pR, aK_pN, aI_pN, aR_pN, aN_pN, f0, f1, f2, f3, f4, f6, f7, fg, y1, y2, w2, w3, w4, n_a_q1, n_a_q8, Ne.symm n_a_q1, Ne.symm n_a_q8, hk], by simp [e_9, e_10, aK_pI, aK_pR, aI_pI, aI_pR, aR_pI, aR_pR, aN_pI, aN_pR, aK_pN, aI_pN, aR_pN, aN_pN, f0, f1, f2, f3, f4, f6, f7, fg, y1, y2, w2, w3, w4, n_a_q1, n_a_q8, Ne.symm n_a_q1, Ne.symm n_a_q8, hk], by simp [e_9, e_10, aK_pI, aK_pR, aI_pI, aI_pR, aR_pI, aR_pR, aN_pI, aN_pR, aK_pN, aI_pN, aR_pN, aN_pN, f0, f1, f2, f3, f4, f6, f7, fg, y1, y2, w2, w3, w4, n_a_q1, n_a_q8, Ne.symm n_a_q1, Ne.symm n_a_q8, hk], by simp [e_9, e_10, aK_pI, aK_pR, aI_pI, aI_pR, aR_pI, aR_pR, aN_pI, aN_pR, aK_pN, aI_pN, aR_pN, aN_pN, f0, f1, f2, f3, f4, f6, f7, fg, y1, y2, w2, w3, w4, n_a_q1, n_a_q8, Ne.symm n_a_q1, Ne.symm n_a_q8, hk], by simp [e_9, e_10, aK_pI, aK_pR, aI_pI, aI_pR, aR_pI, aR_pR, aN_pI, aN_pR, aK_pN, aI_pN, aR_pN, aN_pN, f0, f1, f2, f3, f4, f6, f7, fg, y1, y2, w2, w3, w4, n_a_q1, n_a_q8, Ne.symm n_a_q1, Ne.symm n_a_q8, hk], by simp [e_9, e_10, aK_pI, aK_pR, aI_pI, aI_pR, aR_pI, aR_pR, aN_pI, aN_pR, aK_pN, aI_pN, aR_pN, aN_pN, f0, f1, f2, f3, f4, f6, f7, fg, y1, y2, w2, w3, w4, n_a_q1, n_a_q8, Ne.symm n_a_q1, Ne.symm n_a_q8, hk], by simp [e_9, e_10, aK_pI, aK_pR, aI_pI, aI_pR, aR_pI, aR_pR, aN_pI, aN_pR, aK_pN, aI_pN, aR_pN, aN_pN, f0, f1, f2, f3, f4, f6, f7, fg, y1, y2, w2, w3, w4, n_a_q1, n_a_q8, Ne.symm n_a_q1, Ne.symm n_a_q8, hk], hz1, hz2, x_e_10, fun j hj => by simp [e_9, e_10, aK_pI, aK_pR, aI_pI, aI_pR, aR_pI, aR_pR, aN_pI, aN_pR, aK_pN, aI_pN, aR_pN, aN_pN, f0, f1, f2, f3, f4, f6, f7, fg, y1, y2, w2, w3, w4, n_a_q1, n_a_q8, Ne.symm n_a_q1, Ne.symm n_a_q8, hk, show j ≠ 13 by omega]; exact fI j (by omega), fun j hj => by simp [e_9, e_10, aK_pI, aK_pR, aI_pI, aI_pR, aR_pI, aR_pR, aN_pI, aN_pR, aK_pN, aI_pN, aR_pN, aN_pN, f0, f1, f2, f3, f4, f6, f7, fg, y1, y2, w2, w3, w4, n_a_q1, n_a_q8, Ne.symm n_a_q1, Ne.symm n_a_q8, hk, show j ≠ 5 by omega]; exact fR j (by omega)⟩ (by show _ ≤ 3; omega) (by show _ ≤ 5; omega) dX5_init_58

