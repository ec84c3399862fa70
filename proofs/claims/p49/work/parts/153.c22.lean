/-! constructors: what a new thing looks like -/
def NewA (h h' : AH) (q K n : Nat) : Prop := aK h q = 0 ∧ aK h' q = K ∧ aN h' q = n ∧ (∀ k, aI h' k q = 0) ∧ (∀ k, aR h' k q = none)
def NewBags (h h' : AH) (a n : Nat) : Prop := ∃ q1 q2, NewA h h' q1 30 n ∧ NewA h h' q2 20 n ∧ q1 ≠ q2 ∧ aK h' a = 4 ∧ aR h' 0 a = some q1 ∧ aR h' 1 a = some q2 ∧ aI h' 2 a = aI h 2 a ∧ SameX h h' (fun y => y = a ∨ y = q1 ∨ y = q2)
def NewHist (E : Nat) (h h' : AH) (a : Nat) : Prop := ∃ q, aK h q = 0 ∧ aK h' q = 3 ∧ aI h' 2 q = 0 ∧ aR h' 1 q = some E ∧ aK h' a = 6 ∧ aR h' 0 a = some q ∧ aI h' 1 a = aI h 1 a ∧ SameX h h' (fun y => y = a ∨ y = q)
def NewSim (h h' : AH) (a : Nat) : Prop := ∃ q1 q2, NewA h h' q1 20 6 ∧ NewA h h' q2 20 6 ∧ q1 ≠ q2 ∧ aK h' a = 13 ∧ aR h' 0 a = some q1 ∧ aR h' 1 a = some q2 ∧ SameX h h' (fun y => y = a ∨ y = q1 ∨ y = q2)
theorem sx_in {P : Nat → Prop} {h h' h'' : AH} {Q : Nat → Prop} (a : SameX h h' P) (b : SameX h' h'' Q) (hQ : ∀ y, Q y → P y) : SameX h h'' P := (a.trans b).mono (fun y hy => hy.elim id (hQ y))
set_option maxHeartbeats 800000 in
set_option maxRecDepth 100000 in
theorem cC_X3_init (l : Launch) (G : GT) (A : Nat → Prop) (h : AH) (a n : Nat) (x t : Int32) (hk : aK h a = 7) : cmV l G A yX3_init cX3_init 4 1 12 0 0 [.ref (a), .int (nI n), .int (x), .int (t)] h (fun h' => h' = pI (pI (pI h 0 a (nI n)) 1 a x) 2 a t) := by
  refine cm_of "Routepost$Hub" rfl (by decide) (Nat.le_of_ble_eq_true rfl) ?_
  intro pr e s m9 below meth c C0 hr hname hH ls hl
  obtain ⟨hx, hb, hml, hown, hts, hK, hA, -⟩ := id C0
  have hl : lv_has ls 4 [(0, .ref (a)), (1, .int (nI n)), (2, .int (x)), (3, .int (t))] := hl
  have hin : meth.name = "<init>" := hname
  refine lv_aload_n hx hb dX3_init_0 rfl (lv_at hl 0 rfl) ?_
  refine o_objI C0 ml_X3_1 hl.1 dX3_init_1 (Nat.le_of_ble_eq_true rfl) (Nat.le_of_ble_eq_true rfl) ?_
  refine lv_aload_n hx hb dX3_init_4 rfl (lv_at hl 0 rfl) ?_
  refine lv_iload_n hx hb dX3_init_5 rfl (lv_at hl 1 rfl) ?_
  refine o_putFI hx hb hts hown hK hH ci_7 hk (j := 0) rfl rfl fl_X3_7 rfl hin rfl rfl rfl dX3_init_6 (fun H locs hH => ?_)
  obtain ⟨h_1, e_1⟩ : ∃ z, z = pI h 0 a (nI n) := ⟨_, rfl⟩
  rw [← e_1] at hH
  have hk : aK h_1 a = 7 := by rw [e_1]; exact hk
  refine lv_aload_n hx hb dX3_init_9 rfl (lv_at hl 0 rfl) ?_
  refine lv_iload_n hx hb dX3_init_10 rfl (lv_at hl 2 rfl) ?_
  refine o_putFI hx hb hts hown hK hH ci_7 hk (j := 1) rfl rfl fl_X3_13 rfl hin rfl rfl rfl dX3_init_11 (fun H locs hH => ?_)
  obtain ⟨h_2, e_2⟩ : ∃ z, z = pI h_1 1 a x := ⟨_, rfl⟩
  rw [← e_2] at hH
  have hk : aK h_2 a = 7 := by rw [e_2]; exact hk
  refine lv_aload_n hx hb dX3_init_14 rfl (lv_at hl 0 rfl) ?_
  refine lv_iload_n hx hb dX3_init_15 rfl (lv_at hl 3 rfl) ?_
  refine o_putFI hx hb hts hown hK hH ci_7 hk (j := 2) rfl rfl fl_X3_16 rfl hin rfl rfl rfl dX3_init_16 (fun H locs hH => ?_)
  obtain ⟨h_3, e_3⟩ : ∃ z, z = pI h_2 2 a t := ⟨_, rfl⟩
  rw [← e_3] at hH
  have hk : aK h_3 a = 7 := by rw [e_3]; exact hk
  exact e_V C0 hr hH (by rw [e_3, e_2, e_1]) (by omega) (by omega) dX3_init_19
set_option maxHeartbeats 800000 in
set_option maxRecDepth 100000 in
theorem cC_X0_init (l : Launch) (G : GT) (A : Nat → Prop) (h : AH) (a : Nat) (hk : aK h a = 4) : cmV l G A yX0_init cX0_init 1 1 12 2 80 [.ref (a)] h (fun h' => NewBags h h' a 40) := by
  refine cm_of "Routepost$Bags" rfl (by decide) (Nat.le_of_ble_eq_true rfl) ?_
  intro pr e s m9 below meth c C0 hr hname hH ls hl
  obtain ⟨hx, hb, hml, hown, hts, hK, hA, -⟩ := id C0
  have hl : lv_has ls 1 [(0, .ref (a))] := hl
  have hin : meth.name = "<init>" := hname
  refine lv_aload_n hx hb dX0_init_0 rfl (lv_at hl 0 rfl) ?_
  refine o_objI C0 ml_X0_3 hl.1 dX0_init_1 (Nat.le_of_ble_eq_true rfl) (Nat.le_of_ble_eq_true rfl) ?_
  refine lv_aload_n hx hb dX0_init_4 rfl (lv_at hl 0 rfl) ?_
  refine lv_bipush (v := 40) hx hb dX0_init_5 (by decide) ?_
  refine k_newq C0 hH cl_X0_9 ao_Routepost_Hub (t0 := 3) (K := 30) rfl (by omega) (n := 40) (N' := 40) (by decide) rfl (by omega) (by show _ ≤ 2; omega) (by show _ ≤ 80; omega) dX0_init_7 (fun q1 H hq1 hH => ?_)
  have n_a_q1 : a ≠ q1 := fun z => by rw [z, hq1] at hk; exact absurd hk (by decide)
  obtain ⟨h_1, e_1⟩ : ∃ z, z = pN h q1 30 40 := ⟨_, rfl⟩
  rw [← e_1] at hH
  have hk : aK h_1 a = 4 := by rw [e_1, aK_pN, if_neg n_a_q1]; exact hk
  have kq1 : aK h_1 q1 = 30 := by rw [e_1, aK_pN, if_pos rfl]
  refine o_putFR (x := some q1) hx hb hts hown hK hH ci_4 hk (j := 0) rfl rfl fl_X0_11 rfl hin rfl (fun x => by cases x <;> exact ⟨rfl, rfl⟩) dX0_init_10 (fun H locs hH => ?_)
  obtain ⟨h_2, e_2⟩ : ∃ z, z = pR h_1 0 a (some q1) := ⟨_, rfl⟩
  rw [← e_2] at hH
  have hk : aK h_2 a = 4 := by rw [e_2]; exact hk
  have kq1 : aK h_2 q1 = 30 := by rw [e_2]; exact kq1
  refine lv_aload_n hx hb dX0_init_13 rfl (lv_at hl 0 rfl) ?_
  refine lv_bipush (v := 40) hx hb dX0_init_14 (by decide) ?_
  refine o_newP (K := 20) (t0 := 0) C0 hH ac_int rfl rfl (by decide) (by decide) (n := 40) (N' := 40) (fun _ => rfl) (by decide) rfl (by show 40 * 4 ≤ _; omega) (by show _ ≤ 2; omega) (by show _ ≤ 80; omega) dX0_init_16 (fun q2 H hq2 hH => ?_)
  have n_a_q2 : a ≠ q2 := fun z => by rw [z, hq2] at hk; exact absurd hk (by decide)
  have n_q1_q2 : q1 ≠ q2 := fun z => by rw [z, hq2] at kq1; exact absurd kq1 (by decide)
  obtain ⟨h_3, e_3⟩ : ∃ z, z = pN h_2 q2 20 40 := ⟨_, rfl⟩
  rw [← e_3] at hH
  have hk : aK h_3 a = 4 := by rw [e_3, aK_pN, if_neg n_a_q2]; exact hk
  have kq1 : aK h_3 q1 = 30 := by rw [e_3, aK_pN, if_neg n_q1_q2]; exact kq1
  have kq2 : aK h_3 q2 = 20 := by rw [e_3, aK_pN, if_pos rfl]
  refine o_putFR (x := some q2) hx hb hts hown hK hH ci_4 hk (j := 1) rfl rfl fl_X0_17 rfl hin rfl (fun x => by cases x <;> exact ⟨rfl, rfl⟩) dX0_init_18 (fun H locs hH => ?_)
  obtain ⟨h_4, e_4⟩ : ∃ z, z = pR h_3 1 a (some q2) := ⟨_, rfl⟩
  rw [← e_4] at hH
  have hk : aK h_4 a = 4 := by rw [e_4]; exact hk
  have kq1 : aK h_4 q1 = 30 := by rw [e_4]; exact kq1
  have kq2 : aK h_4 q2 = 20 := by rw [e_4]; exact kq2
  have hq20 : aK h q2 = 0 := by rw [e_2, e_1] at hq2; exact (if_neg (Ne.symm n_q1_q2)).symm.trans hq2
  have x_1 : SameX h h_1 (fun y => y = a ∨ y = q1 ∨ y = q2) := sx_in (SameX.refl h _) (by rw [e_1]; exact SameX.pN _ _ _ _) (fun y hy => by simp only [hy]; simp)
  have x_2 : SameX h h_2 (fun y => y = a ∨ y = q1 ∨ y = q2) := sx_in x_1 (by rw [e_2]; exact SameX.pR _ _ _ _) (fun y hy => by simp only [hy]; simp)
  have x_3 : SameX h h_3 (fun y => y = a ∨ y = q1 ∨ y = q2) := sx_in x_2 (by rw [e_3]; exact SameX.pN _ _ _ _) (fun y hy => by simp only [hy]; simp)
  have x_4 : SameX h h_4 (fun y => y = a ∨ y = q1 ∨ y = q2) := sx_in x_3 (by rw [e_4]; exact SameX.pR _ _ _ _) (fun y hy => by simp only [hy]; simp)
  have ka9 := hk
  exact e_V C0 hr hH ⟨q1, q2, ⟨hq1, by simp [e_1, e_2, e_3, e_4, aK_pI, aK_pR, aI_pI, aI_pR, aR_pI, aR_pR, aN_pI, aN_pR, aK_pN, aI_pN, aR_pN, aN_pN, n_a_q1, n_a_q2, n_q1_q2, Ne.symm n_q1_q2, Ne.symm n_a_q1, Ne.symm n_a_q2], by simp [e_1, e_2, e_3, e_4, aK_pI, aK_pR, aI_pI, aI_pR, aR_pI, aR_pR, aN_pI, aN_pR, aK_pN, aI_pN, aR_pN, aN_pN, n_a_q1, n_a_q2, n_q1_q2, Ne.symm n_q1_q2, Ne.symm n_a_q1, Ne.symm n_a_q2], fun k => by simp [e_1, e_2, e_3, e_4, aK_pI, aK_pR, aI_pI, aI_pR, aR_pI, aR_pR, aN_pI, aN_pR, aK_pN, aI_pN, aR_pN, aN_pN, n_a_q1, n_a_q2, n_q1_q2, Ne.symm n_q1_q2, Ne.symm n_a_q1, Ne.symm n_a_q2], fun k => by simp [e_1, e_2, e_3, e_4, aK_pI, aK_pR, aI_pI, aI_pR, aR_pI, aR_pR, aN_pI, aN_pR, aK_pN, aI_pN, aR_pN, aN_pN, n_a_q1, n_a_q2, n_q1_q2, Ne.symm n_q1_q2, Ne.symm n_a_q1, Ne.symm n_a_q2]⟩, ⟨hq20, by simp [e_1, e_2, e_3, e_4, aK_pI, aK_pR, aI_pI, aI_pR, aR_pI, aR_pR, aN_pI, aN_pR, aK_pN, aI_pN, aR_pN, aN_pN, n_a_q1, n_a_q2, n_q1_q2, Ne.symm n_q1_q2, Ne.symm n_a_q1, Ne.symm n_a_q2], by simp [e_1, e_2, e_3, e_4, aK_pI, aK_pR, aI_pI, aI_pR, aR_pI, aR_pR, aN_pI, aN_pR, aK_pN, aI_pN, aR_pN, aN_pN, n_a_q1, n_a_q2, n_q1_q2, Ne.symm n_q1_q2, Ne.symm n_a_q1, Ne.symm n_a_q2], fun k => by simp [e_1, e_2, e_3, e_4, aK_pI, aK_pR, aI_pI, aI_pR, aR_pI, aR_pR, aN_pI, aN_pR, aK_pN, aI_pN, aR_pN, aN_pN, n_a_q1, n_a_q2, n_q1_q2, Ne.symm n_q1_q2, Ne.symm n_a_q1, Ne.symm n_a_q2], fun k => by simp [e_1, e_2, e_3, e_4, aK_pI, aK_pR, aI_pI, aI_pR, aR_pI, aR_pR, aN_pI, aN_pR, aK_pN, aI_pN, aR_pN, aN_pN, n_a_q1, n_a_q2, n_q1_q2, Ne.symm n_q1_q2, Ne.symm n_a_q1, Ne.symm n_a_q2]⟩, n_q1_q2, ka9, by simp [e_1, e_2, e_3, e_4, aK_pI, aK_pR, aI_pI, aI_pR, aR_pI, aR_pR, aN_pI, aN_pR, aK_pN, aI_pN, aR_pN, aN_pN, n_a_q1, n_a_q2, n_q1_q2, Ne.symm n_q1_q2, Ne.symm n_a_q1, Ne.symm n_a_q2], by simp [e_1, e_2, e_3, e_4, aK_pI, aK_pR, aI_pI, aI_pR, aR_pI, aR_pR, aN_pI, aN_pR, aK_pN, aI_pN, aR_pN, aN_pN, n_a_q1, n_a_q2, n_q1_q2, Ne.symm n_q1_q2, Ne.symm n_a_q1, Ne.symm n_a_q2], by simp [e_1, e_2, e_3, e_4, aK_pI, aK_pR, aI_pI, aI_pR, aR_pI, aR_pR, aN_pI, aN_pR, aK_pN, aI_pN, aR_pN, aN_pN, n_a_q1, n_a_q2, n_q1_q2, Ne.symm n_q1_q2, Ne.symm n_a_q1, Ne.symm n_a_q2], x_4⟩ (by show _ ≤ 2; omega) (by show _ ≤ 80; omega) dX0_init_21
set_option maxHeartbeats 800000 in
set_option maxRecDepth 100000 in
theorem cC_X2_init (l : Launch) (G : GT) (A : Nat → Prop) (h : AH) (a : Nat) (hk : aK h a = 6) : cmV l G A yX2_init cX2_init 1 4 72 1 3 [.ref (a)] h (fun h' => NewHist G.2.2.1 h h' a) := by
  refine cm_of "Routepost$History" rfl (by decide) (Nat.le_of_ble_eq_true rfl) ?_
  intro pr e s m9 below meth c C0 hr hname hH ls hl
  obtain ⟨hx, hb, hml, hown, hts, hK, hA, -⟩ := id C0
  have hl : lv_has ls 1 [(0, .ref (a))] := hl
  have hin : meth.name = "<init>" := hname
  refine lv_aload_n hx hb dX2_init_0 rfl (lv_at hl 0 rfl) ?_
  refine o_objI C0 ml_X2_3 hl.1 dX2_init_1 (Nat.le_of_ble_eq_true rfl) (Nat.le_of_ble_eq_true rfl) ?_
  refine lv_aload_n hx hb dX2_init_4 rfl (lv_at hl 0 rfl) ?_
  refine o_new hx hb hts hown hK hA hH ci_3 cl_X2_9 im_Jx4a65c in_Jx4a65c (fun j hj => by rcases (by omega : j = 0 ∨ j = 1 ∨ j = 2) with rfl | rfl | rfl <;> rfl) (by show _ ≤ 1; omega) (by show _ ≤ 3; omega) dX2_init_5 (fun q1 H hq1 hqs hH => ?_)
  have n_a_q1 : a ≠ q1 := fun z => by rw [z, hq1] at hk; exact absurd hk (by decide)
  obtain ⟨h_1, e_1⟩ : ∃ z, z = pN h q1 3 0 := ⟨_, rfl⟩
  rw [← e_1] at hH
  have hk : aK h_1 a = 6 := by rw [e_1, aK_pN, if_neg n_a_q1]; exact hk
  have kq1 : aK h_1 q1 = 3 := by rw [e_1, aK_pN, if_pos rfl]
  refine lv_dup hx hb dX2_init_8 rfl ?_
  refine k_v hH (k_runI (rest := [.ref (q1), .ref (a)]) C0 hH (cJ_Jx4a65c_init_da8c8 l G A h_1 q1 kq1) mv_Jx4a65c_init_da8c8 ml_X2_11 rfl ⟨Nat.le_of_ble_eq_true rfl, Nat.le_of_ble_eq_true rfl⟩ hl.1 rfl (Nat.le_of_ble_eq_true rfl) dX2_init_9 ⟨by show _ ≤ 1; omega, by show _ ≤ 3; omega⟩) (fun h9 H locs hp hH => ?_)
  rw [hp] at hH
  clear hp h9
  obtain ⟨h_2, e_2⟩ : ∃ z, z = pR (pI h_1 0 q1 0) 1 q1 (some G.2.2.1) := ⟨_, rfl⟩
  rw [← e_2] at hH
  have hk : aK h_2 a = 6 := by rw [e_2]; exact hk
  have kq1 : aK h_2 q1 = 3 := by rw [e_2]; exact kq1
  refine o_putFR (x := some q1) hx hb hts hown hK hH ci_6 hk (j := 0) rfl rfl fl_X2_12 rfl hin rfl (fun x => by cases x <;> exact ⟨rfl, rfl⟩) dX2_init_12 (fun H locs hH => ?_)
  obtain ⟨h_3, e_3⟩ : ∃ z, z = pR h_2 0 a (some q1) := ⟨_, rfl⟩
  rw [← e_3] at hH
  have hk : aK h_3 a = 6 := by rw [e_3]; exact hk
  have kq1 : aK h_3 q1 = 3 := by rw [e_3]; exact kq1
  have x_1 : SameX h h_1 (fun y => y = a ∨ y = q1) := sx_in (SameX.refl h _) (by rw [e_1]; exact SameX.pN _ _ _ _) (fun y hy => by simp only [hy]; simp)
  have x_2 : SameX h h_2 (fun y => y = a ∨ y = q1) := sx_in x_1 (by rw [e_2]; exact (SameX.pI _ _ _ _).trans (SameX.pR _ _ _ _)) (fun y hy => by rcases hy with hy | hy <;> (simp only [hy]; simp))
  have x_3 : SameX h h_3 (fun y => y = a ∨ y = q1) := sx_in x_2 (by rw [e_3]; exact SameX.pR _ _ _ _) (fun y hy => by simp only [hy]; simp)
  exact e_V C0 hr hH ⟨q1, hq1, kq1, by simp [e_1, e_2, e_3, aK_pI, aK_pR, aI_pI, aI_pR, aR_pI, aR_pR, aN_pI, aN_pR, aK_pN, aI_pN, aR_pN, aN_pN, n_a_q1, Ne.symm n_a_q1], by simp [e_1, e_2, e_3, aK_pI, aK_pR, aI_pI, aI_pR, aR_pI, aR_pR, aN_pI, aN_pR, aK_pN, aI_pN, aR_pN, aN_pN, n_a_q1, Ne.symm n_a_q1], hk, by simp [e_1, e_2, e_3, aK_pI, aK_pR, aI_pI, aI_pR, aR_pI, aR_pR, aN_pI, aN_pR, aK_pN, aI_pN, aR_pN, aN_pN, n_a_q1, Ne.symm n_a_q1], by simp [e_1, e_2, e_3, aK_pI, aK_pR, aI_pI, aI_pR, aR_pI, aR_pR, aN_pI, aN_pR, aK_pN, aI_pN, aR_pN, aN_pN, n_a_q1, Ne.symm n_a_q1], x_3⟩ (by show _ ≤ 1; omega) (by show _ ≤ 3; omega) dX2_init_15
set_option maxHeartbeats 800000 in
set_option maxRecDepth 100000 in
theorem cC_X9_init (l : Launch) (G : GT) (A : Nat → Prop) (h : AH) (a : Nat) (hk : aK h a = 13) : cmV l G A yX9_init cX9_init 1 1 12 2 12 [.ref (a)] h (fun h' => NewSim h h' a) := by
  refine cm_of "Routepost$Simulation" rfl (by decide) (Nat.le_of_ble_eq_true rfl) ?_
  intro pr e s m9 below meth c C0 hr hname hH ls hl
  obtain ⟨hx, hb, hml, hown, hts, hK, hA, -⟩ := id C0
  have hl : lv_has ls 1 [(0, .ref (a))] := hl
  have hin : meth.name = "<init>" := hname
  refine lv_aload_n hx hb dX9_init_0 rfl (lv_at hl 0 rfl) ?_
  refine o_objI C0 ml_X9_3 hl.1 dX9_init_1 (Nat.le_of_ble_eq_true rfl) (Nat.le_of_ble_eq_true rfl) ?_
  refine lv_aload_n hx hb dX9_init_4 rfl (lv_at hl 0 rfl) ?_
  refine lv_bipush (v := 6) hx hb dX9_init_5 (by decide) ?_
  refine o_newP (K := 20) (t0 := 0) C0 hH ac_int rfl rfl (by decide) (by decide) (n := 6) (N' := 6) (fun _ => rfl) (by decide) rfl (by show 6 * 4 ≤ _; omega) (by show _ ≤ 2; omega) (by show _ ≤ 12; omega) dX9_init_7 (fun q1 H hq1 hH => ?_)
  have n_a_q1 : a ≠ q1 := fun z => by rw [z, hq1] at hk; exact absurd hk (by decide)
  obtain ⟨h_1, e_1⟩ : ∃ z, z = pN h q1 20 6 := ⟨_, rfl⟩
  rw [← e_1] at hH
  have hk : aK h_1 a = 13 := by rw [e_1, aK_pN, if_neg n_a_q1]; exact hk
  have kq1 : aK h_1 q1 = 20 := by rw [e_1, aK_pN, if_pos rfl]
  refine o_putFR (x := some q1) hx hb hts hown hK hH ci_13 hk (j := 0) rfl rfl fl_X9_9 rfl hin rfl (fun x => by cases x <;> exact ⟨rfl, rfl⟩) dX9_init_9 (fun H locs hH => ?_)
  obtain ⟨h_2, e_2⟩ : ∃ z, z = pR h_1 0 a (some q1) := ⟨_, rfl⟩
  rw [← e_2] at hH
  have hk : aK h_2 a = 13 := by rw [e_2]; exact hk
  have kq1 : aK h_2 q1 = 20 := by rw [e_2]; exact kq1
  refine lv_aload_n hx hb dX9_init_12 rfl (lv_at hl 0 rfl) ?_
  refine lv_bipush (v := 6) hx hb dX9_init_13 (by decide) ?_
  refine o_newP (K := 20) (t0 := 0) C0 hH ac_int rfl rfl (by decide) (by decide) (n := 6) (N' := 6) (fun _ => rfl) (by decide) rfl (by show 6 * 4 ≤ _; omega) (by show _ ≤ 2; omega) (by show _ ≤ 12; omega) dX9_init_15 (fun q2 H hq2 hH => ?_)
  have n_a_q2 : a ≠ q2 := fun z => by rw [z, hq2] at hk; exact absurd hk (by decide)
  have n_q1_q2 : q1 ≠ q2 := fun z => by rw [z, hq2] at kq1; exact absurd kq1 (by decide)
  obtain ⟨h_3, e_3⟩ : ∃ z, z = pN h_2 q2 20 6 := ⟨_, rfl⟩
  rw [← e_3] at hH
  have hk : aK h_3 a = 13 := by rw [e_3, aK_pN, if_neg n_a_q2]; exact hk
  have kq1 : aK h_3 q1 = 20 := by rw [e_3, aK_pN, if_neg n_q1_q2]; exact kq1
  have kq2 : aK h_3 q2 = 20 := by rw [e_3, aK_pN, if_pos rfl]
  refine o_putFR (x := some q2) hx hb hts hown hK hH ci_13 hk (j := 1) rfl rfl fl_X9_15 rfl hin rfl (fun x => by cases x <;> exact ⟨rfl, rfl⟩) dX9_init_17 (fun H locs hH => ?_)
  obtain ⟨h_4, e_4⟩ : ∃ z, z = pR h_3 1 a (some q2) := ⟨_, rfl⟩
  rw [← e_4] at hH
  have hk : aK h_4 a = 13 := by rw [e_4]; exact hk
  have kq1 : aK h_4 q1 = 20 := by rw [e_4]; exact kq1
  have kq2 : aK h_4 q2 = 20 := by rw [e_4]; exact kq2
  have hq20 : aK h q2 = 0 := by rw [e_2, e_1] at hq2; exact (if_neg (Ne.symm n_q1_q2)).symm.trans hq2
  have x_1 : SameX h h_1 (fun y => y = a ∨ y = q1 ∨ y = q2) := sx_in (SameX.refl h _) (by rw [e_1]; exact SameX.pN _ _ _ _) (fun y hy => by simp only [hy]; simp)
  have x_2 : SameX h h_2 (fun y => y = a ∨ y = q1 ∨ y = q2) := sx_in x_1 (by rw [e_2]; exact SameX.pR _ _ _ _) (fun y hy => by simp only [hy]; simp)
  have x_3 : SameX h h_3 (fun y => y = a ∨ y = q1 ∨ y = q2) := sx_in x_2 (by rw [e_3]; exact SameX.pN _ _ _ _) (fun y hy => by simp only [hy]; simp)
  have x_4 : SameX h h_4 (fun y => y = a ∨ y = q1 ∨ y = q2) := sx_in x_3 (by rw [e_4]; exact SameX.pR _ _ _ _) (fun y hy => by simp only [hy]; simp)
  exact e_V C0 hr hH ⟨q1, q2, ⟨hq1, by simp [e_1, e_2, e_3, e_4, aK_pI, aK_pR, aI_pI, aI_pR, aR_pI, aR_pR, aN_pI, aN_pR, aK_pN, aI_pN, aR_pN, aN_pN, n_a_q1, n_a_q2, n_q1_q2, Ne.symm n_q1_q2, Ne.symm n_a_q1, Ne.symm n_a_q2], by simp [e_1, e_2, e_3, e_4, aK_pI, aK_pR, aI_pI, aI_pR, aR_pI, aR_pR, aN_pI, aN_pR, aK_pN, aI_pN, aR_pN, aN_pN, n_a_q1, n_a_q2, n_q1_q2, Ne.symm n_q1_q2, Ne.symm n_a_q1, Ne.symm n_a_q2], fun k => by simp [e_1, e_2, e_3, e_4, aK_pI, aK_pR, aI_pI, aI_pR, aR_pI, aR_pR, aN_pI, aN_pR, aK_pN, aI_pN, aR_pN, aN_pN, n_a_q1, n_a_q2, n_q1_q2, Ne.symm n_q1_q2, Ne.symm n_a_q1, Ne.symm n_a_q2], fun k => by simp [e_1, e_2, e_3, e_4, aK_pI, aK_pR, aI_pI, aI_pR, aR_pI, aR_pR, aN_pI, aN_pR, aK_pN, aI_pN, aR_pN, aN_pN, n_a_q1, n_a_q2, n_q1_q2, Ne.symm n_q1_q2, Ne.symm n_a_q1, Ne.symm n_a_q2]⟩, ⟨hq20, by simp [e_1, e_2, e_3, e_4, aK_pI, aK_pR, aI_pI, aI_pR, aR_pI, aR_pR, aN_pI, aN_pR, aK_pN, aI_pN, aR_pN, aN_pN, n_a_q1, n_a_q2, n_q1_q2, Ne.symm n_q1_q2, Ne.symm n_a_q1, Ne.symm n_a_q2], by simp [e_1, e_2, e_3, e_4, aK_pI, aK_pR, aI_pI, aI_pR, aR_pI, aR_pR, aN_pI, aN_pR, aK_pN, aI_pN, aR_pN, aN_pN, n_a_q1, n_a_q2, n_q1_q2, Ne.symm n_q1_q2, Ne.symm n_a_q1, Ne.symm n_a_q2], fun k => by simp [e_1, e_2, e_3, e_4, aK_pI, aK_pR, aI_pI, aI_pR, aR_pI, aR_pR, aN_pI, aN_pR, aK_pN, aI_pN, aR_pN, aN_pN, n_a_q1, n_a_q2, n_q1_q2, Ne.symm n_q1_q2, Ne.symm n_a_q1, Ne.symm n_a_q2], fun k => by simp [e_1, e_2, e_3, e_4, aK_pI, aK_pR, aI_pI, aI_pR, aR_pI, aR_pR, aN_pI, aN_pR, aK_pN, aI_pN, aR_pN, aN_pN, n_a_q1, n_a_q2, n_q1_q2, Ne.symm n_q1_q2, Ne.symm n_a_q1, Ne.symm n_a_q2]⟩, n_q1_q2, hk, by simp [e_1, e_2, e_3, e_4, aK_pI, aK_pR, aI_pI, aI_pR, aR_pI, aR_pR, aN_pI, aN_pR, aK_pN, aI_pN, aR_pN, aN_pN, n_a_q1, n_a_q2, n_q1_q2, Ne.symm n_q1_q2, Ne.symm n_a_q1, Ne.symm n_a_q2], by simp [e_1, e_2, e_3, e_4, aK_pI, aK_pR, aI_pI, aI_pR, aR_pI, aR_pR, aN_pI, aN_pR, aK_pN, aI_pN, aR_pN, aN_pN, n_a_q1, n_a_q2, n_q1_q2, Ne.symm n_q1_q2, Ne.symm n_a_q1, Ne.symm n_a_q2], x_4⟩ (by show _ ≤ 2; omega) (by show _ ≤ 12; omega) dX9_init_20
set_option maxHeartbeats 800000 in
set_option maxRecDepth 100000 in
theorem cC_X6_init (l : Launch) (G : GT) (A : Nat → Prop) (h : AH) (a : Nat) : cmV l G A yX6_init cX6_init 1 1 12 0 0 [.ref (a)] h (fun h' => h' = h) := by
  refine cm_of "Routepost$Path" rfl (by decide) (Nat.le_of_ble_eq_true rfl) ?_
  intro pr e s m9 below meth c C0 hr hname hH ls hl
  obtain ⟨hx, hb, hml, hown, hts, hK, hA, -⟩ := id C0
  have hl : lv_has ls 1 [(0, .ref (a))] := hl
  have hin : meth.name = "<init>" := hname
  refine lv_aload_n hx hb dX6_init_0 rfl (lv_at hl 0 rfl) ?_
  refine o_objI C0 ml_X6_1 hl.1 dX6_init_1 (Nat.le_of_ble_eq_true rfl) (Nat.le_of_ble_eq_true rfl) ?_
  exact e_V C0 hr hH rfl (by omega) (by omega) dX6_init_4
set_option maxHeartbeats 800000 in
set_option maxRecDepth 100000 in
theorem cC_X8_init (l : Launch) (G : GT) (A : Nat → Prop) (h : AH) (a : Nat) : cmV l G A yX8_init cX8_init 1 1 12 0 0 [.ref (a)] h (fun h' => h' = h) := by
  refine cm_of "Routepost$PathTrial" rfl (by decide) (Nat.le_of_ble_eq_true rfl) ?_
  intro pr e s m9 below meth c C0 hr hname hH ls hl
  obtain ⟨hx, hb, hml, hown, hts, hK, hA, -⟩ := id C0
  have hl : lv_has ls 1 [(0, .ref (a))] := hl
  have hin : meth.name = "<init>" := hname
  refine lv_aload_n hx hb dX8_init_0 rfl (lv_at hl 0 rfl) ?_
  refine o_objI C0 ml_X8_3 hl.1 dX8_init_1 (Nat.le_of_ble_eq_true rfl) (Nat.le_of_ble_eq_true rfl) ?_
  exact e_V C0 hr hH rfl (by omega) (by omega) dX8_init_4

