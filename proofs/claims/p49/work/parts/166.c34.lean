set_option maxHeartbeats 1600000 in
set_option maxRecDepth 100000 in
theorem cC_X10_init (l : Launch) (G : GT) (A : Nat → Prop) (h : AH) (a : Nat) (ka : aK h a = 14) : cmV l G A yX10_init cX10_init 1 8 220 3000 12000 [.ref (a)] h (fun h' => NewRP G.2.2.1 h' a) := by
  refine cm_of "Routepost" rfl (by decide) (Nat.le_of_ble_eq_true rfl) ?_
  intro pr e s m9 below meth c C0 hr hname hH ls hl
  obtain ⟨hx, hb, hml, hown, hts, hK, hA, -⟩ := id C0
  have hl : lv_has ls 1 [(0, .ref (a))] := hl
  have hin : meth.name = "<init>" := hname
  have ka_h := ka
  refine lv_aload_n hx hb dX10_init_0 rfl (lv_at hl 0 rfl) ?_
  refine o_objI C0 ml_X10_3 hl.1 dX10_init_1 (Nat.le_of_ble_eq_true rfl) (Nat.le_of_ble_eq_true rfl) ?_
  refine lv_aload_n hx hb dX10_init_4 rfl (lv_at hl 0 rfl) ?_
  refine o_new hx hb hts hown hK hA hH ci_3 cl_X10_9 im_Jx4a65c in_Jx4a65c (fun j hj => by rcases (by omega : j = 0 ∨ j = 1 ∨ j = 2) with rfl | rfl | rfl <;> rfl) (by show _ ≤ 3000; omega) (by show _ ≤ 12000; omega) dX10_init_5 (fun q0 H1 hq0 hqs hH => ?_)
  refine lv_dup hx hb dX10_init_8 rfl ?_
  have n_q0 : a ≠ q0 := fun z => by rw [z, hq0] at ka; exact absurd ka (by decide)
  have kq : aK (pN h q0 3 0) q0 = 3 := by rw [aK_pN, if_pos rfl]
  refine k_v hH (k_runI (rest := [.ref q0, .ref a]) C0 hH (cJ_Jx4a65c_init_da8c8 l G A (pN h q0 3 0) q0 kq) mv_Jx4a65c_init_da8c8 ml_X10_11 rfl ⟨Nat.le_of_ble_eq_true rfl, Nat.le_of_ble_eq_true rfl⟩ hl.1 rfl (Nat.le_of_ble_eq_true rfl) dX10_init_9 ⟨by show _ ≤ 3000; omega, by show _ ≤ 12000; omega⟩) (fun h9 H locs hp hH => ?_)
  rw [hp] at hH
  clear hp h9
  obtain ⟨g_1, e_g_1⟩ : ∃ z, z = pR (pI (pN h q0 3 0) 0 q0 0) 1 q0 (some G.2.2.1) := ⟨_, rfl⟩
  rw [← e_g_1] at hH
  have x_g_1 : SXo a h g_1 := by rw [e_g_1]; exact SXo.nw hq0 ((SameX.pI _ _ _ _).trans (SameX.pR _ _ _ _)) (fun y hy => Or.inl (hy.elim id id))
  have ka : aK g_1 a = 14 := by rw [e_g_1]; exact (if_neg n_q0).trans ka
  have ka_g_1 := ka
  have f_q0 : aK g_1 q0 = 3 ∧ aI g_1 2 q0 = 0 ∧ aR g_1 1 q0 = some G.2.2.1 := by refine ⟨?_, ?_, ?_⟩ <;> rw [e_g_1] <;> simp [aK_pI, aK_pR, aI_pI, aI_pR, aR_pI, aR_pR, aN_pI, aN_pR, aK_pN, aI_pN, aR_pN, aN_pN]
  have ea_g_1 : ∀ i, aR g_1 i a = aR h i a := fun i => by rw [e_g_1]; simp [aK_pI, aK_pR, aI_pI, aI_pR, aR_pI, aR_pR, aN_pI, aN_pR, aK_pN, aI_pN, aR_pN, aN_pN, n_q0]
  refine o_putFR (x := some q0) hx hb hts hown hK hH ci_14 ka (j := 0) rfl rfl fl_X10_12 rfl hin rfl (fun x => by cases x <;> exact ⟨rfl, rfl⟩) dX10_init_12 (fun H locs hH => ?_)
  obtain ⟨g_2, e_g_2⟩ : ∃ z, z = pR g_1 0 a (some q0) := ⟨_, rfl⟩
  rw [← e_g_2] at hH
  have x_g_2 : SXo a g_1 g_2 := by rw [e_g_2]; exact SXo.pr
  have ka : aK g_2 a = 14 := by rw [e_g_2]; exact ka
  have ka_g_2 := ka
  have ea_g_2 : ∀ i, i ≠ 0 → aR g_2 i a = aR g_1 i a := fun i hi => by rw [e_g_2, aR_pR, if_neg (fun z => hi z.1)]
  have eb_g_2 : aR g_2 0 a = some q0 := by rw [e_g_2, aR_pR, if_pos ⟨rfl, rfl⟩]
  refine lv_aload_n hx hb dX10_init_15 rfl (lv_at hl 0 rfl) ?_
  refine o_new hx hb hts hown hK hA hH ci_3 cl_X10_9 im_Jx4a65c in_Jx4a65c (fun j hj => by rcases (by omega : j = 0 ∨ j = 1 ∨ j = 2) with rfl | rfl | rfl <;> rfl) (by show _ ≤ 3000; omega) (by show _ ≤ 12000; omega) dX10_init_16 (fun q1 H1 hq1 hqs hH => ?_)
  refine lv_dup hx hb dX10_init_19 rfl ?_
  have n_q1 : a ≠ q1 := fun z => by rw [z, hq1] at ka; exact absurd ka (by decide)
  have kq : aK (pN g_2 q1 3 0) q1 = 3 := by rw [aK_pN, if_pos rfl]
  refine k_v hH (k_runI (rest := [.ref q1, .ref a]) C0 hH (cJ_Jx4a65c_init_da8c8 l G A (pN g_2 q1 3 0) q1 kq) mv_Jx4a65c_init_da8c8 ml_X10_11 rfl ⟨Nat.le_of_ble_eq_true rfl, Nat.le_of_ble_eq_true rfl⟩ hl.1 rfl (Nat.le_of_ble_eq_true rfl) dX10_init_20 ⟨by show _ ≤ 3000; omega, by show _ ≤ 12000; omega⟩) (fun h9 H locs hp hH => ?_)
  rw [hp] at hH
  clear hp h9
  obtain ⟨g_3, e_g_3⟩ : ∃ z, z = pR (pI (pN g_2 q1 3 0) 0 q1 0) 1 q1 (some G.2.2.1) := ⟨_, rfl⟩
  rw [← e_g_3] at hH
  have x_g_3 : SXo a g_2 g_3 := by rw [e_g_3]; exact SXo.nw hq1 ((SameX.pI _ _ _ _).trans (SameX.pR _ _ _ _)) (fun y hy => Or.inl (hy.elim id id))
  have ka : aK g_3 a = 14 := by rw [e_g_3]; exact (if_neg n_q1).trans ka
  have ka_g_3 := ka
  have f_q1 : aK g_3 q1 = 3 ∧ aI g_3 2 q1 = 0 ∧ aR g_3 1 q1 = some G.2.2.1 := by refine ⟨?_, ?_, ?_⟩ <;> rw [e_g_3] <;> simp [aK_pI, aK_pR, aI_pI, aI_pR, aR_pI, aR_pR, aN_pI, aN_pR, aK_pN, aI_pN, aR_pN, aN_pN]
  have ea_g_3 : ∀ i, aR g_3 i a = aR g_2 i a := fun i => by rw [e_g_3]; simp [aK_pI, aK_pR, aI_pI, aI_pR, aR_pI, aR_pR, aN_pI, aN_pR, aK_pN, aI_pN, aR_pN, aN_pN, n_q1]
  refine o_putFR (x := some q1) hx hb hts hown hK hH ci_14 ka (j := 1) rfl rfl fl_X10_16 rfl hin rfl (fun x => by cases x <;> exact ⟨rfl, rfl⟩) dX10_init_23 (fun H locs hH => ?_)
  obtain ⟨g_4, e_g_4⟩ : ∃ z, z = pR g_3 1 a (some q1) := ⟨_, rfl⟩
  rw [← e_g_4] at hH
  have x_g_4 : SXo a g_3 g_4 := by rw [e_g_4]; exact SXo.pr
  have ka : aK g_4 a = 14 := by rw [e_g_4]; exact ka
  have ka_g_4 := ka
  have ea_g_4 : ∀ i, i ≠ 1 → aR g_4 i a = aR g_3 i a := fun i hi => by rw [e_g_4, aR_pR, if_neg (fun z => hi z.1)]
  have eb_g_4 : aR g_4 1 a = some q1 := by rw [e_g_4, aR_pR, if_pos ⟨rfl, rfl⟩]
  refine lv_aload_n hx hb dX10_init_26 rfl (lv_at hl 0 rfl) ?_
  refine o_new hx hb hts hown hK hA hH ci_3 cl_X10_9 im_Jx4a65c in_Jx4a65c (fun j hj => by rcases (by omega : j = 0 ∨ j = 1 ∨ j = 2) with rfl | rfl | rfl <;> rfl) (by show _ ≤ 3000; omega) (by show _ ≤ 12000; omega) dX10_init_27 (fun q2 H1 hq2 hqs hH => ?_)
  refine lv_dup hx hb dX10_init_30 rfl ?_
  have n_q2 : a ≠ q2 := fun z => by rw [z, hq2] at ka; exact absurd ka (by decide)
  have kq : aK (pN g_4 q2 3 0) q2 = 3 := by rw [aK_pN, if_pos rfl]
  refine k_v hH (k_runI (rest := [.ref q2, .ref a]) C0 hH (cJ_Jx4a65c_init_da8c8 l G A (pN g_4 q2 3 0) q2 kq) mv_Jx4a65c_init_da8c8 ml_X10_11 rfl ⟨Nat.le_of_ble_eq_true rfl, Nat.le_of_ble_eq_true rfl⟩ hl.1 rfl (Nat.le_of_ble_eq_true rfl) dX10_init_31 ⟨by show _ ≤ 3000; omega, by show _ ≤ 12000; omega⟩) (fun h9 H locs hp hH => ?_)
  rw [hp] at hH
  clear hp h9
  obtain ⟨g_5, e_g_5⟩ : ∃ z, z = pR (pI (pN g_4 q2 3 0) 0 q2 0) 1 q2 (some G.2.2.1) := ⟨_, rfl⟩
  rw [← e_g_5] at hH
  have x_g_5 : SXo a g_4 g_5 := by rw [e_g_5]; exact SXo.nw hq2 ((SameX.pI _ _ _ _).trans (SameX.pR _ _ _ _)) (fun y hy => Or.inl (hy.elim id id))
  have ka : aK g_5 a = 14 := by rw [e_g_5]; exact (if_neg n_q2).trans ka
  have ka_g_5 := ka
  have f_q2 : aK g_5 q2 = 3 ∧ aI g_5 2 q2 = 0 ∧ aR g_5 1 q2 = some G.2.2.1 := by refine ⟨?_, ?_, ?_⟩ <;> rw [e_g_5] <;> simp [aK_pI, aK_pR, aI_pI, aI_pR, aR_pI, aR_pR, aN_pI, aN_pR, aK_pN, aI_pN, aR_pN, aN_pN]
  have ea_g_5 : ∀ i, aR g_5 i a = aR g_4 i a := fun i => by rw [e_g_5]; simp [aK_pI, aK_pR, aI_pI, aI_pR, aR_pI, aR_pR, aN_pI, aN_pR, aK_pN, aI_pN, aR_pN, aN_pN, n_q2]
  refine o_putFR (x := some q2) hx hb hts hown hK hH ci_14 ka (j := 2) rfl rfl fl_X10_19 rfl hin rfl (fun x => by cases x <;> exact ⟨rfl, rfl⟩) dX10_init_34 (fun H locs hH => ?_)
  obtain ⟨g_6, e_g_6⟩ : ∃ z, z = pR g_5 2 a (some q2) := ⟨_, rfl⟩
  rw [← e_g_6] at hH
  have x_g_6 : SXo a g_5 g_6 := by rw [e_g_6]; exact SXo.pr
  have ka : aK g_6 a = 14 := by rw [e_g_6]; exact ka
  have ka_g_6 := ka
  have ea_g_6 : ∀ i, i ≠ 2 → aR g_6 i a = aR g_5 i a := fun i hi => by rw [e_g_6, aR_pR, if_neg (fun z => hi z.1)]
  have eb_g_6 : aR g_6 2 a = some q2 := by rw [e_g_6, aR_pR, if_pos ⟨rfl, rfl⟩]
  refine lv_aload_n hx hb dX10_init_37 rfl (lv_at hl 0 rfl) ?_
  refine o_new hx hb hts hown hK hA hH ci_3 cl_X10_9 im_Jx4a65c in_Jx4a65c (fun j hj => by rcases (by omega : j = 0 ∨ j = 1 ∨ j = 2) with rfl | rfl | rfl <;> rfl) (by show _ ≤ 3000; omega) (by show _ ≤ 12000; omega) dX10_init_38 (fun q3 H1 hq3 hqs hH => ?_)
  refine lv_dup hx hb dX10_init_41 rfl ?_
  have n_q3 : a ≠ q3 := fun z => by rw [z, hq3] at ka; exact absurd ka (by decide)
  have kq : aK (pN g_6 q3 3 0) q3 = 3 := by rw [aK_pN, if_pos rfl]
  refine k_v hH (k_runI (rest := [.ref q3, .ref a]) C0 hH (cJ_Jx4a65c_init_da8c8 l G A (pN g_6 q3 3 0) q3 kq) mv_Jx4a65c_init_da8c8 ml_X10_11 rfl ⟨Nat.le_of_ble_eq_true rfl, Nat.le_of_ble_eq_true rfl⟩ hl.1 rfl (Nat.le_of_ble_eq_true rfl) dX10_init_42 ⟨by show _ ≤ 3000; omega, by show _ ≤ 12000; omega⟩) (fun h9 H locs hp hH => ?_)
  rw [hp] at hH
  clear hp h9
  obtain ⟨g_7, e_g_7⟩ : ∃ z, z = pR (pI (pN g_6 q3 3 0) 0 q3 0) 1 q3 (some G.2.2.1) := ⟨_, rfl⟩
  rw [← e_g_7] at hH
  have x_g_7 : SXo a g_6 g_7 := by rw [e_g_7]; exact SXo.nw hq3 ((SameX.pI _ _ _ _).trans (SameX.pR _ _ _ _)) (fun y hy => Or.inl (hy.elim id id))
  have ka : aK g_7 a = 14 := by rw [e_g_7]; exact (if_neg n_q3).trans ka
  have ka_g_7 := ka
  have f_q3 : aK g_7 q3 = 3 ∧ aI g_7 2 q3 = 0 ∧ aR g_7 1 q3 = some G.2.2.1 := by refine ⟨?_, ?_, ?_⟩ <;> rw [e_g_7] <;> simp [aK_pI, aK_pR, aI_pI, aI_pR, aR_pI, aR_pR, aN_pI, aN_pR, aK_pN, aI_pN, aR_pN, aN_pN]
  have ea_g_7 : ∀ i, aR g_7 i a = aR g_6 i a := fun i => by rw [e_g_7]; simp [aK_pI, aK_pR, aI_pI, aI_pR, aR_pI, aR_pR, aN_pI, aN_pR, aK_pN, aI_pN, aR_pN, aN_pN, n_q3]
  refine o_putFR (x := some q3) hx hb hts hown hK hH ci_14 ka (j := 3) rfl rfl fl_X10_22 rfl hin rfl (fun x => by cases x <;> exact ⟨rfl, rfl⟩) dX10_init_45 (fun H locs hH => ?_)
  obtain ⟨g_8, e_g_8⟩ : ∃ z, z = pR g_7 3 a (some q3) := ⟨_, rfl⟩
  rw [← e_g_8] at hH
  have x_g_8 : SXo a g_7 g_8 := by rw [e_g_8]; exact SXo.pr
  have ka : aK g_8 a = 14 := by rw [e_g_8]; exact ka
  have ka_g_8 := ka
  have ea_g_8 : ∀ i, i ≠ 3 → aR g_8 i a = aR g_7 i a := fun i hi => by rw [e_g_8, aR_pR, if_neg (fun z => hi z.1)]
  have eb_g_8 : aR g_8 3 a = some q3 := by rw [e_g_8, aR_pR, if_pos ⟨rfl, rfl⟩]
  refine lv_aload_n hx hb dX10_init_48 rfl (lv_at hl 0 rfl) ?_
  refine o_new hx hb hts hown hK hA hH ci_3 cl_X10_9 im_Jx4a65c in_Jx4a65c (fun j hj => by rcases (by omega : j = 0 ∨ j = 1 ∨ j = 2) with rfl | rfl | rfl <;> rfl) (by show _ ≤ 3000; omega) (by show _ ≤ 12000; omega) dX10_init_49 (fun q4 H1 hq4 hqs hH => ?_)
  refine lv_dup hx hb dX10_init_52 rfl ?_
  have n_q4 : a ≠ q4 := fun z => by rw [z, hq4] at ka; exact absurd ka (by decide)
  have kq : aK (pN g_8 q4 3 0) q4 = 3 := by rw [aK_pN, if_pos rfl]
  refine k_v hH (k_runI (rest := [.ref q4, .ref a]) C0 hH (cJ_Jx4a65c_init_da8c8 l G A (pN g_8 q4 3 0) q4 kq) mv_Jx4a65c_init_da8c8 ml_X10_11 rfl ⟨Nat.le_of_ble_eq_true rfl, Nat.le_of_ble_eq_true rfl⟩ hl.1 rfl (Nat.le_of_ble_eq_true rfl) dX10_init_53 ⟨by show _ ≤ 3000; omega, by show _ ≤ 12000; omega⟩) (fun h9 H locs hp hH => ?_)
  rw [hp] at hH
  clear hp h9
  obtain ⟨g_9, e_g_9⟩ : ∃ z, z = pR (pI (pN g_8 q4 3 0) 0 q4 0) 1 q4 (some G.2.2.1) := ⟨_, rfl⟩
  rw [← e_g_9] at hH
  have x_g_9 : SXo a g_8 g_9 := by rw [e_g_9]; exact SXo.nw hq4 ((SameX.pI _ _ _ _).trans (SameX.pR _ _ _ _)) (fun y hy => Or.inl (hy.elim id id))
  have ka : aK g_9 a = 14 := by rw [e_g_9]; exact (if_neg n_q4).trans ka
  have ka_g_9 := ka
  have f_q4 : aK g_9 q4 = 3 ∧ aI g_9 2 q4 = 0 ∧ aR g_9 1 q4 = some G.2.2.1 := by refine ⟨?_, ?_, ?_⟩ <;> rw [e_g_9] <;> simp [aK_pI, aK_pR, aI_pI, aI_pR, aR_pI, aR_pR, aN_pI, aN_pR, aK_pN, aI_pN, aR_pN, aN_pN]
  have ea_g_9 : ∀ i, aR g_9 i a = aR g_8 i a := fun i => by rw [e_g_9]; simp [aK_pI, aK_pR, aI_pI, aI_pR, aR_pI, aR_pR, aN_pI, aN_pR, aK_pN, aI_pN, aR_pN, aN_pN, n_q4]
  refine o_putFR (x := some q4) hx hb hts hown hK hH ci_14 ka (j := 4) rfl rfl fl_X10_25 rfl hin rfl (fun x => by cases x <;> exact ⟨rfl, rfl⟩) dX10_init_56 (fun H locs hH => ?_)
  obtain ⟨g_10, e_g_10⟩ : ∃ z, z = pR g_9 4 a (some q4) := ⟨_, rfl⟩
  rw [← e_g_10] at hH
  have x_g_10 : SXo a g_9 g_10 := by rw [e_g_10]; exact SXo.pr
  have ka : aK g_10 a = 14 := by rw [e_g_10]; exact ka
  have ka_g_10 := ka
  have ea_g_10 : ∀ i, i ≠ 4 → aR g_10 i a = aR g_9 i a := fun i hi => by rw [e_g_10, aR_pR, if_neg (fun z => hi z.1)]
  have eb_g_10 : aR g_10 4 a = some q4 := by rw [e_g_10, aR_pR, if_pos ⟨rfl, rfl⟩]
  refine lv_aload_n hx hb dX10_init_59 rfl (lv_at hl 0 rfl) ?_
  refine o_new hx hb hts hown hK hA hH ci_4 cl_X10_28 im_X0 in_X0 (fun j hj => by rcases (by omega : j = 0 ∨ j = 1 ∨ j = 2) with rfl | rfl | rfl <;> rfl) (by show _ ≤ 3000; omega) (by show _ ≤ 12000; omega) dX10_init_60 (fun b0 H1 hb0 hqs hH => ?_)
  refine lv_dup hx hb dX10_init_63 rfl ?_
  have n_b0 : a ≠ b0 := fun z => by rw [z, hb0] at ka; exact absurd ka (by decide)
  have kq : aK (pN g_10 b0 4 0) b0 = 4 := by rw [aK_pN, if_pos rfl]
  refine k_v hH (k_runI (rest := [.ref b0, .ref a]) C0 hH (cC_X0_init l G A (pN g_10 b0 4 0) b0 kq) mv_X0_init ml_X10_30 rfl ⟨Nat.le_of_ble_eq_true rfl, Nat.le_of_ble_eq_true rfl⟩ hl.1 rfl (Nat.le_of_ble_eq_true rfl) dX10_init_64 ⟨by show _ ≤ 3000; omega, by show _ ≤ 12000; omega⟩) (fun g_b H locs hp hH => ?_)
  obtain ⟨b1, b2, ⟨w1, w2, w3, w4, w5⟩, ⟨z1, z2, z3, z4, z5⟩, nb12, fb1, fb2, fb3, fb4, fb5⟩ := hp
  have x_g_b : SXo a g_10 g_b := SXo.nw hb0 fb5 (fun y hy => hy.elim Or.inl (fun z => Or.inr (z.elim (fun w => by rw [w]; exact w1) (fun w => by rw [w]; exact z1))))
  have sa_b := (fb5 a (fun z => z.elim n_b0 (fun z => z.elim (fun w => by rw [← w, aK_pN, if_neg n_b0, ka] at w1; exact absurd w1 (by decide)) (fun w => by rw [← w, aK_pN, if_neg n_b0, ka] at z1; exact absurd z1 (by decide)))))
  have ka0 := ka
  have ka : aK g_b a = 14 := by rw [sa_b.1, aK_pN, if_neg n_b0]; exact ka
  have ka_g_b := ka
  have ea_g_b : ∀ i, aR g_b i a = aR g_10 i a := fun i => by rw [sa_b.2.2.1, aR_pN, if_neg n_b0]
  have fb4 : aI g_b 2 b0 = 0 := by rw [fb4, aI_pN, if_pos rfl]
  refine o_putFR (x := some b0) hx hb hts hown hK hH ci_14 ka (j := 5) rfl rfl fl_X10_31 rfl hin rfl (fun x => by cases x <;> exact ⟨rfl, rfl⟩) dX10_init_67 (fun H locs hH => ?_)
  obtain ⟨g_11, e_g_11⟩ : ∃ z, z = pR g_b 5 a (some b0) := ⟨_, rfl⟩
  rw [← e_g_11] at hH
  have x_g_11 : SXo a g_b g_11 := by rw [e_g_11]; exact SXo.pr
  have ka : aK g_11 a = 14 := by rw [e_g_11]; exact ka
  have ka_g_11 := ka
  have ea_g_11 : ∀ i, i ≠ 5 → aR g_11 i a = aR g_b i a := fun i hi => by rw [e_g_11, aR_pR, if_neg (fun z => hi z.1)]
  have eb_g_11 : aR g_11 5 a = some b0 := by rw [e_g_11, aR_pR, if_pos ⟨rfl, rfl⟩]
  refine lv_aload_n hx hb dX10_init_70 rfl (lv_at hl 0 rfl) ?_
  refine o_new hx hb hts hown hK hA hH ci_11 cl_X10_35 im_X7 in_X7 (fun j hj => by rcases (by omega : j = 0 ∨ j = 1 ∨ j = 2) with rfl | rfl | rfl <;> rfl) (by show _ ≤ 3000; omega) (by show _ ≤ 12000; omega) dX10_init_71 (fun sr H1 hsr hqs hH => ?_)
  refine lv_dup hx hb dX10_init_74 rfl ?_
  have n_sr : a ≠ sr := fun z => by rw [z, hsr] at ka; exact absurd ka (by decide)
  have kq : aK (pN g_11 sr 11 0) sr = 11 := by rw [aK_pN, if_pos rfl]
  refine k_v hH (k_runI (rest := [.ref sr, .ref a]) C0 hH (cC_X7_init l G A (pN g_11 sr 11 0) sr kq) mv_X7_init ml_X10_37 rfl ⟨Nat.le_of_ble_eq_true rfl, Nat.le_of_ble_eq_true rfl⟩ hl.1 rfl (Nat.le_of_ble_eq_true rfl) dX10_init_75 ⟨by show _ ≤ 3000; omega, by show _ ≤ 12000; omega⟩) (fun g_s H locs hp hH => ?_)
  obtain ⟨q5, e0, f, cap, arr, ⟨s1, s2, s3, s4⟩, ⟨l1, l2, l3, l4, l5, l6, l7⟩, pc, p4, p5, p6, p7, p8, p9, p10⟩ := hp
  have x_g_s : SXo a g_11 g_s := SXo.nw hsr p9 (fun y hy => hy)
  have sa_s := (p9 a (fun z => z.elim n_sr (fun w => by rw [aK_pN, if_neg n_sr, ka] at w; exact absurd w (by decide))))
  have ka0 := ka
  have ka : aK g_s a = 14 := by rw [sa_s.1, aK_pN, if_neg n_sr]; exact ka
  have ka_g_s := ka
  have ea_g_s : ∀ i, aR g_s i a = aR g_11 i a := fun i => by rw [sa_s.2.2.1, aR_pN, if_neg n_sr]
  have hq5 : aK g_11 q5 = 0 := by
                by_cases z : q5 = sr
                · rw [z]; exact hsr
                · rw [aK_pN, if_neg z] at p7; exact p7
  have s4 : aI g_s 2 sr = 0 := by rw [s4, aI_pN, if_pos rfl]
  refine o_putFR (x := some sr) hx hb hts hown hK hH ci_14 ka (j := 6) rfl rfl fl_X10_38 rfl hin rfl (fun x => by cases x <;> exact ⟨rfl, rfl⟩) dX10_init_78 (fun H locs hH => ?_)
  obtain ⟨g_12, e_g_12⟩ : ∃ z, z = pR g_s 6 a (some sr) := ⟨_, rfl⟩
  rw [← e_g_12] at hH
  have x_g_12 : SXo a g_s g_12 := by rw [e_g_12]; exact SXo.pr
  have ka : aK g_12 a = 14 := by rw [e_g_12]; exact ka
  have ka_g_12 := ka
  have ea_g_12 : ∀ i, i ≠ 6 → aR g_12 i a = aR g_s i a := fun i hi => by rw [e_g_12, aR_pR, if_neg (fun z => hi z.1)]
  have eb_g_12 : aR g_12 6 a = some sr := by rw [e_g_12, aR_pR, if_pos ⟨rfl, rfl⟩]
  refine lv_aload_n hx hb dX10_init_81 rfl (lv_at hl 0 rfl) ?_
  refine o_new hx hb hts hown hK hA hH ci_12 cl_X10_42 im_X8 in_X8 (fun j hj => by rcases (by omega : j = 0 ∨ j = 1 ∨ j = 2 ∨ j = 3 ∨ j = 4) with rfl | rfl | rfl | rfl | rfl <;> rfl) (by show _ ≤ 3000; omega) (by show _ ≤ 12000; omega) dX10_init_82 (fun tr H1 htr hqs hH => ?_)
  refine lv_dup hx hb dX10_init_85 rfl ?_
  have n_tr : a ≠ tr := fun z => by rw [z, htr] at ka; exact absurd ka (by decide)
  refine k_v hH (k_runIN (rest := [.ref tr, .ref a]) C0 hH (cC_X8_init l G A (pN g_12 tr 12 0) tr) mv_X8_init mn_X10_44 rfl ⟨Nat.le_of_ble_eq_true rfl, Nat.le_of_ble_eq_true rfl⟩ hl.1 rfl (Nat.le_of_ble_eq_true rfl) dX10_init_86 ⟨by show _ ≤ 3000; omega, by show _ ≤ 12000; omega⟩) (fun h9 H locs hp hH => ?_)
  rw [hp] at hH
  clear hp h9
  obtain ⟨g_13, e_g_13⟩ : ∃ z, z = pN g_12 tr 12 0 := ⟨_, rfl⟩
  rw [← e_g_13] at hH
  have x_g_13 : SXo a g_12 g_13 := by rw [e_g_13]; exact SXo.pn htr
  have ka : aK g_13 a = 14 := by rw [e_g_13, aK_pN, if_neg n_tr]; exact ka
  have ka_g_13 := ka
  have ea_g_13 : ∀ i, aR g_13 i a = aR g_12 i a := fun i => by rw [e_g_13, aR_pN, if_neg n_tr]
  have f_tr : aK g_13 tr = 12 ∧ (∀ j, aI g_13 j tr = 0) ∧ ∀ j, aR g_13 j tr = none := by refine ⟨?_, fun j => ?_, fun j => ?_⟩ <;> rw [e_g_13] <;> simp [aK_pI, aK_pR, aI_pI, aI_pR, aR_pI, aR_pR, aN_pI, aN_pR, aK_pN, aI_pN, aR_pN, aN_pN]
  refine o_putFR (x := some tr) hx hb hts hown hK hH ci_14 ka (j := 7) rfl rfl fl_X10_45 rfl hin rfl (fun x => by cases x <;> exact ⟨rfl, rfl⟩) dX10_init_89 (fun H locs hH => ?_)
  obtain ⟨g_14, e_g_14⟩ : ∃ z, z = pR g_13 7 a (some tr) := ⟨_, rfl⟩
  rw [← e_g_14] at hH
  have x_g_14 : SXo a g_13 g_14 := by rw [e_g_14]; exact SXo.pr
  have ka : aK g_14 a = 14 := by rw [e_g_14]; exact ka
  have ka_g_14 := ka
  have ea_g_14 : ∀ i, i ≠ 7 → aR g_14 i a = aR g_13 i a := fun i hi => by rw [e_g_14, aR_pR, if_neg (fun z => hi z.1)]
  have eb_g_14 : aR g_14 7 a = some tr := by rw [e_g_14, aR_pR, if_pos ⟨rfl, rfl⟩]
  refine lv_aload_n hx hb dX10_init_92 rfl (lv_at hl 0 rfl) ?_
  refine o_new hx hb hts hown hK hA hH ci_13 cl_X10_49 im_X9 in_X9 (fun j hj => by rcases (by omega : j = 0 ∨ j = 1) with rfl | rfl <;> rfl) (by show _ ≤ 3000; omega) (by show _ ≤ 12000; omega) dX10_init_93 (fun sm H1 hsm hqs hH => ?_)
  refine lv_dup hx hb dX10_init_96 rfl ?_
  have n_sm : a ≠ sm := fun z => by rw [z, hsm] at ka; exact absurd ka (by decide)
  have kq : aK (pN g_14 sm 13 0) sm = 13 := by rw [aK_pN, if_pos rfl]
  refine k_v hH (k_runI (rest := [.ref sm, .ref a]) C0 hH (cC_X9_init l G A (pN g_14 sm 13 0) sm kq) mv_X9_init ml_X10_51 rfl ⟨Nat.le_of_ble_eq_true rfl, Nat.le_of_ble_eq_true rfl⟩ hl.1 rfl (Nat.le_of_ble_eq_true rfl) dX10_init_97 ⟨by show _ ≤ 3000; omega, by show _ ≤ 12000; omega⟩) (fun g_m H locs hp hH => ?_)
  obtain ⟨m1, m2, ⟨u1, u2, u3, u4, u5⟩, ⟨v1, v2, v3, v4, v5⟩, nm12, fm1, fm2, fm3, fm5⟩ := hp
  have x_g_m : SXo a g_14 g_m := SXo.nw hsm fm5 (fun y hy => hy.elim Or.inl (fun z => Or.inr (z.elim (fun w => by rw [w]; exact u1) (fun w => by rw [w]; exact v1))))
  have sa_m := (fm5 a (fun z => z.elim n_sm (fun z => z.elim (fun w => by rw [← w, aK_pN, if_neg n_sm, ka] at u1; exact absurd u1 (by decide)) (fun w => by rw [← w, aK_pN, if_neg n_sm, ka] at v1; exact absurd v1 (by decide)))))
  have ka0 := ka
  have ka : aK g_m a = 14 := by rw [sa_m.1, aK_pN, if_neg n_sm]; exact ka
  have ka_g_m := ka
  have ea_g_m : ∀ i, aR g_m i a = aR g_14 i a := fun i => by rw [sa_m.2.2.1, aR_pN, if_neg n_sm]
  refine o_putFR (x := some sm) hx hb hts hown hK hH ci_14 ka (j := 8) rfl rfl fl_X10_52 rfl hin rfl (fun x => by cases x <;> exact ⟨rfl, rfl⟩) dX10_init_100 (fun H locs hH => ?_)
  obtain ⟨g_15, e_g_15⟩ : ∃ z, z = pR g_m 8 a (some sm) := ⟨_, rfl⟩
  rw [← e_g_15] at hH
  have x_g_15 : SXo a g_m g_15 := by rw [e_g_15]; exact SXo.pr
  have ka : aK g_15 a = 14 := by rw [e_g_15]; exact ka
  have ka_g_15 := ka
  have ea_g_15 : ∀ i, i ≠ 8 → aR g_15 i a = aR g_m i a := fun i hi => by rw [e_g_15, aR_pR, if_neg (fun z => hi z.1)]
  have eb_g_15 : aR g_15 8 a = some sm := by rw [e_g_15, aR_pR, if_pos ⟨rfl, rfl⟩]
  refine lv_aload_n hx hb dX10_init_103 rfl (lv_at hl 0 rfl) ?_
  refine lv_iconst (v := 0) hx hb dX10_init_104 (by decide) ?_
  refine o_putI hx hb hts hown hK hH ci_14 ka (j := 9) rfl rfl fl_X10_56 rfl rfl rfl dX10_init_105 (fun H locs hH => ?_)
  obtain ⟨g_16, e_g_16⟩ : ∃ z, z = pI g_15 9 a 0 := ⟨_, rfl⟩
  rw [← e_g_16] at hH
  have x_g_16 : SXo a g_15 g_16 := by rw [e_g_16]; exact SXo.pi
  have ka : aK g_16 a = 14 := by rw [e_g_16]; exact ka
  have ka_g_16 := ka
  have ea_g_16 : ∀ i, aR g_16 i a = aR g_15 i a := fun i => by rw [e_g_16, aR_pI]
  have S_g_16 : SXo a g_16 g_16 := SXo.refl _ _
  have S_g_15 : SXo a g_15 g_16 := x_g_16.trans S_g_16
  have S_g_m : SXo a g_m g_16 := x_g_15.trans S_g_15
  have S_g_14 : SXo a g_14 g_16 := x_g_m.trans S_g_m
  have S_g_13 : SXo a g_13 g_16 := x_g_14.trans S_g_14
  have S_g_12 : SXo a g_12 g_16 := x_g_13.trans S_g_13
  have S_g_s : SXo a g_s g_16 := x_g_12.trans S_g_12
  have S_g_11 : SXo a g_11 g_16 := x_g_s.trans S_g_s
  have S_g_b : SXo a g_b g_16 := x_g_11.trans S_g_11
  have S_g_10 : SXo a g_10 g_16 := x_g_b.trans S_g_b
  have S_g_9 : SXo a g_9 g_16 := x_g_10.trans S_g_10
  have S_g_8 : SXo a g_8 g_16 := x_g_9.trans S_g_9
  have S_g_7 : SXo a g_7 g_16 := x_g_8.trans S_g_8
  have S_g_6 : SXo a g_6 g_16 := x_g_7.trans S_g_7
  have S_g_5 : SXo a g_5 g_16 := x_g_6.trans S_g_6
  have S_g_4 : SXo a g_4 g_16 := x_g_5.trans S_g_5
  have S_g_3 : SXo a g_3 g_16 := x_g_4.trans S_g_4
  have S_g_2 : SXo a g_2 g_16 := x_g_3.trans S_g_3
  have S_g_1 : SXo a g_1 g_16 := x_g_2.trans S_g_2
  have S_h : SXo a h g_16 := x_g_1.trans S_g_1
  have f_q5 : aK g_s q5 = 3 ∧ True := ⟨l1, trivial⟩
  have t_q0 := S_g_1 q0 (fun z => z.elim (fun w => by have := f_q0.1; rw [w] at this; exact absurd (this.symm.trans (show aK g_1 a = 14 from ka_g_1)) (by decide)) (fun w => by have := f_q0.1; rw [w] at this; exact absurd this (by decide)))
  have t_q1 := S_g_3 q1 (fun z => z.elim (fun w => by have := f_q1.1; rw [w] at this; exact absurd (this.symm.trans (show aK g_3 a = 14 from ka_g_3)) (by decide)) (fun w => by have := f_q1.1; rw [w] at this; exact absurd this (by decide)))
  have t_q2 := S_g_5 q2 (fun z => z.elim (fun w => by have := f_q2.1; rw [w] at this; exact absurd (this.symm.trans (show aK g_5 a = 14 from ka_g_5)) (by decide)) (fun w => by have := f_q2.1; rw [w] at this; exact absurd this (by decide)))
  have t_q3 := S_g_7 q3 (fun z => z.elim (fun w => by have := f_q3.1; rw [w] at this; exact absurd (this.symm.trans (show aK g_7 a = 14 from ka_g_7)) (by decide)) (fun w => by have := f_q3.1; rw [w] at this; exact absurd this (by decide)))
  have t_q4 := S_g_9 q4 (fun z => z.elim (fun w => by have := f_q4.1; rw [w] at this; exact absurd (this.symm.trans (show aK g_9 a = 14 from ka_g_9)) (by decide)) (fun w => by have := f_q4.1; rw [w] at this; exact absurd this (by decide)))
  have t_b0 := S_g_b b0 (fun z => z.elim (fun w => by have := fb1; rw [w] at this; exact absurd (this.symm.trans (show aK g_b a = 14 from ka_g_b)) (by decide)) (fun w => by have := fb1; rw [w] at this; exact absurd this (by decide)))
  have t_b1 := S_g_b b1 (fun z => z.elim (fun w => by have := w2; rw [w] at this; exact absurd (this.symm.trans (show aK g_b a = 14 from ka_g_b)) (by decide)) (fun w => by have := w2; rw [w] at this; exact absurd this (by decide)))
  have t_b2 := S_g_b b2 (fun z => z.elim (fun w => by have := z2; rw [w] at this; exact absurd (this.symm.trans (show aK g_b a = 14 from ka_g_b)) (by decide)) (fun w => by have := z2; rw [w] at this; exact absurd this (by decide)))
  have t_sr := S_g_s sr (fun z => z.elim (fun w => by have := s1; rw [w] at this; exact absurd (this.symm.trans (show aK g_s a = 14 from ka_g_s)) (by decide)) (fun w => by have := s1; rw [w] at this; exact absurd this (by decide)))
  have t_q5 := S_g_s q5 (fun z => z.elim (fun w => by have := l1; rw [w] at this; exact absurd (this.symm.trans (show aK g_s a = 14 from ka_g_s)) (by decide)) (fun w => by have := l1; rw [w] at this; exact absurd this (by decide)))
  have t_tr := S_g_13 tr (fun z => z.elim (fun w => by have := f_tr.1; rw [w] at this; exact absurd (this.symm.trans (show aK g_13 a = 14 from ka_g_13)) (by decide)) (fun w => by have := f_tr.1; rw [w] at this; exact absurd this (by decide)))
  have t_sm := S_g_m sm (fun z => z.elim (fun w => by have := fm1; rw [w] at this; exact absurd (this.symm.trans (show aK g_m a = 14 from ka_g_m)) (by decide)) (fun w => by have := fm1; rw [w] at this; exact absurd this (by decide)))
  have t_m1 := S_g_m m1 (fun z => z.elim (fun w => by have := u2; rw [w] at this; exact absurd (this.symm.trans (show aK g_m a = 14 from ka_g_m)) (by decide)) (fun w => by have := u2; rw [w] at this; exact absurd this (by decide)))
  have t_m2 := S_g_m m2 (fun z => z.elim (fun w => by have := v2; rw [w] at this; exact absurd (this.symm.trans (show aK g_m a = 14 from ka_g_m)) (by decide)) (fun w => by have := v2; rw [w] at this; exact absurd this (by decide)))
  have hcap : 0 < cap := by omega
  have t_arr := S_g_s arr (fun z => z.elim (fun w => by have := (l7 hcap).1; rw [w] at this; exact absurd (this.symm.trans (show aK g_s a = 14 from ka_g_s)) (by decide)) (fun w => by have := (l7 hcap).1; rw [w] at this; exact absurd this (by decide)))
  have t_f : ∀ k, k < 266 → _ := fun k hk => S_g_s (f k) (fun z => z.elim (fun w => by have := (p5 k hk).2.1; rw [w] at this; exact absurd (this.symm.trans (show aK g_s a = 14 from ka_g_s)) (by decide)) (fun w => by have := (p5 k hk).2.1; rw [w] at this; exact absurd this (by decide)))
  obtain ⟨Q, hQ⟩ : ∃ z, z = (fun i => if i = 0 then q0 else if i = 1 then q1 else if i = 2 then q2 else if i = 3 then q3 else if i = 4 then q4 else q5 : Nat → Nat) := ⟨_, rfl⟩
  have Q0 : Q 0 = q0 := by rw [hQ]; rfl
  have Q1 : Q 1 = q1 := by rw [hQ]; rfl
  have Q2 : Q 2 = q2 := by rw [hQ]; rfl
  have Q3 : Q 3 = q3 := by rw [hQ]; rfl
  have Q4 : Q 4 = q4 := by rw [hQ]; rfl
  have Q5 : Q 5 = q5 := by rw [hQ]; rfl
  have d_0_1 : q0 ≠ q1 := fun z => by
                have e3 : aK g_2 q0 = 3 := by rw [((x_g_2.trans (SXo.refl _ _)) q0 (fun z => z.elim (fun w => by have := f_q0.1; rw [w] at this; exact absurd (this.symm.trans (show aK g_1 a = 14 from ka_g_1)) (by decide)) (fun w => by have := f_q0.1; rw [w] at this; exact absurd this (by decide)))).1]; exact f_q0.1
                rw [z] at e3; rw [hq1] at e3; exact absurd e3 (by decide)
  have d_0_2 : q0 ≠ q2 := fun z => by
                have e3 : aK g_4 q0 = 3 := by rw [((x_g_2.trans (x_g_3.trans (x_g_4.trans (SXo.refl _ _)))) q0 (fun z => z.elim (fun w => by have := f_q0.1; rw [w] at this; exact absurd (this.symm.trans (show aK g_1 a = 14 from ka_g_1)) (by decide)) (fun w => by have := f_q0.1; rw [w] at this; exact absurd this (by decide)))).1]; exact f_q0.1
                rw [z] at e3; rw [hq2] at e3; exact absurd e3 (by decide)
  have d_1_2 : q1 ≠ q2 := fun z => by
                have e3 : aK g_4 q1 = 3 := by rw [((x_g_4.trans (SXo.refl _ _)) q1 (fun z => z.elim (fun w => by have := f_q1.1; rw [w] at this; exact absurd (this.symm.trans (show aK g_3 a = 14 from ka_g_3)) (by decide)) (fun w => by have := f_q1.1; rw [w] at this; exact absurd this (by decide)))).1]; exact f_q1.1
                rw [z] at e3; rw [hq2] at e3; exact absurd e3 (by decide)
  have d_0_3 : q0 ≠ q3 := fun z => by
                have e3 : aK g_6 q0 = 3 := by rw [((x_g_2.trans (x_g_3.trans (x_g_4.trans (x_g_5.trans (x_g_6.trans (SXo.refl _ _)))))) q0 (fun z => z.elim (fun w => by have := f_q0.1; rw [w] at this; exact absurd (this.symm.trans (show aK g_1 a = 14 from ka_g_1)) (by decide)) (fun w => by have := f_q0.1; rw [w] at this; exact absurd this (by decide)))).1]; exact f_q0.1
                rw [z] at e3; rw [hq3] at e3; exact absurd e3 (by decide)
  have d_1_3 : q1 ≠ q3 := fun z => by
                have e3 : aK g_6 q1 = 3 := by rw [((x_g_4.trans (x_g_5.trans (x_g_6.trans (SXo.refl _ _)))) q1 (fun z => z.elim (fun w => by have := f_q1.1; rw [w] at this; exact absurd (this.symm.trans (show aK g_3 a = 14 from ka_g_3)) (by decide)) (fun w => by have := f_q1.1; rw [w] at this; exact absurd this (by decide)))).1]; exact f_q1.1
                rw [z] at e3; rw [hq3] at e3; exact absurd e3 (by decide)
  have d_2_3 : q2 ≠ q3 := fun z => by
                have e3 : aK g_6 q2 = 3 := by rw [((x_g_6.trans (SXo.refl _ _)) q2 (fun z => z.elim (fun w => by have := f_q2.1; rw [w] at this; exact absurd (this.symm.trans (show aK g_5 a = 14 from ka_g_5)) (by decide)) (fun w => by have := f_q2.1; rw [w] at this; exact absurd this (by decide)))).1]; exact f_q2.1
                rw [z] at e3; rw [hq3] at e3; exact absurd e3 (by decide)
  have d_0_4 : q0 ≠ q4 := fun z => by
                have e3 : aK g_8 q0 = 3 := by rw [((x_g_2.trans (x_g_3.trans (x_g_4.trans (x_g_5.trans (x_g_6.trans (x_g_7.trans (x_g_8.trans (SXo.refl _ _)))))))) q0 (fun z => z.elim (fun w => by have := f_q0.1; rw [w] at this; exact absurd (this.symm.trans (show aK g_1 a = 14 from ka_g_1)) (by decide)) (fun w => by have := f_q0.1; rw [w] at this; exact absurd this (by decide)))).1]; exact f_q0.1
                rw [z] at e3; rw [hq4] at e3; exact absurd e3 (by decide)
  have d_1_4 : q1 ≠ q4 := fun z => by
                have e3 : aK g_8 q1 = 3 := by rw [((x_g_4.trans (x_g_5.trans (x_g_6.trans (x_g_7.trans (x_g_8.trans (SXo.refl _ _)))))) q1 (fun z => z.elim (fun w => by have := f_q1.1; rw [w] at this; exact absurd (this.symm.trans (show aK g_3 a = 14 from ka_g_3)) (by decide)) (fun w => by have := f_q1.1; rw [w] at this; exact absurd this (by decide)))).1]; exact f_q1.1
                rw [z] at e3; rw [hq4] at e3; exact absurd e3 (by decide)
  have d_2_4 : q2 ≠ q4 := fun z => by
                have e3 : aK g_8 q2 = 3 := by rw [((x_g_6.trans (x_g_7.trans (x_g_8.trans (SXo.refl _ _)))) q2 (fun z => z.elim (fun w => by have := f_q2.1; rw [w] at this; exact absurd (this.symm.trans (show aK g_5 a = 14 from ka_g_5)) (by decide)) (fun w => by have := f_q2.1; rw [w] at this; exact absurd this (by decide)))).1]; exact f_q2.1
                rw [z] at e3; rw [hq4] at e3; exact absurd e3 (by decide)
  have d_3_4 : q3 ≠ q4 := fun z => by
                have e3 : aK g_8 q3 = 3 := by rw [((x_g_8.trans (SXo.refl _ _)) q3 (fun z => z.elim (fun w => by have := f_q3.1; rw [w] at this; exact absurd (this.symm.trans (show aK g_7 a = 14 from ka_g_7)) (by decide)) (fun w => by have := f_q3.1; rw [w] at this; exact absurd this (by decide)))).1]; exact f_q3.1
                rw [z] at e3; rw [hq4] at e3; exact absurd e3 (by decide)
  have d_0_5 : q0 ≠ q5 := fun z => by
                have e3 : aK g_11 q0 = 3 := by rw [((x_g_2.trans (x_g_3.trans (x_g_4.trans (x_g_5.trans (x_g_6.trans (x_g_7.trans (x_g_8.trans (x_g_9.trans (x_g_10.trans (x_g_b.trans (x_g_11.trans (SXo.refl _ _)))))))))))) q0 (fun z => z.elim (fun w => by have := f_q0.1; rw [w] at this; exact absurd (this.symm.trans (show aK g_1 a = 14 from ka_g_1)) (by decide)) (fun w => by have := f_q0.1; rw [w] at this; exact absurd this (by decide)))).1]; exact f_q0.1
                rw [z] at e3; rw [hq5] at e3; exact absurd e3 (by decide)
  have d_1_5 : q1 ≠ q5 := fun z => by
                have e3 : aK g_11 q1 = 3 := by rw [((x_g_4.trans (x_g_5.trans (x_g_6.trans (x_g_7.trans (x_g_8.trans (x_g_9.trans (x_g_10.trans (x_g_b.trans (x_g_11.trans (SXo.refl _ _)))))))))) q1 (fun z => z.elim (fun w => by have := f_q1.1; rw [w] at this; exact absurd (this.symm.trans (show aK g_3 a = 14 from ka_g_3)) (by decide)) (fun w => by have := f_q1.1; rw [w] at this; exact absurd this (by decide)))).1]; exact f_q1.1
                rw [z] at e3; rw [hq5] at e3; exact absurd e3 (by decide)
  have d_2_5 : q2 ≠ q5 := fun z => by
                have e3 : aK g_11 q2 = 3 := by rw [((x_g_6.trans (x_g_7.trans (x_g_8.trans (x_g_9.trans (x_g_10.trans (x_g_b.trans (x_g_11.trans (SXo.refl _ _)))))))) q2 (fun z => z.elim (fun w => by have := f_q2.1; rw [w] at this; exact absurd (this.symm.trans (show aK g_5 a = 14 from ka_g_5)) (by decide)) (fun w => by have := f_q2.1; rw [w] at this; exact absurd this (by decide)))).1]; exact f_q2.1
                rw [z] at e3; rw [hq5] at e3; exact absurd e3 (by decide)
  have d_3_5 : q3 ≠ q5 := fun z => by
                have e3 : aK g_11 q3 = 3 := by rw [((x_g_8.trans (x_g_9.trans (x_g_10.trans (x_g_b.trans (x_g_11.trans (SXo.refl _ _)))))) q3 (fun z => z.elim (fun w => by have := f_q3.1; rw [w] at this; exact absurd (this.symm.trans (show aK g_7 a = 14 from ka_g_7)) (by decide)) (fun w => by have := f_q3.1; rw [w] at this; exact absurd this (by decide)))).1]; exact f_q3.1
                rw [z] at e3; rw [hq5] at e3; exact absurd e3 (by decide)
  have d_4_5 : q4 ≠ q5 := fun z => by
                have e3 : aK g_11 q4 = 3 := by rw [((x_g_10.trans (x_g_b.trans (x_g_11.trans (SXo.refl _ _)))) q4 (fun z => z.elim (fun w => by have := f_q4.1; rw [w] at this; exact absurd (this.symm.trans (show aK g_9 a = 14 from ka_g_9)) (by decide)) (fun w => by have := f_q4.1; rw [w] at this; exact absurd this (by decide)))).1]; exact f_q4.1
                rw [z] at e3; rw [hq5] at e3; exact absurd e3 (by decide)
  have eb2 : aK g_14 b2 = 20 := by rw [((x_g_11.trans (x_g_s.trans (x_g_12.trans (x_g_13.trans (x_g_14.trans (SXo.refl _ _)))))) b2 (fun z => z.elim (fun w => by have := z2; rw [w] at this; exact absurd (this.symm.trans (show aK g_b a = 14 from ka_g_b)) (by decide)) (fun w => by have := z2; rw [w] at this; exact absurd this (by decide)))).1]; exact z2
  have nb_m1 : b2 ≠ m1 := fun z => by
                by_cases w : b2 = sm
                · rw [w, hsm] at eb2; exact absurd eb2 (by decide)
                · rw [← z, aK_pN, if_neg w, eb2] at u1; exact absurd u1 (by decide)
  have nb_m2 : b2 ≠ m2 := fun z => by
                by_cases w : b2 = sm
                · rw [w, hsm] at eb2; exact absurd eb2 (by decide)
                · rw [← z, aK_pN, if_neg w, eb2] at v1; exact absurd v1 (by decide)
  have hlists : ∀ i, i < 5 → aK g_16 (Q i) = 3 ∧ aI g_16 2 (Q i) = 0 ∧ aR g_16 1 (Q i) = some G.2.2.1 := fun i hi => by
                rcases (by omega : i = 0 ∨ i = 1 ∨ i = 2 ∨ i = 3 ∨ i = 4) with rfl | rfl | rfl | rfl | rfl
                · rw [Q0]; exact ⟨by rw [t_q0.1]; exact f_q0.1, by rw [t_q0.2.1]; exact f_q0.2.1, by rw [t_q0.2.2.1]; exact f_q0.2.2⟩
                · rw [Q1]; exact ⟨by rw [t_q1.1]; exact f_q1.1, by rw [t_q1.2.1]; exact f_q1.2.1, by rw [t_q1.2.2.1]; exact f_q1.2.2⟩
                · rw [Q2]; exact ⟨by rw [t_q2.1]; exact f_q2.1, by rw [t_q2.2.1]; exact f_q2.2.1, by rw [t_q2.2.2.1]; exact f_q2.2.2⟩
                · rw [Q3]; exact ⟨by rw [t_q3.1]; exact f_q3.1, by rw [t_q3.2.1]; exact f_q3.2.1, by rw [t_q3.2.2.1]; exact f_q3.2.2⟩
                · rw [Q4]; exact ⟨by rw [t_q4.1]; exact f_q4.1, by rw [t_q4.2.1]; exact f_q4.2.1, by rw [t_q4.2.2.1]; exact f_q4.2.2⟩
  have hafs : ∀ i, i < 5 → aR g_16 i a = some (Q i) := fun i hi => by
                rcases (by omega : i = 0 ∨ i = 1 ∨ i = 2 ∨ i = 3 ∨ i = 4) with rfl | rfl | rfl | rfl | rfl
                · rw [Q0]; rw [ea_g_16 0, ea_g_15 0 (by omega), ea_g_m 0, ea_g_14 0 (by omega), ea_g_13 0, ea_g_12 0 (by omega), ea_g_s 0, ea_g_11 0 (by omega), ea_g_b 0, ea_g_10 0 (by omega), ea_g_9 0, ea_g_8 0 (by omega), ea_g_7 0, ea_g_6 0 (by omega), ea_g_5 0, ea_g_4 0 (by omega), ea_g_3 0, eb_g_2]
                · rw [Q1]; rw [ea_g_16 1, ea_g_15 1 (by omega), ea_g_m 1, ea_g_14 1 (by omega), ea_g_13 1, ea_g_12 1 (by omega), ea_g_s 1, ea_g_11 1 (by omega), ea_g_b 1, ea_g_10 1 (by omega), ea_g_9 1, ea_g_8 1 (by omega), ea_g_7 1, ea_g_6 1 (by omega), ea_g_5 1, eb_g_4]
                · rw [Q2]; rw [ea_g_16 2, ea_g_15 2 (by omega), ea_g_m 2, ea_g_14 2 (by omega), ea_g_13 2, ea_g_12 2 (by omega), ea_g_s 2, ea_g_11 2 (by omega), ea_g_b 2, ea_g_10 2 (by omega), ea_g_9 2, ea_g_8 2 (by omega), ea_g_7 2, eb_g_6]
                · rw [Q3]; rw [ea_g_16 3, ea_g_15 3 (by omega), ea_g_m 3, ea_g_14 3 (by omega), ea_g_13 3, ea_g_12 3 (by omega), ea_g_s 3, ea_g_11 3 (by omega), ea_g_b 3, ea_g_10 3 (by omega), ea_g_9 3, eb_g_8]
                · rw [Q4]; rw [ea_g_16 4, ea_g_15 4 (by omega), ea_g_m 4, ea_g_14 4 (by omega), ea_g_13 4, ea_g_12 4 (by omega), ea_g_s 4, ea_g_11 4 (by omega), ea_g_b 4, eb_g_10]
  have hinj : ∀ i j, i < 6 → j < 6 → Q i = Q j → i = j := fun i j hi hj e => by
                rcases (by omega : i = 0 ∨ i = 1 ∨ i = 2 ∨ i = 3 ∨ i = 4 ∨ i = 5) with rfl | rfl | rfl | rfl | rfl | rfl <;> rcases (by omega : j = 0 ∨ j = 1 ∨ j = 2 ∨ j = 3 ∨ j = 4 ∨ j = 5) with rfl | rfl | rfl | rfl | rfl | rfl <;> first | rfl | (simp only [Q0, Q1, Q2, Q3, Q4, Q5] at e; first | exact absurd e (by assumption) | exact absurd e.symm (by assumption))
  refine e_V C0 hr hH ⟨Q, b0, b1, b2, sr, tr, sm, m1, m2, e0, f, cap, arr, ⟨ka, hafs, by rw [ea_g_16 5, ea_g_15 5 (by omega), ea_g_m 5, ea_g_14 5 (by omega), ea_g_13 5, ea_g_12 5 (by omega), ea_g_s 5, eb_g_11], by rw [ea_g_16 6, ea_g_15 6 (by omega), ea_g_m 6, ea_g_14 6 (by omega), ea_g_13 6, eb_g_12], by rw [ea_g_16 7, ea_g_15 7 (by omega), ea_g_m 7, eb_g_14], by rw [ea_g_16 8, eb_g_15], by rw [e_g_16, aI_pI, if_pos ⟨rfl, rfl⟩]⟩, hlists, ⟨by rw [t_b0.1]; exact fb1, by rw [t_b0.2.2.1]; exact fb2, by rw [t_b0.2.2.1]; exact fb3, by rw [t_b0.2.1]; exact fb4⟩, ⟨by rw [t_b1.1]; exact w2, by rw [t_b1.2.2.2]; exact w3, fun k => by rw [t_b1.2.2.1]; exact w5 k⟩, ⟨by rw [t_b2.1]; exact z2, by rw [t_b2.2.2.2]; exact z3, fun k => by rw [t_b2.2.1]; exact z4 k⟩, ⟨by rw [t_sr.1]; exact s1, by rw [t_sr.2.2.1, Q5]; exact s2, by rw [t_sr.2.2.1, p10 (by omega)]; exact s3, by rw [t_sr.2.1]; exact s4⟩, ⟨by rw [Q5, t_q5.1]; exact l1, by rw [Q5, t_q5.2.1]; exact l2, by rw [Q5, t_q5.2.2.1]; exact l3⟩, ⟨by rw [t_arr.1]; exact (l7 hcap).1, by rw [t_arr.2.2.2]; exact (l7 hcap).2.1, l4, pc, fun k hk => by rw [t_arr.2.2.1]; exact p4 k hk⟩, fun k hk => ⟨by rw [(t_f k hk).1]; exact (p5 k hk).2.1, fun j => by rw [(t_f k hk).2.1]; exact (p5 k hk).2.2.1 j, fun j => by rw [(t_f k hk).2.2.1]; exact (p5 k hk).2.2.2 j⟩, ⟨by rw [t_tr.1]; exact f_tr.1, fun j => by rw [t_tr.2.1]; exact f_tr.2.1 j, fun j => by rw [t_tr.2.2.1]; exact f_tr.2.2 j⟩, ⟨by rw [t_sm.1]; exact fm1, by rw [t_sm.2.2.1]; exact fm2, by rw [t_sm.2.2.1]; exact fm3⟩, ⟨by rw [t_m1.1]; exact u2, by rw [t_m1.2.2.2]; exact u3, fun k => by rw [t_m1.2.1]; exact u4 k⟩, ⟨by rw [t_m2.1]; exact v2, by rw [t_m2.2.2.2]; exact v3, fun k => by rw [t_m2.2.1]; exact v4 k⟩, hinj, ⟨nb_m1, nb_m2, nm12⟩, p6⟩ (by omega) (by omega) dX10_init_108

