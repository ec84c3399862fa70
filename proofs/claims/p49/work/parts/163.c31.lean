/-! the search's paths, as they are made -/
def PSI (E : Nat) (h g : AH) (a q e0 : Nat) (f : Nat → Nat) (i cap arr : Nat) : Prop :=
  (aK g a = 11 ∧ aR g 0 a = some q ∧ aR g 1 a = some e0 ∧ aI g 2 a = aI h 2 a) ∧ LSh E g q arr i cap ∧ cap < 1600 ∧ (∀ k, k < i → aR g k arr = some (f k)) ∧ (∀ k, k < i → aK h (f k) = 0 ∧ aK g (f k) = 10 ∧ (∀ j, aI g j (f k) = 0) ∧ ∀ j, aR g j (f k) = none) ∧
  (∀ k k', k < i → k' < i → f k = f k' → k = k') ∧ aK h q = 0 ∧ (0 < cap → aK h arr = 0) ∧ SameX h g (fun y => y = a ∨ aK h y = 0) ∧ (0 < i → f 0 = e0)
theorem PSI.old {E : Nat} {h g : AH} {a q e0 : Nat} {f : Nat → Nat} {i cap arr : Nat} (hP : PSI E h g a q e0 f i cap arr) {y : Nat} (hy : aK g y = 0) : aK h y = 0 := by
  obtain ⟨⟨p1, -⟩, -, -, -, -, -, -, -, p9, -⟩ := hP
  by_cases z : aK h y = 0
  · exact z
  · by_cases w : y = a
    · rw [w, p1] at hy; exact absurd hy (by decide)
    · have := (p9 y (fun v => v.elim w z)).1
      rw [← this]; exact hy
theorem PSI.pn {E : Nat} {h g : AH} {a q e0 : Nat} {f : Nat → Nat} {i cap arr e : Nat} (hP : PSI E h g a q e0 f i cap arr) (he : aK g e = 0) : PSI E h (pN g e 10 0) a q e0 f i cap arr := by
  have ho := hP.old he
  obtain ⟨⟨p1, p2, p2b, p3⟩, ⟨l1, l2, l3, l4, l5, l6, l7⟩, pc, p4, p5, p6, p7, p8, p9, p10⟩ := hP
  have n1 : a ≠ e := fun z => by rw [z, he] at p1; exact absurd p1 (by decide)
  have n2 : q ≠ e := fun z => by rw [z, he] at l1; exact absurd l1 (by decide)
  have n3 : ∀ k, k < i → f k ≠ e := fun k hk z => by have := (p5 k hk).2.1; rw [z, he] at this; exact absurd this (by decide)
  have n4 : 0 < cap → arr ≠ e := fun hc z => by have := (l7 hc).1; rw [z, he] at this; exact absurd this (by decide)
  refine ⟨⟨by rw [aK_pN, if_neg n1]; exact p1, by rw [aR_pN, if_neg n1]; exact p2, by rw [aR_pN, if_neg n1]; exact p2b, by rw [aI_pN, if_neg n1]; exact p3⟩, ⟨by rw [aK_pN, if_neg n2]; exact l1, by rw [aI_pN, if_neg n2]; exact l2, by rw [aR_pN, if_neg n2]; exact l3, l4, l5, l6, fun hc => ?_⟩, pc, fun k hk => ?_, fun k hk => ?_, p6, p7, p8, ?_, p10⟩
  · have n5 := n4 hc
    refine ⟨by rw [aK_pN, if_neg n5]; exact (l7 hc).1, by rw [aN_pN, if_neg n5]; exact (l7 hc).2.1, fun j y hj hy => ?_⟩
    rw [aR_pN, if_neg n5] at hy
    have := (l7 hc).2.2 j y hj hy
    rw [aK_pN, if_neg (fun z => by rw [z, he] at this; unfold obK at this; omega)]
    exact this
  · have n5 := n4 (by omega)
    rw [aR_pN, if_neg n5]; exact p4 k hk
  · obtain ⟨a1, a2, a3, a4⟩ := p5 k hk
    exact ⟨a1, by rw [aK_pN, if_neg (n3 k hk)]; exact a2, fun j => by rw [aI_pN, if_neg (n3 k hk)]; exact a3 j, fun j => by rw [aR_pN, if_neg (n3 k hk)]; exact a4 j⟩
  · exact sx_in p9 (SameX.pN g e 10 0) (fun y hy => Or.inr (by rw [show y = e from hy]; exact ho))
theorem PSI.add {E : Nat} {h g g2 : AH} {a q e0 : Nat} {f : Nat → Nat} {i cap arr e : Nat} (hP : PSI E h g a q e0 f i cap arr) (hi : i < 266) (hL : Ladd g g2 q arr i cap (insG g arr e i)) (hek : aK g e = 10) (he0 : aK h e = 0) (hz1 : ∀ j, aI g j e = 0) (hz2 : ∀ j, aR g j e = none) (hne : ∀ k, k < i → f k ≠ e) (h0 : i = 0 → e = e0) :
    ∃ arr', PSI E h g2 a q e0 (fun k => if k = i then e else f k) (i + 1) (ncap i cap) arr' := by
  have hold := fun y (hy : aK g y = 0) => hP.old hy
  obtain ⟨⟨p1, p2, p2b, p3⟩, ⟨l1, l2, l3, l4, l5, l6, l7⟩, pc, p4, p5, p6, p7, p8, p9, p10⟩ := hP
  obtain ⟨arr', a1, a2, a3, a4, a5, a6, a7, a8⟩ := hL
  have hka : aK g arr' = 31 ∨ aK g arr' = 0 := by
    rcases a7 with ⟨rfl, z⟩ | ⟨z, -⟩
    · exact Or.inl (l7 (by omega)).1
    · exact Or.inr z
  have hna : ∀ y, aK g y ≠ 31 → aK g y ≠ 0 → aK g y ≠ 3 → ¬ (y = q ∨ y = arr') := by
    intro y h1 h2 h3 z
    rcases z with rfl | rfl
    · exact h3 l1
    · exact hka.elim h1 h2
  have sa := a8 a (hna a (by rw [p1]; decide) (by rw [p1]; decide) (by rw [p1]; decide))
  have se := a8 e (hna e (by rw [hek]; decide) (by rw [hek]; decide) (by rw [hek]; decide))
  have sf : ∀ k, k < i → _ := fun k hk => a8 (f k) (hna (f k) (by rw [(p5 k hk).2.1]; decide) (by rw [(p5 k hk).2.1]; decide) (by rw [(p5 k hk).2.1]; decide))
  have hnc := ncap_lt (show i < 1024 by omega) pc
  have hn1 := ncap_room l4
  have hn2 := gcap_gt i
  have hlt : i + 1 ≤ ncap i cap := by unfold ncap; split <;> omega
  have hel : ∀ k, k < i + 1 → aR g2 k arr' = some (if k = i then e else f k) := by
    intro k hk
    rw [a6 k hk]
    unfold insG
    by_cases z : k < i
    · rw [if_pos z, if_neg (by omega)]; exact p4 k z
    · rw [if_neg z, if_pos (by omega), if_pos (by omega)]
  have hkd : ∀ k, k < i + 1 → aK g2 (if k = i then e else f k) = 10 := by
    intro k hk
    by_cases z : k = i
    · rw [if_pos z, se.1]; exact hek
    · rw [if_neg z, (sf k (by omega)).1]; exact (p5 k (by omega)).2.1
  have hold' : aK h arr' = 0 := by
    rcases a7 with ⟨rfl, z⟩ | ⟨z, -⟩
    · exact p8 (by omega)
    · exact hold _ z
  refine ⟨arr', ⟨by rw [sa.1]; exact p1, by rw [sa.2.2.1]; exact p2, by rw [sa.2.2.1]; exact p2b, by rw [sa.2.1]; exact p3⟩, ⟨a3, a2, a1, hlt, by omega, fun z => by omega, fun _ => ⟨a4, a5, fun k y hk hy => ?_⟩⟩, hnc, hel, fun k hk => ?_, fun k k' hk hk' e => ?_, p7, fun _ => hold', ?_, fun _ => ?_⟩
  · rw [hel k hk] at hy
    rw [← Option.some.inj hy, hkd k hk]
    unfold obK; omega
  · dsimp only
    by_cases z : k = i
    · rw [if_pos z]
      exact ⟨he0, by rw [se.1]; exact hek, fun j => by rw [se.2.1]; exact hz1 j, fun j => by rw [se.2.2.1]; exact hz2 j⟩
    · rw [if_neg z]
      obtain ⟨b1, b2, b3, b4⟩ := p5 k (by omega)
      have s := sf k (by omega)
      exact ⟨b1, by rw [s.1]; exact b2, fun j => by rw [s.2.1]; exact b3 j, fun j => by rw [s.2.2.1]; exact b4 j⟩
  · dsimp only at e
    by_cases z : k = i
    · by_cases z' : k' = i
      · omega
      · rw [if_pos z, if_neg z'] at e; exact absurd e.symm (hne k' (by omega))
    · by_cases z' : k' = i
      · rw [if_neg z, if_pos z'] at e; exact absurd e (hne k (by omega))
      · rw [if_neg z, if_neg z'] at e; exact p6 k k' (by omega) (by omega) e
  · exact sx_in p9 a8 (fun y hy => Or.inr (hy.elim (fun z => by rw [z]; exact p7) (fun z => by rw [z]; exact hold')))
  · dsimp only
    by_cases z : 0 = i
    · rw [if_pos z]; exact h0 z.symm
    · rw [if_neg z]; exact p10 (by omega)
set_option maxHeartbeats 800000 in
set_option maxRecDepth 100000 in
theorem cC_X7_init (l : Launch) (G : GT) (A : Nat → Prop) (h : AH) (a : Nat) (hk : aK h a = 11) : cmV l G A yX7_init cX7_init 2 7 191 2000 9000 [.ref (a)] h (fun h' => ∃ q e0 f cap arr, PSI G.2.2.1 h h' a q e0 f 266 cap arr) := by
  refine cm_of "Routepost$PathSearch" rfl (by decide) (Nat.le_of_ble_eq_true rfl) ?_
  intro pr e s m9 below meth c C0 hr hname hH ls hl
  obtain ⟨hx, hb, hml, hown, hts, hK, hA, -⟩ := id C0
  have hl : lv_has ls 2 [(0, .ref (a))] := hl
  have hin : meth.name = "<init>" := hname
  refine lv_aload_n hx hb dX7_init_0 rfl (lv_at hl 0 rfl) ?_
  refine o_objI C0 ml_X7_3 hl.1 dX7_init_1 (Nat.le_of_ble_eq_true rfl) (Nat.le_of_ble_eq_true rfl) ?_
  refine lv_aload_n hx hb dX7_init_4 rfl (lv_at hl 0 rfl) ?_
  refine o_new hx hb hts hown hK hA hH ci_3 cl_X7_9 im_Jx4a65c in_Jx4a65c (fun j hj => by rcases (by omega : j = 0 ∨ j = 1 ∨ j = 2) with rfl | rfl | rfl <;> rfl) (by show _ ≤ 2000; omega) (by show _ ≤ 9000; omega) dX7_init_5 (fun q1 H hq1 hqs hH => ?_)
  have n_a_q1 : a ≠ q1 := fun z => by rw [z, hq1] at hk; exact absurd hk (by decide)
  obtain ⟨h_1, e_1⟩ : ∃ z, z = pN h q1 3 0 := ⟨_, rfl⟩
  rw [← e_1] at hH
  have hk : aK h_1 a = 11 := by rw [e_1, aK_pN, if_neg n_a_q1]; exact hk
  have kq1 : aK h_1 q1 = 3 := by rw [e_1, aK_pN, if_pos rfl]
  refine lv_dup hx hb dX7_init_8 rfl ?_
  refine k_v hH (k_runI (rest := [.ref (q1), .ref (a)]) C0 hH (cJ_Jx4a65c_init_da8c8 l G A h_1 q1 kq1) mv_Jx4a65c_init_da8c8 ml_X7_11 rfl ⟨Nat.le_of_ble_eq_true rfl, Nat.le_of_ble_eq_true rfl⟩ hl.1 rfl (Nat.le_of_ble_eq_true rfl) dX7_init_9 ⟨by show _ ≤ 2000; omega, by show _ ≤ 9000; omega⟩) (fun h9 H locs hp hH => ?_)
  rw [hp] at hH
  clear hp h9
  obtain ⟨h_2, e_2⟩ : ∃ z, z = pR (pI h_1 0 q1 0) 1 q1 (some G.2.2.1) := ⟨_, rfl⟩
  rw [← e_2] at hH
  have hk : aK h_2 a = 11 := by rw [e_2]; exact hk
  have kq1 : aK h_2 q1 = 3 := by rw [e_2]; exact kq1
  refine o_putFR (x := some q1) hx hb hts hown hK hH ci_11 hk (j := 0) rfl rfl fl_X7_12 rfl hin rfl (fun x => by cases x <;> exact ⟨rfl, rfl⟩) dX7_init_12 (fun H locs hH => ?_)
  obtain ⟨h_3, e_3⟩ : ∃ z, z = pR h_2 0 a (some q1) := ⟨_, rfl⟩
  rw [← e_3] at hH
  have hk : aK h_3 a = 11 := by rw [e_3]; exact hk
  have kq1 : aK h_3 q1 = 3 := by rw [e_3]; exact kq1
  refine lv_aload_n hx hb dX7_init_15 rfl (lv_at hl 0 rfl) ?_
  refine o_new hx hb hts hown hK hA hH ci_10 cl_X7_18 im_X6 in_X6 (fun j hj => by rcases (by omega : j = 0 ∨ j = 1 ∨ j = 2 ∨ j = 3 ∨ j = 4 ∨ j = 5 ∨ j = 6) with rfl | rfl | rfl | rfl | rfl | rfl | rfl <;> rfl) (by show _ ≤ 2000; omega) (by show _ ≤ 9000; omega) dX7_init_16 (fun q2 H hq2 hqs hH => ?_)
  have n_a_q2 : a ≠ q2 := fun z => by rw [z, hq2] at hk; exact absurd hk (by decide)
  have n_q1_q2 : q1 ≠ q2 := fun z => by rw [z, hq2] at kq1; exact absurd kq1 (by decide)
  obtain ⟨h_4, e_4⟩ : ∃ z, z = pN h_3 q2 10 0 := ⟨_, rfl⟩
  rw [← e_4] at hH
  have hk : aK h_4 a = 11 := by rw [e_4, aK_pN, if_neg n_a_q2]; exact hk
  have kq1 : aK h_4 q1 = 3 := by rw [e_4, aK_pN, if_neg n_q1_q2]; exact kq1
  have kq2 : aK h_4 q2 = 10 := by rw [e_4, aK_pN, if_pos rfl]
  refine lv_dup hx hb dX7_init_19 rfl ?_
  refine k_v hH (k_runIN (rest := [.ref (q2), .ref (a)]) C0 hH (cC_X6_init l G A h_4 q2) mv_X6_init mn_X7_20 rfl ⟨Nat.le_of_ble_eq_true rfl, Nat.le_of_ble_eq_true rfl⟩ hl.1 rfl (Nat.le_of_ble_eq_true rfl) dX7_init_20 ⟨by show _ ≤ 2000; omega, by show _ ≤ 9000; omega⟩) (fun h9 H locs hp hH => ?_)
  rw [hp] at hH
  clear hp h9
  refine o_putFR (x := some q2) hx hb hts hown hK hH ci_11 hk (j := 1) rfl rfl fl_X7_21 rfl hin rfl (fun x => by cases x <;> exact ⟨rfl, rfl⟩) dX7_init_23 (fun H locs hH => ?_)
  obtain ⟨h_5, e_5⟩ : ∃ z, z = pR h_4 1 a (some q2) := ⟨_, rfl⟩
  rw [← e_5] at hH
  have hk : aK h_5 a = 11 := by rw [e_5]; exact hk
  have kq1 : aK h_5 q1 = 3 := by rw [e_5]; exact kq1
  have kq2 : aK h_5 q2 = 10 := by rw [e_5]; exact kq2
  have hq20 : aK h q2 = 0 := by simpa [e_1, e_2, e_3, e_4, aK_pI, aK_pR, aI_pI, aI_pR, aR_pI, aR_pR, aN_pI, aN_pR, aK_pN, aI_pN, aR_pN, aN_pN, Ne.symm n_q1_q2, Ne.symm n_a_q2, n_a_q1, Ne.symm n_a_q1] using hq2
  have x_1 : SameX h h_1 (fun y => y = a ∨ y = q1 ∨ y = q2) := sx_in (SameX.refl h _) (by rw [e_1]; exact SameX.pN _ _ _ _) (fun y hy => by simp only [hy]; simp)
  have x_2 : SameX h h_2 (fun y => y = a ∨ y = q1 ∨ y = q2) := sx_in x_1 (by rw [e_2]; exact (SameX.pI _ _ _ _).trans (SameX.pR _ _ _ _)) (fun y hy => by rcases hy with hy | hy <;> (simp only [hy]; simp))
  have x_3 : SameX h h_3 (fun y => y = a ∨ y = q1 ∨ y = q2) := sx_in x_2 (by rw [e_3]; exact SameX.pR _ _ _ _) (fun y hy => by simp only [hy]; simp)
  have x_4 : SameX h h_4 (fun y => y = a ∨ y = q1 ∨ y = q2) := sx_in x_3 (by rw [e_4]; exact SameX.pN _ _ _ _) (fun y hy => by simp only [hy]; simp)
  have x_5 : SameX h h_5 (fun y => y = a ∨ y = q1 ∨ y = q2) := sx_in x_4 (by rw [e_5]; exact SameX.pR _ _ _ _) (fun y hy => by simp only [hy]; simp)
  have hP0 : PSI G.2.2.1 h h_5 a q1 q2 (fun _ => q2) 0 0 G.2.2.1 := ⟨⟨hk, by simp [e_1, e_2, e_3, e_4, e_5, aK_pI, aK_pR, aI_pI, aI_pR, aR_pI, aR_pR, aN_pI, aN_pR, aK_pN, aI_pN, aR_pN, aN_pN, n_a_q1, n_a_q2, n_q1_q2, Ne.symm n_a_q1, Ne.symm n_a_q2, Ne.symm n_q1_q2], by simp [e_1, e_2, e_3, e_4, e_5, aK_pI, aK_pR, aI_pI, aI_pR, aR_pI, aR_pR, aN_pI, aN_pR, aK_pN, aI_pN, aR_pN, aN_pN, n_a_q1, n_a_q2, n_q1_q2, Ne.symm n_a_q1, Ne.symm n_a_q2, Ne.symm n_q1_q2], by simp [e_1, e_2, e_3, e_4, e_5, aK_pI, aK_pR, aI_pI, aI_pR, aR_pI, aR_pR, aN_pI, aN_pR, aK_pN, aI_pN, aR_pN, aN_pN, n_a_q1, n_a_q2, n_q1_q2, Ne.symm n_a_q1, Ne.symm n_a_q2, Ne.symm n_q1_q2]⟩, ⟨kq1, by simp [e_1, e_2, e_3, e_4, e_5, aK_pI, aK_pR, aI_pI, aI_pR, aR_pI, aR_pR, aN_pI, aN_pR, aK_pN, aI_pN, aR_pN, aN_pN, n_a_q1, n_a_q2, n_q1_q2, Ne.symm n_a_q1, Ne.symm n_a_q2, Ne.symm n_q1_q2]; rfl, by simp [e_1, e_2, e_3, e_4, e_5, aK_pI, aK_pR, aI_pI, aI_pR, aR_pI, aR_pR, aN_pI, aN_pR, aK_pN, aI_pN, aR_pN, aN_pN, n_a_q1, n_a_q2, n_q1_q2, Ne.symm n_a_q1, Ne.symm n_a_q2, Ne.symm n_q1_q2], Nat.le_refl _, by decide, fun _ => rfl, fun z => absurd z (by decide)⟩, by decide, fun k z => absurd z (by omega), fun k z => absurd z (by omega), fun k k2 z => absurd z (by omega), hq1, fun z => absurd z (by decide), x_5.mono (fun y hy => hy.elim Or.inl (fun z => Or.inr (z.elim (fun w => by rw [w]; exact hq1) (fun w => by rw [w]; exact hq20)))), fun z => absurd z (by decide)⟩
  have z1 : ∀ j, aI h_5 j q2 = 0 := fun j => by simp [e_1, e_2, e_3, e_4, e_5, aK_pI, aK_pR, aI_pI, aI_pR, aR_pI, aR_pR, aN_pI, aN_pR, aK_pN, aI_pN, aR_pN, aN_pN, n_a_q1, n_a_q2, n_q1_q2, Ne.symm n_a_q1, Ne.symm n_a_q2, Ne.symm n_q1_q2]
  have z2 : ∀ j, aR h_5 j q2 = none := fun j => by simp [e_1, e_2, e_3, e_4, e_5, aK_pI, aK_pR, aI_pI, aI_pR, aR_pI, aR_pR, aN_pI, aN_pR, aK_pN, aI_pN, aR_pN, aN_pN, n_a_q1, n_a_q2, n_q1_q2, Ne.symm n_a_q1, Ne.symm n_a_q2, Ne.symm n_q1_q2]
  refine lv_aload_n hx hb dX7_init_26 rfl (lv_at hl 0 rfl) ?_
  refine o_getR hx hb hts hown hK hH ci_11 hk (j := 0) rfl rfl fl_X7_12 hP0.1.2.1 dX7_init_27 ?_
  refine lv_aload_n hx hb dX7_init_30 rfl (lv_at hl 0 rfl) ?_
  refine o_getR hx hb hts hown hK hH ci_11 hk (j := 1) rfl rfl fl_X7_21 hP0.1.2.2.1 dX7_init_31 ?_
  refine k_i hH (k_runV (rest := []) C0 hH (cJ_Jx4a65c_add_9ea2d l G A h_5 q1 q2 _ _ _ hP0.2.1 (by rw [kq2]; unfold obK; omega)) mv_Jx4a65c_add_9ea2d ml_X7_25 ci_3 kq1 rfl ⟨Nat.le_of_ble_eq_true rfl, Nat.le_of_ble_eq_true rfl⟩ hl.1 rfl (Nat.le_of_ble_eq_true rfl) dX7_init_34 ⟨by show _ ≤ 2000; unfold aC; simp; try omega, by show _ ≤ 9000; unfold aS gcap; simp; try omega⟩) (fun r8 h8 H locs hp hH => ?_)
  obtain ⟨arr1, hP1⟩ := hP0.add (by decide) hp.2 kq2 hq20 z1 z2 (fun k z => absurd z (by omega)) (fun _ => rfl)
  refine lv_pop hx hb dX7_init_37 rfl ?_
  refine lv_iconst (v := 1) hx hb dX7_init_38 (by decide) ?_
  refine lv_istore_n (lv' := [(1, .int (nI 1)), (0, .ref a)]) hx hb dX7_init_39 rfl hl (by decide) rfl (fun ls hl => ?_)
  have K : ∀ (k i : Nat) (f : Nat → Nat) (cap arr : Nat) (g : AH) (cc ss : Nat), i + k = 266 → 0 < i → PSI G.2.2.1 h g a q1 q2 f i cap arr → cc ≤ 2 + i + cap → ss ≤ 10 + 7 * i + 4 * cap → ∀ (H : Heap) (locs : List Loc) (hH : HS G.1 G.2.1 A s.heap g H locs) (ls : Array Slot), lv_has ls 2 [(1, .int (nI i)), (0, .ref a)] → W pr l e (rmm 7 191 2000 9000) s m9 ([.ref a] : List Value).toArray below meth c H locs cc ss (QV below G A (fun h' => ∃ q e0 f cap arr, PSI G.2.2.1 h h' a q e0 f 266 cap arr) ([.ref a] : List Value).toArray s 2000 9000) (F0 m9 40 ls []) := by
    intro k
    induction k with
    | zero =>
      intro i f cap arr g cc ss hik hi0 hP hcc hss H locs hH ls hl
      have hc := hP.2.2.1
      have hi : i = 266 := by omega
      subst hi
      refine lv_iload_n hx hb dX7_init_40 rfl (lv_at hl 0 rfl) ?_
      refine lv_sipush (v := 266) hx hb dX7_init_41 (by decide) ?_
      refine lv_icmp_ge (tgt := 68) hx hb dX7_init_44 (by decide) (fun c44 => ?_) (fun c44 => ?_)
      · exact e_V C0 hr hH ⟨q1, q2, f, cap, arr, hP⟩ (by omega) (by omega) dX7_init_68
      · exact absurd (by decide) c44
    | succ k ih =>
      intro i f cap arr g cc ss hik hi0 hP hcc hss H locs hH ls hl
      have hc := hP.2.2.1
      have hka := hP.1.1
      have hcap := hP.2.1.2.2.2.1
      have hrm := ncap_room hcap
      have hnc := ncap_lt (show i < 1024 by omega) hc
      refine lv_iload_n hx hb dX7_init_40 rfl (lv_at hl 0 rfl) ?_
      refine lv_sipush (v := 266) hx hb dX7_init_41 (by decide) ?_
      refine lv_icmp_ge (tgt := 68) hx hb dX7_init_44 (by decide) (fun c44 => ?_) (fun c44 => ?_)
      · exact absurd (show nI 266 ≤ nI i from c44) (nI_ge (by omega) (by omega))
      · refine lv_aload_n hx hb dX7_init_47 rfl (lv_at hl 1 rfl) ?_
        refine o_getR hx hb hts hown hK hH ci_11 hka (j := 0) rfl rfl fl_X7_12 hP.1.2.1 dX7_init_48 ?_
        refine o_new hx hb hts hown hK hA hH ci_10 cl_X7_18 im_X6 in_X6 (fun j hj => by rcases (by omega : j = 0 ∨ j = 1 ∨ j = 2 ∨ j = 3 ∨ j = 4 ∨ j = 5 ∨ j = 6) with rfl | rfl | rfl | rfl | rfl | rfl | rfl <;> rfl) (by show _ ≤ 2000; omega) (by show _ ≤ 9000; omega) dX7_init_51 (fun e9 H1 he9 hqs hH => ?_)
        have hP2 := hP.pn he9
        have hoe := hP.old he9
        have hne : ∀ k, k < i → f k ≠ e9 := fun k hk z => by have := (hP.2.2.2.2.1 k hk).2.1; rw [z, he9] at this; exact absurd this (by decide)
        obtain ⟨g1, eg1⟩ : ∃ z, z = pN g e9 10 0 := ⟨_, rfl⟩
        rw [← eg1] at hH hP2
        have ke : aK g1 e9 = 10 := by rw [eg1, aK_pN, if_pos rfl]
        have ze1 : ∀ j, aI g1 j e9 = 0 := fun j => by rw [eg1, aI_pN, if_pos rfl]
        have ze2 : ∀ j, aR g1 j e9 = none := fun j => by rw [eg1, aR_pN, if_pos rfl]
        refine lv_dup hx hb dX7_init_54 rfl ?_
        refine k_v hH (k_runIN (rest := [.ref e9, .ref q1]) C0 hH (cC_X6_init l G A g1 e9) mv_X6_init mn_X7_20 rfl ⟨Nat.le_of_ble_eq_true rfl, Nat.le_of_ble_eq_true rfl⟩ hl.1 rfl (Nat.le_of_ble_eq_true rfl) dX7_init_55 ⟨by show _ ≤ 2000; omega, by show _ ≤ 9000; omega⟩) (fun h9 H locs hp hH => ?_)
        rw [hp] at hH
        clear hp h9
        refine k_i hH (k_runV (rest := []) C0 hH (cJ_Jx4a65c_add_9ea2d l G A g1 q1 e9 _ _ _ hP2.2.1 (by rw [ke]; unfold obK; omega)) mv_Jx4a65c_add_9ea2d ml_X7_25 ci_3 hP2.2.1.1 rfl ⟨Nat.le_of_ble_eq_true rfl, Nat.le_of_ble_eq_true rfl⟩ hl.1 rfl (Nat.le_of_ble_eq_true rfl) dX7_init_58 ⟨by show _ ≤ 2000; omega, by show _ ≤ 9000; omega⟩) (fun r7 h7 H locs hp hH => ?_)
        obtain ⟨arr2, hP3⟩ := hP2.add (by omega) hp.2 ke hoe ze1 ze2 hne (fun z => by omega)
        refine lv_pop hx hb dX7_init_61 rfl ?_
        refine lv_iinc (v := nI (i + 1)) (lv' := [(1, .int (nI (i + 1))), (0, .ref a)]) hx hb dX7_init_62 hl (k := 0) rfl (by rw [← nI_1]; rfl) (by decide) rfl (fun ls hl => ?_)
        refine lv_goto (tgt := 40) hx hb dX7_init_65 (by decide) ?_
        exact ih (i + 1) _ _ _ h7 _ _ (by omega) (by omega) hP3 (by omega) (by omega) _ _ hH ls hl
  exact K 265 1 _ _ _ h8 _ _ (by omega) (by omega) hP1 (by unfold aC ncap gcap; simp; try omega) (by unfold aS ncap gcap; simp; try omega) _ _ hH ls hl

