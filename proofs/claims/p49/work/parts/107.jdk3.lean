def ncap (n cap : Nat) : Nat := if n = cap then gcap n else cap
def aC (n cap : Nat) : Nat := if n = cap then 1 else 0
def aS (n cap : Nat) : Nat := if n = cap then gcap n else 0
/-- the list at a, of n things in arr, has become longer by one; g says what it holds now -/
def Ladd (h h' : AH) (a arr n cap : Nat) (g : Nat → Option Nat) : Prop := ∃ arr', aR h' 1 a = some arr' ∧ aI h' 2 a = nI (n + 1) ∧ aK h' a = 3 ∧ aK h' arr' = 31 ∧ aN h' arr' = ncap n cap ∧ (∀ i, i < n + 1 → aR h' i arr' = g i) ∧ (arr' = arr ∧ n < cap ∨ aK h arr' = 0 ∧ n = cap) ∧ SameX h h' (fun y => y = a ∨ y = arr')
theorem LSh.mod {E : Nat} {h : AH} {a arr n cap : Nat} (hL : LSh E h a arr n cap) (x : Int32) : LSh E (pI h 0 a x) a arr n cap := by
  obtain ⟨h1, h2, h3, h4, h5, h6, h7⟩ := hL
  exact ⟨h1, by rw [aI_pI, if_neg (fun z => absurd z.1 (by decide))]; exact h2, h3, h4, h5, h6, h7⟩
theorem Ladd.mod {h h' : AH} {a arr n cap : Nat} {g : Nat → Option Nat} {x : Int32} (hL : Ladd (pI h 0 a x) h' a arr n cap g) : Ladd h h' a arr n cap g := by
  obtain ⟨arr', h1, h2, h3, h4, h5, h6, h7, h8⟩ := hL
  exact ⟨arr', h1, h2, h3, h4, h5, h6, h7, ((SameX.pI h 0 a x).trans h8).mono (fun y hy => hy.elim Or.inl id)⟩
/-- what a list holds when x has come in at the place i -/
def insG (h : AH) (arr x i : Nat) : Nat → Option Nat := fun k => if k < i then aR h k arr else if k = i then some x else aR h (k - 1) arr
set_option maxHeartbeats 4000000 in
set_option maxRecDepth 100000 in
theorem cJ_Jx4a65c_grow_d5877 (l : Launch) (G : GT) (A : Nat → Prop) (h : AH) (a arr n : Nat) (hL : LSh G.2.2.1 h a arr n n) : cmQ l G A yJx4a65c_grow_d5877 cJx4a65c_grow_d5877 1 (Option.some (FieldType.array (FieldType.object "java/lang/Object"))) 4 127 1 (gcap n) [.ref (a)] h (fun r h' => ∃ q, r = some q ∧ Grown h h' a arr n q) := by
  refine cm_of "java/util/ArrayList" rfl (by decide) (Nat.le_of_ble_eq_true rfl) ?_
  intro pr e s m9 below meth c C0 hr hname hH ls hl
  obtain ⟨hx, hb, hml, hown, hts, hK, hA, -⟩ := id C0
  have hl : lv_has ls 1 [(0, .ref (a))] := hl
  obtain ⟨hk, hs, -⟩ := id hL
  refine lv_aload_n hx hb dJx4a65c_grow_d5877_0 rfl (lv_at hl 0 rfl) ?_
  refine lv_aload_n hx hb dJx4a65c_grow_d5877_1 rfl (lv_at hl 0 rfl) ?_
  refine j_getI C0 hH hk 2 rfl "java/util/ArrayList" (Or.inl rfl) fl_Jx4a65c_48 (v := nI n) hs dJx4a65c_grow_d5877_2 ?_
  refine lv_iconst (v := 1) hx hb dJx4a65c_grow_d5877_5 (by decide) ?_
  refine lv_iadd hx hb dJx4a65c_grow_d5877_6 ?_
  rw [nI_1]
  refine k_q hH (k_runV (rest := []) C0 hH (cJ_grow l G A h a arr n hL) mv_Jx4a65c_grow_92f84 ml_Jx4a65c_69 ci_3 hk rfl ⟨Nat.le_of_ble_eq_true rfl, Nat.le_of_ble_eq_true rfl⟩ hl.1 rfl (Nat.le_of_ble_eq_true rfl) dJx4a65c_grow_d5877_7 ⟨by show 0 + 1 ≤ 1; omega, by show 0 + gcap n ≤ gcap n; omega⟩) (fun r_1 h1 H locs hp hH => ?_)
  exact e_Q (v := r_1) C0 hr (Or.inr ⟨_, rfl⟩) hH hp (by show 0 + 1 ≤ 1; omega) (by show 0 + gcap n ≤ gcap n; omega) dJx4a65c_grow_d5877_10
set_option maxHeartbeats 4000000 in
set_option maxRecDepth 100000 in
theorem cJ_add3_lt (l : Launch) (G : GT) (A : Nat → Prop) (h : AH) (a x arr n cap : Nat) (hL : LSh G.2.2.1 h a arr n cap) (hx0 : obK (aK h x)) (hlt : n < cap) : cmV l G A yJx4a65c_add_72be8 cJx4a65c_add_72be8 4 5 147 0 0 [.ref (a), .ref (x), .ref (arr), .int (nI n)] h (fun h' => Ladd h h' a arr n cap (insG h arr x n)) := by
  refine cm_of "java/util/ArrayList" rfl (by decide) (Nat.le_of_ble_eq_true rfl) ?_
  intro pr e s m9 below meth c C0 hr hname hH ls hl
  obtain ⟨hx, hb, hml, hown, hts, hK, hA, -⟩ := id C0
  have hl : lv_has ls 4 [(0, .ref (a)), (1, .ref (x)), (2, .ref (arr)), (3, .int (nI n))] := hl
  obtain ⟨hk, hs, hra, hnc, hcap, h6, h7⟩ := id hL
  obtain ⟨ka, kn, kel⟩ := h7 (by omega)
  refine lv_iload_n hx hb dJx4a65c_add_72be8_0 rfl (lv_at hl 3 rfl) ?_
  refine lv_aload_n hx hb dJx4a65c_add_72be8_1 rfl (lv_at hl 2 rfl) ?_
  refine j_alen C0 hH ka kn dJx4a65c_add_72be8_2 ?_
  refine lv_icmp_ne (tgt := 11) hx hb dJx4a65c_add_72be8_3 (by decide) (fun c3_1 => ?_) (fun c3_1 => ?_)
  · refine lv_aload_n hx hb dJx4a65c_add_72be8_11 rfl (lv_at hl 2 rfl) ?_
    refine lv_iload_n hx hb dJx4a65c_add_72be8_12 rfl (lv_at hl 3 rfl) ?_
    refine lv_aload_n hx hb dJx4a65c_add_72be8_13 rfl (lv_at hl 1 rfl) ?_
    refine k_astO C0 hH ka kn (vp_in_nI (by omega) (by omega)) hx0 dJx4a65c_add_72be8_14 (fun H locs hH => ?_)
    rw [nI_clamp (by omega)] at hH
    refine lv_aload_n hx hb dJx4a65c_add_72be8_15 rfl (lv_at hl 0 rfl) ?_
    refine lv_iload_n hx hb dJx4a65c_add_72be8_16 rfl (lv_at hl 3 rfl) ?_
    refine lv_iconst (v := 1) hx hb dJx4a65c_add_72be8_17 (by decide) ?_
    refine lv_iadd hx hb dJx4a65c_add_72be8_18 ?_
    rw [nI_1]
    refine j_putI C0 hH (show aK (pR h n arr (some x)) a = 3 from hk) 2 rfl rfl "java/util/ArrayList" (Or.inl rfl) fl_Jx4a65c_48 dJx4a65c_add_72be8_19 (fun H locs hH => ?_)
    exact e_V C0 hr hH ⟨arr, by rw [aR_pI, aR_pR, if_neg (fun z => (fun e => by rw [← e, hk] at ka; omega) z.2)]; exact hra, by rw [aI_pI, if_pos ⟨rfl, rfl⟩], hk, ka, by rw [aN_pI, aN_pR, kn]; unfold ncap; rw [if_neg (by omega)], fun i hi => by unfold insG; rw [aR_pI, aR_pR]; by_cases e : i = n; (· subst e; rw [if_pos ⟨rfl, rfl⟩, if_neg (Nat.lt_irrefl _), if_pos rfl]); (· rw [if_neg (fun z => e z.1), if_pos (by omega)]), Or.inl ⟨rfl, hlt⟩, ((SameX.pR h n arr (some x)).trans (SameX.pI _ 2 a _)).mono (fun y hy => hy.elim Or.inr Or.inl)⟩ (Nat.le_refl _) (Nat.le_refl _) dJx4a65c_add_72be8_22
  · exact absurd ((nI_eq (by omega) (by omega)).mp c3_1) (by omega)
set_option maxHeartbeats 4000000 in
set_option maxRecDepth 100000 in
theorem cJ_add3_eq (l : Launch) (G : GT) (A : Nat → Prop) (h : AH) (a x arr n : Nat) (hL : LSh G.2.2.1 h a arr n n) (hx0 : obK (aK h x)) (h0 : 0 < n) : cmV l G A yJx4a65c_add_72be8 cJx4a65c_add_72be8 4 5 147 1 (gcap n) [.ref (a), .ref (x), .ref (arr), .int (nI n)] h (fun h' => Ladd h h' a arr n n (insG h arr x n)) := by
  refine cm_of "java/util/ArrayList" rfl (by decide) (Nat.le_of_ble_eq_true rfl) ?_
  intro pr e s m9 below meth c C0 hr hname hH ls hl
  obtain ⟨hx, hb, hml, hown, hts, hK, hA, -⟩ := id C0
  have hl : lv_has ls 4 [(0, .ref (a)), (1, .ref (x)), (2, .ref (arr)), (3, .int (nI n))] := hl
  obtain ⟨hk, hs, hra, hnc, hcap, h6, h7⟩ := id hL
  obtain ⟨ka, kn, kel⟩ := h7 h0
  refine lv_iload_n hx hb dJx4a65c_add_72be8_0 rfl (lv_at hl 3 rfl) ?_
  refine lv_aload_n hx hb dJx4a65c_add_72be8_1 rfl (lv_at hl 2 rfl) ?_
  refine j_alen C0 hH ka kn dJx4a65c_add_72be8_2 ?_
  refine lv_icmp_ne (tgt := 11) hx hb dJx4a65c_add_72be8_3 (by decide) (fun c3_1 => ?_) (fun c3_1 => ?_)
  · exact absurd rfl c3_1
  · refine lv_aload_n hx hb dJx4a65c_add_72be8_6 rfl (lv_at hl 0 rfl) ?_
    refine k_q hH (k_runV (rest := []) C0 hH (cJ_Jx4a65c_grow_d5877 l G A h a arr n hL) mv_Jx4a65c_grow_d5877 ml_Jx4a65c_129 ci_3 hk rfl ⟨Nat.le_of_ble_eq_true rfl, Nat.le_of_ble_eq_true rfl⟩ hl.1 rfl (Nat.le_of_ble_eq_true rfl) dJx4a65c_add_72be8_7 ⟨by show 0 + 1 ≤ 1; omega, by show 0 + gcap n ≤ gcap n; omega⟩) (fun r_2 h1 H locs hp hH => ?_)
    obtain ⟨q, rfl, hq0, hq1, hq2, hq3, hq4, hq5, hq6, hq7⟩ := hp
    have hne : a ≠ q := fun e => by rw [e, hq0] at hk; omega
    have hxq : x ≠ q := fun e => by rw [e, hq0] at hx0; unfold obK at hx0; omega
    have hxa : x ≠ a := fun e => by rw [e, hk] at hx0; unfold obK at hx0; omega
    have hx1 : obK (aK h1 x) := by rw [(hq7 x (fun z => z.elim hxq hxa)).1]; exact hx0
    refine lv_astore_n (lv' := [(2, .ref (q)), (0, .ref (a)), (1, .ref (x)), (3, .int (nI n))]) hx hb dJx4a65c_add_72be8_10 rfl hl (by decide) rfl (fun ls hl => ?_)
    refine lv_aload_n hx hb dJx4a65c_add_72be8_11 rfl (lv_at hl 0 rfl) ?_
    refine lv_iload_n hx hb dJx4a65c_add_72be8_12 rfl (lv_at hl 3 rfl) ?_
    refine lv_aload_n hx hb dJx4a65c_add_72be8_13 rfl (lv_at hl 2 rfl) ?_
    have hg := gcap_gt n
    have hg2 := gcap_le n
    refine k_astO C0 hH hq1 hq2 (vp_in_nI (by omega) (by omega)) hx1 dJx4a65c_add_72be8_14 (fun H locs hH => ?_)
    rw [nI_clamp (by omega)] at hH
    refine lv_aload_n hx hb dJx4a65c_add_72be8_15 rfl (lv_at hl 1 rfl) ?_
    refine lv_iload_n hx hb dJx4a65c_add_72be8_16 rfl (lv_at hl 3 rfl) ?_
    refine lv_iconst (v := 1) hx hb dJx4a65c_add_72be8_17 (by decide) ?_
    refine lv_iadd hx hb dJx4a65c_add_72be8_18 ?_
    rw [nI_1]
    refine j_putI C0 hH (show aK (pR h1 n q (some x)) a = 3 from hq6) 2 rfl rfl "java/util/ArrayList" (Or.inl rfl) fl_Jx4a65c_48 dJx4a65c_add_72be8_19 (fun H locs hH => ?_)
    exact e_V C0 hr hH ⟨q, by rw [aR_pI, aR_pR, if_neg (fun z => hne z.2)]; exact hq4, by rw [aI_pI, if_pos ⟨rfl, rfl⟩], hq6, hq1, by rw [aN_pI, aN_pR, hq2]; unfold ncap; rw [if_pos rfl], fun i hi => by unfold insG; rw [aR_pI, aR_pR]; by_cases e : i = n; (· subst e; rw [if_pos ⟨rfl, rfl⟩, if_neg (Nat.lt_irrefl _), if_pos rfl]); (· rw [if_neg (fun z => e z.1), if_pos (by omega)]; exact hq3 i (by omega)), Or.inr ⟨hq0, rfl⟩, ((hq7.trans (SameX.pR h1 n q (some x))).trans (SameX.pI _ 2 a _)).mono (fun y hy => hy.elim (fun z => z.elim (fun w => w.elim Or.inr Or.inl) Or.inr) Or.inl)⟩ (by show 0 + 1 ≤ 1; omega) (by show 0 + gcap n ≤ gcap n; omega) dJx4a65c_add_72be8_22
set_option maxHeartbeats 4000000 in
set_option maxRecDepth 100000 in
theorem cJ_add3_z (l : Launch) (G : GT) (A : Nat → Prop) (h : AH) (a x arr n : Nat) (hL : LSh G.2.2.1 h a arr n n) (hx0 : obK (aK h x)) (h0 : n = 0) : cmV l G A yJx4a65c_add_72be8 cJx4a65c_add_72be8 4 5 147 1 (gcap n) [.ref (a), .ref (x), .ref (arr), .int (nI n)] h (fun h' => Ladd h h' a arr n n (insG h arr x n)) := by
  refine cm_of "java/util/ArrayList" rfl (by decide) (Nat.le_of_ble_eq_true rfl) ?_
  intro pr e s m9 below meth c C0 hr hname hH ls hl
  obtain ⟨hx, hb, hml, hown, hts, hK, hA, -⟩ := id C0
  have hl : lv_has ls 4 [(0, .ref (a)), (1, .ref (x)), (2, .ref (arr)), (3, .int (nI n))] := hl
  obtain ⟨hk, hs, hra, hnc, hcap, h6, h7⟩ := id hL
  have earr := h6 h0
  have earr2 : arr = G.2.2.1 := earr
  refine lv_iload_n hx hb dJx4a65c_add_72be8_0 rfl (lv_at hl 3 rfl) ?_
  refine lv_aload_n hx hb dJx4a65c_add_72be8_1 rfl (lv_at hl 2 rfl) ?_
  refine k_alen0e C0 hH earr2 dJx4a65c_add_72be8_2 ?_
  refine lv_icmp_ne (tgt := 11) hx hb dJx4a65c_add_72be8_3 (by decide) (fun c3_1 => ?_) (fun c3_1 => ?_)
  · exact absurd (by rw [h0]; rfl) c3_1
  · refine lv_aload_n hx hb dJx4a65c_add_72be8_6 rfl (lv_at hl 0 rfl) ?_
    refine k_q hH (k_runV (rest := []) C0 hH (cJ_Jx4a65c_grow_d5877 l G A h a arr n hL) mv_Jx4a65c_grow_d5877 ml_Jx4a65c_129 ci_3 hk rfl ⟨Nat.le_of_ble_eq_true rfl, Nat.le_of_ble_eq_true rfl⟩ hl.1 rfl (Nat.le_of_ble_eq_true rfl) dJx4a65c_add_72be8_7 ⟨by show 0 + 1 ≤ 1; omega, by show 0 + gcap n ≤ gcap n; omega⟩) (fun r_2 h1 H locs hp hH => ?_)
    obtain ⟨q, rfl, hq0, hq1, hq2, hq3, hq4, hq5, hq6, hq7⟩ := hp
    have hne : a ≠ q := fun e => by rw [e, hq0] at hk; omega
    have hxq : x ≠ q := fun e => by rw [e, hq0] at hx0; unfold obK at hx0; omega
    have hxa : x ≠ a := fun e => by rw [e, hk] at hx0; unfold obK at hx0; omega
    have hx1 : obK (aK h1 x) := by rw [(hq7 x (fun z => z.elim hxq hxa)).1]; exact hx0
    refine lv_astore_n (lv' := [(2, .ref (q)), (0, .ref (a)), (1, .ref (x)), (3, .int (nI n))]) hx hb dJx4a65c_add_72be8_10 rfl hl (by decide) rfl (fun ls hl => ?_)
    refine lv_aload_n hx hb dJx4a65c_add_72be8_11 rfl (lv_at hl 0 rfl) ?_
    refine lv_iload_n hx hb dJx4a65c_add_72be8_12 rfl (lv_at hl 3 rfl) ?_
    refine lv_aload_n hx hb dJx4a65c_add_72be8_13 rfl (lv_at hl 2 rfl) ?_
    have hg := gcap_gt n
    have hg2 := gcap_le n
    refine k_astO C0 hH hq1 hq2 (vp_in_nI (by omega) (by omega)) hx1 dJx4a65c_add_72be8_14 (fun H locs hH => ?_)
    rw [nI_clamp (by omega)] at hH
    refine lv_aload_n hx hb dJx4a65c_add_72be8_15 rfl (lv_at hl 1 rfl) ?_
    refine lv_iload_n hx hb dJx4a65c_add_72be8_16 rfl (lv_at hl 3 rfl) ?_
    refine lv_iconst (v := 1) hx hb dJx4a65c_add_72be8_17 (by decide) ?_
    refine lv_iadd hx hb dJx4a65c_add_72be8_18 ?_
    rw [nI_1]
    refine j_putI C0 hH (show aK (pR h1 n q (some x)) a = 3 from hq6) 2 rfl rfl "java/util/ArrayList" (Or.inl rfl) fl_Jx4a65c_48 dJx4a65c_add_72be8_19 (fun H locs hH => ?_)
    exact e_V C0 hr hH ⟨q, by rw [aR_pI, aR_pR, if_neg (fun z => hne z.2)]; exact hq4, by rw [aI_pI, if_pos ⟨rfl, rfl⟩], hq6, hq1, by rw [aN_pI, aN_pR, hq2]; unfold ncap; rw [if_pos rfl], fun i hi => by unfold insG; rw [aR_pI, aR_pR]; by_cases e : i = n; (· subst e; rw [if_pos ⟨rfl, rfl⟩, if_neg (Nat.lt_irrefl _), if_pos rfl]); (· rw [if_neg (fun z => e z.1), if_pos (by omega)]; exact hq3 i (by omega)), Or.inr ⟨hq0, rfl⟩, ((hq7.trans (SameX.pR h1 n q (some x))).trans (SameX.pI _ 2 a _)).mono (fun y hy => hy.elim (fun z => z.elim (fun w => w.elim Or.inr Or.inl) Or.inr) Or.inl)⟩ (by show 0 + 1 ≤ 1; omega) (by show 0 + gcap n ≤ gcap n; omega) dJx4a65c_add_72be8_22
theorem cJ_add3 (l : Launch) (G : GT) (A : Nat → Prop) (h : AH) (a x arr n cap : Nat) (hL : LSh G.2.2.1 h a arr n cap) (hx0 : obK (aK h x)) : cmV l G A yJx4a65c_add_72be8 cJx4a65c_add_72be8 4 5 147 (aC n cap) (aS n cap) [.ref (a), .ref (x), .ref (arr), .int (nI n)] h (fun h' => Ladd h h' a arr n cap (insG h arr x n)) := by
  by_cases h0 : n = cap
  · subst h0
    unfold aC aS
    rw [if_pos rfl, if_pos rfl]
    by_cases hz : n = 0
    · exact cJ_add3_z l G A h a x arr n hL hx0 hz
    · exact cJ_add3_eq l G A h a x arr n hL hx0 (Nat.pos_of_ne_zero hz)
  · unfold aC aS
    rw [if_neg h0, if_neg h0]
    exact cJ_add3_lt l G A h a x arr n cap hL hx0 (Nat.lt_of_le_of_ne hL.2.2.2.1 h0)
set_option maxHeartbeats 4000000 in
set_option maxRecDepth 100000 in
theorem cJ_Jx4a65c_add_9ea2d (l : Launch) (G : GT) (A : Nat → Prop) (h : AH) (a x arr n cap : Nat) (hL : LSh G.2.2.1 h a arr n cap) (hx0 : obK (aK h x)) : cmI l G A yJx4a65c_add_9ea2d cJx4a65c_add_9ea2d 2 (Option.some FieldType.boolean) 6 170 (aC n cap) (aS n cap) [.ref (a), .ref (x)] h (fun r h' => r = 1 ∧ Ladd h h' a arr n cap (insG h arr x n)) := by
  refine cm_of "java/util/ArrayList" rfl (by decide) (Nat.le_of_ble_eq_true rfl) ?_
  intro pr e s m9 below meth c C0 hr hname hH ls hl
  obtain ⟨hx, hb, hml, hown, hts, hK, hA, -⟩ := id C0
  have hl : lv_has ls 2 [(0, .ref (a)), (1, .ref (x))] := hl
  obtain ⟨hk, hs, hra, -⟩ := id hL
  refine lv_aload_n hx hb dJx4a65c_add_9ea2d_0 rfl (lv_at hl 0 rfl) ?_
  refine lv_dup hx hb dJx4a65c_add_9ea2d_1 rfl ?_
  refine j_getI C0 hH hk 0 rfl "java/util/ArrayList" (Or.inr ⟨rfl, rfl⟩) fl_Jx4a65c_63 (v := aI h 0 a) rfl dJx4a65c_add_9ea2d_2 ?_
  refine lv_iconst (v := 1) hx hb dJx4a65c_add_9ea2d_5 (by decide) ?_
  refine lv_iadd hx hb dJx4a65c_add_9ea2d_6 ?_
  refine j_putI C0 hH hk 0 rfl rfl "java/util/ArrayList" (Or.inr ⟨rfl, rfl⟩) fl_Jx4a65c_63 dJx4a65c_add_9ea2d_7 (fun H locs hH => ?_)
  refine lv_aload_n hx hb dJx4a65c_add_9ea2d_10 rfl (lv_at hl 0 rfl) ?_
  refine lv_aload_n hx hb dJx4a65c_add_9ea2d_11 rfl (lv_at hl 1 rfl) ?_
  refine lv_aload_n hx hb dJx4a65c_add_9ea2d_12 rfl (lv_at hl 0 rfl) ?_
  refine j_getR C0 hH hk fl_Jx4a65c_9 (v := some arr) hra dJx4a65c_add_9ea2d_13 ?_
  refine lv_aload_n hx hb dJx4a65c_add_9ea2d_16 rfl (lv_at hl 0 rfl) ?_
  refine j_getI C0 hH hk 2 rfl "java/util/ArrayList" (Or.inl rfl) fl_Jx4a65c_48 (v := nI n) (by rw [aI_pI, if_neg (fun z => absurd z.1 (by decide))]; exact hs) dJx4a65c_add_9ea2d_17 ?_
  refine k_v hH (k_runV (rest := []) C0 hH (cJ_add3 l G A (pI h 0 a (aI h 0 a + 1)) a x arr n cap (hL.mod _) hx0) mv_Jx4a65c_add_72be8 ml_Jx4a65c_131 ci_3 hk rfl ⟨Nat.le_of_ble_eq_true rfl, Nat.le_of_ble_eq_true rfl⟩ hl.1 rfl (Nat.le_of_ble_eq_true rfl) dJx4a65c_add_9ea2d_20 ⟨by show 0 + aC n cap ≤ aC n cap; omega, by show 0 + aS n cap ≤ aS n cap; omega⟩) (fun h1 H locs hp hH => ?_)
  refine lv_iconst (v := 1) hx hb dJx4a65c_add_9ea2d_23 (by decide) ?_
  exact e_Z C0 hr (by decide) hH ⟨rfl, hp.mod⟩ (by show 0 + aC n cap ≤ aC n cap; omega) (by show 0 + aS n cap ≤ aS n cap; omega) dJx4a65c_add_9ea2d_24

