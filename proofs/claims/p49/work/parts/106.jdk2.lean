def gcap (n : Nat) : Nat := if n = 0 then 10 else n + max 1 (n / 2)
theorem gcap_gt (n : Nat) : n < gcap n := by unfold gcap; split <;> omega
theorem gcap_le (n : Nat) : gcap n ≤ n + n / 2 + 10 := by unfold gcap; split <;> omega
/-- a list at the address a, of n things in the row arr of cap places -/
def LSh (E : Nat) (h : AH) (a arr n cap : Nat) : Prop := aK h a = 3 ∧ aI h 2 a = nI n ∧ aR h 1 a = some arr ∧ n ≤ cap ∧ cap < 2 ^ 20 ∧ (cap = 0 → arr = E) ∧ (0 < cap → aK h arr = 31 ∧ aN h arr = cap ∧ ∀ i y, i < n → aR h i arr = some y → obK (aK h y))
/-- the list after it has grown: a new row q -/
def Grown (h h' : AH) (a arr n q : Nat) : Prop := aK h q = 0 ∧ aK h' q = 31 ∧ aN h' q = gcap n ∧ (∀ i, i < n → aR h' i q = aR h i arr) ∧ aR h' 1 a = some q ∧ (∀ j, aI h' j a = aI h j a) ∧ aK h' a = 3 ∧ SameX h h' (fun y => y = q ∨ y = a)
set_option maxHeartbeats 4000000 in
set_option maxRecDepth 100000 in
theorem cJ_grow_0 (l : Launch) (G : GT) (A : Nat → Prop) (h : AH) (a : Nat) (hL : LSh G.2.2.1 h a G.2.2.1 0 0) : cmQ l G A yJx4a65c_grow_92f84 cJx4a65c_grow_92f84 4 (Option.some (FieldType.array (FieldType.object "java/lang/Object"))) 3 104 1 10 [.ref (a), .int (nI 1)] h (fun r h' => ∃ q, r = some q ∧ Grown h h' a G.2.2.1 0 q) := by
  refine cm_of "java/util/ArrayList" rfl (by decide) (Nat.le_of_ble_eq_true rfl) ?_
  intro pr e s m9 below meth c C0 hr hname hH ls hl
  obtain ⟨hx, hb, hml, hown, hts, hK, hA, -⟩ := id C0
  have hl : lv_has ls 4 [(0, .ref (a)), (1, .int (nI 1))] := hl
  obtain ⟨hk, hs, hra, -, -, -, -⟩ := hL
  refine lv_aload_n hx hb dJx4a65c_grow_92f84_0 rfl (lv_at hl 0 rfl) ?_
  refine j_getR C0 hH hk fl_Jx4a65c_9 (v := some G.2.2.1) hra dJx4a65c_grow_92f84_1 ?_
  refine k_alen0 C0 hH dJx4a65c_grow_92f84_4 ?_
  refine lv_istore_n (lv' := [(2, .int (0)), (0, .ref (a)), (1, .int (nI 1))]) hx hb dJx4a65c_grow_92f84_5 rfl hl (by decide) rfl (fun ls hl => ?_)
  refine lv_iload_n hx hb dJx4a65c_grow_92f84_6 rfl (lv_at hl 0 rfl) ?_
  refine lv_if_gt (tgt := 20) hx hb dJx4a65c_grow_92f84_7 (by decide) (fun c7_1 => ?_) (fun c7_1 => ?_)
  · exact absurd c7_1 (by decide)
  · refine lv_aload_n hx hb dJx4a65c_grow_92f84_10 rfl (lv_at hl 1 rfl) ?_
    refine j_getR C0 hH hk fl_Jx4a65c_9 (v := some G.2.2.1) hra dJx4a65c_grow_92f84_11 ?_
    refine k_gets0 C0 hH fl_Jx4a65c_39 dJx4a65c_grow_92f84_14 ?_
    refine lv_acmp_eq (rx := some G.2.2.1) (ry := some G.2.2.1) (tgt := 45) hx hb dJx4a65c_grow_92f84_17 (by decide) (fun c17_2 => ?_) (fun c17_2 => ?_)
    · refine lv_aload_n hx hb dJx4a65c_grow_92f84_45 rfl (lv_at hl 1 rfl) ?_
      refine lv_bipush (v := 10) hx hb dJx4a65c_grow_92f84_46 (by decide) ?_
      refine lv_iload_n hx hb dJx4a65c_grow_92f84_48 rfl (lv_at hl 2 rfl) ?_
      refine o_mmax C0 ml_Jx4a65c_79 hl.1 dJx4a65c_grow_92f84_49 (Nat.le_of_ble_eq_true rfl) (Nat.le_of_ble_eq_true rfl) (by simp) ?_
      rw [show (if (10 : Int32) < nI 1 then nI 1 else 10) = 10 from if_neg (by decide)]
      refine k_newq C0 hH cl_Jx4a65c_7 ao_java_lang_Object (t0 := 4) (K := 31) rfl (by omega) (n := 10) (N' := 10) (by decide) rfl (by omega) (Nat.le_of_ble_eq_true rfl) (Nat.le_of_ble_eq_true rfl) dJx4a65c_grow_92f84_52 (fun q0 H hq0 hH => ?_)
      have hne : a ≠ q0 := fun e => by rw [e, hq0] at hk; omega
      have hk1 : aK (pN h q0 31 10) a = 3 := by rw [aK_pN, if_neg hne]; exact hk
      refine lv_dup_x1 hx hb dJx4a65c_grow_92f84_55 rfl rfl ?_
      refine j_putR C0 hH hk1 fl_Jx4a65c_9 dJx4a65c_grow_92f84_56 (fun H locs hH => ?_)
      exact e_Q (v := some q0) C0 hr (Or.inr ⟨_, rfl⟩) hH ⟨q0, rfl, hq0, by rw [aK_pR, aK_pN, if_pos rfl], by rw [aN_pR, aN_pN, if_pos rfl]; rfl, fun i hi => absurd hi (Nat.not_lt_zero i), by rw [aR_pR, if_pos ⟨rfl, rfl⟩], fun j => by rw [aI_pR, aI_pN, if_neg hne], by rw [aK_pR]; exact hk1, (SameX.pN h q0 31 10).trans (SameX.pR _ 1 a _)⟩ (Nat.le_of_ble_eq_true rfl) (Nat.le_of_ble_eq_true rfl) dJx4a65c_grow_92f84_59
    · exact absurd rfl c17_2
set_option maxHeartbeats 4000000 in
set_option maxRecDepth 100000 in
theorem cJ_grow_1 (l : Launch) (G : GT) (A : Nat → Prop) (h : AH) (a arr n : Nat) (hL : LSh G.2.2.1 h a arr n n) (h0 : 0 < n) : cmQ l G A yJx4a65c_grow_92f84 cJx4a65c_grow_92f84 4 (Option.some (FieldType.array (FieldType.object "java/lang/Object"))) 3 104 1 (gcap n) [.ref (a), .int (nI (n + 1))] h (fun r h' => ∃ q, r = some q ∧ Grown h h' a arr n q) := by
  refine cm_of "java/util/ArrayList" rfl (by decide) (Nat.le_of_ble_eq_true rfl) ?_
  intro pr e s m9 below meth c C0 hr hname hH ls hl
  obtain ⟨hx, hb, hml, hown, hts, hK, hA, -⟩ := id C0
  have hl : lv_has ls 4 [(0, .ref (a)), (1, .int (nI (n + 1)))] := hl
  obtain ⟨hk, hs, hra, -, hcap, -, h6⟩ := hL
  obtain ⟨ka, kn, kel⟩ := h6 h0
  have hg := gcap_le n
  have hg2 := gcap_gt n
  refine lv_aload_n hx hb dJx4a65c_grow_92f84_0 rfl (lv_at hl 0 rfl) ?_
  refine j_getR C0 hH hk fl_Jx4a65c_9 (v := some arr) hra dJx4a65c_grow_92f84_1 ?_
  refine j_alen C0 hH ka kn dJx4a65c_grow_92f84_4 ?_
  refine lv_istore_n (lv' := [(2, .int (nI n)), (0, .ref (a)), (1, .int (nI (n + 1)))]) hx hb dJx4a65c_grow_92f84_5 rfl hl (by decide) rfl (fun ls hl => ?_)
  refine lv_iload_n hx hb dJx4a65c_grow_92f84_6 rfl (lv_at hl 0 rfl) ?_
  refine lv_if_gt (tgt := 20) hx hb dJx4a65c_grow_92f84_7 (by decide) (fun c7_1 => ?_) (fun c7_1 => ?_)
  · refine lv_iload_n hx hb dJx4a65c_grow_92f84_20 rfl (lv_at hl 0 rfl) ?_
    refine lv_iload_n hx hb dJx4a65c_grow_92f84_21 rfl (lv_at hl 2 rfl) ?_
    refine lv_iload_n hx hb dJx4a65c_grow_92f84_22 rfl (lv_at hl 0 rfl) ?_
    refine lv_isub hx hb dJx4a65c_grow_92f84_23 ?_
    rw [pk_sub (by omega), show n + 1 - n = 1 by omega]
    refine lv_iload_n hx hb dJx4a65c_grow_92f84_24 rfl (lv_at hl 0 rfl) ?_
    refine lv_iconst (v := 1) hx hb dJx4a65c_grow_92f84_25 (by decide) ?_
    refine lv_ishr hx hb dJx4a65c_grow_92f84_26 ?_
    rw [pk_shrN (by omega) _ 1 (by decide), Nat.pow_one]
    refine k_i hH (k_runS (rest := []) C0 hH (cJ_J8_newLength_cabcc l G A h n 1 (n / 2) (by omega) (by omega) (by omega) (by omega)) mv_J8_newLength_cabcc ml_Jx4a65c_73 rfl ⟨Nat.le_of_ble_eq_true rfl, Nat.le_of_ble_eq_true rfl⟩ hl.1 rfl (Nat.le_of_ble_eq_true rfl) dJx4a65c_grow_92f84_27 (by simp)) (fun r_2 h1 H locs hp hH => ?_)
    obtain ⟨er_2, eh⟩ := hp
    rw [eh] at hH
    clear eh
    subst er_2
    rw [show n + max 1 (n / 2) = gcap n by unfold gcap; rw [if_neg (by omega)]]
    refine lv_istore_n (lv' := [(3, .int (nI (gcap n))), (2, .int (nI n)), (0, .ref (a)), (1, .int (nI (n + 1)))]) hx hb dJx4a65c_grow_92f84_30 rfl hl (by decide) rfl (fun ls hl => ?_)
    refine lv_aload_n hx hb dJx4a65c_grow_92f84_31 rfl (lv_at hl 2 rfl) ?_
    refine lv_aload_n hx hb dJx4a65c_grow_92f84_32 rfl (lv_at hl 2 rfl) ?_
    refine j_getR C0 hH hk fl_Jx4a65c_9 (v := some arr) hra dJx4a65c_grow_92f84_33 ?_
    refine lv_iload_n hx hb dJx4a65c_grow_92f84_36 rfl (lv_at hl 0 rfl) ?_
    refine k_q hH (k_runS (rest := [.ref (a)]) C0 hH (cJ_J7_copyOf_1904c l G A h arr n (gcap n) ka kn (by omega) (by omega) kel) mv_J7_copyOf_1904c ml_Jx4a65c_66 rfl ⟨Nat.le_of_ble_eq_true rfl, Nat.le_of_ble_eq_true rfl⟩ hl.1 rfl (Nat.le_of_ble_eq_true rfl) dJx4a65c_grow_92f84_37 ⟨by show 0 + 1 ≤ 1; omega, by show 0 + gcap n ≤ gcap n; omega⟩) (fun r_3 h1 H locs hp hH => ?_)
    obtain ⟨q, rfl, hq0, hq1, hq2, hq3, hq4⟩ := hp
    have hne : a ≠ q := fun e => by rw [e, hq0] at hk; omega
    have hsa := hq4 a hne
    have hk1 : aK h1 a = 3 := hsa.1.trans hk
    refine lv_dup_x1 hx hb dJx4a65c_grow_92f84_40 rfl rfl ?_
    refine j_putR C0 hH hk1 fl_Jx4a65c_9 dJx4a65c_grow_92f84_41 (fun H locs hH => ?_)
    exact e_Q (v := some q) C0 hr (Or.inr ⟨_, rfl⟩) hH ⟨q, rfl, hq0, by rw [aK_pR]; exact hq1, by rw [aN_pR]; exact hq2, fun i hi => by rw [aR_pR, if_neg (fun z => hne z.2.symm)]; exact hq3 i hi, by rw [aR_pR, if_pos ⟨rfl, rfl⟩], fun j => by rw [aI_pR]; exact hsa.2.1 j, by rw [aK_pR]; exact hk1, hq4.trans (SameX.pR _ 1 a _)⟩ (by show 0 + 1 ≤ 1; omega) (by show 0 + gcap n ≤ gcap n; omega) dJx4a65c_grow_92f84_44
  · exact absurd (nI_lt (a := 0) h0 (by omega)) c7_1
theorem cJ_grow (l : Launch) (G : GT) (A : Nat → Prop) (h : AH) (a arr n : Nat) (hL : LSh G.2.2.1 h a arr n n) : cmQ l G A yJx4a65c_grow_92f84 cJx4a65c_grow_92f84 4 (Option.some (FieldType.array (FieldType.object "java/lang/Object"))) 3 104 1 (gcap n) [.ref (a), .int (nI (n + 1))] h (fun r h' => ∃ q, r = some q ∧ Grown h h' a arr n q) := by
  by_cases h0 : n = 0
  · subst h0
    have e := hL.2.2.2.2.2.1 rfl
    subst e
    exact cJ_grow_0 l G A h a hL
  · exact cJ_grow_1 l G A h a arr n hL (Nat.pos_of_ne_zero h0)

