/-! figures -/
abbrev cxF (l : Launch) (G : GT) (A : Nat → Prop) (y : MethodName) (b : ByteArray) (n : Nat) (ret : Option FieldType) (fr lo mc ms : Nat) (av : List Value) (h : AH) (post : UInt32 → AH → Prop) (xp : String → AH → Prop) : Prop := vx_Met l y (ws_ y b n ret) (rmm fr lo mc ms) (va_Pc av (WP G A h)) (va_Qf post (fun h' t => HW G.1 G.2.1 A h' t.heap) A) (xcP G A xp) mc ms A
abbrev cxD (l : Launch) (G : GT) (A : Nat → Prop) (y : MethodName) (b : ByteArray) (n : Nat) (ret : Option FieldType) (fr lo mc ms : Nat) (av : List Value) (h : AH) (post : UInt64 → AH → Prop) (xp : String → AH → Prop) : Prop := vx_Met l y (ws_ y b n ret) (rmm fr lo mc ms) (va_Pc av (WP G A h)) (va_Qd post (fun h' t => HW G.1 G.2.1 A h' t.heap) A) (xcP G A xp) mc ms A
def cLsL (u : MM) : Nat → Nat → Int32 → Int32
  | 0, _, n => n
  | k + 1, p, n => cLsL u k (p + 1) (if ¬ cMiss u p (u 41 0) = 0 then n + 1 else n)
def cMtL (u : MM) : Nat → Nat → Int32 → Int32 → Int32 × Int32
  | 0, _, n, t => (n, t)
  | k + 1, p, n, t => cMtL u k (p + 1) (if u 28 p = 100 then n + 1 else n) (if u 28 p = 100 then t + (u 26 p - u 25 p) else t)
theorem cLsL_cnt (u : MM) : ∀ (k i a : Nat), ∃ b, b ≤ a + k ∧ cLsL u k i (nI a) = nI b := by
  intro k
  induction k with
  | zero => intro i a; exact ⟨a, Nat.le_refl _, rfl⟩
  | succ k ih =>
    intro i a
    simp only [cLsL]
    split
    · rw [nI_1]
      obtain ⟨b, h1, h2⟩ := ih (i + 1) (a + 1)
      exact ⟨b, by omega, h2⟩
    · obtain ⟨b, h1, h2⟩ := ih (i + 1) a
      exact ⟨b, by omega, h2⟩
theorem cMtL_cnt (u : MM) : ∀ (k i a : Nat) (t : Int32), ∃ b, b ≤ a + k ∧ (cMtL u k i (nI a) t).1 = nI b := by
  intro k
  induction k with
  | zero => intro i a t; exact ⟨a, Nat.le_refl _, rfl⟩
  | succ k ih =>
    intro i a t
    simp only [cMtL]
    split
    · rw [nI_1]
      obtain ⟨b, h1, h2⟩ := ih (i + 1) (a + 1) _
      exact ⟨b, by omega, h2⟩
    · obtain ⟨b, h1, h2⟩ := ih (i + 1) a _
      exact ⟨b, by omega, h2⟩
theorem cls_num {u : MM} {n : Int32} (hw : WFc u) (e : n = cLsL u (npN u) 0 0) (h : ¬ nI (npN u) = 0) : vf_n32 (FP.fdiv (FP.i2f n) (FP.i2f (nI (npN u)))) := by
  have hnp := hw.np
  obtain ⟨b, h1, h2⟩ := cLsL_cnt u (npN u) 0 0
  have h3 : n = nI b := e.trans h2
  rw [h3]
  have h4 : npN u ≠ 0 := fun z => h (by rw [z]; rfl)
  obtain ⟨k, hk⟩ : ∃ k, npN u = k + 1 := ⟨npN u - 1, by omega⟩
  rw [hk]
  exact share_num b (by omega) k (by omega)
theorem cmt_num {u : MM} (hw : WFc u) {n t : Int32} (e : cMtL u (npN u) 0 0 0 = (n, t)) (h : ¬ n = 0) : vf_n64 (FP.ddiv (FP.i2d t) (FP.i2d n)) := by
  have hnp := hw.np
  obtain ⟨b, h1, h2⟩ := cMtL_cnt u (npN u) 0 0 0
  have h3 : n = nI b := by rw [show n = (cMtL u (npN u) 0 0 0).1 by rw [e]]; exact h2
  have h4 : b ≠ 0 := fun z => h (by rw [h3, z]; rfl)
  obtain ⟨k, hk⟩ : ∃ k, b = k + 1 := ⟨b - 1, by omega⟩
  rw [h3, hk]
  exact mean_num t (by omega)
def xLat (u : MM) : Option String := if nI (npN u) = 0 then some aeC else none
def xMea (u : MM) : Option String := if (cMtL u (npN u) 0 0 0).1 = 0 then some aeC else none
set_option maxHeartbeats 800000 in
set_option maxRecDepth 100000 in
theorem cC_X10_lateShare (l : Launch) (hlt : l.stackTraces = false) (G : GT) (A : Nat → Prop) (h : AH) (b : BA) (u : MM) (hR : RC G.2.2.1 h b u) (hw : WFc u) : cxF l G A yX10_lateShare cX10_lateShare 4 (Option.some FieldType.float) 6 90 1 6 [.ref (b 14 0)] h (fun r h' => xLat u = none ∧ r = FP.fdiv (FP.i2f (cLsL u (npN u) 0 0)) (FP.i2f (nI (npN u))) ∧ h' = h) (fun E h' => xLat u = some E ∧ h' = h) := by
  refine cx_of "Routepost" rfl (by decide) (Nat.le_of_ble_eq_true rfl) ?_
  intro pr e s m9 below meth c C0 hxt hr hH ls hl
  obtain ⟨hx, hb, hml, hown, hts, hK, hA, -⟩ := id C0
  have hl : lv_has ls 4 [(0, .ref (b 14 0))] := hl
  have hc7 := hw.cnt6 7
  have hc8 := hw.cnt6 8
  have hc9 := hw.cnt6 9
  refine lv_aload_n hx hb dX10_lateShare_0 rfl (lv_at hl 0 rfl) ?_
  refine c_getR C0 hH hR ci_14 (i := 0) (j := 2) rfl rfl (by decide) rfl fl_X10_19 (v := some (b 3 2)) rfl dX10_lateShare_1 ?_
  refine k_i hH (k_runV (rest := []) C0 hH (cL_size l G A _ b _ hR hw 2 (show 2 < 6 + npN _ by omega)) mv_Jx4a65c_size_8abf5 ml_X10_79 ci_3 (hR.kind (K := 3) (i := 2) (show 2 < 6 + npN _ by omega)) rfl ⟨Nat.le_of_ble_eq_true rfl, Nat.le_of_ble_eq_true rfl⟩ hl.1 rfl (Nat.le_of_ble_eq_true rfl) dX10_lateShare_4 ⟨Nat.le_of_ble_eq_true rfl, Nat.le_of_ble_eq_true rfl⟩) (fun r9 h1 H locs hp hH => ?_)
  obtain ⟨er9, eh⟩ := hp
  rw [eh] at hH
  clear eh
  rw [hw.sz2] at er9
  subst er9
  refine lv_istore_n (lv' := [(1, .int (nI (npN u))), (0, .ref (b 14 0))]) hx hb dX10_lateShare_7 rfl hl (by decide) rfl (fun ls hl => ?_)
  refine lv_iload_n hx hb dX10_lateShare_8 rfl (lv_at hl 0 rfl) ?_
  refine lv_if_ne (tgt := 23) hx hb dX10_lateShare_9 (by decide) (fun c9_1 => ?_) (fun c9_1 => ?_)
  · have hn0 : ¬ nI (npN u) = 0 := c9_1
    refine lv_iconst (v := 0) hx hb dX10_lateShare_23 (by decide) ?_
    refine lv_istore_n (lv' := [(2, .int (0)), (1, .int (nI (npN u))), (0, .ref (b 14 0))]) hx hb dX10_lateShare_24 rfl hl (by decide) rfl (fun ls hl => ?_)
    refine lv_iconst (v := 0) hx hb dX10_lateShare_25 (by decide) ?_
    refine lv_istore_n (lv' := [(3, .int (0)), (2, .int (0)), (1, .int (nI (npN u))), (0, .ref (b 14 0))]) hx hb dX10_lateShare_26 rfl hl (by decide) rfl (fun ls hl => ?_)
    have K : ∀ (k : Nat) (p : Nat) (n0 : Int32), p + k = npN u → cLsL u k p n0 = cLsL u (npN u) 0 0 → ∀ (H : Heap) (locs : List Loc) (hH : HS G.1 G.2.1 A s.heap h H locs) (ls : Array Slot), lv_has ls 4 [(3, .int (nI p)), (2, .int (n0)), (0, .ref (b 14 0)), (1, .int (nI (npN u)))] → W pr l e (rmm 6 90 1 6) s m9 ([.ref (b 14 0)] : List Value).toArray below meth c H locs 0 0 (vx_MQ below (va_Qf (fun r h' => xLat u = none ∧ r = FP.fdiv (FP.i2f (cLsL u (npN u) 0 0)) (FP.i2f (nI (npN u))) ∧ h' = h) (fun h' t => HW G.1 G.2.1 A h' t.heap) A) (xcP G A (fun E h' => xLat u = some E ∧ h' = h)) ([.ref (b 14 0)] : List Value).toArray s 1 6 A) (F0 m9 27 ls []) := by
      intro k
      induction k with
      | zero =>
        intro p n0 hik hT H locs hH ls hl
        refine lv_iload_n hx hb dX10_lateShare_27 rfl (lv_at hl 0 rfl) ?_
        refine lv_iload_n hx hb dX10_lateShare_28 rfl (lv_at hl 3 rfl) ?_
        refine lv_icmp_ge (tgt := 62) hx hb dX10_lateShare_29 (by decide) (fun c29_2 => ?_) (fun c29_2 => ?_)
        · refine lv_iload_n hx hb dX10_lateShare_62 rfl (lv_at hl 1 rfl) ?_
          refine lv_i2f hx hb dX10_lateShare_63 ?_
          refine lv_iload_n hx hb dX10_lateShare_64 rfl (lv_at hl 3 rfl) ?_
          refine lv_i2f hx hb dX10_lateShare_65 ?_
          refine lv_fdiv hx hb dX10_lateShare_66 (cls_num hw (show n0 = _ from hT) hn0) ?_
          refine vx_ret ?_
          have eR : FP.fdiv (FP.i2f n0) (FP.i2f (nI (npN u))) = FP.fdiv (FP.i2f (cLsL u (npN u) 0 0)) (FP.i2f (nI (npN u))) := by rw [← hT]; rfl
          exact e_F C0 hr hH ⟨if_neg hn0, eR, rfl⟩ (Nat.le_of_ble_eq_true rfl) (Nat.le_of_ble_eq_true rfl) dX10_lateShare_67
        · exact absurd (by rw [show p = npN u by omega]; exact Int32.le_refl _) c29_2
      | succ k ih =>
        intro p n0 hik hT H locs hH ls hl
        refine lv_iload_n hx hb dX10_lateShare_27 rfl (lv_at hl 0 rfl) ?_
        refine lv_iload_n hx hb dX10_lateShare_28 rfl (lv_at hl 3 rfl) ?_
        refine lv_icmp_ge (tgt := 62) hx hb dX10_lateShare_29 (by decide) (fun c29_3 => ?_) (fun c29_3 => ?_)
        · exact absurd c29_3 (nI_ge (show p < npN u by omega) (by have := hw.np; omega))
        · have hpU : p < npN u := by omega
          refine lv_aload_n hx hb dX10_lateShare_32 rfl (lv_at hl 2 rfl) ?_
          refine c_getR C0 hH hR ci_14 (i := 0) (j := 2) rfl rfl (by decide) rfl fl_X10_19 (v := some (b 3 2)) rfl dX10_lateShare_33 ?_
          refine lv_iload_n hx hb dX10_lateShare_36 rfl (lv_at hl 0 rfl) ?_
          refine k_q hH (k_runV (rest := []) C0 hH (cL_get l G A _ b _ hR hw 2 p (show 2 < 6 + npN _ by omega) (by rw [hw.sz2]; omega) (a := b 9 p) rfl) mv_Jx4a65c_get_915e3 ml_X10_143 ci_3 (hR.kind (K := 3) (i := 2) (show 2 < 6 + npN _ by omega)) rfl ⟨Nat.le_of_ble_eq_true rfl, Nat.le_of_ble_eq_true rfl⟩ hl.1 rfl (Nat.le_of_ble_eq_true rfl) dX10_lateShare_37 ⟨Nat.le_of_ble_eq_true rfl, Nat.le_of_ble_eq_true rfl⟩) (fun r9 h1 H locs hp hH => ?_)
          obtain ⟨er9, eh⟩ := hp
          rw [eh] at hH
          clear eh
          subst er9
          refine k_chk C0 hH ci_9 (hR.kind (K := 9) (i := p) hpU) cl_X10_162 dX10_lateShare_40 ?_
          refine lv_aload_n hx hb dX10_lateShare_43 rfl (lv_at hl 2 rfl) ?_
          refine c_getI C0 hH hR ci_14 (i := 0) (j := 9) rfl rfl (by decide) rfl fl_X10_56 (v := u 41 0) rfl dX10_lateShare_44 ?_
          refine k_i hH (k_runV (rest := []) C0 hH (cC_X5_missesPromise l G A _ b _ hR hw p (u 41 0) hpU) mv_X5_missesPromise ml_X10_249 ci_9 (hR.kind (K := 9) (i := p) hpU) rfl ⟨Nat.le_of_ble_eq_true rfl, Nat.le_of_ble_eq_true rfl⟩ hl.1 rfl (Nat.le_of_ble_eq_true rfl) dX10_lateShare_47 ⟨Nat.le_of_ble_eq_true rfl, Nat.le_of_ble_eq_true rfl⟩) (fun r_4 h1 H locs hp hH => ?_)
          obtain ⟨er_4, eh⟩ := hp
          rw [eh] at hH
          clear eh
          subst er_4
          refine lv_if_eq (tgt := 56) hx hb dX10_lateShare_50 (by decide) (fun c50_5 => ?_) (fun c50_5 => ?_)
          · refine lv_iinc (v := nI (p + 1)) (lv' := [(3, .int (nI (p + 1))), (2, .int (n0)), (0, .ref (b 14 0)), (1, .int (nI (npN u)))]) hx hb dX10_lateShare_56 hl (k := 0) rfl (by rw [← nI_1]; rfl) (by decide) rfl (fun ls hl => ?_)
            refine lv_goto (tgt := 27) hx hb dX10_lateShare_59 (by decide) ?_
            exact ih (p + 1) n0 (by omega) (by rw [← hT]; simp only [cLsL]; rw [if_neg (fun z => z c50_5)]) _ _ hH ls (lv_sub hl [0, 1, 2, 3] rfl)
          · refine lv_iinc (v := n0 + 1) (lv' := [(2, .int (n0 + 1)), (3, .int (nI p)), (0, .ref (b 14 0)), (1, .int (nI (npN u)))]) hx hb dX10_lateShare_53 hl (k := 1) rfl (rfl) (by decide) rfl (fun ls hl => ?_)
            refine lv_iinc (v := nI (p + 1)) (lv' := [(3, .int (nI (p + 1))), (2, .int (n0 + 1)), (0, .ref (b 14 0)), (1, .int (nI (npN u)))]) hx hb dX10_lateShare_56 hl (k := 1) rfl (by rw [← nI_1]; rfl) (by decide) rfl (fun ls hl => ?_)
            refine lv_goto (tgt := 27) hx hb dX10_lateShare_59 (by decide) ?_
            exact ih (p + 1) (n0 + 1) (by omega) (by rw [← hT]; simp only [cLsL]; rw [if_pos c50_5]) _ _ hH ls (lv_sub hl [0, 1, 2, 3] rfl)
    have hn0 : ¬ nI (npN u) = 0 := c9_1
    exact K (npN u) 0 0 (by omega) rfl _ _ hH ls (lv_sub hl [0, 1, 3, 2] rfl)
  · exact k_throwSW C0 hxt hlt hH thr_AE (is := 354) (text := "no parcels") (by decide) hl.1 dX10_lateShare_12 dX10_lateShare_15 dX10_lateShare_16 dX10_lateShare_19 dX10_lateShare_22 (Nat.le_of_ble_eq_true rfl) (Nat.le_of_ble_eq_true rfl) (Nat.le_of_ble_eq_true rfl) (Nat.le_of_ble_eq_true rfl) ⟨if_pos c9_1, rfl⟩ (Nat.le_of_ble_eq_true rfl) (Nat.le_of_ble_eq_true rfl)
set_option maxHeartbeats 800000 in
set_option maxRecDepth 100000 in
theorem cC_X10_meanTime (l : Launch) (hlt : l.stackTraces = false) (G : GT) (A : Nat → Prop) (h : AH) (b : BA) (u : MM) (hR : RC G.2.2.1 h b u) (hw : WFc u) : cxD l G A yX10_meanTime cX10_meanTime 5 (Option.some FieldType.double) 6 90 1 6 [.ref (b 14 0)] h (fun r h' => xMea u = none ∧ r = FP.ddiv (FP.i2d (cMtL u (npN u) 0 0 0).2) (FP.i2d (cMtL u (npN u) 0 0 0).1) ∧ h' = h) (fun E h' => xMea u = some E ∧ h' = h) := by
  refine cx_of "Routepost" rfl (by decide) (Nat.le_of_ble_eq_true rfl) ?_
  intro pr e s m9 below meth c C0 hxt hr hH ls hl
  obtain ⟨hx, hb, hml, hown, hts, hK, hA, -⟩ := id C0
  have hl : lv_has ls 5 [(0, .ref (b 14 0))] := hl
  have hc7 := hw.cnt6 7
  have hc8 := hw.cnt6 8
  have hc9 := hw.cnt6 9
  refine lv_iconst (v := 0) hx hb dX10_meanTime_0 (by decide) ?_
  refine lv_istore_n (lv' := [(1, .int (0)), (0, .ref (b 14 0))]) hx hb dX10_meanTime_1 rfl hl (by decide) rfl (fun ls hl => ?_)
  refine lv_iconst (v := 0) hx hb dX10_meanTime_2 (by decide) ?_
  refine lv_istore_n (lv' := [(2, .int (0)), (1, .int (0)), (0, .ref (b 14 0))]) hx hb dX10_meanTime_3 rfl hl (by decide) rfl (fun ls hl => ?_)
  refine lv_iconst (v := 0) hx hb dX10_meanTime_4 (by decide) ?_
  refine lv_istore_n (lv' := [(3, .int (0)), (2, .int (0)), (1, .int (0)), (0, .ref (b 14 0))]) hx hb dX10_meanTime_5 rfl hl (by decide) rfl (fun ls hl => ?_)
  have K : ∀ (k : Nat) (p : Nat) (n0 : Int32) (t0 : Int32), p + k = npN u → cMtL u k p n0 t0 = cMtL u (npN u) 0 0 0 → ∀ (H : Heap) (locs : List Loc) (hH : HS G.1 G.2.1 A s.heap h H locs) (ls : Array Slot), lv_has ls 5 [(3, .int (nI p)), (2, .int (t0)), (1, .int (n0)), (0, .ref (b 14 0))] → W pr l e (rmm 6 90 1 6) s m9 ([.ref (b 14 0)] : List Value).toArray below meth c H locs 0 0 (vx_MQ below (va_Qd (fun r h' => xMea u = none ∧ r = FP.ddiv (FP.i2d (cMtL u (npN u) 0 0 0).2) (FP.i2d (cMtL u (npN u) 0 0 0).1) ∧ h' = h) (fun h' t => HW G.1 G.2.1 A h' t.heap) A) (xcP G A (fun E h' => xMea u = some E ∧ h' = h)) ([.ref (b 14 0)] : List Value).toArray s 1 6 A) (F0 m9 6 ls []) := by
    intro k
    induction k with
    | zero =>
      intro p n0 t0 hik hT H locs hH ls hl
      refine lv_iload_n hx hb dX10_meanTime_6 rfl (lv_at hl 0 rfl) ?_
      refine lv_aload_n hx hb dX10_meanTime_7 rfl (lv_at hl 3 rfl) ?_
      refine c_getR C0 hH hR ci_14 (i := 0) (j := 2) rfl rfl (by decide) rfl fl_X10_19 (v := some (b 3 2)) rfl dX10_meanTime_8 ?_
      refine k_i hH (k_runV (rest := [.int (nI p)]) C0 hH (cL_size l G A _ b _ hR hw 2 (show 2 < 6 + npN _ by omega)) mv_Jx4a65c_size_8abf5 ml_X10_79 ci_3 (hR.kind (K := 3) (i := 2) (show 2 < 6 + npN _ by omega)) rfl ⟨Nat.le_of_ble_eq_true rfl, Nat.le_of_ble_eq_true rfl⟩ hl.1 rfl (Nat.le_of_ble_eq_true rfl) dX10_meanTime_11 ⟨Nat.le_of_ble_eq_true rfl, Nat.le_of_ble_eq_true rfl⟩) (fun r9 h1 H locs hp hH => ?_)
      obtain ⟨er9, eh⟩ := hp
      rw [eh] at hH
      clear eh
      rw [hw.sz2] at er9
      subst er9
      refine lv_icmp_ge (tgt := 63) hx hb dX10_meanTime_14 (by decide) (fun c14_1 => ?_) (fun c14_1 => ?_)
      · refine lv_iload_n hx hb dX10_meanTime_63 rfl (lv_at hl 2 rfl) ?_
        refine lv_if_ne (tgt := 78) hx hb dX10_meanTime_64 (by decide) (fun c64_2 => ?_) (fun c64_2 => ?_)
        · refine lv_iload_n hx hb dX10_meanTime_78 rfl (lv_at hl 1 rfl) ?_
          refine lv_i2d hx hb dX10_meanTime_79 ?_
          refine lv_iload_n hx hb dX10_meanTime_80 rfl (lv_at hl 2 rfl) ?_
          refine lv_i2d hx hb dX10_meanTime_81 ?_
          refine lv_ddiv hx hb dX10_meanTime_82 (cmt_num hw (show cMtL u (npN u) 0 0 0 = (n0, t0) from hT.symm) (by assumption)) ?_
          refine vx_ret ?_
          have eR : FP.ddiv (FP.i2d t0) (FP.i2d n0) = FP.ddiv (FP.i2d (cMtL u (npN u) 0 0 0).2) (FP.i2d (cMtL u (npN u) 0 0 0).1) := by rw [← hT]; rfl
          exact e_D C0 hr hH ⟨if_neg (by rw [← hT]; exact c64_2), eR, rfl⟩ (Nat.le_of_ble_eq_true rfl) (Nat.le_of_ble_eq_true rfl) dX10_meanTime_83
        · exact k_throwSW C0 hxt hlt hH thr_AE (is := 360) (text := "none has been delivered") (by decide) hl.1 dX10_meanTime_67 dX10_meanTime_70 dX10_meanTime_71 dX10_meanTime_74 dX10_meanTime_77 (Nat.le_of_ble_eq_true rfl) (Nat.le_of_ble_eq_true rfl) (Nat.le_of_ble_eq_true rfl) (Nat.le_of_ble_eq_true rfl) ⟨if_pos (by rw [← hT]; exact c64_2), rfl⟩ (Nat.le_of_ble_eq_true rfl) (Nat.le_of_ble_eq_true rfl)
      · exact absurd (by rw [show p = npN u by omega]; exact Int32.le_refl _) c14_1
    | succ k ih =>
      intro p n0 t0 hik hT H locs hH ls hl
      refine lv_iload_n hx hb dX10_meanTime_6 rfl (lv_at hl 0 rfl) ?_
      refine lv_aload_n hx hb dX10_meanTime_7 rfl (lv_at hl 3 rfl) ?_
      refine c_getR C0 hH hR ci_14 (i := 0) (j := 2) rfl rfl (by decide) rfl fl_X10_19 (v := some (b 3 2)) rfl dX10_meanTime_8 ?_
      refine k_i hH (k_runV (rest := [.int (nI p)]) C0 hH (cL_size l G A _ b _ hR hw 2 (show 2 < 6 + npN _ by omega)) mv_Jx4a65c_size_8abf5 ml_X10_79 ci_3 (hR.kind (K := 3) (i := 2) (show 2 < 6 + npN _ by omega)) rfl ⟨Nat.le_of_ble_eq_true rfl, Nat.le_of_ble_eq_true rfl⟩ hl.1 rfl (Nat.le_of_ble_eq_true rfl) dX10_meanTime_11 ⟨Nat.le_of_ble_eq_true rfl, Nat.le_of_ble_eq_true rfl⟩) (fun r9 h1 H locs hp hH => ?_)
      obtain ⟨er9, eh⟩ := hp
      rw [eh] at hH
      clear eh
      rw [hw.sz2] at er9
      subst er9
      refine lv_icmp_ge (tgt := 63) hx hb dX10_meanTime_14 (by decide) (fun c14_3 => ?_) (fun c14_3 => ?_)
      · exact absurd c14_3 (nI_ge (show p < npN u by omega) (by have := hw.np; omega))
      · have hpU : p < npN u := by omega
        refine lv_aload_n hx hb dX10_meanTime_17 rfl (lv_at hl 3 rfl) ?_
        refine c_getR C0 hH hR ci_14 (i := 0) (j := 2) rfl rfl (by decide) rfl fl_X10_19 (v := some (b 3 2)) rfl dX10_meanTime_18 ?_
        refine lv_iload_n hx hb dX10_meanTime_21 rfl (lv_at hl 0 rfl) ?_
        refine k_q hH (k_runV (rest := []) C0 hH (cL_get l G A _ b _ hR hw 2 p (show 2 < 6 + npN _ by omega) (by rw [hw.sz2]; omega) (a := b 9 p) rfl) mv_Jx4a65c_get_915e3 ml_X10_143 ci_3 (hR.kind (K := 3) (i := 2) (show 2 < 6 + npN _ by omega)) rfl ⟨Nat.le_of_ble_eq_true rfl, Nat.le_of_ble_eq_true rfl⟩ hl.1 rfl (Nat.le_of_ble_eq_true rfl) dX10_meanTime_22 ⟨Nat.le_of_ble_eq_true rfl, Nat.le_of_ble_eq_true rfl⟩) (fun r9 h1 H locs hp hH => ?_)
        obtain ⟨er9, eh⟩ := hp
        rw [eh] at hH
        clear eh
        subst er9
        refine k_chk C0 hH ci_9 (hR.kind (K := 9) (i := p) hpU) cl_X10_162 dX10_meanTime_25 ?_
        refine lv_astore (lv' := [(4, .ref (b 9 p)), (3, .int (nI p)), (2, .int (t0)), (1, .int (n0)), (0, .ref (b 14 0))]) hx hb dX10_meanTime_28 hl (by decide) rfl (fun ls hl => ?_)
        refine lv_aload hx hb dX10_meanTime_30 (lv_at hl 0 rfl) ?_
        refine c_getI C0 hH hR ci_9 (i := p) (j := 8) hpU rfl (by decide) rfl fl_X10_190 (v := u 28 p) rfl dX10_meanTime_32 ?_
        refine lv_bipush (v := 100) hx hb dX10_meanTime_35 (by decide) ?_
        refine lv_icmp_ne (tgt := 57) hx hb dX10_meanTime_37 (by decide) (fun c37_4 => ?_) (fun c37_4 => ?_)
        · refine lv_iinc (v := nI (p + 1)) (lv' := [(3, .int (nI (p + 1))), (4, .ref (b 9 p)), (2, .int (t0)), (1, .int (n0)), (0, .ref (b 14 0))]) hx hb dX10_meanTime_57 hl (k := 1) rfl (by rw [← nI_1]; rfl) (by decide) rfl (fun ls hl => ?_)
          refine lv_goto (tgt := 6) hx hb dX10_meanTime_60 (by decide) ?_
          exact ih (p + 1) n0 t0 (by omega) (by rw [← hT]; simp only [cMtL]; rw [if_neg c37_4, if_neg c37_4]) _ _ hH ls (lv_sub hl [0, 2, 3, 4] rfl)
        · refine lv_iinc (v := n0 + 1) (lv' := [(1, .int (n0 + 1)), (4, .ref (b 9 p)), (3, .int (nI p)), (2, .int (t0)), (0, .ref (b 14 0))]) hx hb dX10_meanTime_40 hl (k := 3) rfl (rfl) (by decide) rfl (fun ls hl => ?_)
          refine lv_iload_n hx hb dX10_meanTime_43 rfl (lv_at hl 3 rfl) ?_
          refine lv_aload hx hb dX10_meanTime_44 (lv_at hl 1 rfl) ?_
          refine c_getI C0 hH hR ci_9 (i := p) (j := 14) hpU rfl (by decide) rfl fl_X10_216 (v := u 26 p) rfl dX10_meanTime_46 ?_
          refine lv_aload hx hb dX10_meanTime_49 (lv_at hl 1 rfl) ?_
          refine c_getI C0 hH hR ci_9 (i := p) (j := 3) hpU rfl (by decide) rfl fl_X10_357 (v := u 25 p) rfl dX10_meanTime_51 ?_
          refine lv_isub hx hb dX10_meanTime_54 ?_
          refine lv_iadd hx hb dX10_meanTime_55 ?_
          refine lv_istore_n (lv' := [(2, .int (t0 + ((u 26 p) - (u 25 p)))), (1, .int (n0 + 1)), (4, .ref (b 9 p)), (3, .int (nI p)), (0, .ref (b 14 0))]) hx hb dX10_meanTime_56 rfl hl (by decide) rfl (fun ls hl => ?_)
          refine lv_iinc (v := nI (p + 1)) (lv' := [(3, .int (nI (p + 1))), (2, .int (t0 + ((u 26 p) - (u 25 p)))), (1, .int (n0 + 1)), (4, .ref (b 9 p)), (0, .ref (b 14 0))]) hx hb dX10_meanTime_57 hl (k := 3) rfl (by rw [← nI_1]; rfl) (by decide) rfl (fun ls hl => ?_)
          refine lv_goto (tgt := 6) hx hb dX10_meanTime_60 (by decide) ?_
          exact ih (p + 1) (n0 + 1) (t0 + ((u 26 p) - (u 25 p))) (by omega) (by rw [← hT]; simp only [cMtL]; rw [if_pos c37_4, if_pos c37_4]) _ _ hH ls (lv_sub hl [0, 1, 2, 4] rfl)
  exact K (npN u) 0 0 0 (by omega) rfl _ _ hH ls (lv_sub hl [0, 1, 2, 3] rfl)

