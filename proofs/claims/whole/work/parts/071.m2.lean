set_option maxHeartbeats 4000000 in
set_option maxRecDepth 100000 in
theorem cM_found (l : Launch) (G : GT) (A : Nat → Prop) (h : AH) (o : Nat) (ad : Nat → Nat) (m : MM) (hM : RM h o ad m) (x : Int32) (hn : HN m) : cmI l G A yX11_found cX11_found 5 (Option.some FieldType.int) 0 0 0 0 [.ref (o), .int (x)] h (fun r h' => r = found m x ∧ h' = h) := by
  refine cm_of "RoutepostModel" rfl (by decide) (Nat.le_of_ble_eq_true rfl) ?_
  intro pr e s m9 below meth c C0 hr hname hH ls hl
  obtain ⟨hx, hb, hml, hown, hts, hK, hA, -⟩ := id C0
  have hl : lv_has ls 5 [(0, .ref (o)), (1, .int (x))] := hl
  have hnh := hn
  have hB := hnh.1
  refine lv_iconst (v := (-1)) hx hb dX11_found_0 (by decide) ?_
  refine lv_istore_n (lv' := [(2, .int ((-1))), (0, .ref (o)), (1, .int (x))]) hx hb dX11_found_1 rfl hl (by decide) rfl (fun ls hl => ?_)
  refine lv_iconst (v := 0) hx hb dX11_found_2 (by decide) ?_
  refine lv_istore_n (lv' := [(3, .int (0)), (2, .int ((-1))), (0, .ref (o)), (1, .int (x))]) hx hb dX11_found_3 rfl hl (by decide) rfl (fun ls hl => ?_)
  have K : ∀ (k i : Nat) (a : Int32), i + k = nhN m → fndO m x k i a = found m x → (a < 0 ∨ vp_in a 6) → ∀ (ls : Array Slot), lv_has ls 5 [(3, .int (nI i)), (2, .int (a)), (0, .ref (o)), (1, .int (x))] → W pr l e (rmm 0 0 0 0) s m9 ([.ref (o), .int (x)] : List Value).toArray below meth c s.heap [] 0 0 (QI below G A (fun r h' => r = found m x ∧ h' = h) ([.ref (o), .int (x)] : List Value).toArray s 0 0) (F0 m9 4 ls []) := by
    intro k
    induction k with
    | zero =>
      intro i a hik hT ha ls hl
      refine lv_iload_n hx hb dX11_found_4 rfl (lv_at hl 0 rfl) ?_
      refine lv_aload_n hx hb dX11_found_5 rfl (lv_at hl 2 rfl) ?_
      refine m_int C0 hH hM 37 (by decide) (by decide) fl_X11_134 (v := m 37 0) rfl dX11_found_6 ?_
      refine lv_icmp_ge (tgt := 75) hx hb dX11_found_9 (by decide) (fun c9_1 => ?_) (fun c9_1 => ?_)
      · refine lv_iload_n hx hb dX11_found_75 rfl (lv_at hl 1 rfl) ?_
        have eR : a = found m x := hT
        exact e_I C0 hr hH ⟨eR, rfl⟩ (Nat.le_refl _) (Nat.le_refl _) dX11_found_76
      · exact absurd (by rw [hB]; exact nI_le (by omega) (by omega)) c9_1
    | succ k ih =>
      intro i a hik hT ha ls hl
      refine lv_iload_n hx hb dX11_found_4 rfl (lv_at hl 0 rfl) ?_
      refine lv_aload_n hx hb dX11_found_5 rfl (lv_at hl 2 rfl) ?_
      refine m_int C0 hH hM 37 (by decide) (by decide) fl_X11_134 (v := m 37 0) rfl dX11_found_6 ?_
      refine lv_icmp_ge (tgt := 75) hx hb dX11_found_9 (by decide) (fun c9_2 => ?_) (fun c9_2 => ?_)
      · exact absurd c9_2 (by rw [hB]; exact nI_ge (by omega) (by omega))
      · refine lv_iload_n hx hb dX11_found_12 rfl (lv_at hl 3 rfl) ?_
        refine lv_bipush (v := 10) hx hb dX11_found_13 (by decide) ?_
        refine lv_idiv hx hb dX11_found_15 (by decide) ?_
        refine lv_istore (lv' := [(4, .int (x / 10)), (3, .int (nI i)), (2, .int (a)), (0, .ref (o)), (1, .int (x))]) hx hb dX11_found_16 hl (by decide) rfl (fun ls hl => ?_)
        have K2 : ∀ (n : Nat) (k a : Int32), k.toInt < 10 ^ n → (a < 0 ∨ vp_in a 6) → ∀ (hk2 : ∀ ls : Array Slot, lv_has ls 5 [(3, .int (nI (i + 1))), (4, .int 0), (2, .int (fndI m i n k a)), (0, .ref o), (1, .int x)] → True) (ls : Array Slot), (∀ (k2 : Int32) (ls : Array Slot), lv_has ls 5 [(4, .int k2), (2, .int (fndI m i n k a)), (0, .ref o), (1, .int x), (3, .int (nI i))] → W pr l e (rmm 0 0 0 0) s m9 ([.ref (o), .int (x)] : List Value).toArray below meth c s.heap [] 0 0 (QI below G A (fun r h' => r = found m x ∧ h' = h) ([.ref (o), .int (x)] : List Value).toArray s 0 0) (F0 m9 69 ls [])) → lv_has ls 5 [(4, .int (k)), (2, .int (a)), (0, .ref (o)), (1, .int (x)), (3, .int (nI i))] → W pr l e (rmm 0 0 0 0) s m9 ([.ref (o), .int (x)] : List Value).toArray below meth c s.heap [] 0 0 (QI below G A (fun r h' => r = found m x ∧ h' = h) ([.ref (o), .int (x)] : List Value).toArray s 0 0) (F0 m9 18 ls []) := by
          intro n
          induction n with
          | zero =>
            intro k a hk ha _ ls kk hl
            refine lv_iload hx hb dX11_found_18 (lv_at hl 0 rfl) ?_
            refine lv_if_le (tgt := 69) hx hb dX11_found_20 (by decide) (fun c20_3 => ?_) (fun c20_3 => ?_)
            · exact kk k ls hl
            · exact absurd (dig_z hk) c20_3
          | succ n ihn =>
            intro k a hk ha _ ls kk hl
            refine lv_iload hx hb dX11_found_18 (lv_at hl 0 rfl) ?_
            refine lv_if_le (tgt := 69) hx hb dX11_found_20 (by decide) (fun c20_4 => ?_) (fun c20_4 => ?_)
            · exact kk k ls (by simpa [fndI, c20_4] using hl)
            · refine lv_iload hx hb dX11_found_23 (lv_at hl 0 rfl) ?_
              refine lv_aload_n hx hb dX11_found_25 rfl (lv_at hl 2 rfl) ?_
              refine m_arr C0 hH hM 0 (by decide) fl_X11_9 dX11_found_26 ?_
              refine lv_iload_n hx hb dX11_found_29 rfl (lv_at hl 4 rfl) ?_
              refine m_ldI C0 hH hM 0 (by decide) rfl (n := 6) rfl (ix := i) (nI_clamp (by omega)) (by first | assumption | exact vp_in_nI (by omega) (by omega)) (v := m 0 i) rfl dX11_found_30 ?_
              refine lv_icmp_ne (tgt := 57) hx hb dX11_found_31 (by decide) (fun c31_5 => ?_) (fun c31_5 => ?_)
              · refine lv_iload_n hx hb dX11_found_57 rfl (lv_at hl 1 rfl) ?_
                refine lv_istore_n (lv' := [(2, .int (a)), (4, .int (k)), (0, .ref (o)), (1, .int (x)), (3, .int (nI i))]) hx hb dX11_found_58 rfl hl (by decide) rfl (fun ls hl => ?_)
                refine lv_iload hx hb dX11_found_59 (lv_at hl 1 rfl) ?_
                refine lv_bipush (v := 10) hx hb dX11_found_61 (by decide) ?_
                refine lv_idiv hx hb dX11_found_63 (by decide) ?_
                refine lv_istore (lv' := [(4, .int (k / 10)), (2, .int (a)), (0, .ref (o)), (1, .int (x)), (3, .int (nI i))]) hx hb dX11_found_64 hl (by decide) rfl (fun ls hl => ?_)
                refine lv_goto (tgt := 18) hx hb dX11_found_66 (by decide) ?_
                refine ihn (k / 10) a (dig_s c20_4 hk) (ha) (fun _ _ => trivial) ls ?_ (lv_sub hl [0, 1, 2, 3, 4] rfl)
                intro k2 ls hl
                refine kk k2 ls ?_
                simpa [fndI, c20_4, Int32.not_le.mp c20_4, eq_false c31_5] using hl
              · refine lv_iload_n hx hb dX11_found_34 rfl (lv_at hl 1 rfl) ?_
                refine lv_if_lt (tgt := 53) hx hb dX11_found_35 (by decide) (fun c35_6 => ?_) (fun c35_6 => ?_)
                · refine lv_iload_n hx hb dX11_found_53 rfl (lv_at hl 4 rfl) ?_
                  refine lv_goto (tgt := 58) hx hb dX11_found_54 (by decide) ?_
                  refine lv_istore_n (lv' := [(2, .int (nI i)), (4, .int (k)), (0, .ref (o)), (1, .int (x)), (3, .int (nI i))]) hx hb dX11_found_58 rfl hl (by decide) rfl (fun ls hl => ?_)
                  refine lv_iload hx hb dX11_found_59 (lv_at hl 1 rfl) ?_
                  refine lv_bipush (v := 10) hx hb dX11_found_61 (by decide) ?_
                  refine lv_idiv hx hb dX11_found_63 (by decide) ?_
                  refine lv_istore (lv' := [(4, .int (k / 10)), (2, .int (nI i)), (0, .ref (o)), (1, .int (x)), (3, .int (nI i))]) hx hb dX11_found_64 hl (by decide) rfl (fun ls hl => ?_)
                  refine lv_goto (tgt := 18) hx hb dX11_found_66 (by decide) ?_
                  refine ihn (k / 10) (nI i) (dig_s c20_4 hk) (Or.inr (vp_in_nI (by omega) (by omega))) (fun _ _ => trivial) ls ?_ (lv_sub hl [0, 1, 2, 3, 4] rfl)
                  intro k2 ls hl
                  refine kk k2 ls ?_
                  simpa [fndI, c20_4, Int32.not_le.mp c20_4, eq_true c31_5, c35_6, Int32.not_le.mpr c35_6] using hl
                · refine lv_aload_n hx hb dX11_found_38 rfl (lv_at hl 2 rfl) ?_
                  refine m_arr C0 hH hM 0 (by decide) fl_X11_9 dX11_found_39 ?_
                  refine lv_iload_n hx hb dX11_found_42 rfl (lv_at hl 4 rfl) ?_
                  refine m_ldI C0 hH hM 0 (by decide) rfl (n := 6) rfl (ix := i) (nI_clamp (by omega)) (by first | assumption | exact vp_in_nI (by omega) (by omega)) (v := m 0 i) rfl dX11_found_43 ?_
                  refine lv_aload_n hx hb dX11_found_44 rfl (lv_at hl 2 rfl) ?_
                  refine m_arr C0 hH hM 0 (by decide) fl_X11_9 dX11_found_45 ?_
                  refine lv_iload_n hx hb dX11_found_48 rfl (lv_at hl 1 rfl) ?_
                  refine m_ldI C0 hH hM 0 (by decide) rfl (n := 6) rfl (ix := a.toNatClampNeg) rfl (ha.resolve_left (by assumption)) (v := m 0 a.toNatClampNeg) rfl dX11_found_49 ?_
                  refine lv_icmp_le (tgt := 57) hx hb dX11_found_50 (by decide) (fun c50_7 => ?_) (fun c50_7 => ?_)
                  · refine lv_iload_n hx hb dX11_found_57 rfl (lv_at hl 1 rfl) ?_
                    refine lv_istore_n (lv' := [(2, .int (a)), (4, .int (k)), (0, .ref (o)), (1, .int (x)), (3, .int (nI i))]) hx hb dX11_found_58 rfl hl (by decide) rfl (fun ls hl => ?_)
                    refine lv_iload hx hb dX11_found_59 (lv_at hl 1 rfl) ?_
                    refine lv_bipush (v := 10) hx hb dX11_found_61 (by decide) ?_
                    refine lv_idiv hx hb dX11_found_63 (by decide) ?_
                    refine lv_istore (lv' := [(4, .int (k / 10)), (2, .int (a)), (0, .ref (o)), (1, .int (x)), (3, .int (nI i))]) hx hb dX11_found_64 hl (by decide) rfl (fun ls hl => ?_)
                    refine lv_goto (tgt := 18) hx hb dX11_found_66 (by decide) ?_
                    refine ihn (k / 10) a (dig_s c20_4 hk) (ha) (fun _ _ => trivial) ls ?_ (lv_sub hl [0, 1, 2, 3, 4] rfl)
                    intro k2 ls hl
                    refine kk k2 ls ?_
                    simpa [fndI, c20_4, Int32.not_le.mp c20_4, eq_true c31_5, c35_6, Int32.not_lt.mp c35_6, c50_7, Int32.not_lt.mpr c50_7] using hl
                  · refine lv_iload_n hx hb dX11_found_53 rfl (lv_at hl 4 rfl) ?_
                    refine lv_goto (tgt := 58) hx hb dX11_found_54 (by decide) ?_
                    refine lv_istore_n (lv' := [(2, .int (nI i)), (4, .int (k)), (0, .ref (o)), (1, .int (x)), (3, .int (nI i))]) hx hb dX11_found_58 rfl hl (by decide) rfl (fun ls hl => ?_)
                    refine lv_iload hx hb dX11_found_59 (lv_at hl 1 rfl) ?_
                    refine lv_bipush (v := 10) hx hb dX11_found_61 (by decide) ?_
                    refine lv_idiv hx hb dX11_found_63 (by decide) ?_
                    refine lv_istore (lv' := [(4, .int (k / 10)), (2, .int (nI i)), (0, .ref (o)), (1, .int (x)), (3, .int (nI i))]) hx hb dX11_found_64 hl (by decide) rfl (fun ls hl => ?_)
                    refine lv_goto (tgt := 18) hx hb dX11_found_66 (by decide) ?_
                    refine ihn (k / 10) (nI i) (dig_s c20_4 hk) (Or.inr (vp_in_nI (by omega) (by omega))) (fun _ _ => trivial) ls ?_ (lv_sub hl [0, 1, 2, 3, 4] rfl)
                    intro k2 ls hl
                    refine kk k2 ls ?_
                    simpa [fndI, c20_4, Int32.not_le.mp c20_4, eq_true c31_5, c35_6, Int32.not_lt.mp c35_6, c50_7, Int32.not_le.mp c50_7] using hl
        refine K2 11 (x / 10) a (dig10 x) ha (fun _ _ => trivial) ls ?_ (lv_sub hl [0, 2, 3, 4, 1] rfl)
        intro k2 ls hl
        refine lv_iinc (v := nI (i + 1)) (lv' := [(3, .int (nI (i + 1))), (4, .int (k2)), (2, .int (fndI m i 11 (x / 10) a)), (0, .ref (o)), (1, .int (x))]) hx hb dX11_found_69 hl (k := 4) rfl (by rw [← nI_1]; rfl) (by decide) rfl (fun ls hl => ?_)
        refine lv_goto (tgt := 4) hx hb dX11_found_72 (by decide) ?_
        exact ih (i + 1) (fndI m i 11 (x / 10) a) (by omega) (by rw [← hT]; rfl) (fndI_ok (by omega) ha) ls (lv_sub hl [0, 2, 3, 4] rfl)
  exact K (nhN m) 0 (-1) (by omega) (rfl) (Or.inl (by decide)) ls (lv_sub hl [0, 1, 2, 3] rfl)
set_option maxHeartbeats 4000000 in
set_option maxRecDepth 100000 in
theorem cM_isOver (l : Launch) (G : GT) (A : Nat → Prop) (h : AH) (o : Nat) (ad : Nat → Nat) (m : MM) (hM : RM h o ad m) (p : Nat) (hw : WFa m) (hp : p < npN m) : cmI l G A yX11_isOver cX11_isOver 2 (Option.some FieldType.boolean) 0 0 0 0 [.ref (o), .int (nI p)] h (fun r h' => r = bi (isOver m p) ∧ h' = h) := by
  refine cm_of "RoutepostModel" rfl (by decide) (Nat.le_of_ble_eq_true rfl) ?_
  intro pr e s m9 below meth c C0 hr hname hH ls hl
  obtain ⟨hx, hb, hml, hown, hts, hK, hA, -⟩ := id C0
  have hl : lv_has ls 2 [(0, .ref (o)), (1, .int (nI p))] := hl
  have hnp := hw.np
  refine lv_aload_n hx hb dX11_isOver_0 rfl (lv_at hl 0 rfl) ?_
  refine m_arr C0 hH hM 28 (by decide) fl_X11_95 dX11_isOver_1 ?_
  refine lv_iload_n hx hb dX11_isOver_4 rfl (lv_at hl 1 rfl) ?_
  refine m_ldC C0 hH hM 28 (by decide) rfl (n := 40) rfl (ix := p) (nI_clamp (by omega)) (by first | assumption | exact vp_in_nI (by omega) (by omega)) (v := m 28 p) rfl dX11_isOver_5 ?_
  refine lv_bipush (v := 100) hx hb dX11_isOver_6 (by decide) ?_
  refine lv_icmp_eq (tgt := 22) hx hb dX11_isOver_8 (by decide) (fun c8_1 => ?_) (fun c8_1 => ?_)
  · refine lv_iconst (v := 1) hx hb dX11_isOver_22 (by decide) ?_
    refine lv_goto (tgt := 27) hx hb dX11_isOver_23 (by decide) ?_
    have eR : 1 = bi (isOver m p) := by simp [bi, isOver, eq_true c8_1]
    exact e_Z C0 hr (by decide) hH ⟨eR, rfl⟩ (Nat.le_refl _) (Nat.le_refl _) dX11_isOver_27
  · refine lv_aload_n hx hb dX11_isOver_11 rfl (lv_at hl 0 rfl) ?_
    refine m_arr C0 hH hM 28 (by decide) fl_X11_95 dX11_isOver_12 ?_
    refine lv_iload_n hx hb dX11_isOver_15 rfl (lv_at hl 1 rfl) ?_
    refine m_ldC C0 hH hM 28 (by decide) rfl (n := 40) rfl (ix := p) (nI_clamp (by omega)) (by first | assumption | exact vp_in_nI (by omega) (by omega)) (v := m 28 p) rfl dX11_isOver_16 ?_
    refine lv_bipush (v := 104) hx hb dX11_isOver_17 (by decide) ?_
    refine lv_icmp_ne (tgt := 26) hx hb dX11_isOver_19 (by decide) (fun c19_2 => ?_) (fun c19_2 => ?_)
    · refine lv_iconst (v := 0) hx hb dX11_isOver_26 (by decide) ?_
      have eR : 0 = bi (isOver m p) := by simp [bi, isOver, eq_false c8_1, eq_false c19_2]
      exact e_Z C0 hr (by decide) hH ⟨eR, rfl⟩ (Nat.le_refl _) (Nat.le_refl _) dX11_isOver_27
    · refine lv_iconst (v := 1) hx hb dX11_isOver_22 (by decide) ?_
      refine lv_goto (tgt := 27) hx hb dX11_isOver_23 (by decide) ?_
      have eR : 1 = bi (isOver m p) := by simp [bi, isOver, eq_false c8_1, eq_true c19_2]
      exact e_Z C0 hr (by decide) hH ⟨eR, rfl⟩ (Nat.le_refl _) (Nat.le_refl _) dX11_isOver_27
set_option maxHeartbeats 4000000 in
set_option maxRecDepth 100000 in
theorem cM_isAhead (l : Launch) (G : GT) (A : Nat → Prop) (h : AH) (o : Nat) (ad : Nat → Nat) (m : MM) (hM : RM h o ad m) (p q : Nat) (hw : WFa m) (hp : p < npN m) (hq : q < npN m) : cmI l G A yX11_isAhead cX11_isAhead 3 (Option.some FieldType.boolean) 0 0 0 0 [.ref (o), .int (nI p), .int (nI q)] h (fun r h' => r = bi (ahead m p q) ∧ h' = h) := by
  refine cm_of "RoutepostModel" rfl (by decide) (Nat.le_of_ble_eq_true rfl) ?_
  intro pr e s m9 below meth c C0 hr hname hH ls hl
  obtain ⟨hx, hb, hml, hown, hts, hK, hA, -⟩ := id C0
  have hl : lv_has ls 3 [(0, .ref (o)), (1, .int (nI p)), (2, .int (nI q))] := hl
  have hnp := hw.np
  have hpq : nI p < nI q ↔ p < q := nI_ltI (by omega) (by omega)
  refine lv_aload_n hx hb dX11_isAhead_0 rfl (lv_at hl 0 rfl) ?_
  refine m_arr C0 hH hM 12 (by decide) fl_X11_47 dX11_isAhead_1 ?_
  refine lv_iload_n hx hb dX11_isAhead_4 rfl (lv_at hl 1 rfl) ?_
  refine m_ldI C0 hH hM 12 (by decide) rfl (n := 40) rfl (ix := p) (nI_clamp (by omega)) (by first | assumption | exact vp_in_nI (by omega) (by omega)) (v := m 12 p) rfl dX11_isAhead_5 ?_
  refine lv_aload_n hx hb dX11_isAhead_6 rfl (lv_at hl 0 rfl) ?_
  refine m_arr C0 hH hM 12 (by decide) fl_X11_47 dX11_isAhead_7 ?_
  refine lv_iload_n hx hb dX11_isAhead_10 rfl (lv_at hl 2 rfl) ?_
  refine m_ldI C0 hH hM 12 (by decide) rfl (n := 40) rfl (ix := q) (nI_clamp (by omega)) (by first | assumption | exact vp_in_nI (by omega) (by omega)) (v := m 12 q) rfl dX11_isAhead_11 ?_
  refine lv_icmp_eq (tgt := 36) hx hb dX11_isAhead_12 (by decide) (fun c12_1 => ?_) (fun c12_1 => ?_)
  · refine lv_aload_n hx hb dX11_isAhead_36 rfl (lv_at hl 0 rfl) ?_
    refine m_arr C0 hH hM 20 (by decide) fl_X11_71 dX11_isAhead_37 ?_
    refine lv_iload_n hx hb dX11_isAhead_40 rfl (lv_at hl 1 rfl) ?_
    refine m_ldI C0 hH hM 20 (by decide) rfl (n := 40) rfl (ix := p) (nI_clamp (by omega)) (by first | assumption | exact vp_in_nI (by omega) (by omega)) (v := m 20 p) rfl dX11_isAhead_41 ?_
    refine lv_aload_n hx hb dX11_isAhead_42 rfl (lv_at hl 0 rfl) ?_
    refine m_arr C0 hH hM 20 (by decide) fl_X11_71 dX11_isAhead_43 ?_
    refine lv_iload_n hx hb dX11_isAhead_46 rfl (lv_at hl 2 rfl) ?_
    refine m_ldI C0 hH hM 20 (by decide) rfl (n := 40) rfl (ix := q) (nI_clamp (by omega)) (by first | assumption | exact vp_in_nI (by omega) (by omega)) (v := m 20 q) rfl dX11_isAhead_47 ?_
    refine lv_icmp_eq (tgt := 90) hx hb dX11_isAhead_48 (by decide) (fun c48_2 => ?_) (fun c48_2 => ?_)
    · refine lv_iload_n hx hb dX11_isAhead_90 rfl (lv_at hl 1 rfl) ?_
      refine lv_iload_n hx hb dX11_isAhead_91 rfl (lv_at hl 2 rfl) ?_
      refine lv_icmp_ge (tgt := 99) hx hb dX11_isAhead_92 (by decide) (fun c92_3 => ?_) (fun c92_3 => ?_)
      · refine lv_iconst (v := 0) hx hb dX11_isAhead_99 (by decide) ?_
        have eR : 0 = bi (ahead m p q) := by simp [bi, ahead, ← hpq, eq_true c12_1, eq_true c48_2, c92_3, Int32.not_lt.mpr c92_3]
        exact e_Z C0 hr (by decide) hH ⟨eR, rfl⟩ (Nat.le_refl _) (Nat.le_refl _) dX11_isAhead_100
      · refine lv_iconst (v := 1) hx hb dX11_isAhead_95 (by decide) ?_
        refine lv_goto (tgt := 100) hx hb dX11_isAhead_96 (by decide) ?_
        have eR : 1 = bi (ahead m p q) := by simp [bi, ahead, ← hpq, eq_true c12_1, eq_true c48_2, c92_3, Int32.not_le.mp c92_3]
        exact e_Z C0 hr (by decide) hH ⟨eR, rfl⟩ (Nat.le_refl _) (Nat.le_refl _) dX11_isAhead_100
    · refine lv_aload_n hx hb dX11_isAhead_51 rfl (lv_at hl 0 rfl) ?_
      refine m_arr C0 hH hM 20 (by decide) fl_X11_71 dX11_isAhead_52 ?_
      refine lv_iload_n hx hb dX11_isAhead_55 rfl (lv_at hl 2 rfl) ?_
      refine m_ldI C0 hH hM 20 (by decide) rfl (n := 40) rfl (ix := q) (nI_clamp (by omega)) (by first | assumption | exact vp_in_nI (by omega) (by omega)) (v := m 20 q) rfl dX11_isAhead_56 ?_
      refine lv_if_lt (tgt := 84) hx hb dX11_isAhead_57 (by decide) (fun c57_4 => ?_) (fun c57_4 => ?_)
      · refine lv_iconst (v := 1) hx hb dX11_isAhead_84 (by decide) ?_
        refine lv_goto (tgt := 89) hx hb dX11_isAhead_85 (by decide) ?_
        have eR : 1 = bi (ahead m p q) := by simp [bi, ahead, ← hpq, eq_true c12_1, eq_false c48_2, c57_4, Int32.not_le.mpr c57_4]
        exact e_Z C0 hr (by decide) hH ⟨eR, rfl⟩ (Nat.le_refl _) (Nat.le_refl _) dX11_isAhead_89
      · refine lv_aload_n hx hb dX11_isAhead_60 rfl (lv_at hl 0 rfl) ?_
        refine m_arr C0 hH hM 20 (by decide) fl_X11_71 dX11_isAhead_61 ?_
        refine lv_iload_n hx hb dX11_isAhead_64 rfl (lv_at hl 1 rfl) ?_
        refine m_ldI C0 hH hM 20 (by decide) rfl (n := 40) rfl (ix := p) (nI_clamp (by omega)) (by first | assumption | exact vp_in_nI (by omega) (by omega)) (v := m 20 p) rfl dX11_isAhead_65 ?_
        refine lv_if_lt (tgt := 88) hx hb dX11_isAhead_66 (by decide) (fun c66_5 => ?_) (fun c66_5 => ?_)
        · refine lv_iconst (v := 0) hx hb dX11_isAhead_88 (by decide) ?_
          have eR : 0 = bi (ahead m p q) := by simp [bi, ahead, ← hpq, eq_true c12_1, eq_false c48_2, c57_4, Int32.not_lt.mp c57_4, c66_5, Int32.not_le.mpr c66_5]
          exact e_Z C0 hr (by decide) hH ⟨eR, rfl⟩ (Nat.le_refl _) (Nat.le_refl _) dX11_isAhead_89
        · refine lv_aload_n hx hb dX11_isAhead_69 rfl (lv_at hl 0 rfl) ?_
          refine m_arr C0 hH hM 20 (by decide) fl_X11_71 dX11_isAhead_70 ?_
          refine lv_iload_n hx hb dX11_isAhead_73 rfl (lv_at hl 1 rfl) ?_
          refine m_ldI C0 hH hM 20 (by decide) rfl (n := 40) rfl (ix := p) (nI_clamp (by omega)) (by first | assumption | exact vp_in_nI (by omega) (by omega)) (v := m 20 p) rfl dX11_isAhead_74 ?_
          refine lv_aload_n hx hb dX11_isAhead_75 rfl (lv_at hl 0 rfl) ?_
          refine m_arr C0 hH hM 20 (by decide) fl_X11_71 dX11_isAhead_76 ?_
          refine lv_iload_n hx hb dX11_isAhead_79 rfl (lv_at hl 2 rfl) ?_
          refine m_ldI C0 hH hM 20 (by decide) rfl (n := 40) rfl (ix := q) (nI_clamp (by omega)) (by first | assumption | exact vp_in_nI (by omega) (by omega)) (v := m 20 q) rfl dX11_isAhead_80 ?_
          refine lv_icmp_ge (tgt := 88) hx hb dX11_isAhead_81 (by decide) (fun c81_6 => ?_) (fun c81_6 => ?_)
          · refine lv_iconst (v := 0) hx hb dX11_isAhead_88 (by decide) ?_
            have eR : 0 = bi (ahead m p q) := by simp [bi, ahead, ← hpq, eq_true c12_1, eq_false c48_2, c57_4, Int32.not_lt.mp c57_4, c66_5, Int32.not_lt.mp c66_5, c81_6, Int32.not_lt.mpr c81_6]
            exact e_Z C0 hr (by decide) hH ⟨eR, rfl⟩ (Nat.le_refl _) (Nat.le_refl _) dX11_isAhead_89
          · refine lv_iconst (v := 1) hx hb dX11_isAhead_84 (by decide) ?_
            refine lv_goto (tgt := 89) hx hb dX11_isAhead_85 (by decide) ?_
            have eR : 1 = bi (ahead m p q) := by simp [bi, ahead, ← hpq, eq_true c12_1, eq_false c48_2, c57_4, Int32.not_lt.mp c57_4, c66_5, Int32.not_lt.mp c66_5, c81_6, Int32.not_le.mp c81_6]
            exact e_Z C0 hr (by decide) hH ⟨eR, rfl⟩ (Nat.le_refl _) (Nat.le_refl _) dX11_isAhead_89
  · refine lv_aload_n hx hb dX11_isAhead_15 rfl (lv_at hl 0 rfl) ?_
    refine m_arr C0 hH hM 12 (by decide) fl_X11_47 dX11_isAhead_16 ?_
    refine lv_iload_n hx hb dX11_isAhead_19 rfl (lv_at hl 1 rfl) ?_
    refine m_ldI C0 hH hM 12 (by decide) rfl (n := 40) rfl (ix := p) (nI_clamp (by omega)) (by first | assumption | exact vp_in_nI (by omega) (by omega)) (v := m 12 p) rfl dX11_isAhead_20 ?_
    refine lv_aload_n hx hb dX11_isAhead_21 rfl (lv_at hl 0 rfl) ?_
    refine m_arr C0 hH hM 12 (by decide) fl_X11_47 dX11_isAhead_22 ?_
    refine lv_iload_n hx hb dX11_isAhead_25 rfl (lv_at hl 2 rfl) ?_
    refine m_ldI C0 hH hM 12 (by decide) rfl (n := 40) rfl (ix := q) (nI_clamp (by omega)) (by first | assumption | exact vp_in_nI (by omega) (by omega)) (v := m 12 q) rfl dX11_isAhead_26 ?_
    refine lv_icmp_ge (tgt := 34) hx hb dX11_isAhead_27 (by decide) (fun c27_7 => ?_) (fun c27_7 => ?_)
    · refine lv_iconst (v := 0) hx hb dX11_isAhead_34 (by decide) ?_
      have eR : 0 = bi (ahead m p q) := by simp [bi, ahead, ← hpq, eq_false c12_1, c27_7, Int32.not_lt.mpr c27_7]
      exact e_Z C0 hr (by decide) hH ⟨eR, rfl⟩ (Nat.le_refl _) (Nat.le_refl _) dX11_isAhead_35
    · refine lv_iconst (v := 1) hx hb dX11_isAhead_30 (by decide) ?_
      refine lv_goto (tgt := 35) hx hb dX11_isAhead_31 (by decide) ?_
      have eR : 1 = bi (ahead m p q) := by simp [bi, ahead, ← hpq, eq_false c12_1, c27_7, Int32.not_le.mp c27_7]
      exact e_Z C0 hr (by decide) hH ⟨eR, rfl⟩ (Nat.le_refl _) (Nat.le_refl _) dX11_isAhead_35
set_option maxHeartbeats 4000000 in
set_option maxRecDepth 100000 in
theorem cM_wasLate (l : Launch) (G : GT) (A : Nat → Prop) (h : AH) (o : Nat) (ad : Nat → Nat) (m : MM) (hM : RM h o ad m) (p : Nat) (hw : WFa m) (hp : p < npN m) : cmI l G A yX11_wasLate cX11_wasLate 2 (Option.some FieldType.boolean) 0 0 0 0 [.ref (o), .int (nI p)] h (fun r h' => r = bi (late m p) ∧ h' = h) := by
  refine cm_of "RoutepostModel" rfl (by decide) (Nat.le_of_ble_eq_true rfl) ?_
  intro pr e s m9 below meth c C0 hr hname hH ls hl
  obtain ⟨hx, hb, hml, hown, hts, hK, hA, -⟩ := id C0
  have hl : lv_has ls 2 [(0, .ref (o)), (1, .int (nI p))] := hl
  have hnp := hw.np
  refine lv_aload_n hx hb dX11_wasLate_0 rfl (lv_at hl 0 rfl) ?_
  refine m_arr C0 hH hM 20 (by decide) fl_X11_71 dX11_wasLate_1 ?_
  refine lv_iload_n hx hb dX11_wasLate_4 rfl (lv_at hl 1 rfl) ?_
  refine m_ldI C0 hH hM 20 (by decide) rfl (n := 40) rfl (ix := p) (nI_clamp (by omega)) (by first | assumption | exact vp_in_nI (by omega) (by omega)) (v := m 20 p) rfl dX11_wasLate_5 ?_
  refine lv_if_lt (tgt := 53) hx hb dX11_wasLate_6 (by decide) (fun c6_1 => ?_) (fun c6_1 => ?_)
  · refine lv_iconst (v := 0) hx hb dX11_wasLate_53 (by decide) ?_
    have eR : 0 = bi (late m p) := by simp [bi, late, c6_1, Int32.not_le.mpr c6_1]
    exact e_Z C0 hr (by decide) hH ⟨eR, rfl⟩ (Nat.le_refl _) (Nat.le_refl _) dX11_wasLate_54
  · refine lv_aload_n hx hb dX11_wasLate_9 rfl (lv_at hl 0 rfl) ?_
    refine m_arr C0 hH hM 21 (by decide) fl_X11_74 dX11_wasLate_10 ?_
    refine lv_iload_n hx hb dX11_wasLate_13 rfl (lv_at hl 1 rfl) ?_
    refine m_ldI C0 hH hM 21 (by decide) rfl (n := 40) rfl (ix := p) (nI_clamp (by omega)) (by first | assumption | exact vp_in_nI (by omega) (by omega)) (v := m 21 p) rfl dX11_wasLate_14 ?_
    refine lv_if_lt (tgt := 36) hx hb dX11_wasLate_15 (by decide) (fun c15_2 => ?_) (fun c15_2 => ?_)
    · refine lv_aload_n hx hb dX11_wasLate_36 rfl (lv_at hl 0 rfl) ?_
      refine m_arr C0 hH hM 20 (by decide) fl_X11_71 dX11_wasLate_37 ?_
      refine lv_iload_n hx hb dX11_wasLate_40 rfl (lv_at hl 1 rfl) ?_
      refine m_ldI C0 hH hM 20 (by decide) rfl (n := 40) rfl (ix := p) (nI_clamp (by omega)) (by first | assumption | exact vp_in_nI (by omega) (by omega)) (v := m 20 p) rfl dX11_wasLate_41 ?_
      refine lv_aload_n hx hb dX11_wasLate_42 rfl (lv_at hl 0 rfl) ?_
      refine m_int C0 hH hM 41 (by decide) (by decide) fl_X11_150 (v := m 41 0) rfl dX11_wasLate_43 ?_
      refine lv_icmp_ge (tgt := 53) hx hb dX11_wasLate_46 (by decide) (fun c46_3 => ?_) (fun c46_3 => ?_)
      · refine lv_iconst (v := 0) hx hb dX11_wasLate_53 (by decide) ?_
        have eR : 0 = bi (late m p) := by simp [bi, late, c6_1, Int32.not_lt.mp c6_1, c15_2, Int32.not_le.mpr c15_2, c46_3, Int32.not_lt.mpr c46_3]
        exact e_Z C0 hr (by decide) hH ⟨eR, rfl⟩ (Nat.le_refl _) (Nat.le_refl _) dX11_wasLate_54
      · refine lv_iconst (v := 1) hx hb dX11_wasLate_49 (by decide) ?_
        refine lv_goto (tgt := 54) hx hb dX11_wasLate_50 (by decide) ?_
        have eR : 1 = bi (late m p) := by simp [bi, late, c6_1, Int32.not_lt.mp c6_1, c15_2, Int32.not_le.mpr c15_2, c46_3, Int32.not_le.mp c46_3]
        exact e_Z C0 hr (by decide) hH ⟨eR, rfl⟩ (Nat.le_refl _) (Nat.le_refl _) dX11_wasLate_54
    · refine lv_aload_n hx hb dX11_wasLate_18 rfl (lv_at hl 0 rfl) ?_
      refine m_arr C0 hH hM 21 (by decide) fl_X11_74 dX11_wasLate_19 ?_
      refine lv_iload_n hx hb dX11_wasLate_22 rfl (lv_at hl 1 rfl) ?_
      refine m_ldI C0 hH hM 21 (by decide) rfl (n := 40) rfl (ix := p) (nI_clamp (by omega)) (by first | assumption | exact vp_in_nI (by omega) (by omega)) (v := m 21 p) rfl dX11_wasLate_23 ?_
      refine lv_aload_n hx hb dX11_wasLate_24 rfl (lv_at hl 0 rfl) ?_
      refine m_arr C0 hH hM 20 (by decide) fl_X11_71 dX11_wasLate_25 ?_
      refine lv_iload_n hx hb dX11_wasLate_28 rfl (lv_at hl 1 rfl) ?_
      refine m_ldI C0 hH hM 20 (by decide) rfl (n := 40) rfl (ix := p) (nI_clamp (by omega)) (by first | assumption | exact vp_in_nI (by omega) (by omega)) (v := m 20 p) rfl dX11_wasLate_29 ?_
      refine lv_icmp_le (tgt := 53) hx hb dX11_wasLate_30 (by decide) (fun c30_4 => ?_) (fun c30_4 => ?_)
      · refine lv_iconst (v := 0) hx hb dX11_wasLate_53 (by decide) ?_
        have eR : 0 = bi (late m p) := by simp [bi, late, c6_1, Int32.not_lt.mp c6_1, c15_2, Int32.not_lt.mp c15_2, c30_4, Int32.not_lt.mpr c30_4]
        exact e_Z C0 hr (by decide) hH ⟨eR, rfl⟩ (Nat.le_refl _) (Nat.le_refl _) dX11_wasLate_54
      · refine lv_goto (tgt := 49) hx hb dX11_wasLate_33 (by decide) ?_
        refine lv_iconst (v := 1) hx hb dX11_wasLate_49 (by decide) ?_
        refine lv_goto (tgt := 54) hx hb dX11_wasLate_50 (by decide) ?_
        have eR : 1 = bi (late m p) := by simp [bi, late, c6_1, Int32.not_lt.mp c6_1, c15_2, Int32.not_lt.mp c15_2, c30_4, Int32.not_le.mp c30_4]
        exact e_Z C0 hr (by decide) hH ⟨eR, rfl⟩ (Nat.le_refl _) (Nat.le_refl _) dX11_wasLate_54
set_option maxHeartbeats 4000000 in
set_option maxRecDepth 100000 in
theorem cM_minute (l : Launch) (G : GT) (A : Nat → Prop) (h : AH) (o : Nat) (ad : Nat → Nat) (m : MM) (hM : RM h o ad m) : cmI l G A yX11_minute cX11_minute 1 (Option.some FieldType.int) 1 21 0 0 [.ref (o)] h (fun r h' => r = m 41 0 ∧ RM h' o ad (up m 45 0 0)) := by
  refine cm_of "RoutepostModel" rfl (by decide) (Nat.le_of_ble_eq_true rfl) ?_
  intro pr e s m9 below meth c C0 hr hname hH ls hl
  obtain ⟨hx, hb, hml, hown, hts, hK, hA, -⟩ := id C0
  have hl : lv_has ls 1 [(0, .ref (o))] := hl
  refine lv_aload_n hx hb dX11_minute_0 rfl (lv_at hl 0 rfl) ?_
  refine lv_aload_n hx hb dX11_minute_1 rfl (lv_at hl 0 rfl) ?_
  refine m_int C0 hH hM 41 (by decide) (by decide) fl_X11_150 (v := m 41 0) rfl dX11_minute_2 ?_
  refine k_i hH (k_runV (rest := []) C0 hH (cM_tells l G A _ o ad m hM (m 41 0)) mv_X11_tells ml_X11_241 ci_15 hM.1 rfl ⟨by decide, by decide⟩ hl.1 rfl (Nat.le_of_ble_eq_true rfl) dX11_minute_5 (by simp)) (fun r_1 h H locs hp hH => ?_)
  obtain ⟨er_1, hM⟩ := hp
  subst er_1
  have eR : (m 41 0) = m 41 0 := by simp []
  have eM : up m 45 0 0 = (up m 45 0 0) := by simp []
  exact e_I C0 hr hH ⟨eR, by rw [eM]; exact hM⟩ (Nat.le_refl _) (Nat.le_refl _) dX11_minute_8
set_option maxHeartbeats 4000000 in
set_option maxRecDepth 100000 in
theorem cM_hubs (l : Launch) (G : GT) (A : Nat → Prop) (h : AH) (o : Nat) (ad : Nat → Nat) (m : MM) (hM : RM h o ad m) : cmI l G A yX11_hubs cX11_hubs 1 (Option.some FieldType.int) 1 21 0 0 [.ref (o)] h (fun r h' => r = m 37 0 ∧ RM h' o ad (up m 45 0 0)) := by
  refine cm_of "RoutepostModel" rfl (by decide) (Nat.le_of_ble_eq_true rfl) ?_
  intro pr e s m9 below meth c C0 hr hname hH ls hl
  obtain ⟨hx, hb, hml, hown, hts, hK, hA, -⟩ := id C0
  have hl : lv_has ls 1 [(0, .ref (o))] := hl
  refine lv_aload_n hx hb dX11_hubs_0 rfl (lv_at hl 0 rfl) ?_
  refine lv_aload_n hx hb dX11_hubs_1 rfl (lv_at hl 0 rfl) ?_
  refine m_int C0 hH hM 37 (by decide) (by decide) fl_X11_134 (v := m 37 0) rfl dX11_hubs_2 ?_
  refine k_i hH (k_runV (rest := []) C0 hH (cM_tells l G A _ o ad m hM (m 37 0)) mv_X11_tells ml_X11_241 ci_15 hM.1 rfl ⟨by decide, by decide⟩ hl.1 rfl (Nat.le_of_ble_eq_true rfl) dX11_hubs_5 (by simp)) (fun r_1 h H locs hp hH => ?_)
  obtain ⟨er_1, hM⟩ := hp
  subst er_1
  have eR : (m 37 0) = m 37 0 := by simp []
  have eM : up m 45 0 0 = (up m 45 0 0) := by simp []
  exact e_I C0 hr hH ⟨eR, by rw [eM]; exact hM⟩ (Nat.le_refl _) (Nat.le_refl _) dX11_hubs_8
set_option maxHeartbeats 4000000 in
set_option maxRecDepth 100000 in
theorem cM_lines_ (l : Launch) (G : GT) (A : Nat → Prop) (h : AH) (o : Nat) (ad : Nat → Nat) (m : MM) (hM : RM h o ad m) : cmI l G A yX11_lines_ cX11_lines_ 1 (Option.some FieldType.int) 1 21 0 0 [.ref (o)] h (fun r h' => r = m 38 0 ∧ RM h' o ad (up m 45 0 0)) := by
  refine cm_of "RoutepostModel" rfl (by decide) (Nat.le_of_ble_eq_true rfl) ?_
  intro pr e s m9 below meth c C0 hr hname hH ls hl
  obtain ⟨hx, hb, hml, hown, hts, hK, hA, -⟩ := id C0
  have hl : lv_has ls 1 [(0, .ref (o))] := hl
  refine lv_aload_n hx hb dX11_lines__0 rfl (lv_at hl 0 rfl) ?_
  refine lv_aload_n hx hb dX11_lines__1 rfl (lv_at hl 0 rfl) ?_
  refine m_int C0 hH hM 38 (by decide) (by decide) fl_X11_137 (v := m 38 0) rfl dX11_lines__2 ?_
  refine k_i hH (k_runV (rest := []) C0 hH (cM_tells l G A _ o ad m hM (m 38 0)) mv_X11_tells ml_X11_241 ci_15 hM.1 rfl ⟨by decide, by decide⟩ hl.1 rfl (Nat.le_of_ble_eq_true rfl) dX11_lines__5 (by simp)) (fun r_1 h H locs hp hH => ?_)
  obtain ⟨er_1, hM⟩ := hp
  subst er_1
  have eR : (m 38 0) = m 38 0 := by simp []
  have eM : up m 45 0 0 = (up m 45 0 0) := by simp []
  exact e_I C0 hr hH ⟨eR, by rw [eM]; exact hM⟩ (Nat.le_refl _) (Nat.le_refl _) dX11_lines__8
set_option maxHeartbeats 4000000 in
set_option maxRecDepth 100000 in
theorem cM_parcels (l : Launch) (G : GT) (A : Nat → Prop) (h : AH) (o : Nat) (ad : Nat → Nat) (m : MM) (hM : RM h o ad m) : cmI l G A yX11_parcels cX11_parcels 1 (Option.some FieldType.int) 1 21 0 0 [.ref (o)] h (fun r h' => r = m 39 0 ∧ RM h' o ad (up m 45 0 0)) := by
  refine cm_of "RoutepostModel" rfl (by decide) (Nat.le_of_ble_eq_true rfl) ?_
  intro pr e s m9 below meth c C0 hr hname hH ls hl
  obtain ⟨hx, hb, hml, hown, hts, hK, hA, -⟩ := id C0
  have hl : lv_has ls 1 [(0, .ref (o))] := hl
  refine lv_aload_n hx hb dX11_parcels_0 rfl (lv_at hl 0 rfl) ?_
  refine lv_aload_n hx hb dX11_parcels_1 rfl (lv_at hl 0 rfl) ?_
  refine m_int C0 hH hM 39 (by decide) (by decide) fl_X11_144 (v := m 39 0) rfl dX11_parcels_2 ?_
  refine k_i hH (k_runV (rest := []) C0 hH (cM_tells l G A _ o ad m hM (m 39 0)) mv_X11_tells ml_X11_241 ci_15 hM.1 rfl ⟨by decide, by decide⟩ hl.1 rfl (Nat.le_of_ble_eq_true rfl) dX11_parcels_5 (by simp)) (fun r_1 h H locs hp hH => ?_)
  obtain ⟨er_1, hM⟩ := hp
  subst er_1
  have eR : (m 39 0) = m 39 0 := by simp []
  have eM : up m 45 0 0 = (up m 45 0 0) := by simp []
  exact e_I C0 hr hH ⟨eR, by rw [eM]; exact hM⟩ (Nat.le_refl _) (Nat.le_refl _) dX11_parcels_8
set_option maxHeartbeats 4000000 in
set_option maxRecDepth 100000 in
theorem cM_thrown (l : Launch) (G : GT) (A : Nat → Prop) (h : AH) (o : Nat) (ad : Nat → Nat) (m : MM) (hM : RM h o ad m) : cmI l G A yX11_thrown cX11_thrown 1 (Option.some FieldType.int) 0 0 0 0 [.ref (o)] h (fun r h' => r = m 45 0 ∧ h' = h) := by
  refine cm_of "RoutepostModel" rfl (by decide) (Nat.le_of_ble_eq_true rfl) ?_
  intro pr e s m9 below meth c C0 hr hname hH ls hl
  obtain ⟨hx, hb, hml, hown, hts, hK, hA, -⟩ := id C0
  have hl : lv_has ls 1 [(0, .ref (o))] := hl
  refine lv_aload_n hx hb dX11_thrown_0 rfl (lv_at hl 0 rfl) ?_
  refine m_int C0 hH hM 45 (by decide) (by decide) fl_X11_123 (v := m 45 0) rfl dX11_thrown_1 ?_
  have eR : m 45 0 = m 45 0 := by simp []
  exact e_I C0 hr hH ⟨eR, rfl⟩ (Nat.le_refl _) (Nat.le_refl _) dX11_thrown_4
set_option maxHeartbeats 4000000 in
set_option maxRecDepth 100000 in
theorem cM_destination (l : Launch) (G : GT) (A : Nat → Prop) (h : AH) (o : Nat) (ad : Nat → Nat) (m : MM) (hM : RM h o ad m) (x : Int32) (hw : WFa m) : cmI l G A yX11_destination cX11_destination 2 (Option.some FieldType.int) 2 43 0 0 [.ref (o), .int (x)] h (fun r h' => r = (fGet 14 m x).1 ∧ RM h' o ad ((fGet 14 m x).2)) := by
  refine cm_of "RoutepostModel" rfl (by decide) (Nat.le_of_ble_eq_true rfl) ?_
  intro pr e s m9 below meth c C0 hr hname hH ls hl
  obtain ⟨hx, hb, hml, hown, hts, hK, hA, -⟩ := id C0
  have hl : lv_has ls 2 [(0, .ref (o)), (1, .int (x))] := hl
  have hnp := hw.np
  have hnl := hw.nl
  have hnh := hw.nh
  refine lv_aload_n hx hb dX11_destination_0 rfl (lv_at hl 0 rfl) ?_
  refine lv_iload_n hx hb dX11_destination_1 rfl (lv_at hl 1 rfl) ?_
  refine k_i hH (k_runV (rest := []) C0 hH (cM_isNone l G A _ o ad m hM x) mv_X11_isNone ml_X11_216 ci_15 hM.1 rfl ⟨by decide, by decide⟩ hl.1 rfl (Nat.le_of_ble_eq_true rfl) dX11_destination_2 (by simp)) (fun r_1 h H locs hp hH => ?_)
  obtain ⟨er_1, hM⟩ := hp
  subst er_1
  refine lv_if_eq (tgt := 12) hx hb dX11_destination_5 (by decide) (fun c5_2 => ?_) (fun c5_2 => ?_)
  · replace c5_2 := bi_0.mp c5_2
    replace c5_2 := Classical.not_not.mp c5_2
    have hx9 := hw.isPa.mp c5_2
    refine lv_aload_n hx hb dX11_destination_12 rfl (lv_at hl 0 rfl) ?_
    refine m_arr C0 hH hM 14 (by decide) fl_X11_53 dX11_destination_13 ?_
    refine lv_iload_n hx hb dX11_destination_16 rfl (lv_at hl 1 rfl) ?_
    refine m_ldI C0 hH hM 14 (by decide) rfl (n := 40) rfl (ix := x.toNatClampNeg) rfl (vp_mono hx9 (by omega)) (v := m 14 x.toNatClampNeg) rfl dX11_destination_17 ?_
    have eR : m 14 x.toNatClampNeg = (fGet 14 m x).1 := by simp [fGet, bi, thr, fNone, fNoLine, c5_2]
    have eM : (fGet 14 m x).2 = (up m 45 0 (if (bi (¬ isPa m x)) = 0 then 0 else 1)) := by simp [fGet, bi, thr, fNone, fNoLine, c5_2]
    exact e_I C0 hr hH ⟨eR, by rw [eM]; exact hM⟩ (Nat.le_refl _) (Nat.le_refl _) dX11_destination_18
  · replace c5_2 := bi_n0.mp c5_2
    refine lv_iconst (v := 0) hx hb dX11_destination_8 (by decide) ?_
    refine lv_goto (tgt := 18) hx hb dX11_destination_9 (by decide) ?_
    have eR : 0 = (fGet 14 m x).1 := by simp [fGet, bi, thr, fNone, fNoLine, c5_2]
    have eM : (fGet 14 m x).2 = (up m 45 0 (if (bi (¬ isPa m x)) = 0 then 0 else 1)) := by simp [fGet, bi, thr, fNone, fNoLine, c5_2]
    exact e_I C0 hr hH ⟨eR, by rw [eM]; exact hM⟩ (Nat.le_refl _) (Nat.le_refl _) dX11_destination_18
set_option maxHeartbeats 4000000 in
set_option maxRecDepth 100000 in
theorem cM_promise (l : Launch) (G : GT) (A : Nat → Prop) (h : AH) (o : Nat) (ad : Nat → Nat) (m : MM) (hM : RM h o ad m) (x : Int32) (hw : WFa m) : cmI l G A yX11_promise cX11_promise 2 (Option.some FieldType.int) 2 43 0 0 [.ref (o), .int (x)] h (fun r h' => r = (fGet 20 m x).1 ∧ RM h' o ad ((fGet 20 m x).2)) := by
  refine cm_of "RoutepostModel" rfl (by decide) (Nat.le_of_ble_eq_true rfl) ?_
  intro pr e s m9 below meth c C0 hr hname hH ls hl
  obtain ⟨hx, hb, hml, hown, hts, hK, hA, -⟩ := id C0
  have hl : lv_has ls 2 [(0, .ref (o)), (1, .int (x))] := hl
  have hnp := hw.np
  have hnl := hw.nl
  have hnh := hw.nh
  refine lv_aload_n hx hb dX11_promise_0 rfl (lv_at hl 0 rfl) ?_
  refine lv_iload_n hx hb dX11_promise_1 rfl (lv_at hl 1 rfl) ?_
  refine k_i hH (k_runV (rest := []) C0 hH (cM_isNone l G A _ o ad m hM x) mv_X11_isNone ml_X11_216 ci_15 hM.1 rfl ⟨by decide, by decide⟩ hl.1 rfl (Nat.le_of_ble_eq_true rfl) dX11_promise_2 (by simp)) (fun r_1 h H locs hp hH => ?_)
  obtain ⟨er_1, hM⟩ := hp
  subst er_1
  refine lv_if_eq (tgt := 12) hx hb dX11_promise_5 (by decide) (fun c5_2 => ?_) (fun c5_2 => ?_)
  · replace c5_2 := bi_0.mp c5_2
    replace c5_2 := Classical.not_not.mp c5_2
    have hx9 := hw.isPa.mp c5_2
    refine lv_aload_n hx hb dX11_promise_12 rfl (lv_at hl 0 rfl) ?_
    refine m_arr C0 hH hM 20 (by decide) fl_X11_71 dX11_promise_13 ?_
    refine lv_iload_n hx hb dX11_promise_16 rfl (lv_at hl 1 rfl) ?_
    refine m_ldI C0 hH hM 20 (by decide) rfl (n := 40) rfl (ix := x.toNatClampNeg) rfl (vp_mono hx9 (by omega)) (v := m 20 x.toNatClampNeg) rfl dX11_promise_17 ?_
    have eR : m 20 x.toNatClampNeg = (fGet 20 m x).1 := by simp [fGet, bi, thr, fNone, fNoLine, c5_2]
    have eM : (fGet 20 m x).2 = (up m 45 0 (if (bi (¬ isPa m x)) = 0 then 0 else 1)) := by simp [fGet, bi, thr, fNone, fNoLine, c5_2]
    exact e_I C0 hr hH ⟨eR, by rw [eM]; exact hM⟩ (Nat.le_refl _) (Nat.le_refl _) dX11_promise_18
  · replace c5_2 := bi_n0.mp c5_2
    refine lv_iconst (v := 0) hx hb dX11_promise_8 (by decide) ?_
    refine lv_goto (tgt := 18) hx hb dX11_promise_9 (by decide) ?_
    have eR : 0 = (fGet 20 m x).1 := by simp [fGet, bi, thr, fNone, fNoLine, c5_2]
    have eM : (fGet 20 m x).2 = (up m 45 0 (if (bi (¬ isPa m x)) = 0 then 0 else 1)) := by simp [fGet, bi, thr, fNone, fNoLine, c5_2]
    exact e_I C0 hr hH ⟨eR, by rw [eM]; exact hM⟩ (Nat.le_refl _) (Nat.le_refl _) dX11_promise_18
set_option maxHeartbeats 4000000 in
set_option maxRecDepth 100000 in
theorem cM_misroutes (l : Launch) (G : GT) (A : Nat → Prop) (h : AH) (o : Nat) (ad : Nat → Nat) (m : MM) (hM : RM h o ad m) (x : Int32) (hw : WFa m) : cmI l G A yX11_misroutes cX11_misroutes 2 (Option.some FieldType.int) 2 43 0 0 [.ref (o), .int (x)] h (fun r h' => r = (fGet 22 m x).1 ∧ RM h' o ad ((fGet 22 m x).2)) := by
  refine cm_of "RoutepostModel" rfl (by decide) (Nat.le_of_ble_eq_true rfl) ?_
  intro pr e s m9 below meth c C0 hr hname hH ls hl
  obtain ⟨hx, hb, hml, hown, hts, hK, hA, -⟩ := id C0
  have hl : lv_has ls 2 [(0, .ref (o)), (1, .int (x))] := hl
  have hnp := hw.np
  have hnl := hw.nl
  have hnh := hw.nh
  refine lv_aload_n hx hb dX11_misroutes_0 rfl (lv_at hl 0 rfl) ?_
  refine lv_iload_n hx hb dX11_misroutes_1 rfl (lv_at hl 1 rfl) ?_
  refine k_i hH (k_runV (rest := []) C0 hH (cM_isNone l G A _ o ad m hM x) mv_X11_isNone ml_X11_216 ci_15 hM.1 rfl ⟨by decide, by decide⟩ hl.1 rfl (Nat.le_of_ble_eq_true rfl) dX11_misroutes_2 (by simp)) (fun r_1 h H locs hp hH => ?_)
  obtain ⟨er_1, hM⟩ := hp
  subst er_1
  refine lv_if_eq (tgt := 12) hx hb dX11_misroutes_5 (by decide) (fun c5_2 => ?_) (fun c5_2 => ?_)
  · replace c5_2 := bi_0.mp c5_2
    replace c5_2 := Classical.not_not.mp c5_2
    have hx9 := hw.isPa.mp c5_2
    refine lv_aload_n hx hb dX11_misroutes_12 rfl (lv_at hl 0 rfl) ?_
    refine m_arr C0 hH hM 22 (by decide) fl_X11_77 dX11_misroutes_13 ?_
    refine lv_iload_n hx hb dX11_misroutes_16 rfl (lv_at hl 1 rfl) ?_
    refine m_ldI C0 hH hM 22 (by decide) rfl (n := 40) rfl (ix := x.toNatClampNeg) rfl (vp_mono hx9 (by omega)) (v := m 22 x.toNatClampNeg) rfl dX11_misroutes_17 ?_
    have eR : m 22 x.toNatClampNeg = (fGet 22 m x).1 := by simp [fGet, bi, thr, fNone, fNoLine, c5_2]
    have eM : (fGet 22 m x).2 = (up m 45 0 (if (bi (¬ isPa m x)) = 0 then 0 else 1)) := by simp [fGet, bi, thr, fNone, fNoLine, c5_2]
    exact e_I C0 hr hH ⟨eR, by rw [eM]; exact hM⟩ (Nat.le_refl _) (Nat.le_refl _) dX11_misroutes_18
  · replace c5_2 := bi_n0.mp c5_2
    refine lv_iconst (v := 0) hx hb dX11_misroutes_8 (by decide) ?_
    refine lv_goto (tgt := 18) hx hb dX11_misroutes_9 (by decide) ?_
    have eR : 0 = (fGet 22 m x).1 := by simp [fGet, bi, thr, fNone, fNoLine, c5_2]
    have eM : (fGet 22 m x).2 = (up m 45 0 (if (bi (¬ isPa m x)) = 0 then 0 else 1)) := by simp [fGet, bi, thr, fNone, fNoLine, c5_2]
    exact e_I C0 hr hH ⟨eR, by rw [eM]; exact hM⟩ (Nat.le_refl _) (Nat.le_refl _) dX11_misroutes_18
set_option maxHeartbeats 4000000 in
set_option maxRecDepth 100000 in
theorem cM_attempts (l : Launch) (G : GT) (A : Nat → Prop) (h : AH) (o : Nat) (ad : Nat → Nat) (m : MM) (hM : RM h o ad m) (x : Int32) (hw : WFa m) : cmI l G A yX11_attempts cX11_attempts 2 (Option.some FieldType.int) 2 43 0 0 [.ref (o), .int (x)] h (fun r h' => r = (fGet 23 m x).1 ∧ RM h' o ad ((fGet 23 m x).2)) := by
  refine cm_of "RoutepostModel" rfl (by decide) (Nat.le_of_ble_eq_true rfl) ?_
  intro pr e s m9 below meth c C0 hr hname hH ls hl
  obtain ⟨hx, hb, hml, hown, hts, hK, hA, -⟩ := id C0
  have hl : lv_has ls 2 [(0, .ref (o)), (1, .int (x))] := hl
  have hnp := hw.np
  have hnl := hw.nl
  have hnh := hw.nh
  refine lv_aload_n hx hb dX11_attempts_0 rfl (lv_at hl 0 rfl) ?_
  refine lv_iload_n hx hb dX11_attempts_1 rfl (lv_at hl 1 rfl) ?_
  refine k_i hH (k_runV (rest := []) C0 hH (cM_isNone l G A _ o ad m hM x) mv_X11_isNone ml_X11_216 ci_15 hM.1 rfl ⟨by decide, by decide⟩ hl.1 rfl (Nat.le_of_ble_eq_true rfl) dX11_attempts_2 (by simp)) (fun r_1 h H locs hp hH => ?_)
  obtain ⟨er_1, hM⟩ := hp
  subst er_1
  refine lv_if_eq (tgt := 12) hx hb dX11_attempts_5 (by decide) (fun c5_2 => ?_) (fun c5_2 => ?_)
  · replace c5_2 := bi_0.mp c5_2
    replace c5_2 := Classical.not_not.mp c5_2
    have hx9 := hw.isPa.mp c5_2
    refine lv_aload_n hx hb dX11_attempts_12 rfl (lv_at hl 0 rfl) ?_
    refine m_arr C0 hH hM 23 (by decide) fl_X11_80 dX11_attempts_13 ?_
    refine lv_iload_n hx hb dX11_attempts_16 rfl (lv_at hl 1 rfl) ?_
    refine m_ldI C0 hH hM 23 (by decide) rfl (n := 40) rfl (ix := x.toNatClampNeg) rfl (vp_mono hx9 (by omega)) (v := m 23 x.toNatClampNeg) rfl dX11_attempts_17 ?_
    have eR : m 23 x.toNatClampNeg = (fGet 23 m x).1 := by simp [fGet, bi, thr, fNone, fNoLine, c5_2]
    have eM : (fGet 23 m x).2 = (up m 45 0 (if (bi (¬ isPa m x)) = 0 then 0 else 1)) := by simp [fGet, bi, thr, fNone, fNoLine, c5_2]
    exact e_I C0 hr hH ⟨eR, by rw [eM]; exact hM⟩ (Nat.le_refl _) (Nat.le_refl _) dX11_attempts_18
  · replace c5_2 := bi_n0.mp c5_2
    refine lv_iconst (v := 0) hx hb dX11_attempts_8 (by decide) ?_
    refine lv_goto (tgt := 18) hx hb dX11_attempts_9 (by decide) ?_
    have eR : 0 = (fGet 23 m x).1 := by simp [fGet, bi, thr, fNone, fNoLine, c5_2]
    have eM : (fGet 23 m x).2 = (up m 45 0 (if (bi (¬ isPa m x)) = 0 then 0 else 1)) := by simp [fGet, bi, thr, fNone, fNoLine, c5_2]
    exact e_I C0 hr hH ⟨eR, by rw [eM]; exact hM⟩ (Nat.le_refl _) (Nat.le_refl _) dX11_attempts_18
set_option maxHeartbeats 4000000 in
set_option maxRecDepth 100000 in
theorem cM_missed (l : Launch) (G : GT) (A : Nat → Prop) (h : AH) (o : Nat) (ad : Nat → Nat) (m : MM) (hM : RM h o ad m) (x : Int32) (hw : WFa m) : cmI l G A yX11_missed cX11_missed 2 (Option.some FieldType.int) 2 43 0 0 [.ref (o), .int (x)] h (fun r h' => r = (fGet 24 m x).1 ∧ RM h' o ad ((fGet 24 m x).2)) := by
  refine cm_of "RoutepostModel" rfl (by decide) (Nat.le_of_ble_eq_true rfl) ?_
  intro pr e s m9 below meth c C0 hr hname hH ls hl
  obtain ⟨hx, hb, hml, hown, hts, hK, hA, -⟩ := id C0
  have hl : lv_has ls 2 [(0, .ref (o)), (1, .int (x))] := hl
  have hnp := hw.np
  have hnl := hw.nl
  have hnh := hw.nh
  refine lv_aload_n hx hb dX11_missed_0 rfl (lv_at hl 0 rfl) ?_
  refine lv_iload_n hx hb dX11_missed_1 rfl (lv_at hl 1 rfl) ?_
  refine k_i hH (k_runV (rest := []) C0 hH (cM_isNone l G A _ o ad m hM x) mv_X11_isNone ml_X11_216 ci_15 hM.1 rfl ⟨by decide, by decide⟩ hl.1 rfl (Nat.le_of_ble_eq_true rfl) dX11_missed_2 (by simp)) (fun r_1 h H locs hp hH => ?_)
  obtain ⟨er_1, hM⟩ := hp
  subst er_1
  refine lv_if_eq (tgt := 12) hx hb dX11_missed_5 (by decide) (fun c5_2 => ?_) (fun c5_2 => ?_)
  · replace c5_2 := bi_0.mp c5_2
    replace c5_2 := Classical.not_not.mp c5_2
    have hx9 := hw.isPa.mp c5_2
    refine lv_aload_n hx hb dX11_missed_12 rfl (lv_at hl 0 rfl) ?_
    refine m_arr C0 hH hM 24 (by decide) fl_X11_83 dX11_missed_13 ?_
    refine lv_iload_n hx hb dX11_missed_16 rfl (lv_at hl 1 rfl) ?_
    refine m_ldI C0 hH hM 24 (by decide) rfl (n := 40) rfl (ix := x.toNatClampNeg) rfl (vp_mono hx9 (by omega)) (v := m 24 x.toNatClampNeg) rfl dX11_missed_17 ?_
    have eR : m 24 x.toNatClampNeg = (fGet 24 m x).1 := by simp [fGet, bi, thr, fNone, fNoLine, c5_2]
    have eM : (fGet 24 m x).2 = (up m 45 0 (if (bi (¬ isPa m x)) = 0 then 0 else 1)) := by simp [fGet, bi, thr, fNone, fNoLine, c5_2]
    exact e_I C0 hr hH ⟨eR, by rw [eM]; exact hM⟩ (Nat.le_refl _) (Nat.le_refl _) dX11_missed_18
  · replace c5_2 := bi_n0.mp c5_2
    refine lv_iconst (v := 0) hx hb dX11_missed_8 (by decide) ?_
    refine lv_goto (tgt := 18) hx hb dX11_missed_9 (by decide) ?_
    have eR : 0 = (fGet 24 m x).1 := by simp [fGet, bi, thr, fNone, fNoLine, c5_2]
    have eM : (fGet 24 m x).2 = (up m 45 0 (if (bi (¬ isPa m x)) = 0 then 0 else 1)) := by simp [fGet, bi, thr, fNone, fNoLine, c5_2]
    exact e_I C0 hr hH ⟨eR, by rw [eM]; exact hM⟩ (Nat.le_refl _) (Nat.le_refl _) dX11_missed_18
set_option maxHeartbeats 4000000 in
set_option maxRecDepth 100000 in
theorem cM_trace (l : Launch) (G : GT) (A : Nat → Prop) (h : AH) (o : Nat) (ad : Nat → Nat) (m : MM) (hM : RM h o ad m) (x : Int32) (hw : WFa m) : cmI l G A yX11_trace cX11_trace 2 (Option.some FieldType.int) 2 43 0 0 [.ref (o), .int (x)] h (fun r h' => r = (fGet 27 m x).1 ∧ RM h' o ad ((fGet 27 m x).2)) := by
  refine cm_of "RoutepostModel" rfl (by decide) (Nat.le_of_ble_eq_true rfl) ?_
  intro pr e s m9 below meth c C0 hr hname hH ls hl
  obtain ⟨hx, hb, hml, hown, hts, hK, hA, -⟩ := id C0
  have hl : lv_has ls 2 [(0, .ref (o)), (1, .int (x))] := hl
  have hnp := hw.np
  have hnl := hw.nl
  have hnh := hw.nh
  refine lv_aload_n hx hb dX11_trace_0 rfl (lv_at hl 0 rfl) ?_
  refine lv_iload_n hx hb dX11_trace_1 rfl (lv_at hl 1 rfl) ?_
  refine k_i hH (k_runV (rest := []) C0 hH (cM_isNone l G A _ o ad m hM x) mv_X11_isNone ml_X11_216 ci_15 hM.1 rfl ⟨by decide, by decide⟩ hl.1 rfl (Nat.le_of_ble_eq_true rfl) dX11_trace_2 (by simp)) (fun r_1 h H locs hp hH => ?_)
  obtain ⟨er_1, hM⟩ := hp
  subst er_1
  refine lv_if_eq (tgt := 12) hx hb dX11_trace_5 (by decide) (fun c5_2 => ?_) (fun c5_2 => ?_)
  · replace c5_2 := bi_0.mp c5_2
    replace c5_2 := Classical.not_not.mp c5_2
    have hx9 := hw.isPa.mp c5_2
    refine lv_aload_n hx hb dX11_trace_12 rfl (lv_at hl 0 rfl) ?_
    refine m_arr C0 hH hM 27 (by decide) fl_X11_92 dX11_trace_13 ?_
    refine lv_iload_n hx hb dX11_trace_16 rfl (lv_at hl 1 rfl) ?_
    refine m_ldI C0 hH hM 27 (by decide) rfl (n := 40) rfl (ix := x.toNatClampNeg) rfl (vp_mono hx9 (by omega)) (v := m 27 x.toNatClampNeg) rfl dX11_trace_17 ?_
    have eR : m 27 x.toNatClampNeg = (fGet 27 m x).1 := by simp [fGet, bi, thr, fNone, fNoLine, c5_2]
    have eM : (fGet 27 m x).2 = (up m 45 0 (if (bi (¬ isPa m x)) = 0 then 0 else 1)) := by simp [fGet, bi, thr, fNone, fNoLine, c5_2]
    exact e_I C0 hr hH ⟨eR, by rw [eM]; exact hM⟩ (Nat.le_refl _) (Nat.le_refl _) dX11_trace_18
  · replace c5_2 := bi_n0.mp c5_2
    refine lv_iconst (v := 0) hx hb dX11_trace_8 (by decide) ?_
    refine lv_goto (tgt := 18) hx hb dX11_trace_9 (by decide) ?_
    have eR : 0 = (fGet 27 m x).1 := by simp [fGet, bi, thr, fNone, fNoLine, c5_2]
    have eM : (fGet 27 m x).2 = (up m 45 0 (if (bi (¬ isPa m x)) = 0 then 0 else 1)) := by simp [fGet, bi, thr, fNone, fNoLine, c5_2]
    exact e_I C0 hr hH ⟨eR, by rw [eM]; exact hM⟩ (Nat.le_refl _) (Nat.le_refl _) dX11_trace_18
set_option maxHeartbeats 4000000 in
set_option maxRecDepth 100000 in
theorem cM_state (l : Launch) (G : GT) (A : Nat → Prop) (h : AH) (o : Nat) (ad : Nat → Nat) (m : MM) (hM : RM h o ad m) (x : Int32) (hw : WFa m) : cmI l G A yX11_state cX11_state 2 (Option.some FieldType.char) 2 43 0 0 [.ref (o), .int (x)] h (fun r h' => r = (fGet 28 m x).1 ∧ RM h' o ad ((fGet 28 m x).2)) := by
  refine cm_of "RoutepostModel" rfl (by decide) (Nat.le_of_ble_eq_true rfl) ?_
  intro pr e s m9 below meth c C0 hr hname hH ls hl
  obtain ⟨hx, hb, hml, hown, hts, hK, hA, -⟩ := id C0
  have hl : lv_has ls 2 [(0, .ref (o)), (1, .int (x))] := hl
  have hnp := hw.np
  have hnl := hw.nl
  have hnh := hw.nh
  refine lv_aload_n hx hb dX11_state_0 rfl (lv_at hl 0 rfl) ?_
  refine lv_iload_n hx hb dX11_state_1 rfl (lv_at hl 1 rfl) ?_
  refine k_i hH (k_runV (rest := []) C0 hH (cM_isNone l G A _ o ad m hM x) mv_X11_isNone ml_X11_216 ci_15 hM.1 rfl ⟨by decide, by decide⟩ hl.1 rfl (Nat.le_of_ble_eq_true rfl) dX11_state_2 (by simp)) (fun r_1 h H locs hp hH => ?_)
  obtain ⟨er_1, hM⟩ := hp
  subst er_1
  refine lv_if_eq (tgt := 12) hx hb dX11_state_5 (by decide) (fun c5_2 => ?_) (fun c5_2 => ?_)
  · replace c5_2 := bi_0.mp c5_2
    replace c5_2 := Classical.not_not.mp c5_2
    have hx9 := hw.isPa.mp c5_2
    refine lv_aload_n hx hb dX11_state_12 rfl (lv_at hl 0 rfl) ?_
    refine m_arr C0 hH hM 28 (by decide) fl_X11_95 dX11_state_13 ?_
    refine lv_iload_n hx hb dX11_state_16 rfl (lv_at hl 1 rfl) ?_
    refine m_ldC C0 hH hM 28 (by decide) rfl (n := 40) rfl (ix := x.toNatClampNeg) rfl (vp_mono hx9 (by omega)) (v := m 28 x.toNatClampNeg) rfl dX11_state_17 ?_
    have eR : m 28 x.toNatClampNeg = (fGet 28 m x).1 := by simp [fGet, bi, thr, fNone, fNoLine, c5_2]
    have eM : (fGet 28 m x).2 = (up m 45 0 (if (bi (¬ isPa m x)) = 0 then 0 else 1)) := by simp [fGet, bi, thr, fNone, fNoLine, c5_2]
    exact e_Z C0 hr (st_nar hw hx9) hH ⟨eR, by rw [eM]; exact hM⟩ (Nat.le_refl _) (Nat.le_refl _) dX11_state_18
  · replace c5_2 := bi_n0.mp c5_2
    refine lv_iconst (v := 0) hx hb dX11_state_8 (by decide) ?_
    refine lv_goto (tgt := 18) hx hb dX11_state_9 (by decide) ?_
    have eR : 0 = (fGet 28 m x).1 := by simp [fGet, bi, thr, fNone, fNoLine, c5_2]
    have eM : (fGet 28 m x).2 = (up m 45 0 (if (bi (¬ isPa m x)) = 0 then 0 else 1)) := by simp [fGet, bi, thr, fNone, fNoLine, c5_2]
    exact e_Z C0 hr (by decide) hH ⟨eR, by rw [eM]; exact hM⟩ (Nat.le_refl _) (Nat.le_refl _) dX11_state_18
set_option maxHeartbeats 4000000 in
set_option maxRecDepth 100000 in
theorem cM_at (l : Launch) (G : GT) (A : Nat → Prop) (h : AH) (o : Nat) (ad : Nat → Nat) (m : MM) (hM : RM h o ad m) (x : Int32) (hw : WFa m) : cmI l G A yX11_at cX11_at 2 (Option.some FieldType.int) 2 43 0 0 [.ref (o), .int (x)] h (fun r h' => r = (fAt m x).1 ∧ RM h' o ad ((fAt m x).2)) := by
  refine cm_of "RoutepostModel" rfl (by decide) (Nat.le_of_ble_eq_true rfl) ?_
  intro pr e s m9 below meth c C0 hr hname hH ls hl
  obtain ⟨hx, hb, hml, hown, hts, hK, hA, -⟩ := id C0
  have hl : lv_has ls 2 [(0, .ref (o)), (1, .int (x))] := hl
  have hnp := hw.np
  have hnl := hw.nl
  have hnh := hw.nh
  refine lv_aload_n hx hb dX11_at_0 rfl (lv_at hl 0 rfl) ?_
  refine lv_iload_n hx hb dX11_at_1 rfl (lv_at hl 1 rfl) ?_
  refine k_i hH (k_runV (rest := []) C0 hH (cM_isNone l G A _ o ad m hM x) mv_X11_isNone ml_X11_216 ci_15 hM.1 rfl ⟨by decide, by decide⟩ hl.1 rfl (Nat.le_of_ble_eq_true rfl) dX11_at_2 (by simp)) (fun r_1 h H locs hp hH => ?_)
  obtain ⟨er_1, hM⟩ := hp
  subst er_1
  refine lv_if_ne (tgt := 32) hx hb dX11_at_5 (by decide) (fun c5_2 => ?_) (fun c5_2 => ?_)
  · replace c5_2 := bi_n0.mp c5_2
    refine lv_iconst (v := 0) hx hb dX11_at_32 (by decide) ?_
    refine lv_goto (tgt := 42) hx hb dX11_at_33 (by decide) ?_
    have eR : 0 = (fAt m x).1 := by simp [fAt, bi, thr, fNone, fNoLine, c5_2]
    have eM : (fAt m x).2 = (up m 45 0 (if (bi (¬ isPa m x)) = 0 then 0 else 1)) := by simp [fAt, bi, thr, fNone, fNoLine, c5_2]
    exact e_I C0 hr hH ⟨eR, by rw [eM]; exact hM⟩ (Nat.le_refl _) (Nat.le_refl _) dX11_at_42
  · replace c5_2 := bi_0.mp c5_2
    replace c5_2 := Classical.not_not.mp c5_2
    have hx9 := hw.isPa.mp c5_2
    refine lv_aload_n hx hb dX11_at_8 rfl (lv_at hl 0 rfl) ?_
    refine lv_aload_n hx hb dX11_at_9 rfl (lv_at hl 0 rfl) ?_
    refine m_arr C0 hH hM 28 (by decide) fl_X11_95 dX11_at_10 ?_
    refine lv_iload_n hx hb dX11_at_13 rfl (lv_at hl 1 rfl) ?_
    refine m_ldC C0 hH hM 28 (by decide) rfl (n := 40) rfl (ix := x.toNatClampNeg) rfl (vp_mono hx9 (by omega)) (v := m 28 x.toNatClampNeg) rfl dX11_at_14 ?_
    refine lv_bipush (v := 116) hx hb dX11_at_15 (by decide) ?_
    refine lv_icmp_ne (tgt := 24) hx hb dX11_at_17 (by decide) (fun c17_3 => ?_) (fun c17_3 => ?_)
    · refine lv_iconst (v := 0) hx hb dX11_at_24 (by decide) ?_
      refine lv_iconst (v := 2) hx hb dX11_at_25 (by decide) ?_
      refine k_i hH (k_runV (rest := []) C0 hH (cM_isThrown l G A _ o ad (up m 45 0 (if (bi (¬ isPa m x)) = 0 then 0 else 1)) hM 0 2 rfl) mv_X11_isThrown ml_X11_140 ci_15 hM.1 rfl ⟨by decide, by decide⟩ hl.1 rfl (Nat.le_of_ble_eq_true rfl) dX11_at_26 (by simp)) (fun r_4 h H locs hp hH => ?_)
      obtain ⟨er_4, hM⟩ := hp
      subst er_4
      refine lv_if_eq (tgt := 36) hx hb dX11_at_29 (by decide) (fun c29_5 => ?_) (fun c29_5 => ?_)
      · refine lv_aload_n hx hb dX11_at_36 rfl (lv_at hl 0 rfl) ?_
        refine m_arr C0 hH hM 15 (by decide) fl_X11_56 dX11_at_37 ?_
        refine lv_iload_n hx hb dX11_at_40 rfl (lv_at hl 1 rfl) ?_
        refine m_ldI C0 hH hM 15 (by decide) rfl (n := 40) rfl (ix := x.toNatClampNeg) rfl (vp_mono hx9 (by omega)) (v := m 15 x.toNatClampNeg) rfl dX11_at_41 ?_
        have eR : m 15 x.toNatClampNeg = (fAt m x).1 := by simp [fAt, bi, thr, fNone, fNoLine, c5_2, eq_false c17_3]
        have eM : (fAt m x).2 = (up (up m 45 0 (if (bi (¬ isPa m x)) = 0 then 0 else 1)) 45 0 (if 0 = 0 then 0 else 2)) := by simp [fAt, bi, thr, fNone, fNoLine, c5_2, eq_false c17_3]
        exact e_I C0 hr hH ⟨eR, by rw [eM]; exact hM⟩ (Nat.le_refl _) (Nat.le_refl _) dX11_at_42
      · exact absurd (by decide) c29_5
    · refine lv_iconst (v := 1) hx hb dX11_at_20 (by decide) ?_
      refine lv_goto (tgt := 25) hx hb dX11_at_21 (by decide) ?_
      refine lv_iconst (v := 2) hx hb dX11_at_25 (by decide) ?_
      refine k_i hH (k_runV (rest := []) C0 hH (cM_isThrown l G A _ o ad (up m 45 0 (if (bi (¬ isPa m x)) = 0 then 0 else 1)) hM 1 2 rfl) mv_X11_isThrown ml_X11_140 ci_15 hM.1 rfl ⟨by decide, by decide⟩ hl.1 rfl (Nat.le_of_ble_eq_true rfl) dX11_at_26 (by simp)) (fun r_6 h H locs hp hH => ?_)
      obtain ⟨er_6, hM⟩ := hp
      subst er_6
      refine lv_if_eq (tgt := 36) hx hb dX11_at_29 (by decide) (fun c29_7 => ?_) (fun c29_7 => ?_)
      · exact absurd c29_7 (by decide)
      · refine lv_iconst (v := 0) hx hb dX11_at_32 (by decide) ?_
        refine lv_goto (tgt := 42) hx hb dX11_at_33 (by decide) ?_
        have eR : 0 = (fAt m x).1 := by simp [fAt, bi, thr, fNone, fNoLine, c5_2, eq_true c17_3]
        have eM : (fAt m x).2 = (up (up m 45 0 (if (bi (¬ isPa m x)) = 0 then 0 else 1)) 45 0 (if 1 = 0 then 0 else 2)) := by simp [fAt, bi, thr, fNone, fNoLine, c5_2, eq_true c17_3]
        exact e_I C0 hr hH ⟨eR, by rw [eM]; exact hM⟩ (Nat.le_refl _) (Nat.le_refl _) dX11_at_42
set_option maxHeartbeats 4000000 in
set_option maxRecDepth 100000 in
theorem cM_rides (l : Launch) (G : GT) (A : Nat → Prop) (h : AH) (o : Nat) (ad : Nat → Nat) (m : MM) (hM : RM h o ad m) (x : Int32) (hw : WFa m) : cmI l G A yX11_rides cX11_rides 2 (Option.some FieldType.int) 2 43 0 0 [.ref (o), .int (x)] h (fun r h' => r = (fRides m x).1 ∧ RM h' o ad ((fRides m x).2)) := by
  refine cm_of "RoutepostModel" rfl (by decide) (Nat.le_of_ble_eq_true rfl) ?_
  intro pr e s m9 below meth c C0 hr hname hH ls hl
  obtain ⟨hx, hb, hml, hown, hts, hK, hA, -⟩ := id C0
  have hl : lv_has ls 2 [(0, .ref (o)), (1, .int (x))] := hl
  have hnp := hw.np
  have hnl := hw.nl
  have hnh := hw.nh
  refine lv_aload_n hx hb dX11_rides_0 rfl (lv_at hl 0 rfl) ?_
  refine lv_iload_n hx hb dX11_rides_1 rfl (lv_at hl 1 rfl) ?_
  refine k_i hH (k_runV (rest := []) C0 hH (cM_isNone l G A _ o ad m hM x) mv_X11_isNone ml_X11_216 ci_15 hM.1 rfl ⟨by decide, by decide⟩ hl.1 rfl (Nat.le_of_ble_eq_true rfl) dX11_rides_2 (by simp)) (fun r_1 h H locs hp hH => ?_)
  obtain ⟨er_1, hM⟩ := hp
  subst er_1
  refine lv_if_ne (tgt := 32) hx hb dX11_rides_5 (by decide) (fun c5_2 => ?_) (fun c5_2 => ?_)
  · replace c5_2 := bi_n0.mp c5_2
    refine lv_iconst (v := 0) hx hb dX11_rides_32 (by decide) ?_
    refine lv_goto (tgt := 42) hx hb dX11_rides_33 (by decide) ?_
    have eR : 0 = (fRides m x).1 := by simp [fRides, bi, thr, fNone, fNoLine, c5_2]
    have eM : (fRides m x).2 = (up m 45 0 (if (bi (¬ isPa m x)) = 0 then 0 else 1)) := by simp [fRides, bi, thr, fNone, fNoLine, c5_2]
    exact e_I C0 hr hH ⟨eR, by rw [eM]; exact hM⟩ (Nat.le_refl _) (Nat.le_refl _) dX11_rides_42
  · replace c5_2 := bi_0.mp c5_2
    replace c5_2 := Classical.not_not.mp c5_2
    have hx9 := hw.isPa.mp c5_2
    refine lv_aload_n hx hb dX11_rides_8 rfl (lv_at hl 0 rfl) ?_
    refine lv_aload_n hx hb dX11_rides_9 rfl (lv_at hl 0 rfl) ?_
    refine m_arr C0 hH hM 28 (by decide) fl_X11_95 dX11_rides_10 ?_
    refine lv_iload_n hx hb dX11_rides_13 rfl (lv_at hl 1 rfl) ?_
    refine m_ldC C0 hH hM 28 (by decide) rfl (n := 40) rfl (ix := x.toNatClampNeg) rfl (vp_mono hx9 (by omega)) (v := m 28 x.toNatClampNeg) rfl dX11_rides_14 ?_
    refine lv_bipush (v := 116) hx hb dX11_rides_15 (by decide) ?_
    refine lv_icmp_eq (tgt := 24) hx hb dX11_rides_17 (by decide) (fun c17_3 => ?_) (fun c17_3 => ?_)
    · refine lv_iconst (v := 0) hx hb dX11_rides_24 (by decide) ?_
      refine lv_iconst (v := 2) hx hb dX11_rides_25 (by decide) ?_
      refine k_i hH (k_runV (rest := []) C0 hH (cM_isThrown l G A _ o ad (up m 45 0 (if (bi (¬ isPa m x)) = 0 then 0 else 1)) hM 0 2 rfl) mv_X11_isThrown ml_X11_140 ci_15 hM.1 rfl ⟨by decide, by decide⟩ hl.1 rfl (Nat.le_of_ble_eq_true rfl) dX11_rides_26 (by simp)) (fun r_4 h H locs hp hH => ?_)
      obtain ⟨er_4, hM⟩ := hp
      subst er_4
      refine lv_if_eq (tgt := 36) hx hb dX11_rides_29 (by decide) (fun c29_5 => ?_) (fun c29_5 => ?_)
      · refine lv_aload_n hx hb dX11_rides_36 rfl (lv_at hl 0 rfl) ?_
        refine m_arr C0 hH hM 16 (by decide) fl_X11_59 dX11_rides_37 ?_
        refine lv_iload_n hx hb dX11_rides_40 rfl (lv_at hl 1 rfl) ?_
        refine m_ldI C0 hH hM 16 (by decide) rfl (n := 40) rfl (ix := x.toNatClampNeg) rfl (vp_mono hx9 (by omega)) (v := m 16 x.toNatClampNeg) rfl dX11_rides_41 ?_
        have eR : m 16 x.toNatClampNeg = (fRides m x).1 := by simp [fRides, bi, thr, fNone, fNoLine, c5_2, eq_true c17_3]
        have eM : (fRides m x).2 = (up (up m 45 0 (if (bi (¬ isPa m x)) = 0 then 0 else 1)) 45 0 (if 0 = 0 then 0 else 2)) := by simp [fRides, bi, thr, fNone, fNoLine, c5_2, eq_true c17_3]
        exact e_I C0 hr hH ⟨eR, by rw [eM]; exact hM⟩ (Nat.le_refl _) (Nat.le_refl _) dX11_rides_42
      · exact absurd (by decide) c29_5
    · refine lv_iconst (v := 1) hx hb dX11_rides_20 (by decide) ?_
      refine lv_goto (tgt := 25) hx hb dX11_rides_21 (by decide) ?_
      refine lv_iconst (v := 2) hx hb dX11_rides_25 (by decide) ?_
      refine k_i hH (k_runV (rest := []) C0 hH (cM_isThrown l G A _ o ad (up m 45 0 (if (bi (¬ isPa m x)) = 0 then 0 else 1)) hM 1 2 rfl) mv_X11_isThrown ml_X11_140 ci_15 hM.1 rfl ⟨by decide, by decide⟩ hl.1 rfl (Nat.le_of_ble_eq_true rfl) dX11_rides_26 (by simp)) (fun r_6 h H locs hp hH => ?_)
      obtain ⟨er_6, hM⟩ := hp
      subst er_6
      refine lv_if_eq (tgt := 36) hx hb dX11_rides_29 (by decide) (fun c29_7 => ?_) (fun c29_7 => ?_)
      · exact absurd c29_7 (by decide)
      · refine lv_iconst (v := 0) hx hb dX11_rides_32 (by decide) ?_
        refine lv_goto (tgt := 42) hx hb dX11_rides_33 (by decide) ?_
        have eR : 0 = (fRides m x).1 := by simp [fRides, bi, thr, fNone, fNoLine, c5_2, eq_false c17_3]
        have eM : (fRides m x).2 = (up (up m 45 0 (if (bi (¬ isPa m x)) = 0 then 0 else 1)) 45 0 (if 1 = 0 then 0 else 2)) := by simp [fRides, bi, thr, fNone, fNoLine, c5_2, eq_false c17_3]
        exact e_I C0 hr hH ⟨eR, by rw [eM]; exact hM⟩ (Nat.le_refl _) (Nat.le_refl _) dX11_rides_42
set_option maxHeartbeats 4000000 in
set_option maxRecDepth 100000 in
theorem cM_isReturn (l : Launch) (G : GT) (A : Nat → Prop) (h : AH) (o : Nat) (ad : Nat → Nat) (m : MM) (hM : RM h o ad m) (x : Int32) (hw : WFa m) : cmI l G A yX11_isReturn cX11_isReturn 2 (Option.some FieldType.boolean) 2 43 0 0 [.ref (o), .int (x)] h (fun r h' => r = (fIsRet m x).1 ∧ RM h' o ad ((fIsRet m x).2)) := by
  refine cm_of "RoutepostModel" rfl (by decide) (Nat.le_of_ble_eq_true rfl) ?_
  intro pr e s m9 below meth c C0 hr hname hH ls hl
  obtain ⟨hx, hb, hml, hown, hts, hK, hA, -⟩ := id C0
  have hl : lv_has ls 2 [(0, .ref (o)), (1, .int (x))] := hl
  have hnp := hw.np
  have hnl := hw.nl
  have hnh := hw.nh
  refine lv_aload_n hx hb dX11_isReturn_0 rfl (lv_at hl 0 rfl) ?_
  refine lv_iload_n hx hb dX11_isReturn_1 rfl (lv_at hl 1 rfl) ?_
  refine k_i hH (k_runV (rest := []) C0 hH (cM_isNone l G A _ o ad m hM x) mv_X11_isNone ml_X11_216 ci_15 hM.1 rfl ⟨by decide, by decide⟩ hl.1 rfl (Nat.le_of_ble_eq_true rfl) dX11_isReturn_2 (by simp)) (fun r_1 h H locs hp hH => ?_)
  obtain ⟨er_1, hM⟩ := hp
  subst er_1
  refine lv_if_ne (tgt := 21) hx hb dX11_isReturn_5 (by decide) (fun c5_2 => ?_) (fun c5_2 => ?_)
  · replace c5_2 := bi_n0.mp c5_2
    refine lv_iconst (v := 0) hx hb dX11_isReturn_21 (by decide) ?_
    have eR : 0 = (fIsRet m x).1 := by simp [fIsRet, bi, thr, fNone, fNoLine, c5_2]
    have eM : (fIsRet m x).2 = (up m 45 0 (if (bi (¬ isPa m x)) = 0 then 0 else 1)) := by simp [fIsRet, bi, thr, fNone, fNoLine, c5_2]
    exact e_Z C0 hr (by decide) hH ⟨eR, by rw [eM]; exact hM⟩ (Nat.le_refl _) (Nat.le_refl _) dX11_isReturn_22
  · replace c5_2 := bi_0.mp c5_2
    replace c5_2 := Classical.not_not.mp c5_2
    have hx9 := hw.isPa.mp c5_2
    refine lv_aload_n hx hb dX11_isReturn_8 rfl (lv_at hl 0 rfl) ?_
    refine m_arr C0 hH hM 29 (by decide) fl_X11_99 dX11_isReturn_9 ?_
    refine lv_iload_n hx hb dX11_isReturn_12 rfl (lv_at hl 1 rfl) ?_
    refine m_ldZ C0 hH hM 29 (by decide) rfl (n := 40) rfl (ix := x.toNatClampNeg) rfl (vp_mono hx9 (by omega)) (v := m 29 x.toNatClampNeg) rfl dX11_isReturn_13 ?_
    refine lv_if_eq (tgt := 21) hx hb dX11_isReturn_14 (by decide) (fun c14_3 => ?_) (fun c14_3 => ?_)
    · refine lv_iconst (v := 0) hx hb dX11_isReturn_21 (by decide) ?_
      have eR : 0 = (fIsRet m x).1 := by simp [fIsRet, bi, thr, fNone, fNoLine, c5_2, eq_true c14_3]
      have eM : (fIsRet m x).2 = (up m 45 0 (if (bi (¬ isPa m x)) = 0 then 0 else 1)) := by simp [fIsRet, bi, thr, fNone, fNoLine, c5_2, eq_true c14_3]
      exact e_Z C0 hr (by decide) hH ⟨eR, by rw [eM]; exact hM⟩ (Nat.le_refl _) (Nat.le_refl _) dX11_isReturn_22
    · refine lv_iconst (v := 1) hx hb dX11_isReturn_17 (by decide) ?_
      refine lv_goto (tgt := 22) hx hb dX11_isReturn_18 (by decide) ?_
      have eR : 1 = (fIsRet m x).1 := by simp [fIsRet, bi, thr, fNone, fNoLine, c5_2, eq_false c14_3]
      have eM : (fIsRet m x).2 = (up m 45 0 (if (bi (¬ isPa m x)) = 0 then 0 else 1)) := by simp [fIsRet, bi, thr, fNone, fNoLine, c5_2, eq_false c14_3]
      exact e_Z C0 hr (by decide) hH ⟨eR, by rw [eM]; exact hM⟩ (Nat.le_refl _) (Nat.le_refl _) dX11_isReturn_22
