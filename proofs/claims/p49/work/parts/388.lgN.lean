set_option maxHeartbeats 1600000 in
set_option maxRecDepth 100000 in
theorem lL_begun (l : Launch) (hlt : l.stackTraces = false) (Sc : SCR) (G : GT) (A : Nat → Prop) (h : AH) (L : LNum) (M : LRef) (h0 : JW0 h L M) (an : Nat) (hL : L an = some (700, fun _ => 0)) : lcQ l Sc G A yL_begun cL_begun 6 (Option.some (FieldType.object "Routepost")) 10 277 120000 450000 [.ref (Sc.1), .ref (an)] h (fun r h' => ∃ b' c' f' m' n', r = some (b' 14 0) ∧ JW G.2.2.1 h' b' c' (setL L an 700 f') M ∧ WFc c' ∧ n' ≤ 20 ∧ Stt n' c' m' ∧ NT f' m' ∧ 2 ≤ nhN m' ∧ nhN m' ≤ 5 ∧ 1 ≤ nlN m' ∧ ∃ k, m' 0 0 = nI (codeN (k % 6))) := by
  refine lm_of rfl (Nat.le_of_ble_eq_true rfl) ?_
  intro pr e s m9 below meth c9 C0 hN hr hH ls hl
  obtain ⟨hx, hb, hml, hown, hts, hK, hA, -⟩ := id C0
  have hl : lv_has ls 6 [(0, .ref (Sc.1)), (1, .ref (an))] := hl
  obtain ⟨z0, ez0⟩ : ∃ z, inN Sc 0 4 = z := ⟨_, rfl⟩
  have hz0 : z0 < 4 := by rw [← ez0]; exact inN_lt Sc 0 (by omega)
  obtain ⟨x9, ex9⟩ : ∃ z, inN Sc 1 2 = z := ⟨_, rfl⟩
  have hx9 : x9 < 2 := by rw [← ex9]; exact inN_lt Sc 1 (by omega)
  obtain ⟨z8, ez8⟩ : ∃ z, inN Sc 8 8 = z := ⟨_, rfl⟩
  have hz8 : z8 < 8 := by rw [← ez8]; exact inN_lt Sc 8 (by omega)
  obtain ⟨hx9a, hb9a, -, hown9, hts9, hK9, hA9, -⟩ := id C0
  refine o_new (K := 14) (N := 10) hx hb hts hown hK hA hH ci_14 cl_L_10 im_X10 in_X10 (fun j hj => by rcases (by omega : j = 0 ∨ j = 1 ∨ j = 2 ∨ j = 3 ∨ j = 4 ∨ j = 5 ∨ j = 6 ∨ j = 7 ∨ j = 8 ∨ j = 9) with rfl | rfl | rfl | rfl | rfl | rfl | rfl | rfl | rfl | rfl <;> rfl) (by show _ ≤ 120000; omega) (by show _ ≤ 450000; omega) dL_begun_0 (fun o H hoa hsz hH => ?_)
  obtain ⟨h1, hLo⟩ := h0.pN hoa
  refine lv_dup hx hb dL_begun_3 rfl ?_
  refine j_init (rest := [.ref (o)]) C0 hH h1 (by rw [aK_pN, if_pos rfl]) hLo ml_L_113 ⟨Nat.le_of_ble_eq_true rfl, Nat.le_of_ble_eq_true rfl⟩ hl.1 (Nat.le_of_ble_eq_true rfl) dL_begun_4 ⟨by show _ ≤ 120000; omega, by show _ ≤ 450000; omega⟩ (fun h b cap H locs hH hJ ho hwc => ?_)
  refine lv_astore_n (lv' := [(2, .ref (o)), (0, .ref (Sc.1)), (1, .ref (an))]) hx hb dL_begun_7 rfl hl (by decide) rfl (fun ls hl => ?_)
  refine lv_iconst (v := nI 2) hx hb dL_begun_8 (by decide) ?_
  refine lv_aload_n hx hb dL_begun_9 rfl (lv_at hl 1 rfl) ?_
  refine lv_iconst (v := nI 0) hx hb dL_begun_10 (by decide) ?_
  refine lv_iconst (v := nI 4) hx hb dL_begun_11 (by decide) ?_
  refine k_i hH (k_lS (rest := [.int (nI 2)]) C0 hN hH (lL_in l Sc G A _ 0 4 (by omega) (by omega) (by omega)) mv_L_in ml_L_106 rfl ⟨Nat.le_of_ble_eq_true rfl, Nat.le_of_ble_eq_true rfl⟩ hl.1 rfl (Nat.le_of_ble_eq_true rfl) dL_begun_12 ⟨by show _ ≤ 120000; omega, by show _ ≤ 450000; omega⟩) (fun rr h1 H locs hp hH => ?_)
  obtain ⟨ea, eh⟩ := hp
  rw [eh] at hH
  rw [ea, ez0]
  refine lv_iadd hx hb dL_begun_15 ?_
  rw [show nI 2 + nI z0 = nI (2 + z0) from nI_add _ _]
  refine lv_istore_n (lv' := [(3, .int (nI (2 + z0))), (2, .ref (o)), (0, .ref (Sc.1)), (1, .ref (an))]) hx hb dL_begun_16 rfl hl (by decide) rfl (fun ls hl => ?_)
  refine lv_iconst (v := nI 1) hx hb dL_begun_17 (by decide) ?_
  refine lv_istore (lv' := [(4, .int (nI 1)), (3, .int (nI (2 + z0))), (2, .ref (o)), (0, .ref (Sc.1)), (1, .ref (an))]) hx hb dL_begun_18 hl (by decide) rfl (fun ls hl => ?_)
  refine lv_iconst (v := nI 0) hx hb dL_begun_20 (by decide) ?_
  refine lv_istore (lv' := [(5, .int (nI 0)), (4, .int (nI 1)), (3, .int (nI (2 + z0))), (2, .ref (o)), (0, .ref (Sc.1)), (1, .ref (an))]) hx hb dL_begun_21 hl (by decide) rfl (fun ls hl => ?_)
  have K1 : ∀ (j hh : Nat) (cs m : MM) (f : Nat → Int32), hh + j = 2 + z0 → Stt hh cs m → WFc cs → NTb f m → nhN m = hh → (∀ i, i < hh → m 0 i = nI (codeN ((i + x9 * 2) % 6))) → ∀ (h : AH) (b : BA) (H : Heap) (locs : List Loc) (hH : HS G.1 G.2.1 A s.heap h H locs) (hJ : JW G.2.2.1 h b cs (setL L an 700 f) M) (ho : b 14 0 = o) (ls : Array Slot), lv_has ls 6 [(5, .int (nI hh)), (4, .int (nI 1)), (3, .int (nI (2 + z0))), (2, .ref (o)), (0, .ref (Sc.1)), (1, .ref (an))] → W pr l e (rmm 10 277 120000 450000) s m9 ([.ref (Sc.1), .ref (an)] : List Value).toArray below meth c9 H locs (3001 + 4 * hh + UC cs) (12010 + 24 * hh + US cs) (MQ below (va_Qq (fun r h' => ∃ b' c' f' m' n', r = some (b' 14 0) ∧ JW G.2.2.1 h' b' c' (setL L an 700 f') M ∧ WFc c' ∧ n' ≤ 20 ∧ Stt n' c' m' ∧ NT f' m' ∧ 2 ≤ nhN m' ∧ nhN m' ≤ 5 ∧ 1 ≤ nlN m' ∧ ∃ k, m' 0 0 = nI (codeN (k % 6))) (fun h' t => HW G.1 G.2.1 A h' t.heap) A) ([.ref (Sc.1), .ref (an)] : List Value).toArray s 120000 450000 A) (F0 m9 23 ls []) := by
    intro j
    induction j with
    | zero =>
      intro hh cs m f hk hSt hwc hNT hnh hcd h b H locs hH hJ ho ls hl
      have hu := UC_max hwc
      obtain ⟨L1, hL1⟩ : ∃ z, z = setL L an 700 f := ⟨_, rfl⟩
      rw [← hL1] at hJ
      have hLn1 : L1 an = some (700, f) := by rw [hL1]; exact setL_s _ _ _ _
      refine lv_iload hx hb dL_begun_23 (lv_at hl 0 rfl) ?_
      refine lv_iload_n hx hb dL_begun_25 rfl (lv_at hl 2 rfl) ?_
      refine lv_icmp_ge (tgt := 119) hx hb dL_begun_26 (by decide) (fun c26_1 => ?_) (fun c26_1 => ?_)
      · replace c26_1 : 2 + z0 ≤ hh := (nI_leI (a := 2 + z0) (b := hh) (by omega) (by omega)).mp c26_1
        refine lv_aload_n hx hb dL_begun_119 rfl (lv_at hl 5 rfl) ?_
        refine lv_iconst (v := nI 0) hx hb dL_begun_120 (by decide) ?_
        refine lv_iload_n hx hb dL_begun_121 rfl (lv_at hl 2 rfl) ?_
        refine j_st C0 hH hJ hLn1 (ix := 0) (by omega) (by decide) dL_begun_122 (fun h H locs hH hJ => ?_)
        obtain ⟨f_2, hf_2⟩ : ∃ z, z = upF f 0 (nI (2 + z0)) := ⟨_, rfl⟩
        obtain ⟨L_3, hL_3⟩ : ∃ z, z = setL L1 an 700 f_2 := ⟨_, rfl⟩
        rw [← hf_2, ← hL_3] at hJ
        have hLn1_L_3 : L_3 an = some (700, f_2) := by rw [hL_3]; exact setL_s _ _ _ _
        refine lv_iconst (v := nI 2) hx hb dL_begun_123 (by decide) ?_
        refine lv_aload_n hx hb dL_begun_124 rfl (lv_at hl 4 rfl) ?_
        refine lv_bipush (v := nI 8) hx hb dL_begun_125 (by decide) ?_
        refine lv_bipush (v := nI 8) hx hb dL_begun_127 (by decide) ?_
        refine k_i hH (k_lS (rest := [.int (nI 2)]) C0 hN hH (lL_in l Sc G A _ 8 8 (by omega) (by omega) (by omega)) mv_L_in ml_L_106 rfl ⟨Nat.le_of_ble_eq_true rfl, Nat.le_of_ble_eq_true rfl⟩ hl.1 rfl (Nat.le_of_ble_eq_true rfl) dL_begun_129 ⟨by show _ ≤ 120000; omega, by show _ ≤ 450000; omega⟩) (fun rr h1 H locs hp hH => ?_)
        obtain ⟨ea, eh⟩ := hp
        rw [eh] at hH
        rw [ea, ez8]
        refine lv_iadd hx hb dL_begun_132 ?_
        rw [show nI 2 + nI z8 = nI (2 + z8) from nI_add _ _]
        refine lv_istore (lv' := [(5, .int (nI (2 + z8))), (4, .int (nI 1)), (3, .int (nI (2 + z0))), (2, .ref (o)), (0, .ref (Sc.1)), (1, .ref (an))]) hx hb dL_begun_133 hl (by decide) rfl (fun ls hl => ?_)
        have hNT1 : NT f_2 m := by rw [hf_2, show 2 + z0 = nhN m by omega]; exact hNT.done (by omega)
        rw [hL_3] at hJ
        rw [hL1, setL_2] at hJ
        have K2 : ∀ (l0 n9 : Nat) (cs m : MM) (f : Nat → Int32), n9 + l0 ≤ 20 → nlN m + l0 ≤ 9 → 1 ≤ nlN m + l0 → 2 ≤ nhN m → nhN m ≤ 5 → m 0 0 = nI (codeN ((0 + x9 * 2) % 6)) → Stt n9 cs m → WFc cs → NT f m → ∀ (h : AH) (b : BA) (H : Heap) (locs : List Loc) (hH : HS G.1 G.2.1 A s.heap h H locs) (hJ : JW G.2.2.1 h b cs (setL L an 700 f) M) (ho : b 14 0 = o) (ls : Array Slot), lv_has ls 6 [(5, .int (nI l0)), (4, .int (nI 1)), (2, .ref (o)), (0, .ref (Sc.1)), (1, .ref (an))] → W pr l e (rmm 10 277 120000 450000) s m9 ([.ref (Sc.1), .ref (an)] : List Value).toArray below meth c9 H locs (3001 + 4 * n9 + UC cs) (12010 + 24 * n9 + US cs) (MQ below (va_Qq (fun r h' => ∃ b' c' f' m' n', r = some (b' 14 0) ∧ JW G.2.2.1 h' b' c' (setL L an 700 f') M ∧ WFc c' ∧ n' ≤ 20 ∧ Stt n' c' m' ∧ NT f' m' ∧ 2 ≤ nhN m' ∧ nhN m' ≤ 5 ∧ 1 ≤ nlN m' ∧ ∃ k, m' 0 0 = nI (codeN (k % 6))) (fun h' t => HW G.1 G.2.1 A h' t.heap) A) ([.ref (Sc.1), .ref (an)] : List Value).toArray s 120000 450000 A) (F0 m9 135 ls []) := by
          intro l0
          induction l0 with
          | zero =>
            intro n9 cs m f hk1 hk2 hk3 h2 h5 h00 hSt hwc hNT h b H locs hH hJ ho ls hl
            have hu := UC_max hwc
            refine lv_iload hx hb dL_begun_135 (lv_at hl 0 rfl) ?_
            refine lv_if_le (tgt := 165) hx hb dL_begun_137 (by decide) (fun c137_4 => ?_) (fun c137_4 => ?_)
            · refine lv_iload hx hb dL_begun_165 (lv_at hl 1 rfl) ?_
              refine lv_if_eq (tgt := 174) hx hb dL_begun_167 (by decide) (fun c167_5 => ?_) (fun c167_5 => ?_)
              · exact absurd c167_5 (by decide)
              · refine lv_aload_n hx hb dL_begun_170 rfl (lv_at hl 2 rfl) ?_
                refine lv_goto (tgt := 175) hx hb dL_begun_171 (by decide) ?_
                exact e_Q (v := some o) C0 hr (Or.inl ⟨_, rfl⟩) hH ⟨b, cs, f, m, n9, by rw [ho], hJ, hwc, by omega, hSt, hNT, h2, h5, by omega, _, h00⟩ (by omega) (by omega) dL_begun_175
            · exact absurd (by decide) c137_4
          | succ l0 ih2 =>
            intro n9 cs m f hk1 hk2 hk3 h2 h5 h00 hSt hwc hNT h b H locs hH hJ ho ls hl
            have hu := UC_max hwc
            obtain ⟨L1, hL1⟩ : ∃ z, z = setL L an 700 f := ⟨_, rfl⟩
            rw [← hL1] at hJ
            have hLn1 : L1 an = some (700, f) := by rw [hL1]; exact setL_s _ _ _ _
            obtain ⟨hS, hw, hI⟩ := id hSt
            obtain ⟨c2, hbd, hLd⟩ := lL_isLaidN l hlt Sc G A h b cs m n9 L1 M o hJ ho hwc hS hw hI (by omega) (10 + 7 * (l0 + 1)) (by omega) h2 (by omega) an f hLn1 hNT
            obtain ⟨hbd1, hbd2⟩ := hbd
            refine lv_iload hx hb dL_begun_135 (lv_at hl 0 rfl) ?_
            refine lv_if_le (tgt := 165) hx hb dL_begun_137 (by decide) (fun c137_6 => ?_) (fun c137_6 => ?_)
            · exact absurd ((nI_leI (a := l0 + 1) (b := 0) (by omega) (by omega)).mp c137_6) (by omega)
            · replace c137_6 : ¬ (l0 + 1 ≤ 0) := fun z => c137_6 ((nI_leI (a := l0 + 1) (b := 0) (by omega) (by omega)).mpr z)
              refine lv_iload hx hb dL_begun_140 (lv_at hl 1 rfl) ?_
              refine lv_aload_n hx hb dL_begun_142 rfl (lv_at hl 2 rfl) ?_
              refine lv_aload_n hx hb dL_begun_143 rfl (lv_at hl 4 rfl) ?_
              refine lv_aload_n hx hb dL_begun_144 rfl (lv_at hl 3 rfl) ?_
              refine lv_bipush (v := nI 10) hx hb dL_begun_145 (by decide) ?_
              refine lv_bipush (v := nI 7) hx hb dL_begun_147 (by decide) ?_
              refine lv_iload hx hb dL_begun_149 (lv_at hl 0 rfl) ?_
              refine lv_imul hx hb dL_begun_151 ?_
              rw [show nI 7 * nI (l0 + 1) = nI (7 * (l0 + 1)) from nI_mul]
              refine lv_iadd hx hb dL_begun_152 ?_
              rw [show nI 10 + nI (7 * (l0 + 1)) = nI (10 + (7 * (l0 + 1))) from nI_add _ _]
              refine k_i hH (k_lS (rest := [.int (nI 1)]) C0 hN hH hLd mv_L_isLaid ml_L_120 rfl ⟨Nat.le_of_ble_eq_true rfl, Nat.le_of_ble_eq_true rfl⟩ hl.1 rfl (Nat.le_of_ble_eq_true rfl) dL_begun_153 ⟨by show _ ≤ 120000; omega, by show _ ≤ 450000; omega⟩) (fun rr h H locs hp0 hH => ?_)
              obtain ⟨ea, b, f2, m2, hJ, ho, hwc, hSt2, hNT2, hKp, hgU, hgS, hnl2⟩ := hp0
              rw [ea]
              rw [hL1, setL_2] at hJ
              have hKp1 := hKp.1
              refine lv_iand hx hb dL_begun_156 ?_
              rw [show nI 1 &&& nI 1 = nI 1 by decide]
              refine lv_istore (lv' := [(4, .int (nI 1)), (5, .int (nI (l0 + 1))), (2, .ref (o)), (0, .ref (Sc.1)), (1, .ref (an))]) hx hb dL_begun_157 hl (by decide) rfl (fun ls hl => ?_)
              refine lv_iinc (v := nI l0) (lv' := [(5, .int (nI l0)), (4, .int (nI 1)), (2, .ref (o)), (0, .ref (Sc.1)), (1, .ref (an))]) hx hb dL_begun_159 hl (k := 1) rfl (pk_m1 l0) (by decide) rfl (fun ls hl => ?_)
              refine lv_goto (tgt := 135) hx hb dL_begun_162 (by decide) ?_
              refine W.widen (k := 3001 + 4 * (n9 + 1) + UC c2) (n := 12010 + 24 * (n9 + 1) + US c2) (by omega) (by omega) ?_
              exact ih2 (n9 + 1) c2 m2 f2 (by omega) (by omega) (by omega) (by omega) (by omega) (by rw [hKp.2.2]; exact h00) hSt2 hwc hNT2 h b H locs hH hJ ho ls (lv_sub hl [0, 1, 2, 3, 4] rfl)
        have hlN0 := hNT.2.2.1
        refine W.widen (k := 3001 + 4 * hh + UC cs) (n := 12010 + 24 * hh + US cs) (by omega) (by omega) ?_
        exact K2 (2 + z8) hh cs m f_2 (by omega) (by omega) (by omega) (by omega) (by omega) (hcd 0 (by omega)) hSt hwc hNT1 h b H locs hH hJ ho ls (lv_sub hl [0, 1, 3, 4, 5] rfl)
      · exact absurd ((nI_leI (by omega) (by omega)).mpr (show 2 + z0 ≤ hh by omega)) c26_1
    | succ j ih =>
      intro hh cs m f hk hSt hwc hNT hnh hcd h b H locs hH hJ ho ls hl
      have hu := UC_max hwc
      obtain ⟨L1, hL1⟩ : ∃ z, z = setL L an 700 f := ⟨_, rfl⟩
      rw [← hL1] at hJ
      have hLn1 : L1 an = some (700, f) := by rw [hL1]; exact setL_s _ _ _ _
      obtain ⟨y9, ey9⟩ : ∃ z, inN Sc (2 + hh) 6 = z := ⟨_, rfl⟩
      have hy9 : y9 < 6 := by rw [← ey9]; exact inN_lt Sc (2 + hh) (by omega)
      obtain ⟨k9, ek9⟩ : ∃ z, (hh + x9 * 2) % 6 = z := ⟨_, rfl⟩
      have hk9 : k9 < 6 := by rw [← ek9]; exact Nat.mod_lt _ (by omega)
      have hno : ∀ i, i < nhN m → ¬ m 0 i = nI (codeN k9) := fun i hi => by have q := code_no hx9 (show nhN m < 6 by omega) (fun j hj => hcd j (by omega)) i hi; rw [hnh, ek9] at q; exact q
      have hdg9 : ¬ isDg (nI (codeN k9)) 1 999 = 0 := by rw [← ek9]; exact code_ok2 _
      obtain ⟨hxa, m1, hSt1, hOp⟩ := d_open hSt hwc (by omega) hNT.2.2.2.1 (cd := codeN k9) (co := 1 + y9) hdg9 (by omega) hno
      obtain ⟨hS, hw, hI⟩ := id hSt
      have hg9 := gm_open hwc (nI (codeN k9)) (nI (1 + y9))
      rw [if_pos hxa] at hg9
      obtain ⟨⟨hgA, hgB⟩, hgC, hgD⟩ := hg9
      have hcl9 := codeN_lt k9
      refine lv_iload hx hb dL_begun_23 (lv_at hl 0 rfl) ?_
      refine lv_iload_n hx hb dL_begun_25 rfl (lv_at hl 2 rfl) ?_
      refine lv_icmp_ge (tgt := 119) hx hb dL_begun_26 (by decide) (fun c26_7 => ?_) (fun c26_7 => ?_)
      · exact absurd ((nI_leI (by omega) (by omega)).mp c26_7) (by omega)
      · replace c26_7 : ¬ (2 + z0 ≤ hh) := fun z => c26_7 ((nI_leI (a := 2 + z0) (b := hh) (by omega) (by omega)).mpr z)
        refine lv_aload_n hx hb dL_begun_29 rfl (lv_at hl 5 rfl) ?_
        refine lv_bipush (v := nI 10) hx hb dL_begun_30 (by decide) ?_
        refine lv_iconst (v := nI 2) hx hb dL_begun_32 (by decide) ?_
        refine lv_iload hx hb dL_begun_33 (lv_at hl 0 rfl) ?_
        refine lv_imul hx hb dL_begun_35 ?_
        rw [show nI 2 * nI hh = nI (2 * hh) from nI_mul]
        refine lv_iadd hx hb dL_begun_36 ?_
        rw [show nI 10 + nI (2 * hh) = nI (10 + 2 * hh) from nI_add _ _]
        refine lv_iload hx hb dL_begun_37 (lv_at hl 0 rfl) ?_
        refine lv_aload_n hx hb dL_begun_39 rfl (lv_at hl 4 rfl) ?_
        refine lv_iconst (v := nI 1) hx hb dL_begun_40 (by decide) ?_
        refine lv_iconst (v := nI 2) hx hb dL_begun_41 (by decide) ?_
        refine k_i hH (k_lS (rest := [.int (nI hh), .int (nI (10 + 2 * hh)), .ref (an)]) C0 hN hH (lL_in l Sc G A _ 1 2 (by omega) (by omega) (by omega)) mv_L_in ml_L_106 rfl ⟨Nat.le_of_ble_eq_true rfl, Nat.le_of_ble_eq_true rfl⟩ hl.1 rfl (Nat.le_of_ble_eq_true rfl) dL_begun_42 ⟨by show _ ≤ 120000; omega, by show _ ≤ 450000; omega⟩) (fun rr h1 H locs hp hH => ?_)
        obtain ⟨ea, eh⟩ := hp
        rw [eh] at hH
        rw [ea, ex9]
        refine lv_iconst (v := nI 2) hx hb dL_begun_45 (by decide) ?_
        refine lv_imul hx hb dL_begun_46 ?_
        rw [show nI x9 * nI 2 = nI (x9 * 2) from nI_mul]
        refine lv_iadd hx hb dL_begun_47 ?_
        rw [show nI hh + nI (x9 * 2) = nI (hh + x9 * 2) from nI_add _ _]
        refine lv_bipush (v := nI 6) hx hb dL_begun_48 (by decide) ?_
        refine lv_irem hx hb dL_begun_50 (by decide) ?_
        rw [nI_rem (show hh + x9 * 2 < 2 ^ 31 by omega) (show 6 < 2 ^ 31 by omega), ek9]
        refine k_i hH (k_lS (rest := [.int (nI (10 + 2 * hh)), .ref (an)]) C0 hN hH (lL_code l Sc G A _ k9 (by omega)) mv_L_code ml_L_114 rfl ⟨Nat.le_of_ble_eq_true rfl, Nat.le_of_ble_eq_true rfl⟩ hl.1 rfl (Nat.le_of_ble_eq_true rfl) dL_begun_51 ⟨by show _ ≤ 120000; omega, by show _ ≤ 450000; omega⟩) (fun rr h1 H locs hp hH => ?_)
        obtain ⟨ea, eh⟩ := hp
        rw [eh] at hH
        rw [ea]
        refine j_st C0 hH hJ hLn1 (ix := 10 + 2 * hh) (by omega) (by decide) dL_begun_54 (fun h H locs hH hJ => ?_)
        obtain ⟨f_8, hf_8⟩ : ∃ z, z = upF f (10 + 2 * hh) (nI (codeN k9)) := ⟨_, rfl⟩
        obtain ⟨L_9, hL_9⟩ : ∃ z, z = setL L1 an 700 f_8 := ⟨_, rfl⟩
        rw [← hf_8, ← hL_9] at hJ
        have hLn1_L_9 : L_9 an = some (700, f_8) := by rw [hL_9]; exact setL_s _ _ _ _
        refine lv_aload_n hx hb dL_begun_55 rfl (lv_at hl 5 rfl) ?_
        refine lv_bipush (v := nI 11) hx hb dL_begun_56 (by decide) ?_
        refine lv_iconst (v := nI 2) hx hb dL_begun_58 (by decide) ?_
        refine lv_iload hx hb dL_begun_59 (lv_at hl 0 rfl) ?_
        refine lv_imul hx hb dL_begun_61 ?_
        rw [show nI 2 * nI hh = nI (2 * hh) from nI_mul]
        refine lv_iadd hx hb dL_begun_62 ?_
        rw [show nI 11 + nI (2 * hh) = nI (11 + 2 * hh) from nI_add _ _]
        refine lv_iconst (v := nI 1) hx hb dL_begun_63 (by decide) ?_
        refine lv_aload_n hx hb dL_begun_64 rfl (lv_at hl 4 rfl) ?_
        refine lv_iconst (v := nI 2) hx hb dL_begun_65 (by decide) ?_
        refine lv_iload hx hb dL_begun_66 (lv_at hl 0 rfl) ?_
        refine lv_iadd hx hb dL_begun_68 ?_
        rw [show nI 2 + nI hh = nI (2 + hh) from nI_add _ _]
        refine lv_bipush (v := nI 6) hx hb dL_begun_69 (by decide) ?_
        refine k_i hH (k_lS (rest := [.int (nI 1), .int (nI (11 + 2 * hh)), .ref (an)]) C0 hN hH (lL_in l Sc G A _ (2 + hh) 6 (by omega) (by omega) (by omega)) mv_L_in ml_L_106 rfl ⟨Nat.le_of_ble_eq_true rfl, Nat.le_of_ble_eq_true rfl⟩ hl.1 rfl (Nat.le_of_ble_eq_true rfl) dL_begun_71 ⟨by show _ ≤ 120000; omega, by show _ ≤ 450000; omega⟩) (fun rr h1 H locs hp hH => ?_)
        obtain ⟨ea, eh⟩ := hp
        rw [eh] at hH
        rw [ea, ey9]
        refine lv_iadd hx hb dL_begun_74 ?_
        rw [show nI 1 + nI y9 = nI (1 + y9) from nI_add _ _]
        refine j_st C0 hH hJ hLn1_L_9 (ix := 11 + 2 * hh) (by omega) (by decide) dL_begun_75 (fun h H locs hH hJ => ?_)
        obtain ⟨f_10, hf_10⟩ : ∃ z, z = upF f_8 (11 + 2 * hh) (nI (1 + y9)) := ⟨_, rfl⟩
        obtain ⟨L_11, hL_11⟩ : ∃ z, z = setL L_9 an 700 f_10 := ⟨_, rfl⟩
        rw [← hf_10, ← hL_11] at hJ
        have hLn1_L_9_L_11 : L_11 an = some (700, f_10) := by rw [hL_11]; exact setL_s _ _ _ _
        refine lv_iload hx hb dL_begun_76 (lv_at hl 1 rfl) ?_
        refine lv_aload_n hx hb dL_begun_78 rfl (lv_at hl 3 rfl) ?_
        refine lv_aload_n hx hb dL_begun_79 rfl (lv_at hl 5 rfl) ?_
        refine lv_bipush (v := nI 10) hx hb dL_begun_80 (by decide) ?_
        refine lv_iconst (v := nI 2) hx hb dL_begun_82 (by decide) ?_
        refine lv_iload hx hb dL_begun_83 (lv_at hl 0 rfl) ?_
        refine lv_imul hx hb dL_begun_85 ?_
        rw [show nI 2 * nI hh = nI (2 * hh) from nI_mul]
        refine lv_iadd hx hb dL_begun_86 ?_
        rw [show nI 10 + nI (2 * hh) = nI (10 + 2 * hh) from nI_add _ _]
        refine j_ld C0 hH hJ hLn1_L_9_L_11 (ix := 10 + 2 * hh) (by omega) (by decide) (v := nI (codeN k9)) (by rw [hf_10, hf_8]; unfold upF; rw [if_neg (by omega)]; exact if_pos rfl) dL_begun_87 ?_
        refine lv_aload_n hx hb dL_begun_88 rfl (lv_at hl 5 rfl) ?_
        refine lv_bipush (v := nI 11) hx hb dL_begun_89 (by decide) ?_
        refine lv_iconst (v := nI 2) hx hb dL_begun_91 (by decide) ?_
        refine lv_iload hx hb dL_begun_92 (lv_at hl 0 rfl) ?_
        refine lv_imul hx hb dL_begun_94 ?_
        rw [show nI 2 * nI hh = nI (2 * hh) from nI_mul]
        refine lv_iadd hx hb dL_begun_95 ?_
        rw [show nI 11 + nI (2 * hh) = nI (11 + 2 * hh) from nI_add _ _]
        refine j_ld C0 hH hJ hLn1_L_9_L_11 (ix := 11 + 2 * hh) (by omega) (by decide) (v := nI (1 + y9)) (by rw [hf_10]; unfold upF; exact if_pos rfl) dL_begun_96 ?_
        have hwc0 := hwc
        refine j_w1 (As := [.int (nI (codeN k9)), .int (nI (1 + y9))]) (rest := [.int (nI 1)]) (v := nI hh) (c' := cHb cs (nI (codeN k9)) (nI (1 + y9))) C0 hN hH hJ ho (lW_openHub (nI (codeN k9)) (nI (1 + y9)) hJ.own hJ.obj (cC_X10_openHub l hlt G _ _ b cs hJ.rest hwc (nI (codeN k9)) (nI (1 + y9))) (hin_n hxa (fun E h9 z => z.1))) (hv_in hxa ((v_nh hS).trans (by rw [hnh])) (fun E h9 z => z.1)) ms_L_openHub ml_L_117 rfl ⟨Nat.le_of_ble_eq_true rfl, Nat.le_of_ble_eq_true rfl⟩ hl.1 rfl (Nat.le_of_ble_eq_true rfl) dL_begun_97 ⟨by show _ ≤ 120000; omega, by show _ ≤ 450000; omega⟩ (fun h b H locs hH hJ ho hwc => ?_)
        refine lv_iload hx hb dL_begun_100 (lv_at hl 0 rfl) ?_
        refine lv_icmp_ne (tgt := 109) hx hb dL_begun_102 (by decide) (fun c102_12 => ?_) (fun c102_12 => ?_)
        · exact absurd rfl c102_12
        · replace c102_12 : hh = hh := (nI_eq (a := hh) (b := hh) (by omega) (by omega)).mp c102_12
          refine lv_iconst (v := nI 1) hx hb dL_begun_105 (by decide) ?_
          refine lv_goto (tgt := 110) hx hb dL_begun_106 (by decide) ?_
          refine lv_iand hx hb dL_begun_110 ?_
          rw [show nI 1 &&& nI 1 = nI 1 by decide]
          refine lv_istore (lv' := [(4, .int (nI 1)), (5, .int (nI hh)), (3, .int (nI (2 + z0))), (2, .ref (o)), (0, .ref (Sc.1)), (1, .ref (an))]) hx hb dL_begun_111 hl (by decide) rfl (fun ls hl => ?_)
          refine lv_iinc (v := nI (hh + 1)) (lv' := [(5, .int (nI (hh + 1))), (4, .int (nI 1)), (3, .int (nI (2 + z0))), (2, .ref (o)), (0, .ref (Sc.1)), (1, .ref (an))]) hx hb dL_begun_113 hl (k := 1) rfl (nI_add (hh) 1) (by decide) rfl (fun ls hl => ?_)
          refine lv_goto (tgt := 23) hx hb dL_begun_116 (by decide) ?_
          have hNT1 : NTb f_10 m1 := by have q := hNT.opn (show nhN m < 6 by omega) hOp; rw [hnh] at q; rw [hf_10, hf_8]; exact q
          have hnh1 : nhN m1 = hh + 1 := by rw [hOp.nh (by omega), hnh]
          have hcd1 : ∀ i, i < hh + 1 → m1 0 i = nI (codeN ((i + x9 * 2) % 6)) := fun i hi => by rw [hOp.2.2.1 i]; by_cases z : i = nhN m; (· rw [if_pos z, z, hnh, ek9]); (· rw [if_neg z]; exact hcd i (by omega))
          rw [hL_11, hL_9, setL_2] at hJ
          rw [hL1, setL_2] at hJ
          refine W.widen (k := 3001 + 4 * (hh + 1) + UC (cHb cs (nI (codeN k9)) (nI (1 + y9)))) (n := 12010 + 24 * (hh + 1) + US (cHb cs (nI (codeN k9)) (nI (1 + y9)))) (by omega) (by omega) ?_
          exact ih (hh + 1) (cHb cs (nI (codeN k9)) (nI (1 + y9))) m1 f_10 (by omega) hSt1 hwc hNT1 hnh1 hcd1 h b H locs hH hJ ho ls (lv_sub hl [0, 1, 2, 3, 4, 5] rfl)
  have hJ9 : JW G.2.2.1 h b (c00 cap) (setL L an 700 (fun _ => 0)) M := by rw [setL_id hL]; exact hJ
  refine W.widen (k := 3001 + 4 * 0 + UC (c00 cap)) (n := 12010 + 24 * 0 + US (c00 cap)) (by omega) (by omega) ?_
  exact K1 (2 + z0) 0 (c00 cap) m0 (fun _ => 0) (by omega) (stt0 cap) hwc NTb.zero m0_nh (fun i hi => absurd hi (Nat.not_lt_zero _)) h b H locs hH hJ9 ho ls (lv_sub hl [0, 1, 2, 3, 4, 5] rfl)
