set_option maxHeartbeats 4000000 in
set_option maxRecDepth 100000 in
theorem cM_loads (l : Launch) (G : GT) (A : Nat → Prop) (h : AH) (o : Nat) (ad : Nat → Nat) (m : MM) (hM : RM h o ad m) (j9 : Nat) (hw : WFa m) (hi : j9 < nlN m) (hU : logN m + 40 ≤ 2 ^ 21) : cmV l G A yX11_loads cX11_loads 5 2 46 (uC (fLoads m j9) - uC m) (uS (fLoads m j9) - uS m) [.ref (o), .int (nI j9)] h (fun h' => ∃ ad', RM h' o ad' (fLoads m j9)) := by
  refine cm_of "RoutepostModel" rfl (by decide) (Nat.le_of_ble_eq_true rfl) ?_
  intro pr e s m9 below meth c C0 hr hname hH ls hl
  obtain ⟨hx, hb, hml, hown, hts, hK, hA, -⟩ := id C0
  have hl : lv_has ls 5 [(0, .ref (o)), (1, .int (nI j9))] := hl
  have hnp := hw.np
  have hnl := hw.nl
  obtain ⟨mo, hmo, hm4⟩ := mo_of hw hi
  refine lv_aload_n hx hb dX11_loads_0 rfl (lv_at hl 0 rfl) ?_
  refine lv_iload_n hx hb dX11_loads_1 rfl (lv_at hl 1 rfl) ?_
  refine k_i hH (k_runV (rest := []) C0 hH (cM_lines l G A _ o ad m hM (nI j9) hw) mv_X11_lines ml_X11_229 ci_15 hM.1 rfl ⟨Nat.le_of_ble_eq_true rfl, Nat.le_of_ble_eq_true rfl⟩ hl.1 rfl (Nat.le_of_ble_eq_true rfl) dX11_loads_2 ⟨by show _ ≤ uC (fLoads m j9) - uC m; omega, by show _ ≤ uS (fLoads m j9) - uS m; omega⟩) (fun r_1 h H locs hp hH => ?_)
  obtain ⟨er_1, hM⟩ := hp
  subst er_1
  have hLk := fLin_ok hw (nI j9)
  obtain ⟨M0, hM0⟩ : ∃ z, z = (fLin m (nI j9)).2 := ⟨_, rfl⟩
  replace hM : RM h o ad M0 := by rw [hM0]; exact hM
  have hwM0 : WFa M0 := by rw [hM0]; exact hLk.1
  have grM0 : Gr 0 m M0 := by rw [hM0]; exact Gr.lin hw (nI j9)
  obtain ⟨gnM0, glM0, ghM0, gcM0, gsM0, gaM0, gbM0⟩ := id grM0
  have geM0 : uC M0 = uC ((fLin m (nI j9)).2) ∧ uS M0 = uS ((fLin m (nI j9)).2) := by rw [hM0]; exact ⟨rfl, rfl⟩
  obtain ⟨n, hn⟩ : ∃ z, z = (fLin m (nI j9)).1 := ⟨_, rfl⟩
  rw [← hn]
  have hrw : rowOK n M0 := by rw [hn, hM0]; exact hLk.2.2.1
  have hnn : n ≤ npN m := by rw [hn]; exact hLk.2.2.2
  refine lv_istore_n (lv' := [(2, .int (nI n)), (0, .ref (o)), (1, .int (nI j9))]) hx hb dX11_loads_5 rfl hl (by decide) rfl (fun ls hl => ?_)
  refine lv_aload_n hx hb dX11_loads_6 rfl (lv_at hl 1 rfl) ?_
  refine lv_iconst (v := 0) hx hb dX11_loads_7 (by decide) ?_
  refine m_put C0 hH hM 44 (by decide) (by decide) fl_X11_226 dX11_loads_8 (fun h H locs hH hM => ?_)
  obtain ⟨M1, hM1⟩ : ∃ z, z = (up M0 44 0 0) := ⟨_, rfl⟩
  replace hM : RM h o ad M1 := by rw [hM1]; exact hM
  have hwM1 : WFa M1 := by rw [hM1]; exact (WFa.upx hwM0 (by unfold kWF; omega))
  have grM1 : Gr 0 M0 M1 := by rw [hM1]; exact (((Gr.refl 0 M0)).trans (Gr.up (by omega)))
  obtain ⟨gnM1, glM1, ghM1, gcM1, gsM1, gaM1, gbM1⟩ := id grM1
  have geM1 : uC M1 = uC (up M0 44 0 0) ∧ uS M1 = uS (up M0 44 0 0) := by rw [hM1]; exact ⟨rfl, rfl⟩
  have e0 : bagsN M1 = 0 := by rw [hM1]; show (up M0 44 0 0 44 0).toNatClampNeg = 0; rw [up_s]; rfl
  have hb1 : BM j9 mo M1 := ⟨by rw [e0, hM1, up_s]; rfl, by omega, by rw [hM1, up_k (by decide), hM0, hLk.2.1 (by decide)]; exact hmo, hm4⟩
  have hr1 : rowOK n M1 := fun j hj => by rw [hM1, up_k (by decide), npN_up (by decide)]; exact hrw j hj
  have hQ : fLoads m j9 = (if 0 < (loadL j9 n 0 M1) 44 0 then bagC j9 (bagsN (loadL j9 n 0 M1)) 0 (up (loadL j9 n 0 M1) 8 j9 ((loadL j9 n 0 M1) 44 0)) else (loadL j9 n 0 M1)) := by rw [hM1, hM0, hn]; rfl
  have gF : Gr 0 (loadL j9 n 0 M1) (fLoads m j9) := by
    rw [hQ]
    split
    · exact (Gr.up (k := 8) (by omega)).trans (Gr.of fun k hk => bagC_key j9 _ _ _ (by omega))
    · exact Gr.refl _ _
  obtain ⟨-, -, -, hg5, hg6, -, -⟩ := id gF
  refine lv_iconst (v := 0) hx hb dX11_loads_11 (by decide) ?_
  refine lv_istore_n (lv' := [(3, .int (0)), (2, .int (nI n)), (0, .ref (o)), (1, .int (nI j9))]) hx hb dX11_loads_12 rfl hl (by decide) rfl (fun ls hl => ?_)
  have K : ∀ (k i : Nat) (M : MM) (ad : Nat → Nat) (cc : Nat) (ss : Nat), i + k = n → loadL j9 k i M = (loadL j9 n 0 M1) → WFa M → Gr i m M → rowOK n M → BM j9 mo M → cc ≤ uC M - uC m → ss ≤ uS M - uS m → ∀ (h : AH) (H : Heap) (locs : List Loc) (hH : HS G.1 G.2.1 A s.heap h H locs) (hM : RM h o ad M) (ls : Array Slot), lv_has ls 5 [(3, .int (nI i)), (2, .int (nI n)), (0, .ref (o)), (1, .int (nI j9))] → W pr l e (rmm 2 46 (uC (fLoads m j9) - uC m) (uS (fLoads m j9) - uS m)) s m9 ([.ref (o), .int (nI j9)] : List Value).toArray below meth c H locs cc ss (QV below G A (fun h' => ∃ ad', RM h' o ad' (fLoads m j9)) ([.ref (o), .int (nI j9)] : List Value).toArray s (uC (fLoads m j9) - uC m) (uS (fLoads m j9) - uS m)) (F0 m9 13 ls []) := by
    intro k
    induction k with
    | zero =>
      intro i M ad cc ss hik hT hwM hgM hrM hbM hcc hss h H locs hH hM ls hl
      obtain ⟨gnM, glM, ghM, gcM, gsM, gaM, gbM⟩ := id hgM
      refine lv_iload_n hx hb dX11_loads_13 rfl (lv_at hl 0 rfl) ?_
      refine lv_iload_n hx hb dX11_loads_14 rfl (lv_at hl 1 rfl) ?_
      refine lv_icmp_ge (tgt := 139) hx hb dX11_loads_15 (by decide) (fun c15_2 => ?_) (fun c15_2 => ?_)
      · have hTM : M = (loadL j9 n 0 M1) := hT
        rw [← hTM] at hQ hg5 hg6
        have hb4 : bagsN M ≤ 4 := by have := hbM.2.1; omega
        refine lv_aload_n hx hb dX11_loads_139 rfl (lv_at hl 2 rfl) ?_
        refine m_int C0 hH hM 44 (by decide) (by decide) fl_X11_226 (v := M 44 0) rfl dX11_loads_140 ?_
        refine lv_if_le (tgt := 188) hx hb dX11_loads_143 (by decide) (fun c143_3 => ?_) (fun c143_3 => ?_)
        · have eM : fLoads m j9 = M := by rw [hQ]; exact if_neg (Int32.not_lt.mpr c143_3)
          exact e_V C0 hr hH ⟨_, by rw [eM]; exact hM⟩ (by omega) (by omega) dX11_loads_188
        · refine lv_aload_n hx hb dX11_loads_146 rfl (lv_at hl 2 rfl) ?_
          refine m_arr C0 hH hM 8 (by decide) fl_X11_34 dX11_loads_147 ?_
          refine lv_iload_n hx hb dX11_loads_150 rfl (lv_at hl 3 rfl) ?_
          refine lv_aload_n hx hb dX11_loads_151 rfl (lv_at hl 2 rfl) ?_
          refine m_int C0 hH hM 44 (by decide) (by decide) fl_X11_226 (v := M 44 0) rfl dX11_loads_152 ?_
          refine m_stI C0 hH hM 8 (by decide) rfl (n := 12) rfl (ix := j9) (nI_clamp (by omega)) (by first | assumption | exact vp_in_nI (by omega) (by omega)) dX11_loads_155 (fun h H locs hH hM => ?_)
          refine lv_iconst (v := 0) hx hb dX11_loads_156 (by decide) ?_
          refine lv_istore_n (lv' := [(3, .int (0)), (2, .int (nI n)), (0, .ref (o)), (1, .int (nI j9))]) hx hb dX11_loads_157 rfl hl (by decide) rfl (fun ls hl => ?_)
          have K2 : ∀ (k2 i2 : Nat) (M5 : MM), i2 + k2 = bagsN M → bagC j9 k2 i2 M5 = fLoads m j9 → M5 44 = M 44 → ∀ (h : AH) (H : Heap) (locs : List Loc) (hH : HS G.1 G.2.1 A s.heap h H locs) (hM : RM h o ad M5) (ls : Array Slot), lv_has ls 5 [(3, .int (nI i2)), (0, .ref (o)), (1, .int (nI j9))] → W pr l e (rmm 2 46 (uC (fLoads m j9) - uC m) (uS (fLoads m j9) - uS m)) s m9 ([.ref (o), .int (nI j9)] : List Value).toArray below meth c H locs cc ss (QV below G A (fun h' => ∃ ad', RM h' o ad' (fLoads m j9)) ([.ref (o), .int (nI j9)] : List Value).toArray s (uC (fLoads m j9) - uC m) (uS (fLoads m j9) - uS m)) (F0 m9 158 ls []) := by
            intro k2
            induction k2 with
            | zero =>
              intro i2 M5 hik2 hT2 h44 h H locs hH hM ls hl
              have hB2 : M5 44 0 = nI (bagsN M) := by rw [h44]; exact hbM.1
              refine lv_iload_n hx hb dX11_loads_158 rfl (lv_at hl 0 rfl) ?_
              refine lv_aload_n hx hb dX11_loads_159 rfl (lv_at hl 1 rfl) ?_
              refine m_int C0 hH hM 44 (by decide) (by decide) fl_X11_226 (v := M5 44 0) rfl dX11_loads_160 ?_
              refine lv_icmp_ge (tgt := 188) hx hb dX11_loads_163 (by decide) (fun c163_4 => ?_) (fun c163_4 => ?_)
              · have eM : fLoads m j9 = M5 := hT2.symm
                exact e_V C0 hr hH ⟨_, by rw [eM]; exact hM⟩ (by omega) (by omega) dX11_loads_188
              · exact absurd (by rw [hB2]; exact nI_le (by omega) (by omega)) c163_4
            | succ k2 ih2 =>
              intro i2 M5 hik2 hT2 h44 h H locs hH hM ls hl
              have hB2 : M5 44 0 = nI (bagsN M) := by rw [h44]; exact hbM.1
              refine lv_iload_n hx hb dX11_loads_158 rfl (lv_at hl 0 rfl) ?_
              refine lv_aload_n hx hb dX11_loads_159 rfl (lv_at hl 1 rfl) ?_
              refine m_int C0 hH hM 44 (by decide) (by decide) fl_X11_226 (v := M5 44 0) rfl dX11_loads_160 ?_
              refine lv_icmp_ge (tgt := 188) hx hb dX11_loads_163 (by decide) (fun c163_5 => ?_) (fun c163_5 => ?_)
              · exact absurd c163_5 (by rw [hB2]; exact nI_ge (by omega) (by omega))
              · refine lv_aload_n hx hb dX11_loads_166 rfl (lv_at hl 1 rfl) ?_
                refine m_arr C0 hH hM 10 (by decide) fl_X11_41 dX11_loads_167 ?_
                refine lv_iconst (v := 4) hx hb dX11_loads_170 (by decide) ?_
                refine lv_iload_n hx hb dX11_loads_171 rfl (lv_at hl 2 rfl) ?_
                refine lv_imul hx hb dX11_loads_172 ?_
                refine lv_iload_n hx hb dX11_loads_173 rfl (lv_at hl 0 rfl) ?_
                refine lv_iadd hx hb dX11_loads_174 ?_
                refine lv_topi (fun x9 ex9 => ?_)
                replace ex9 : x9 = nI (4 * j9 + i2) := ex9.trans (by rw [show (4 : Int32) = nI 4 from rfl, pk_mul, nI_add])
                subst ex9
                refine lv_aload_n hx hb dX11_loads_175 rfl (lv_at hl 1 rfl) ?_
                refine m_arr C0 hH hM 35 (by decide) fl_X11_117 dX11_loads_176 ?_
                refine lv_iload_n hx hb dX11_loads_179 rfl (lv_at hl 0 rfl) ?_
                refine m_ldI C0 hH hM 35 (by decide) rfl (n := 40) rfl (ix := i2) (nI_clamp (by omega)) (by first | assumption | exact vp_in_nI (by omega) (by omega)) (v := M5 35 i2) rfl dX11_loads_180 ?_
                refine m_stI C0 hH hM 10 (by decide) rfl (n := 48) rfl (ix := (4 * j9 + i2)) (nI_clamp (by omega)) (by first | assumption | exact vp_in_nI (by omega) (by omega)) dX11_loads_181 (fun h H locs hH hM => ?_)
                refine lv_iinc (v := nI (i2 + 1)) (lv' := [(3, .int (nI (i2 + 1))), (0, .ref (o)), (1, .int (nI j9))]) hx hb dX11_loads_182 hl (k := 0) rfl (by rw [← nI_1]; rfl) (by decide) rfl (fun ls hl => ?_)
                refine lv_goto (tgt := 158) hx hb dX11_loads_185 (by decide) ?_
                exact ih2 (i2 + 1) (up M5 10 (4 * j9 + i2) (M5 35 i2)) (by omega) (by rw [← hT2]; rfl) (by rw [up_key (by decide)]; exact h44) _ _ _ hH hM ls (lv_sub hl [0, 1, 2] rfl)
          exact K2 (bagsN M) 0 (up M 8 j9 (M 44 0)) (by omega) (by rw [hQ]; exact (if_pos (Int32.not_le.mp c143_3)).symm) (up_key (by decide)) _ _ _ hH hM ls (lv_sub hl [0, 2, 3] rfl)
      · exact absurd (by rw [(rfl : nI n = nI n)]; exact nI_le (by omega) (by omega)) c15_2
    | succ k ih =>
      intro i M ad cc ss hik hT hwM hgM hrM hbM hcc hss h H locs hH hM ls hl
      obtain ⟨gnM, glM, ghM, gcM, gsM, gaM, gbM⟩ := id hgM
      refine lv_iload_n hx hb dX11_loads_13 rfl (lv_at hl 0 rfl) ?_
      refine lv_iload_n hx hb dX11_loads_14 rfl (lv_at hl 1 rfl) ?_
      refine lv_icmp_ge (tgt := 139) hx hb dX11_loads_15 (by decide) (fun c15_6 => ?_) (fun c15_6 => ?_)
      · exact absurd c15_6 (by rw [(rfl : nI n = nI n)]; exact nI_ge (by omega) (by omega))
      · refine lv_aload_n hx hb dX11_loads_18 rfl (lv_at hl 2 rfl) ?_
        refine m_arr C0 hH hM 36 (by decide) fl_X11_120 dX11_loads_19 ?_
        refine lv_iload_n hx hb dX11_loads_22 rfl (lv_at hl 0 rfl) ?_
        refine m_ldI C0 hH hM 36 (by decide) rfl (n := 40) rfl (ix := i) (nI_clamp (by omega)) (by first | assumption | exact vp_in_nI (by omega) (by omega)) (v := M 36 i) rfl dX11_loads_23 ?_
        have h36 := hrM i (by omega)
        obtain ⟨p, hpe⟩ : ∃ z, z = (M 36 i).toNatClampNeg := ⟨_, rfl⟩
        have hp : p < npN M := by rw [hpe]; exact vp_nat h36
        refine lv_topi (fun x9 ex9 => ?_)
        replace ex9 : x9 = nI p := ex9.trans (by rw [hpe]; exact vp_nI h36 (by omega))
        subst ex9
        have hl9 : j9 < nlN M := by omega
        have h2f := hwM.from6 hl9
        have hT1 : loadL j9 k (i + 1) (load1 M j9 p) = (loadL j9 n 0 M1) := by rw [← hT, hpe]; rfl
        have h19 := load1_ok hwM hp hl9 (by omega)
        obtain ⟨-, -, -, hg7, hg8, -, -⟩ := id h19.2
        have hr9 : rowOK n (load1 M j9 p) := fun j hj => by rw [load1_key M j9 p (k := 36) (by omega) (by omega) (by omega), h19.2.np]; exact hrM j hj
        have hL1 := loadL_ok (l := j9) (mo := mo) k (i + 1) (load1 M j9 p) h19.1 (by rw [h19.2.nl]; exact hl9) (by rw [show i + 1 + k = n by omega]; exact hr9) (hbM.ld1 p) (by have := h19.2.lg; omega)
        rw [hT1] at hL1
        obtain ⟨-, -, -, hg3, hg4, -, -⟩ := id hL1.2.1
        refine lv_istore (lv' := [(4, .int (nI p)), (3, .int (nI i)), (2, .int (nI n)), (0, .ref (o)), (1, .int (nI j9))]) hx hb dX11_loads_24 hl (by decide) rfl (fun ls hl => ?_)
        refine lv_aload_n hx hb dX11_loads_26 rfl (lv_at hl 3 rfl) ?_
        refine m_int C0 hH hM 41 (by decide) (by decide) fl_X11_150 (v := M 41 0) rfl dX11_loads_27 ?_
        refine lv_aload_n hx hb dX11_loads_30 rfl (lv_at hl 3 rfl) ?_
        refine m_arr C0 hH hM 18 (by decide) fl_X11_65 dX11_loads_31 ?_
        refine lv_iload hx hb dX11_loads_34 (lv_at hl 0 rfl) ?_
        refine m_ldI C0 hH hM 18 (by decide) rfl (n := 40) rfl (ix := p) (nI_clamp (by omega)) (by first | assumption | exact vp_in_nI (by omega) (by omega)) (v := M 18 p) rfl dX11_loads_36 ?_
        refine lv_isub hx hb dX11_loads_37 ?_
        refine lv_aload_n hx hb dX11_loads_38 rfl (lv_at hl 3 rfl) ?_
        refine m_arr C0 hH hM 1 (by decide) fl_X11_13 dX11_loads_39 ?_
        refine lv_aload_n hx hb dX11_loads_42 rfl (lv_at hl 3 rfl) ?_
        refine m_arr C0 hH hM 2 (by decide) fl_X11_16 dX11_loads_43 ?_
        refine lv_iload_n hx hb dX11_loads_46 rfl (lv_at hl 4 rfl) ?_
        refine m_ldI C0 hH hM 2 (by decide) rfl (n := 12) rfl (ix := j9) (nI_clamp (by omega)) (by first | assumption | exact vp_in_nI (by omega) (by omega)) (v := M 2 j9) rfl dX11_loads_47 ?_
        refine m_ldI C0 hH hM 1 (by decide) rfl (n := 6) rfl (ix := (M 2 j9).toNatClampNeg) rfl h2f (v := M 1 ((M 2 j9).toNatClampNeg)) rfl dX11_loads_48 ?_
        refine lv_icmp_lt (tgt := 133) hx hb dX11_loads_49 (by decide) (fun c49_7 => ?_) (fun c49_7 => ?_)
        · have hE : load1 M j9 p = M := if_pos c49_7
          rw [← hE] at hM
          refine lv_iinc (v := nI (i + 1)) (lv' := [(3, .int (nI (i + 1))), (4, .int (nI p)), (2, .int (nI n)), (0, .ref (o)), (1, .int (nI j9))]) hx hb dX11_loads_133 hl (k := 1) rfl (by rw [← nI_1]; rfl) (by decide) rfl (fun ls hl => ?_)
          refine lv_goto (tgt := 13) hx hb dX11_loads_136 (by decide) ?_
          exact ih (i + 1) (load1 M j9 p) ad _ _ (by omega) (hT1) h19.1 ((hgM.trans h19.2).mono (by omega)) hr9 (hbM.ld1 p) (by omega) (by omega) _ _ _ hH hM ls (lv_sub hl [0, 2, 3, 4] rfl)
        · refine lv_aload_n hx hb dX11_loads_52 rfl (lv_at hl 3 rfl) ?_
          refine lv_iload hx hb dX11_loads_53 (lv_at hl 0 rfl) ?_
          refine lv_aload_n hx hb dX11_loads_55 rfl (lv_at hl 3 rfl) ?_
          refine m_arr C0 hH hM 7 (by decide) fl_X11_31 dX11_loads_56 ?_
          refine lv_iload_n hx hb dX11_loads_59 rfl (lv_at hl 4 rfl) ?_
          refine m_ldI C0 hH hM 7 (by decide) rfl (n := 12) rfl (ix := j9) (nI_clamp (by omega)) (by first | assumption | exact vp_in_nI (by omega) (by omega)) (v := M 7 j9) rfl dX11_loads_60 ?_
          refine k_i hH (k_runV (rest := []) C0 hH (cM_isPut l G A _ o ad M hM p (M 7 j9) hwM (by omega) ⟨hbM.1, by have := hbM.2.1; omega⟩) mv_X11_isPut ml_X11_231 ci_15 hM.1 rfl ⟨Nat.le_of_ble_eq_true rfl, Nat.le_of_ble_eq_true rfl⟩ hl.1 rfl (Nat.le_of_ble_eq_true rfl) dX11_loads_61 ⟨by show _ ≤ uC (fLoads m j9) - uC m; omega, by show _ ≤ uS (fLoads m j9) - uS m; omega⟩) (fun r_8 h H locs hp hH => ?_)
          obtain ⟨er_8, hM⟩ := hp
          subst er_8
          obtain ⟨M2, hM2⟩ : ∃ z, z = (fPut M p (M 7 j9)).2 := ⟨_, rfl⟩
          replace hM : RM h o ad M2 := by rw [hM2]; exact hM
          have hwM2 : WFa M2 := by rw [hM2]; exact hwM.put _ _
          have grM2 : Gr 0 M M2 := by rw [hM2]; exact Gr.put M _ _
          obtain ⟨gnM2, glM2, ghM2, gcM2, gsM2, gaM2, gbM2⟩ := id grM2
          have geM2 : uC M2 = uC ((fPut M p (M 7 j9)).2) ∧ uS M2 = uS ((fPut M p (M 7 j9)).2) := by rw [hM2]; exact ⟨rfl, rfl⟩
          refine lv_if_eq (tgt := 114) hx hb dX11_loads_64 (by decide) (fun c64_9 => ?_) (fun c64_9 => ?_)
          · refine lv_aload_n hx hb dX11_loads_114 rfl (lv_at hl 3 rfl) ?_
            refine m_arr C0 hH hM 30 (by decide) fl_X11_102 dX11_loads_115 ?_
            refine lv_iload hx hb dX11_loads_118 (lv_at hl 0 rfl) ?_
            refine lv_iconst (v := 1) hx hb dX11_loads_120 (by decide) ?_
            refine m_stZ C0 hH hM 30 (by decide) rfl (n := 40) rfl (ix := p) (nI_clamp (by omega)) (by first | assumption | exact vp_in_nI (by omega) (by omega)) (by decide) dX11_loads_121 (fun h H locs hH hM => ?_)
            refine lv_aload_n hx hb dX11_loads_122 rfl (lv_at hl 3 rfl) ?_
            refine m_arr C0 hH hM 24 (by decide) fl_X11_83 dX11_loads_123 ?_
            refine lv_iload hx hb dX11_loads_126 (lv_at hl 0 rfl) ?_
            refine lv_dup2_11 hx hb dX11_loads_128 rfl rfl ?_
            refine m_ldI C0 hH hM 24 (by decide) rfl (n := 40) rfl (ix := p) (nI_clamp (by omega)) (by first | assumption | exact vp_in_nI (by omega) (by omega)) (v := M2 24 p) rfl dX11_loads_129 ?_
            refine lv_iconst (v := 1) hx hb dX11_loads_130 (by decide) ?_
            refine lv_iadd hx hb dX11_loads_131 ?_
            refine m_stI C0 hH hM 24 (by decide) rfl (n := 40) rfl (ix := p) (nI_clamp (by omega)) (by first | assumption | exact vp_in_nI (by omega) (by omega)) dX11_loads_132 (fun h H locs hH hM => ?_)
            have hE : load1 M j9 p = (up (up M2 30 p 1) 24 p ((M2 24 p) + 1)) := by unfold load1; rw [if_neg c49_7]; dsimp only; rw [if_neg (Classical.not_not.mpr c64_9), hM2]
            rw [← hE] at hM
            refine lv_iinc (v := nI (i + 1)) (lv' := [(3, .int (nI (i + 1))), (4, .int (nI p)), (2, .int (nI n)), (0, .ref (o)), (1, .int (nI j9))]) hx hb dX11_loads_133 hl (k := 1) rfl (by rw [← nI_1]; rfl) (by decide) rfl (fun ls hl => ?_)
            refine lv_goto (tgt := 13) hx hb dX11_loads_136 (by decide) ?_
            exact ih (i + 1) (load1 M j9 p) ad _ _ (by omega) (hT1) h19.1 ((hgM.trans h19.2).mono (by omega)) hr9 (hbM.ld1 p) (by omega) (by omega) _ _ _ hH hM ls (lv_sub hl [0, 2, 3, 4] rfl)
          · refine lv_aload_n hx hb dX11_loads_67 rfl (lv_at hl 3 rfl) ?_
            refine m_arr C0 hH hM 28 (by decide) fl_X11_95 dX11_loads_68 ?_
            refine lv_iload hx hb dX11_loads_71 (lv_at hl 0 rfl) ?_
            refine lv_bipush (v := 116) hx hb dX11_loads_73 (by decide) ?_
            refine m_stC C0 hH hM 28 (by decide) rfl (n := 40) rfl (ix := p) (nI_clamp (by omega)) (by first | assumption | exact vp_in_nI (by omega) (by omega)) (by decide) dX11_loads_75 (fun h H locs hH hM => ?_)
            refine lv_aload_n hx hb dX11_loads_76 rfl (lv_at hl 3 rfl) ?_
            refine m_arr C0 hH hM 16 (by decide) fl_X11_59 dX11_loads_77 ?_
            refine lv_iload hx hb dX11_loads_80 (lv_at hl 0 rfl) ?_
            refine lv_iload_n hx hb dX11_loads_82 rfl (lv_at hl 4 rfl) ?_
            refine m_stI C0 hH hM 16 (by decide) rfl (n := 40) rfl (ix := p) (nI_clamp (by omega)) (by first | assumption | exact vp_in_nI (by omega) (by omega)) dX11_loads_83 (fun h H locs hH hM => ?_)
            refine lv_aload_n hx hb dX11_loads_84 rfl (lv_at hl 3 rfl) ?_
            refine m_arr C0 hH hM 17 (by decide) fl_X11_62 dX11_loads_85 ?_
            refine lv_iload hx hb dX11_loads_88 (lv_at hl 0 rfl) ?_
            refine lv_aload_n hx hb dX11_loads_90 rfl (lv_at hl 3 rfl) ?_
            refine m_int C0 hH hM 41 (by decide) (by decide) fl_X11_150 (v := M2 41 0) rfl dX11_loads_91 ?_
            refine lv_aload_n hx hb dX11_loads_94 rfl (lv_at hl 3 rfl) ?_
            refine m_arr C0 hH hM 6 (by decide) fl_X11_28 dX11_loads_95 ?_
            refine lv_iload_n hx hb dX11_loads_98 rfl (lv_at hl 4 rfl) ?_
            refine m_ldI C0 hH hM 6 (by decide) rfl (n := 12) rfl (ix := j9) (nI_clamp (by omega)) (by first | assumption | exact vp_in_nI (by omega) (by omega)) (v := M2 6 j9) rfl dX11_loads_99 ?_
            refine lv_iadd hx hb dX11_loads_100 ?_
            refine m_stI C0 hH hM 17 (by decide) rfl (n := 40) rfl (ix := p) (nI_clamp (by omega)) (by first | assumption | exact vp_in_nI (by omega) (by omega)) dX11_loads_101 (fun h H locs hH hM => ?_)
            refine lv_aload_n hx hb dX11_loads_102 rfl (lv_at hl 3 rfl) ?_
            refine lv_iload hx hb dX11_loads_103 (lv_at hl 0 rfl) ?_
            refine lv_bipush (v := 108) hx hb dX11_loads_105 (by decide) ?_
            refine lv_iload_n hx hb dX11_loads_107 rfl (lv_at hl 4 rfl) ?_
            obtain ⟨M3, hM3⟩ : ∃ z, z = mRid M2 j9 p := ⟨_, rfl⟩
            replace hM : RM h o ad M3 := by rw [hM3]; exact hM
            have hwM3 : WFa M3 := by rw [hM3]; exact hwM2.rid (by omega) (by omega)
            have grM3 : Gr 0 M2 M3 := by rw [hM3]; exact Gr.rid M2 j9 p
            obtain ⟨gnM3, glM3, ghM3, gcM3, gsM3, gaM3, gbM3⟩ := id grM3
            have geM3 : uC M3 = uC (mRid M2 j9 p) ∧ uS M3 = uS (mRid M2 j9 p) := by rw [hM3]; exact ⟨rfl, rfl⟩
            have hE : load1 M j9 p = fHap M3 p 108 (nI j9) := by unfold load1; rw [if_neg c49_7]; dsimp only; rw [if_pos c64_9, hM3, hM2]
            obtain ⟨-, -, -, hg1, hg2, -, -⟩ := id (Gr.hap hwM3 p 108 (nI j9))
            have hEc : uC (load1 M j9 p) = uC (fHap M3 p 108 (nI j9)) ∧ uS (load1 M j9 p) = uS (fHap M3 p 108 (nI j9)) := by rw [hE]; exact ⟨rfl, rfl⟩
            refine k_v hH (k_runV (rest := []) C0 hH (cM_happens l G A _ o ad M3 hM p 108 (nI j9) hwM3 (by omega) (by omega)) mv_X11_happens ml_X11_188 ci_15 hM.1 rfl ⟨Nat.le_of_ble_eq_true rfl, Nat.le_of_ble_eq_true rfl⟩ hl.1 rfl (Nat.le_of_ble_eq_true rfl) dX11_loads_108 ⟨by show _ ≤ uC (fLoads m j9) - uC m; omega, by show _ ≤ uS (fLoads m j9) - uS m; omega⟩) (fun h H locs hp hH => ?_)
            obtain ⟨ad, hM⟩ := hp
            rw [← hE] at hM
            refine lv_goto (tgt := 133) hx hb dX11_loads_111 (by decide) ?_
            refine lv_iinc (v := nI (i + 1)) (lv' := [(3, .int (nI (i + 1))), (4, .int (nI p)), (2, .int (nI n)), (0, .ref (o)), (1, .int (nI j9))]) hx hb dX11_loads_133 hl (k := 1) rfl (by rw [← nI_1]; rfl) (by decide) rfl (fun ls hl => ?_)
            refine lv_goto (tgt := 13) hx hb dX11_loads_136 (by decide) ?_
            exact ih (i + 1) (load1 M j9 p) ad _ _ (by omega) (hT1) h19.1 ((hgM.trans h19.2).mono (by omega)) hr9 (hbM.ld1 p) (by omega) (by omega) _ _ _ hH hM ls (lv_sub hl [0, 2, 3, 4] rfl)
  exact K (n) 0 M1 ad 0 0 (by omega) (rfl) hwM1 ((grM0.trans grM1).mono (by omega)) hr1 hb1 (Nat.zero_le _) (Nat.zero_le _) _ _ _ hH hM ls (lv_sub hl [0, 1, 2, 3] rfl)
