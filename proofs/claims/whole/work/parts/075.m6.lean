set_option maxHeartbeats 4000000 in
set_option maxRecDepth 100000 in
theorem cM_tries (l : Launch) (G : GT) (A : Nat → Prop) (o : Nat) (ad : Nat → Nat) : ∀ (d : Nat) (h : AH) (m : MM) (hM : RM h o ad m) (hw : WFa m) (ah s0 t en : Int32) (size sn : Nat) (hah : vp_in ah 6) (hsn : sn < 64) (hu : unv sn < d) (hz : size + unv sn ≤ 5), cmV l G A yX11_tries cX11_tries 9 (d + 2) (28 * d + 50) 0 0 [.ref (o), .int (ah), .int (nI size), .int (s0), .int (t), .int (en), .int (nI sn)] h (fun h' => RM h' o ad (triesF d en m ah s0 t size (nI sn))) := by
  intro d
  induction d with
  | zero => intro h m hM hw ah s0 t en size sn hah hsn hu; exact absurd hu (Nat.not_lt_zero _)
  | succ d ihd =>
    intro h m hM hw ah s0 t en size sn hah hsn hu hz
    refine cm_of "RoutepostModel" rfl (by decide) (Nat.le_of_ble_eq_true rfl) ?_
    intro pr e s m9 below meth c C0 hr hname hH ls hl
    obtain ⟨hx, hb, hml, hown, hts, hK, hA, -⟩ := id C0
    have hl : lv_has ls 9 [(0, .ref (o)), (1, .int (ah)), (2, .int (nI size)), (3, .int (s0)), (4, .int (t)), (5, .int (en)), (6, .int (nI sn))] := hl
    have hnl := hw.nl
    have hnh := hw.nh
    refine lv_iload_n hx hb dX11_tries_0 rfl (lv_at hl 1 rfl) ?_
    refine lv_iload hx hb dX11_tries_1 (lv_at hl 5 rfl) ?_
    refine lv_icmp_ne (tgt := 80) hx hb dX11_tries_3 (by decide) (fun c3_1 => ?_) (fun c3_1 => ?_)
    · have hne := c3_1
      refine lv_iconst (v := 0) hx hb dX11_tries_80 (by decide) ?_
      refine lv_istore (lv' := [(7, .int (0)), (0, .ref (o)), (1, .int (ah)), (2, .int (nI size)), (3, .int (s0)), (4, .int (t)), (5, .int (en)), (6, .int (nI sn))]) hx hb dX11_tries_81 hl (by decide) rfl (fun ls hl => ?_)
      have K : ∀ (k i : Nat) (M : MM), i + k = nlN m → trL (fun m' a' s' t' sz' sn' => triesF d en m' a' s' t' sz'.toNatClampNeg sn') ah size s0 t (nI sn) k i M = trL (fun m' a' s' t' sz' sn' => triesF d en m' a' s' t' sz'.toNatClampNeg sn') ah size s0 t (nI sn) (nlN m) 0 m → WFa M → nlN M = nlN m → ∀ (h : AH) (H : Heap) (locs : List Loc) (hH : HS G.1 G.2.1 A s.heap h H locs) (hM : RM h o ad M) (ls : Array Slot), lv_has ls 9 [(7, .int (nI i)), (0, .ref (o)), (1, .int (ah)), (2, .int (nI size)), (3, .int (s0)), (4, .int (t)), (5, .int (en)), (6, .int (nI sn))] → W pr l e (rmm (d + 1 + 2) (28 * (d + 1) + 50) 0 0) s m9 ([.ref (o), .int (ah), .int (nI size), .int (s0), .int (t), .int (en), .int (nI sn)] : List Value).toArray below meth c H locs 0 0 (QV below G A (fun h' => RM h' o ad (triesF (d + 1) en m ah s0 t size (nI sn))) ([.ref (o), .int (ah), .int (nI size), .int (s0), .int (t), .int (en), .int (nI sn)] : List Value).toArray s 0 0) (F0 m9 83 ls []) := by
        intro k
        induction k with
        | zero =>
          intro i M hik hT hwM hnM h H locs hH hM ls hl
          have hB : M 38 0 = nI (nlN m) := by rw [← hnM]; exact hwM.nl.1
          refine lv_iload hx hb dX11_tries_83 (lv_at hl 0 rfl) ?_
          refine lv_aload_n hx hb dX11_tries_85 rfl (lv_at hl 1 rfl) ?_
          refine m_int C0 hH hM 38 (by decide) (by decide) fl_X11_137 (v := M 38 0) rfl dX11_tries_86 ?_
          refine lv_icmp_ge (tgt := 205) hx hb dX11_tries_89 (by decide) (fun c89_2 => ?_) (fun c89_2 => ?_)
          · have eM : (triesF (d + 1) en m ah s0 t size (nI sn)) = M := by unfold triesF; rw [if_neg hne]; exact hT.symm
            exact e_V C0 hr hH (by rw [eM]; exact hM) (Nat.le_refl _) (Nat.le_refl _) dX11_tries_205
          · exact absurd (by rw [hB]; exact nI_le (by omega) (by omega)) c89_2
        | succ k ih =>
          intro i M hik hT hwM hnM h H locs hH hM ls hl
          have hB : M 38 0 = nI (nlN m) := by rw [← hnM]; exact hwM.nl.1
          refine lv_iload hx hb dX11_tries_83 (lv_at hl 0 rfl) ?_
          refine lv_aload_n hx hb dX11_tries_85 rfl (lv_at hl 1 rfl) ?_
          refine m_int C0 hH hM 38 (by decide) (by decide) fl_X11_137 (v := M 38 0) rfl dX11_tries_86 ?_
          refine lv_icmp_ge (tgt := 205) hx hb dX11_tries_89 (by decide) (fun c89_3 => ?_) (fun c89_3 => ?_)
          · exact absurd c89_3 (by rw [hB]; exact nI_ge (by omega) (by omega))
          · have hi : i < nlN M := by omega
            have h6 := hwM.to6 hi
            have hl5 := (hwM.ln hi).2.2.1
            refine lv_aload_n hx hb dX11_tries_92 rfl (lv_at hl 1 rfl) ?_
            refine m_arr C0 hH hM 9 (by decide) fl_X11_37 dX11_tries_93 ?_
            refine lv_iload hx hb dX11_tries_96 (lv_at hl 0 rfl) ?_
            refine m_ldZ C0 hH hM 9 (by decide) rfl (n := 12) rfl (ix := i) (nI_clamp (by omega)) (by first | assumption | exact vp_in_nI (by omega) (by omega)) (v := M 9 i) rfl dX11_tries_98 ?_
            refine lv_if_ne (tgt := 199) hx hb dX11_tries_99 (by decide) (fun c99_4 => ?_) (fun c99_4 => ?_)
            · refine lv_iinc (v := nI (i + 1)) (lv' := [(7, .int (nI (i + 1))), (0, .ref (o)), (1, .int (ah)), (2, .int (nI size)), (3, .int (s0)), (4, .int (t)), (5, .int (en)), (6, .int (nI sn))]) hx hb dX11_tries_199 hl (k := 0) rfl (by rw [← nI_1]; rfl) (by decide) rfl (fun ls hl => ?_)
              refine lv_goto (tgt := 83) hx hb dX11_tries_202 (by decide) ?_
              exact ih (i + 1) M (by omega) (by rw [← hT]; simp [trL, goes, c89_3, Int32.not_le.mp c89_3, eq_false c99_4]) hwM hnM _ _ _ hH hM ls (lv_sub hl [0, 1, 2, 3, 4, 5, 6, 7] rfl)
            · refine lv_aload_n hx hb dX11_tries_102 rfl (lv_at hl 1 rfl) ?_
              refine m_arr C0 hH hM 2 (by decide) fl_X11_16 dX11_tries_103 ?_
              refine lv_iload hx hb dX11_tries_106 (lv_at hl 0 rfl) ?_
              refine m_ldI C0 hH hM 2 (by decide) rfl (n := 12) rfl (ix := i) (nI_clamp (by omega)) (by first | assumption | exact vp_in_nI (by omega) (by omega)) (v := M 2 i) rfl dX11_tries_108 ?_
              refine lv_iload_n hx hb dX11_tries_109 rfl (lv_at hl 2 rfl) ?_
              refine lv_icmp_ne (tgt := 199) hx hb dX11_tries_110 (by decide) (fun c110_5 => ?_) (fun c110_5 => ?_)
              · refine lv_iinc (v := nI (i + 1)) (lv' := [(7, .int (nI (i + 1))), (0, .ref (o)), (1, .int (ah)), (2, .int (nI size)), (3, .int (s0)), (4, .int (t)), (5, .int (en)), (6, .int (nI sn))]) hx hb dX11_tries_199 hl (k := 0) rfl (by rw [← nI_1]; rfl) (by decide) rfl (fun ls hl => ?_)
                refine lv_goto (tgt := 83) hx hb dX11_tries_202 (by decide) ?_
                exact ih (i + 1) M (by omega) (by rw [← hT]; simp [trL, goes, c89_3, Int32.not_le.mp c89_3, eq_true c99_4, eq_false c110_5]) hwM hnM _ _ _ hH hM ls (lv_sub hl [0, 1, 2, 3, 4, 5, 6, 7] rfl)
              · refine lv_iload hx hb dX11_tries_113 (lv_at hl 7 rfl) ?_
                refine lv_aload_n hx hb dX11_tries_115 rfl (lv_at hl 1 rfl) ?_
                refine m_arr C0 hH hM 3 (by decide) fl_X11_19 dX11_tries_116 ?_
                refine lv_iload hx hb dX11_tries_119 (lv_at hl 0 rfl) ?_
                refine m_ldI C0 hH hM 3 (by decide) rfl (n := 12) rfl (ix := i) (nI_clamp (by omega)) (by first | assumption | exact vp_in_nI (by omega) (by omega)) (v := M 3 i) rfl dX11_tries_121 ?_
                refine lv_ishr hx hb dX11_tries_122 ?_
                refine lv_iconst (v := 1) hx hb dX11_tries_123 (by decide) ?_
                refine lv_iand hx hb dX11_tries_124 ?_
                refine lv_if_ne (tgt := 199) hx hb dX11_tries_125 (by decide) (fun c125_6 => ?_) (fun c125_6 => ?_)
                · refine lv_iinc (v := nI (i + 1)) (lv' := [(7, .int (nI (i + 1))), (0, .ref (o)), (1, .int (ah)), (2, .int (nI size)), (3, .int (s0)), (4, .int (t)), (5, .int (en)), (6, .int (nI sn))]) hx hb dX11_tries_199 hl (k := 0) rfl (by rw [← nI_1]; rfl) (by decide) rfl (fun ls hl => ?_)
                  refine lv_goto (tgt := 83) hx hb dX11_tries_202 (by decide) ?_
                  exact ih (i + 1) M (by omega) (by rw [← hT]; simp [trL, goes, c89_3, Int32.not_le.mp c89_3, eq_true c99_4, eq_true c110_5, eq_false c125_6]) hwM hnM _ _ _ hH hM ls (lv_sub hl [0, 1, 2, 3, 4, 5, 6, 7] rfl)
                · refine lv_aload_n hx hb dX11_tries_128 rfl (lv_at hl 1 rfl) ?_
                  refine m_arr C0 hH hM 32 (by decide) fl_X11_108 dX11_tries_129 ?_
                  refine lv_iload_n hx hb dX11_tries_132 rfl (lv_at hl 3 rfl) ?_
                  refine lv_iload hx hb dX11_tries_133 (lv_at hl 0 rfl) ?_
                  refine m_stI C0 hH hM 32 (by decide) rfl (n := 6) rfl (ix := size) (nI_clamp (by omega)) (vp_in_nI (by omega) (by omega)) dX11_tries_135 (fun h H locs hH hM => ?_)
                  refine lv_aload_n hx hb dX11_tries_136 rfl (lv_at hl 1 rfl) ?_
                  refine lv_iload hx hb dX11_tries_137 (lv_at hl 0 rfl) ?_
                  refine lv_iload hx hb dX11_tries_139 (lv_at hl 5 rfl) ?_
                  refine lv_iconst (v := 1) hx hb dX11_tries_141 (by decide) ?_
                  refine lv_iadd hx hb dX11_tries_142 ?_
                  refine lv_iload_n hx hb dX11_tries_143 rfl (lv_at hl 4 rfl) ?_
                  refine lv_aload_n hx hb dX11_tries_144 rfl (lv_at hl 1 rfl) ?_
                  refine m_arr C0 hH hM 1 (by decide) fl_X11_13 dX11_tries_145 ?_
                  refine lv_iload_n hx hb dX11_tries_148 rfl (lv_at hl 2 rfl) ?_
                  refine m_ldI C0 hH hM 1 (by decide) rfl (n := 6) rfl (ix := ah.toNatClampNeg) rfl hah (v := M 1 ah.toNatClampNeg) rfl dX11_tries_149 ?_
                  refine lv_iadd hx hb dX11_tries_150 ?_
                  refine o_mmax C0 ml_X11_160 hl.1 dX11_tries_151 (by show 1 ≤ d + 1 + 2; omega) (by show 2 + 13 ≤ 28 * (d + 1) + 50; omega) ⟨Nat.le_refl _, Nat.le_refl _⟩ ?_
                  refine k_i hH (k_runV (rest := []) C0 hH (cM_leaves l G A _ o ad (up M 32 size (nI i)) hM i (mx (t + 1) (s0 + (M 1 ah.toNatClampNeg))) (WFa.upx hwM (by unfold kWF; omega)) hi) mv_X11_leaves ml_X11_166 ci_15 hM.1 rfl ⟨by show 0 + 1 ≤ d + 1 + 2; omega, by show 8 + (4 + 11) + 0 ≤ 28 * (d + 1) + 50; omega⟩ hl.1 rfl (Nat.le_of_ble_eq_true rfl) dX11_tries_154 (by simp)) (fun r_7 h1 H locs hp hH => ?_)
                  obtain ⟨er_7, eh⟩ := hp
                  rw [eh] at hH
                  clear eh
                  replace er_7 : r_7 = lvs M i (mx (t + 1) (s0 + (M 1 ah.toNatClampNeg))) := er_7
                  subst er_7
                  refine lv_aload_n hx hb dX11_tries_157 rfl (lv_at hl 1 rfl) ?_
                  refine m_arr C0 hH hM 6 (by decide) fl_X11_28 dX11_tries_158 ?_
                  refine lv_iload hx hb dX11_tries_161 (lv_at hl 0 rfl) ?_
                  refine m_ldI C0 hH hM 6 (by decide) rfl (n := 12) rfl (ix := i) (nI_clamp (by omega)) (by first | assumption | exact vp_in_nI (by omega) (by omega)) (v := M 6 i) rfl dX11_tries_163 ?_
                  refine lv_iadd hx hb dX11_tries_164 ?_
                  refine lv_istore (lv' := [(8, .int (thereT M i ah s0 t)), (7, .int (nI i)), (0, .ref (o)), (1, .int (ah)), (2, .int (nI size)), (3, .int (s0)), (4, .int (t)), (5, .int (en)), (6, .int (nI sn))]) hx hb dX11_tries_165 hl (by decide) rfl (fun ls hl => ?_)
                  refine lv_aload_n hx hb dX11_tries_167 rfl (lv_at hl 2 rfl) ?_
                  refine lv_aload_n hx hb dX11_tries_168 rfl (lv_at hl 2 rfl) ?_
                  refine m_arr C0 hH hM 3 (by decide) fl_X11_19 dX11_tries_169 ?_
                  refine lv_iload hx hb dX11_tries_172 (lv_at hl 1 rfl) ?_
                  refine m_ldI C0 hH hM 3 (by decide) rfl (n := 12) rfl (ix := i) (nI_clamp (by omega)) (by first | assumption | exact vp_in_nI (by omega) (by omega)) (v := M 3 i) rfl dX11_tries_174 ?_
                  refine lv_iload_n hx hb dX11_tries_175 rfl (lv_at hl 4 rfl) ?_
                  refine lv_iconst (v := 1) hx hb dX11_tries_176 (by decide) ?_
                  refine lv_iadd hx hb dX11_tries_177 ?_
                  refine lv_topi (fun x9 ex9 => ?_)
                  rw [nI_1] at ex9
                  subst ex9
                  refine lv_iload hx hb dX11_tries_178 (lv_at hl 0 rfl) ?_
                  refine lv_iload hx hb dX11_tries_180 (lv_at hl 0 rfl) ?_
                  refine lv_iload hx hb dX11_tries_182 (lv_at hl 7 rfl) ?_
                  refine lv_iload hx hb dX11_tries_184 (lv_at hl 8 rfl) ?_
                  refine lv_iconst (v := 1) hx hb dX11_tries_186 (by decide) ?_
                  refine lv_aload_n hx hb dX11_tries_187 rfl (lv_at hl 2 rfl) ?_
                  refine m_arr C0 hH hM 3 (by decide) fl_X11_19 dX11_tries_188 ?_
                  refine lv_iload hx hb dX11_tries_191 (lv_at hl 1 rfl) ?_
                  refine m_ldI C0 hH hM 3 (by decide) rfl (n := 12) rfl (ix := i) (nI_clamp (by omega)) (by first | assumption | exact vp_in_nI (by omega) (by omega)) (v := M 3 i) rfl dX11_tries_193 ?_
                  refine lv_ishl hx hb dX11_tries_194 ?_
                  refine lv_ior hx hb dX11_tries_195 ?_
                  have hus := unv_step hsn h6 c125_6
                  rw [hus.1]
                  refine k_v hH (k_runV (rest := []) C0 hH (ihd h (up M 32 size (nI i)) hM (WFa.upx hwM (by unfold kWF; omega)) (M 3 i) (thereT M i ah s0 t) (thereT M i ah s0 t) en (size + 1) (sn ||| 2 ^ (M 3 i).toNatClampNeg) h6 hus.2.1 (by omega) (by omega)) mv_X11_tries ml_X11_169 ci_15 hM.1 rfl ⟨by show (d + 2) + 1 ≤ d + 1 + 2; omega, by show 8 + (9 + 11) + (28 * d + 50) ≤ 28 * (d + 1) + 50; omega⟩ hl.1 rfl (Nat.le_of_ble_eq_true rfl) dX11_tries_196 (by simp)) (fun h H locs hp hH => ?_)
                  have hM := hp
                  rw [← hus.1] at hM
                  refine lv_iinc (v := nI (i + 1)) (lv' := [(7, .int (nI (i + 1))), (8, .int (thereT M i ah s0 t)), (0, .ref (o)), (1, .int (ah)), (2, .int (nI size)), (3, .int (s0)), (4, .int (t)), (5, .int (en)), (6, .int (nI sn))]) hx hb dX11_tries_199 hl (k := 1) rfl (by rw [← nI_1]; rfl) (by decide) rfl (fun ls hl => ?_)
                  refine lv_goto (tgt := 83) hx hb dX11_tries_202 (by decide) ?_
                  exact ih (i + 1) (triesF d en (up M 32 size (nI i)) (M 3 i) (thereT M i ah s0 t) (thereT M i ah s0 t) (size + 1) (nI sn ||| (1 <<< (M 3 i &&& 31)))) (by omega) (by rw [← hT]; simp [trL, goes, c89_3, Int32.not_le.mp c89_3, eq_true c99_4, eq_true c110_5, eq_true c125_6, thereT, nI_clamp (show size + 1 < 2 ^ 31 by omega)]) (WFa.triesF (WFa.upx hwM (by unfold kWF; omega)) _ _ _ _ _ _ _) (by rw [nlN_ext (triesF_key _ _ _ _ _ _ _ _ (by unfold kTry; omega))]; exact hnM) _ _ _ hH hM ls (lv_sub hl [0, 2, 3, 4, 5, 6, 7, 8] rfl)
      exact K (nlN m) 0 m (by omega) (rfl) hw rfl _ _ _ hH hM ls (lv_sub hl [0, 1, 2, 3, 4, 5, 6, 7] rfl)
    · have heq := c3_1
      refine lv_aload_n hx hb dX11_tries_6 rfl (lv_at hl 0 rfl) ?_
      refine m_int C0 hH hM 42 (by decide) (by decide) fl_X11_154 (v := m 42 0) rfl dX11_tries_7 ?_
      refine lv_if_lt (tgt := 39) hx hb dX11_tries_10 (by decide) (fun c10_8 => ?_) (fun c10_8 => ?_)
      · refine lv_aload_n hx hb dX11_tries_39 rfl (lv_at hl 0 rfl) ?_
        refine lv_iload hx hb dX11_tries_40 (lv_at hl 4 rfl) ?_
        refine m_put C0 hH hM 42 (by decide) (by decide) fl_X11_154 dX11_tries_42 (fun h H locs hH hM => ?_)
        refine lv_aload_n hx hb dX11_tries_45 rfl (lv_at hl 0 rfl) ?_
        refine lv_iload_n hx hb dX11_tries_46 rfl (lv_at hl 2 rfl) ?_
        refine m_put C0 hH hM 43 (by decide) (by decide) fl_X11_157 dX11_tries_47 (fun h H locs hH hM => ?_)
        refine lv_iconst (v := 0) hx hb dX11_tries_50 (by decide) ?_
        refine lv_istore (lv' := [(7, .int (0)), (0, .ref (o)), (1, .int (ah)), (2, .int (nI size)), (3, .int (s0)), (4, .int (t)), (5, .int (en)), (6, .int (nI sn))]) hx hb dX11_tries_51 hl (by decide) rfl (fun ls hl => ?_)
        have hbet : bet m t (nI size) := by simp [bet, eq_true c3_1, c10_8, Int32.not_le.mpr c10_8]
        have K : ∀ (k i : Nat) , i + k = size → i ≤ size → ∀ (h : AH) (H : Heap) (locs : List Loc) (hH : HS G.1 G.2.1 A s.heap h H locs) (hM : RM h o ad (cpW i (up (up m 42 0 t) 43 0 (nI size)))) (ls : Array Slot), lv_has ls 9 [(7, .int (nI i)), (0, .ref (o)), (2, .int (nI size))] → W pr l e (rmm (d + 1 + 2) (28 * (d + 1) + 50) 0 0) s m9 ([.ref (o), .int (ah), .int (nI size), .int (s0), .int (t), .int (en), .int (nI sn)] : List Value).toArray below meth c H locs 0 0 (QV below G A (fun h' => RM h' o ad (triesF (d + 1) en m ah s0 t size (nI sn))) ([.ref (o), .int (ah), .int (nI size), .int (s0), .int (t), .int (en), .int (nI sn)] : List Value).toArray s 0 0) (F0 m9 53 ls []) := by
          intro k
          induction k with
          | zero =>
            intro i  hik hT  h H locs hH hM ls hl
            refine lv_iload hx hb dX11_tries_53 (lv_at hl 0 rfl) ?_
            refine lv_iload_n hx hb dX11_tries_55 rfl (lv_at hl 2 rfl) ?_
            refine lv_icmp_ge (tgt := 79) hx hb dX11_tries_56 (by decide) (fun c56_9 => ?_) (fun c56_9 => ?_)
            · have eM : (triesF (d + 1) en m ah s0 t size (nI sn)) = (cpW i (up (up m 42 0 t) 43 0 (nI size))) := by rw [show i = size from by omega]; unfold triesF; rw [if_pos heq, if_pos hbet]
              exact e_V C0 hr hH (by rw [eM]; exact hM) (Nat.le_refl _) (Nat.le_refl _) dX11_tries_79
            · exact absurd (by rw [(rfl : nI size = nI size)]; exact nI_le (by omega) (by omega)) c56_9
          | succ k ih =>
            intro i  hik hT  h H locs hH hM ls hl
            refine lv_iload hx hb dX11_tries_53 (lv_at hl 0 rfl) ?_
            refine lv_iload_n hx hb dX11_tries_55 rfl (lv_at hl 2 rfl) ?_
            refine lv_icmp_ge (tgt := 79) hx hb dX11_tries_56 (by decide) (fun c56_10 => ?_) (fun c56_10 => ?_)
            · exact absurd c56_10 (by rw [(rfl : nI size = nI size)]; exact nI_ge (by omega) (by omega))
            · refine lv_aload_n hx hb dX11_tries_59 rfl (lv_at hl 1 rfl) ?_
              refine m_arr C0 hH hM 33 (by decide) fl_X11_111 dX11_tries_60 ?_
              refine lv_iload hx hb dX11_tries_63 (lv_at hl 0 rfl) ?_
              refine lv_aload_n hx hb dX11_tries_65 rfl (lv_at hl 1 rfl) ?_
              refine m_arr C0 hH hM 32 (by decide) fl_X11_108 dX11_tries_66 ?_
              refine lv_iload hx hb dX11_tries_69 (lv_at hl 0 rfl) ?_
              refine m_ldI C0 hH hM 32 (by decide) rfl (n := 6) rfl (ix := i) (nI_clamp (by omega)) (by first | assumption | exact vp_in_nI (by omega) (by omega)) (v := (cpW i (up (up m 42 0 t) 43 0 (nI size))) 32 i) rfl dX11_tries_71 ?_
              refine m_stI C0 hH hM 33 (by decide) rfl (n := 6) rfl (ix := i) (nI_clamp (by omega)) (by first | assumption | exact vp_in_nI (by omega) (by omega)) dX11_tries_72 (fun h H locs hH hM => ?_)
              refine lv_iinc (v := nI (i + 1)) (lv' := [(7, .int (nI (i + 1))), (0, .ref (o)), (2, .int (nI size))]) hx hb dX11_tries_73 hl (k := 0) rfl (by rw [← nI_1]; rfl) (by decide) rfl (fun ls hl => ?_)
              refine lv_goto (tgt := 53) hx hb dX11_tries_76 (by decide) ?_
              exact ih (i + 1)  (by omega) (by omega)  _ _ _ hH hM ls (lv_sub hl [0, 1, 2] rfl)
        exact K (size) 0  (by omega) (by omega)  _ _ _ hH hM ls (lv_sub hl [0, 1, 3] rfl)
      · refine lv_iload hx hb dX11_tries_13 (lv_at hl 4 rfl) ?_
        refine lv_aload_n hx hb dX11_tries_15 rfl (lv_at hl 0 rfl) ?_
        refine m_int C0 hH hM 42 (by decide) (by decide) fl_X11_154 (v := m 42 0) rfl dX11_tries_16 ?_
        refine lv_icmp_lt (tgt := 39) hx hb dX11_tries_19 (by decide) (fun c19_11 => ?_) (fun c19_11 => ?_)
        · refine lv_aload_n hx hb dX11_tries_39 rfl (lv_at hl 0 rfl) ?_
          refine lv_iload hx hb dX11_tries_40 (lv_at hl 4 rfl) ?_
          refine m_put C0 hH hM 42 (by decide) (by decide) fl_X11_154 dX11_tries_42 (fun h H locs hH hM => ?_)
          refine lv_aload_n hx hb dX11_tries_45 rfl (lv_at hl 0 rfl) ?_
          refine lv_iload_n hx hb dX11_tries_46 rfl (lv_at hl 2 rfl) ?_
          refine m_put C0 hH hM 43 (by decide) (by decide) fl_X11_157 dX11_tries_47 (fun h H locs hH hM => ?_)
          refine lv_iconst (v := 0) hx hb dX11_tries_50 (by decide) ?_
          refine lv_istore (lv' := [(7, .int (0)), (0, .ref (o)), (1, .int (ah)), (2, .int (nI size)), (3, .int (s0)), (4, .int (t)), (5, .int (en)), (6, .int (nI sn))]) hx hb dX11_tries_51 hl (by decide) rfl (fun ls hl => ?_)
          have hbet : bet m t (nI size) := by simp [bet, eq_true c3_1, c10_8, Int32.not_lt.mp c10_8, c19_11, Int32.not_le.mpr c19_11]
          have K : ∀ (k i : Nat) , i + k = size → i ≤ size → ∀ (h : AH) (H : Heap) (locs : List Loc) (hH : HS G.1 G.2.1 A s.heap h H locs) (hM : RM h o ad (cpW i (up (up m 42 0 t) 43 0 (nI size)))) (ls : Array Slot), lv_has ls 9 [(7, .int (nI i)), (0, .ref (o)), (2, .int (nI size))] → W pr l e (rmm (d + 1 + 2) (28 * (d + 1) + 50) 0 0) s m9 ([.ref (o), .int (ah), .int (nI size), .int (s0), .int (t), .int (en), .int (nI sn)] : List Value).toArray below meth c H locs 0 0 (QV below G A (fun h' => RM h' o ad (triesF (d + 1) en m ah s0 t size (nI sn))) ([.ref (o), .int (ah), .int (nI size), .int (s0), .int (t), .int (en), .int (nI sn)] : List Value).toArray s 0 0) (F0 m9 53 ls []) := by
            intro k
            induction k with
            | zero =>
              intro i  hik hT  h H locs hH hM ls hl
              refine lv_iload hx hb dX11_tries_53 (lv_at hl 0 rfl) ?_
              refine lv_iload_n hx hb dX11_tries_55 rfl (lv_at hl 2 rfl) ?_
              refine lv_icmp_ge (tgt := 79) hx hb dX11_tries_56 (by decide) (fun c56_12 => ?_) (fun c56_12 => ?_)
              · have eM : (triesF (d + 1) en m ah s0 t size (nI sn)) = (cpW i (up (up m 42 0 t) 43 0 (nI size))) := by rw [show i = size from by omega]; unfold triesF; rw [if_pos heq, if_pos hbet]
                exact e_V C0 hr hH (by rw [eM]; exact hM) (Nat.le_refl _) (Nat.le_refl _) dX11_tries_79
              · exact absurd (by rw [(rfl : nI size = nI size)]; exact nI_le (by omega) (by omega)) c56_12
            | succ k ih =>
              intro i  hik hT  h H locs hH hM ls hl
              refine lv_iload hx hb dX11_tries_53 (lv_at hl 0 rfl) ?_
              refine lv_iload_n hx hb dX11_tries_55 rfl (lv_at hl 2 rfl) ?_
              refine lv_icmp_ge (tgt := 79) hx hb dX11_tries_56 (by decide) (fun c56_13 => ?_) (fun c56_13 => ?_)
              · exact absurd c56_13 (by rw [(rfl : nI size = nI size)]; exact nI_ge (by omega) (by omega))
              · refine lv_aload_n hx hb dX11_tries_59 rfl (lv_at hl 1 rfl) ?_
                refine m_arr C0 hH hM 33 (by decide) fl_X11_111 dX11_tries_60 ?_
                refine lv_iload hx hb dX11_tries_63 (lv_at hl 0 rfl) ?_
                refine lv_aload_n hx hb dX11_tries_65 rfl (lv_at hl 1 rfl) ?_
                refine m_arr C0 hH hM 32 (by decide) fl_X11_108 dX11_tries_66 ?_
                refine lv_iload hx hb dX11_tries_69 (lv_at hl 0 rfl) ?_
                refine m_ldI C0 hH hM 32 (by decide) rfl (n := 6) rfl (ix := i) (nI_clamp (by omega)) (by first | assumption | exact vp_in_nI (by omega) (by omega)) (v := (cpW i (up (up m 42 0 t) 43 0 (nI size))) 32 i) rfl dX11_tries_71 ?_
                refine m_stI C0 hH hM 33 (by decide) rfl (n := 6) rfl (ix := i) (nI_clamp (by omega)) (by first | assumption | exact vp_in_nI (by omega) (by omega)) dX11_tries_72 (fun h H locs hH hM => ?_)
                refine lv_iinc (v := nI (i + 1)) (lv' := [(7, .int (nI (i + 1))), (0, .ref (o)), (2, .int (nI size))]) hx hb dX11_tries_73 hl (k := 0) rfl (by rw [← nI_1]; rfl) (by decide) rfl (fun ls hl => ?_)
                refine lv_goto (tgt := 53) hx hb dX11_tries_76 (by decide) ?_
                exact ih (i + 1)  (by omega) (by omega)  _ _ _ hH hM ls (lv_sub hl [0, 1, 2] rfl)
          exact K (size) 0  (by omega) (by omega)  _ _ _ hH hM ls (lv_sub hl [0, 1, 3] rfl)
        · refine lv_iload hx hb dX11_tries_22 (lv_at hl 4 rfl) ?_
          refine lv_aload_n hx hb dX11_tries_24 rfl (lv_at hl 0 rfl) ?_
          refine m_int C0 hH hM 42 (by decide) (by decide) fl_X11_154 (v := m 42 0) rfl dX11_tries_25 ?_
          refine lv_icmp_ne (tgt := 79) hx hb dX11_tries_28 (by decide) (fun c28_14 => ?_) (fun c28_14 => ?_)
          · have eM : (triesF (d + 1) en m ah s0 t size (nI sn)) = m := by unfold triesF; rw [if_pos heq, if_neg (by simp [bet, eq_true c3_1, c10_8, Int32.not_lt.mp c10_8, c19_11, Int32.not_lt.mp c19_11, eq_false c28_14])]
            exact e_V C0 hr hH (by rw [eM]; exact hM) (Nat.le_refl _) (Nat.le_refl _) dX11_tries_79
          · refine lv_iload_n hx hb dX11_tries_31 rfl (lv_at hl 2 rfl) ?_
            refine lv_aload_n hx hb dX11_tries_32 rfl (lv_at hl 0 rfl) ?_
            refine m_int C0 hH hM 43 (by decide) (by decide) fl_X11_157 (v := m 43 0) rfl dX11_tries_33 ?_
            refine lv_icmp_ge (tgt := 79) hx hb dX11_tries_36 (by decide) (fun c36_15 => ?_) (fun c36_15 => ?_)
            · have eM : (triesF (d + 1) en m ah s0 t size (nI sn)) = m := by unfold triesF; rw [if_pos heq, if_neg (by simp [bet, eq_true c3_1, c10_8, Int32.not_lt.mp c10_8, c19_11, Int32.not_lt.mp c19_11, eq_true c28_14, c36_15, Int32.not_lt.mpr c36_15])]
              exact e_V C0 hr hH (by rw [eM]; exact hM) (Nat.le_refl _) (Nat.le_refl _) dX11_tries_79
            · refine lv_aload_n hx hb dX11_tries_39 rfl (lv_at hl 0 rfl) ?_
              refine lv_iload hx hb dX11_tries_40 (lv_at hl 4 rfl) ?_
              refine m_put C0 hH hM 42 (by decide) (by decide) fl_X11_154 dX11_tries_42 (fun h H locs hH hM => ?_)
              refine lv_aload_n hx hb dX11_tries_45 rfl (lv_at hl 0 rfl) ?_
              refine lv_iload_n hx hb dX11_tries_46 rfl (lv_at hl 2 rfl) ?_
              refine m_put C0 hH hM 43 (by decide) (by decide) fl_X11_157 dX11_tries_47 (fun h H locs hH hM => ?_)
              refine lv_iconst (v := 0) hx hb dX11_tries_50 (by decide) ?_
              refine lv_istore (lv' := [(7, .int (0)), (0, .ref (o)), (1, .int (ah)), (2, .int (nI size)), (3, .int (s0)), (4, .int (t)), (5, .int (en)), (6, .int (nI sn))]) hx hb dX11_tries_51 hl (by decide) rfl (fun ls hl => ?_)
              have hbet : bet m t (nI size) := by simp [bet, eq_true c3_1, c10_8, Int32.not_lt.mp c10_8, c19_11, Int32.not_lt.mp c19_11, eq_true c28_14, c36_15, Int32.not_le.mp c36_15]
              have K : ∀ (k i : Nat) , i + k = size → i ≤ size → ∀ (h : AH) (H : Heap) (locs : List Loc) (hH : HS G.1 G.2.1 A s.heap h H locs) (hM : RM h o ad (cpW i (up (up m 42 0 t) 43 0 (nI size)))) (ls : Array Slot), lv_has ls 9 [(7, .int (nI i)), (0, .ref (o)), (2, .int (nI size))] → W pr l e (rmm (d + 1 + 2) (28 * (d + 1) + 50) 0 0) s m9 ([.ref (o), .int (ah), .int (nI size), .int (s0), .int (t), .int (en), .int (nI sn)] : List Value).toArray below meth c H locs 0 0 (QV below G A (fun h' => RM h' o ad (triesF (d + 1) en m ah s0 t size (nI sn))) ([.ref (o), .int (ah), .int (nI size), .int (s0), .int (t), .int (en), .int (nI sn)] : List Value).toArray s 0 0) (F0 m9 53 ls []) := by
                intro k
                induction k with
                | zero =>
                  intro i  hik hT  h H locs hH hM ls hl
                  refine lv_iload hx hb dX11_tries_53 (lv_at hl 0 rfl) ?_
                  refine lv_iload_n hx hb dX11_tries_55 rfl (lv_at hl 2 rfl) ?_
                  refine lv_icmp_ge (tgt := 79) hx hb dX11_tries_56 (by decide) (fun c56_16 => ?_) (fun c56_16 => ?_)
                  · have eM : (triesF (d + 1) en m ah s0 t size (nI sn)) = (cpW i (up (up m 42 0 t) 43 0 (nI size))) := by rw [show i = size from by omega]; unfold triesF; rw [if_pos heq, if_pos hbet]
                    exact e_V C0 hr hH (by rw [eM]; exact hM) (Nat.le_refl _) (Nat.le_refl _) dX11_tries_79
                  · exact absurd (by rw [(rfl : nI size = nI size)]; exact nI_le (by omega) (by omega)) c56_16
                | succ k ih =>
                  intro i  hik hT  h H locs hH hM ls hl
                  refine lv_iload hx hb dX11_tries_53 (lv_at hl 0 rfl) ?_
                  refine lv_iload_n hx hb dX11_tries_55 rfl (lv_at hl 2 rfl) ?_
                  refine lv_icmp_ge (tgt := 79) hx hb dX11_tries_56 (by decide) (fun c56_17 => ?_) (fun c56_17 => ?_)
                  · exact absurd c56_17 (by rw [(rfl : nI size = nI size)]; exact nI_ge (by omega) (by omega))
                  · refine lv_aload_n hx hb dX11_tries_59 rfl (lv_at hl 1 rfl) ?_
                    refine m_arr C0 hH hM 33 (by decide) fl_X11_111 dX11_tries_60 ?_
                    refine lv_iload hx hb dX11_tries_63 (lv_at hl 0 rfl) ?_
                    refine lv_aload_n hx hb dX11_tries_65 rfl (lv_at hl 1 rfl) ?_
                    refine m_arr C0 hH hM 32 (by decide) fl_X11_108 dX11_tries_66 ?_
                    refine lv_iload hx hb dX11_tries_69 (lv_at hl 0 rfl) ?_
                    refine m_ldI C0 hH hM 32 (by decide) rfl (n := 6) rfl (ix := i) (nI_clamp (by omega)) (by first | assumption | exact vp_in_nI (by omega) (by omega)) (v := (cpW i (up (up m 42 0 t) 43 0 (nI size))) 32 i) rfl dX11_tries_71 ?_
                    refine m_stI C0 hH hM 33 (by decide) rfl (n := 6) rfl (ix := i) (nI_clamp (by omega)) (by first | assumption | exact vp_in_nI (by omega) (by omega)) dX11_tries_72 (fun h H locs hH hM => ?_)
                    refine lv_iinc (v := nI (i + 1)) (lv' := [(7, .int (nI (i + 1))), (0, .ref (o)), (2, .int (nI size))]) hx hb dX11_tries_73 hl (k := 0) rfl (by rw [← nI_1]; rfl) (by decide) rfl (fun ls hl => ?_)
                    refine lv_goto (tgt := 53) hx hb dX11_tries_76 (by decide) ?_
                    exact ih (i + 1)  (by omega) (by omega)  _ _ _ hH hM ls (lv_sub hl [0, 1, 2] rfl)
              exact K (size) 0  (by omega) (by omega)  _ _ _ hH hM ls (lv_sub hl [0, 1, 3] rfl)
