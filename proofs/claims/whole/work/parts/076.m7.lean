set_option maxHeartbeats 4000000 in
set_option maxRecDepth 100000 in
theorem cM_happens (l : Launch) (G : GT) (A : Nat → Prop) (h : AH) (o : Nat) (ad : Nat → Nat) (m : MM) (hM : RM h o ad m) (p : Nat) (kind li : Int32) (hw : WFa m) (hp : p < npN m) (hU : logN m < 2 ^ 21) : cmV l G A yX11_happens cX11_happens 6 0 0 (uC (fHap m p kind li) - uC m) (uS (fHap m p kind li) - uS m) [.ref (o), .int (nI p), .int (kind), .int (li)] h (fun h' => ∃ ad', RM h' o ad' (fHap m p kind li)) := by
  refine cm_of "RoutepostModel" rfl (by decide) (Nat.le_of_ble_eq_true rfl) ?_
  intro pr e s m9 below meth c C0 hr hname hH ls hl
  obtain ⟨hx, hb, hml, hown, hts, hK, hA, -⟩ := id C0
  have hl : lv_has ls 6 [(0, .ref (o)), (1, .int (nI p)), (2, .int (kind)), (3, .int (li))] := hl
  have hnp := hw.np
  have hlg := hw.lg
  have hB := hlg.1
  have hro := fHap0_room hw
  have hc4 := hap_c hw
  have hUL := hap_LB hw
  obtain ⟨M, hMe⟩ : ∃ z, z = fHap0 m := ⟨_, rfl⟩
  have e40 : M 40 = m 40 := by rw [hMe]; exact fHap0_key m (by decide) (by decide)
  have hix : ∀ {k : Nat}, k < 4 → (M 40 0 + nI k).toNatClampNeg = (M 40 0).toNatClampNeg + k ∧ vp_in (M 40 0 + nI k) (LLm M) := by intro k hk; rw [e40, hMe]; exact hap_ix hw hk
  have hix0 : vp_in (M 40 0) (LLm M) := by rw [e40, hMe]; exact hap_ix0 hw
  have J : ∀ (ad : Nat → Nat) (h : AH) (H : Heap) (locs : List Loc) (cells slots : Nat), cells ≤ uC (fHap m p kind li) - uC m → slots ≤ uS (fHap m p kind li) - uS m → HS G.1 G.2.1 A s.heap h H locs → RM h o ad M → ∀ (ls : Array Slot), lv_has ls 6 [(0, .ref (o)), (1, .int (nI p)), (2, .int (kind)), (3, .int (li))] → W pr l e (rmm 0 0 (uC (fHap m p kind li) - uC m) (uS (fHap m p kind li) - uS m)) s m9 ([.ref (o), .int (nI p), .int (kind), .int (li)] : List Value).toArray below meth c H locs cells slots (QV below G A (fun h' => ∃ ad', RM h' o ad' (fHap m p kind li)) ([.ref (o), .int (nI p), .int (kind), .int (li)] : List Value).toArray s (uC (fHap m p kind li) - uC m) (uS (fHap m p kind li) - uS m)) (F0 m9 61 ls []) := by
    intro ad h H locs cells slots hcc hss hH hM ls hl
    refine lv_aload_n hx hb dX11_happens_61 rfl (lv_at hl 0 rfl) ?_
    refine m_arr C0 hH hM 31 (by decide) fl_X11_105 dX11_happens_62 ?_
    refine lv_aload_n hx hb dX11_happens_65 rfl (lv_at hl 0 rfl) ?_
    refine m_int C0 hH hM 40 (by decide) (by decide) fl_X11_147 (v := M 40 0) rfl dX11_happens_66 ?_
    refine lv_iload_n hx hb dX11_happens_69 rfl (lv_at hl 1 rfl) ?_
    refine m_stI C0 hH hM 31 (by decide) rfl (n := LLm M) rfl (ix := (M 40 0).toNatClampNeg) rfl hix0 dX11_happens_70 (fun h H locs hH hM => ?_)
    refine lv_aload_n hx hb dX11_happens_71 rfl (lv_at hl 0 rfl) ?_
    refine m_arr C0 hH hM 31 (by decide) fl_X11_105 dX11_happens_72 ?_
    refine lv_aload_n hx hb dX11_happens_75 rfl (lv_at hl 0 rfl) ?_
    refine m_int C0 hH hM 40 (by decide) (by decide) fl_X11_147 (v := M 40 0) rfl dX11_happens_76 ?_
    refine lv_iconst (v := 1) hx hb dX11_happens_79 (by decide) ?_
    refine lv_iadd hx hb dX11_happens_80 ?_
    refine lv_iload_n hx hb dX11_happens_81 rfl (lv_at hl 2 rfl) ?_
    refine m_stI C0 hH hM 31 (by decide) rfl (n := LLm (up M 31 ((M 40 0).toNatClampNeg) (nI p))) rfl (ix := (M 40 0).toNatClampNeg + 1) (hix (k := 1) (by decide)).1 (hix (k := 1) (by decide)).2 dX11_happens_82 (fun h H locs hH hM => ?_)
    refine lv_aload_n hx hb dX11_happens_83 rfl (lv_at hl 0 rfl) ?_
    refine m_arr C0 hH hM 31 (by decide) fl_X11_105 dX11_happens_84 ?_
    refine lv_aload_n hx hb dX11_happens_87 rfl (lv_at hl 0 rfl) ?_
    refine m_int C0 hH hM 40 (by decide) (by decide) fl_X11_147 (v := M 40 0) rfl dX11_happens_88 ?_
    refine lv_iconst (v := 2) hx hb dX11_happens_91 (by decide) ?_
    refine lv_iadd hx hb dX11_happens_92 ?_
    refine lv_aload_n hx hb dX11_happens_93 rfl (lv_at hl 0 rfl) ?_
    refine m_int C0 hH hM 41 (by decide) (by decide) fl_X11_150 (v := M 41 0) rfl dX11_happens_94 ?_
    refine m_stI C0 hH hM 31 (by decide) rfl (n := LLm (up (up M 31 ((M 40 0).toNatClampNeg) (nI p)) 31 ((M 40 0).toNatClampNeg + 1) kind)) rfl (ix := (M 40 0).toNatClampNeg + 2) (hix (k := 2) (by decide)).1 (hix (k := 2) (by decide)).2 dX11_happens_97 (fun h H locs hH hM => ?_)
    refine lv_aload_n hx hb dX11_happens_98 rfl (lv_at hl 0 rfl) ?_
    refine m_arr C0 hH hM 31 (by decide) fl_X11_105 dX11_happens_99 ?_
    refine lv_aload_n hx hb dX11_happens_102 rfl (lv_at hl 0 rfl) ?_
    refine m_int C0 hH hM 40 (by decide) (by decide) fl_X11_147 (v := M 40 0) rfl dX11_happens_103 ?_
    refine lv_iconst (v := 3) hx hb dX11_happens_106 (by decide) ?_
    refine lv_iadd hx hb dX11_happens_107 ?_
    refine lv_aload_n hx hb dX11_happens_108 rfl (lv_at hl 0 rfl) ?_
    refine m_arr C0 hH hM 15 (by decide) fl_X11_56 dX11_happens_109 ?_
    refine lv_iload_n hx hb dX11_happens_112 rfl (lv_at hl 1 rfl) ?_
    refine m_ldI C0 hH hM 15 (by decide) rfl (n := 40) rfl (ix := p) (nI_clamp (by omega)) (by first | assumption | exact vp_in_nI (by omega) (by omega)) (v := M 15 p) rfl dX11_happens_113 ?_
    refine m_stI C0 hH hM 31 (by decide) rfl (n := LLm (up (up (up M 31 ((M 40 0).toNatClampNeg) (nI p)) 31 ((M 40 0).toNatClampNeg + 1) kind) 31 ((M 40 0).toNatClampNeg + 2) (M 41 0))) rfl (ix := (M 40 0).toNatClampNeg + 3) (hix (k := 3) (by decide)).1 (hix (k := 3) (by decide)).2 dX11_happens_114 (fun h H locs hH hM => ?_)
    refine lv_aload_n hx hb dX11_happens_115 rfl (lv_at hl 0 rfl) ?_
    refine lv_dup hx hb dX11_happens_116 rfl ?_
    refine m_int C0 hH hM 40 (by decide) (by decide) fl_X11_147 (v := M 40 0) rfl dX11_happens_117 ?_
    refine lv_iconst (v := 4) hx hb dX11_happens_120 (by decide) ?_
    refine lv_iadd hx hb dX11_happens_121 ?_
    refine m_put C0 hH hM 40 (by decide) (by decide) fl_X11_147 dX11_happens_122 (fun h H locs hH hM => ?_)
    have J2 : ∀ (ls : Array Slot), lv_has ls 6 [(0, .ref (o)), (1, .int (nI p)), (2, .int (kind)), (3, .int (li))] → W pr l e (rmm 0 0 (uC (fHap m p kind li) - uC m) (uS (fHap m p kind li) - uS m)) s m9 ([.ref (o), .int (nI p), .int (kind), .int (li)] : List Value).toArray below meth c H locs cells slots (QV below G A (fun h' => ∃ ad', RM h' o ad' (fHap m p kind li)) ([.ref (o), .int (nI p), .int (kind), .int (li)] : List Value).toArray s (uC (fHap m p kind li) - uC m) (uS (fHap m p kind li) - uS m)) (F0 m9 209 ls [.int (lpos kind)]) := by
      intro ls hl
      refine lv_istore (lv' := [(4, .int (lpos kind)), (0, .ref (o)), (1, .int (nI p)), (2, .int (kind)), (3, .int (li))]) hx hb dX11_happens_209 hl (by decide) rfl (fun ls hl => ?_)
      refine lv_bipush (v := 97) hx hb dX11_happens_211 (by decide) ?_
      refine lv_aload_n hx hb dX11_happens_213 rfl (lv_at hl 1 rfl) ?_
      refine m_int C0 hH hM 41 (by decide) (by decide) fl_X11_150 (v := M 41 0) rfl dX11_happens_214 ?_
      refine lv_imul hx hb dX11_happens_217 ?_
      refine lv_bipush (v := 13) hx hb dX11_happens_218 (by decide) ?_
      refine lv_aload_n hx hb dX11_happens_220 rfl (lv_at hl 1 rfl) ?_
      refine m_arr C0 hH hM 15 (by decide) fl_X11_56 dX11_happens_221 ?_
      refine lv_iload_n hx hb dX11_happens_224 rfl (lv_at hl 2 rfl) ?_
      refine m_ldI C0 hH hM 15 (by decide) rfl (n := 40) rfl (ix := p) (nI_clamp (by omega)) (by first | assumption | exact vp_in_nI (by omega) (by omega)) (v := M 15 p) rfl dX11_happens_225 ?_
      refine lv_imul hx hb dX11_happens_226 ?_
      refine lv_iadd hx hb dX11_happens_227 ?_
      refine lv_iload hx hb dX11_happens_228 (lv_at hl 0 rfl) ?_
      refine lv_iadd hx hb dX11_happens_230 ?_
      refine lv_iload_n hx hb dX11_happens_231 rfl (lv_at hl 4 rfl) ?_
      refine lv_if_ge (tgt := 239) hx hb dX11_happens_232 (by decide) (fun c232_1 => ?_) (fun c232_1 => ?_)
      · refine lv_bipush (v := 7) hx hb dX11_happens_239 (by decide) ?_
        refine lv_iload_n hx hb dX11_happens_241 rfl (lv_at hl 4 rfl) ?_
        refine lv_imul hx hb dX11_happens_242 ?_
        refine lv_bipush (v := 7) hx hb dX11_happens_243 (by decide) ?_
        refine lv_iadd hx hb dX11_happens_245 ?_
        refine lv_iadd hx hb dX11_happens_246 ?_
        refine lv_istore (lv' := [(5, .int ((((97 * (M 41 0)) + (13 * (M 15 p))) + (lpos kind)) + ((7 * li) + 7))), (4, .int (lpos kind)), (0, .ref (o)), (1, .int (nI p)), (2, .int (kind)), (3, .int (li))]) hx hb dX11_happens_247 hl (by decide) rfl (fun ls hl => ?_)
        refine lv_aload_n hx hb dX11_happens_249 rfl (lv_at hl 2 rfl) ?_
        refine m_arr C0 hH hM 27 (by decide) fl_X11_92 dX11_happens_250 ?_
        refine lv_iload_n hx hb dX11_happens_253 rfl (lv_at hl 3 rfl) ?_
        refine lv_bipush (v := 31) hx hb dX11_happens_254 (by decide) ?_
        refine lv_aload_n hx hb dX11_happens_256 rfl (lv_at hl 2 rfl) ?_
        refine m_arr C0 hH hM 27 (by decide) fl_X11_92 dX11_happens_257 ?_
        refine lv_iload_n hx hb dX11_happens_260 rfl (lv_at hl 3 rfl) ?_
        refine m_ldI C0 hH hM 27 (by decide) rfl (n := 40) rfl (ix := p) (nI_clamp (by omega)) (by first | assumption | exact vp_in_nI (by omega) (by omega)) (v := M 27 p) rfl dX11_happens_261 ?_
        refine lv_imul hx hb dX11_happens_262 ?_
        refine lv_iload hx hb dX11_happens_263 (lv_at hl 0 rfl) ?_
        refine lv_iadd hx hb dX11_happens_265 ?_
        refine lv_ldc hx hb hown (hts _ kl_X11_153) dX11_happens_266 ?_
        refine lv_irem hx hb dX11_happens_268 (by decide) ?_
        refine m_stI C0 hH hM 27 (by decide) rfl (n := 40) rfl (ix := p) (nI_clamp (by omega)) (by first | assumption | exact vp_in_nI (by omega) (by omega)) dX11_happens_269 (fun h H locs hH hM => ?_)
        have eM : fHap m p kind li = (up (up (up (up (up (up M 31 ((M 40 0).toNatClampNeg) (nI p)) 31 ((M 40 0).toNatClampNeg + 1) kind) 31 ((M 40 0).toNatClampNeg + 2) (M 41 0)) 31 ((M 40 0).toNatClampNeg + 3) (M 15 p)) 40 0 ((M 40 0) + 4)) 27 p (((31 * (M 27 p)) + ((((97 * (M 41 0)) + (13 * (M 15 p))) + (lpos kind)) + ((7 * li) + 7))) - ((31 * (M 27 p)) + ((((97 * (M 41 0)) + (13 * (M 15 p))) + (lpos kind)) + ((7 * li) + 7))) / 1000003 * 1000003)) := by unfold fHap; rw [← hMe]; simp [fHap1, lmark, ltr, up_key, c232_1, Int32.not_lt.mpr c232_1]
        exact e_V C0 hr hH ⟨_, by rw [eM]; exact hM⟩ hcc hss dX11_happens_270
      · refine lv_iconst (v := 0) hx hb dX11_happens_235 (by decide) ?_
        refine lv_goto (tgt := 246) hx hb dX11_happens_236 (by decide) ?_
        refine lv_iadd hx hb dX11_happens_246 ?_
        refine lv_istore (lv' := [(5, .int ((((97 * (M 41 0)) + (13 * (M 15 p))) + (lpos kind)) + 0)), (4, .int (lpos kind)), (0, .ref (o)), (1, .int (nI p)), (2, .int (kind)), (3, .int (li))]) hx hb dX11_happens_247 hl (by decide) rfl (fun ls hl => ?_)
        refine lv_aload_n hx hb dX11_happens_249 rfl (lv_at hl 2 rfl) ?_
        refine m_arr C0 hH hM 27 (by decide) fl_X11_92 dX11_happens_250 ?_
        refine lv_iload_n hx hb dX11_happens_253 rfl (lv_at hl 3 rfl) ?_
        refine lv_bipush (v := 31) hx hb dX11_happens_254 (by decide) ?_
        refine lv_aload_n hx hb dX11_happens_256 rfl (lv_at hl 2 rfl) ?_
        refine m_arr C0 hH hM 27 (by decide) fl_X11_92 dX11_happens_257 ?_
        refine lv_iload_n hx hb dX11_happens_260 rfl (lv_at hl 3 rfl) ?_
        refine m_ldI C0 hH hM 27 (by decide) rfl (n := 40) rfl (ix := p) (nI_clamp (by omega)) (by first | assumption | exact vp_in_nI (by omega) (by omega)) (v := M 27 p) rfl dX11_happens_261 ?_
        refine lv_imul hx hb dX11_happens_262 ?_
        refine lv_iload hx hb dX11_happens_263 (lv_at hl 0 rfl) ?_
        refine lv_iadd hx hb dX11_happens_265 ?_
        refine lv_ldc hx hb hown (hts _ kl_X11_153) dX11_happens_266 ?_
        refine lv_irem hx hb dX11_happens_268 (by decide) ?_
        refine m_stI C0 hH hM 27 (by decide) rfl (n := 40) rfl (ix := p) (nI_clamp (by omega)) (by first | assumption | exact vp_in_nI (by omega) (by omega)) dX11_happens_269 (fun h H locs hH hM => ?_)
        have eM : fHap m p kind li = (up (up (up (up (up (up M 31 ((M 40 0).toNatClampNeg) (nI p)) 31 ((M 40 0).toNatClampNeg + 1) kind) 31 ((M 40 0).toNatClampNeg + 2) (M 41 0)) 31 ((M 40 0).toNatClampNeg + 3) (M 15 p)) 40 0 ((M 40 0) + 4)) 27 p (((31 * (M 27 p)) + ((((97 * (M 41 0)) + (13 * (M 15 p))) + (lpos kind)) + 0)) - ((31 * (M 27 p)) + ((((97 * (M 41 0)) + (13 * (M 15 p))) + (lpos kind)) + 0)) / 1000003 * 1000003)) := by unfold fHap; rw [← hMe]; simp [fHap1, lmark, ltr, up_key, c232_1, Int32.not_le.mp c232_1]
        exact e_V C0 hr hH ⟨_, by rw [eM]; exact hM⟩ hcc hss dX11_happens_270
    refine lv_iload_n hx hb dX11_happens_125 rfl (lv_at hl 2 rfl) ?_
    refine lv_bipush (v := 97) hx hb dX11_happens_126 (by decide) ?_
    refine lv_icmp_ne (tgt := 135) hx hb dX11_happens_128 (by decide) (fun c128_2 => ?_) (fun c128_2 => ?_)
    · refine lv_iload_n hx hb dX11_happens_135 rfl (lv_at hl 2 rfl) ?_
      refine lv_bipush (v := 115) hx hb dX11_happens_136 (by decide) ?_
      refine lv_icmp_ne (tgt := 145) hx hb dX11_happens_138 (by decide) (fun c138_3 => ?_) (fun c138_3 => ?_)
      · refine lv_iload_n hx hb dX11_happens_145 rfl (lv_at hl 2 rfl) ?_
        refine lv_bipush (v := 109) hx hb dX11_happens_146 (by decide) ?_
        refine lv_icmp_ne (tgt := 155) hx hb dX11_happens_148 (by decide) (fun c148_4 => ?_) (fun c148_4 => ?_)
        · refine lv_iload_n hx hb dX11_happens_155 rfl (lv_at hl 2 rfl) ?_
          refine lv_bipush (v := 108) hx hb dX11_happens_156 (by decide) ?_
          refine lv_icmp_ne (tgt := 165) hx hb dX11_happens_158 (by decide) (fun c158_5 => ?_) (fun c158_5 => ?_)
          · refine lv_iload_n hx hb dX11_happens_165 rfl (lv_at hl 2 rfl) ?_
            refine lv_bipush (v := 117) hx hb dX11_happens_166 (by decide) ?_
            refine lv_icmp_ne (tgt := 175) hx hb dX11_happens_168 (by decide) (fun c168_6 => ?_) (fun c168_6 => ?_)
            · refine lv_iload_n hx hb dX11_happens_175 rfl (lv_at hl 2 rfl) ?_
              refine lv_bipush (v := 100) hx hb dX11_happens_176 (by decide) ?_
              refine lv_icmp_ne (tgt := 185) hx hb dX11_happens_178 (by decide) (fun c178_7 => ?_) (fun c178_7 => ?_)
              · refine lv_iload_n hx hb dX11_happens_185 rfl (lv_at hl 2 rfl) ?_
                refine lv_bipush (v := 102) hx hb dX11_happens_186 (by decide) ?_
                refine lv_icmp_ne (tgt := 196) hx hb dX11_happens_188 (by decide) (fun c188_8 => ?_) (fun c188_8 => ?_)
                · refine lv_iload_n hx hb dX11_happens_196 rfl (lv_at hl 2 rfl) ?_
                  refine lv_bipush (v := 114) hx hb dX11_happens_197 (by decide) ?_
                  refine lv_icmp_ne (tgt := 207) hx hb dX11_happens_199 (by decide) (fun c199_9 => ?_) (fun c199_9 => ?_)
                  · refine lv_bipush (v := 8) hx hb dX11_happens_207 (by decide) ?_
                    refine lv_topi (fun x9 ex9 => ?_)
                    rw [show (8 : Int32) = lpos kind from by simp [lpos, eq_false c128_2, eq_false c138_3, eq_false c148_4, eq_false c158_5, eq_false c168_6, eq_false c178_7, eq_false c188_8, eq_false c199_9]] at ex9
                    subst ex9
                    exact J2 ls (lv_sub hl [0, 1, 2, 3] rfl)
                  · refine lv_bipush (v := 7) hx hb dX11_happens_202 (by decide) ?_
                    refine lv_goto (tgt := 209) hx hb dX11_happens_204 (by decide) ?_
                    refine lv_topi (fun x9 ex9 => ?_)
                    rw [show (7 : Int32) = lpos kind from by simp [lpos, eq_false c128_2, eq_false c138_3, eq_false c148_4, eq_false c158_5, eq_false c168_6, eq_false c178_7, eq_false c188_8, eq_true c199_9]] at ex9
                    subst ex9
                    exact J2 ls (lv_sub hl [0, 1, 2, 3] rfl)
                · refine lv_bipush (v := 6) hx hb dX11_happens_191 (by decide) ?_
                  refine lv_goto (tgt := 209) hx hb dX11_happens_193 (by decide) ?_
                  refine lv_topi (fun x9 ex9 => ?_)
                  rw [show (6 : Int32) = lpos kind from by simp [lpos, eq_false c128_2, eq_false c138_3, eq_false c148_4, eq_false c158_5, eq_false c168_6, eq_false c178_7, eq_true c188_8]] at ex9
                  subst ex9
                  exact J2 ls (lv_sub hl [0, 1, 2, 3] rfl)
              · refine lv_iconst (v := 5) hx hb dX11_happens_181 (by decide) ?_
                refine lv_goto (tgt := 209) hx hb dX11_happens_182 (by decide) ?_
                refine lv_topi (fun x9 ex9 => ?_)
                rw [show (5 : Int32) = lpos kind from by simp [lpos, eq_false c128_2, eq_false c138_3, eq_false c148_4, eq_false c158_5, eq_false c168_6, eq_true c178_7]] at ex9
                subst ex9
                exact J2 ls (lv_sub hl [0, 1, 2, 3] rfl)
            · refine lv_iconst (v := 4) hx hb dX11_happens_171 (by decide) ?_
              refine lv_goto (tgt := 209) hx hb dX11_happens_172 (by decide) ?_
              refine lv_topi (fun x9 ex9 => ?_)
              rw [show (4 : Int32) = lpos kind from by simp [lpos, eq_false c128_2, eq_false c138_3, eq_false c148_4, eq_false c158_5, eq_true c168_6]] at ex9
              subst ex9
              exact J2 ls (lv_sub hl [0, 1, 2, 3] rfl)
          · refine lv_iconst (v := 3) hx hb dX11_happens_161 (by decide) ?_
            refine lv_goto (tgt := 209) hx hb dX11_happens_162 (by decide) ?_
            refine lv_topi (fun x9 ex9 => ?_)
            rw [show (3 : Int32) = lpos kind from by simp [lpos, eq_false c128_2, eq_false c138_3, eq_false c148_4, eq_true c158_5]] at ex9
            subst ex9
            exact J2 ls (lv_sub hl [0, 1, 2, 3] rfl)
        · refine lv_iconst (v := 2) hx hb dX11_happens_151 (by decide) ?_
          refine lv_goto (tgt := 209) hx hb dX11_happens_152 (by decide) ?_
          refine lv_topi (fun x9 ex9 => ?_)
          rw [show (2 : Int32) = lpos kind from by simp [lpos, eq_false c128_2, eq_false c138_3, eq_true c148_4]] at ex9
          subst ex9
          exact J2 ls (lv_sub hl [0, 1, 2, 3] rfl)
      · refine lv_iconst (v := 1) hx hb dX11_happens_141 (by decide) ?_
        refine lv_goto (tgt := 209) hx hb dX11_happens_142 (by decide) ?_
        refine lv_topi (fun x9 ex9 => ?_)
        rw [show (1 : Int32) = lpos kind from by simp [lpos, eq_false c128_2, eq_true c138_3]] at ex9
        subst ex9
        exact J2 ls (lv_sub hl [0, 1, 2, 3] rfl)
    · refine lv_iconst (v := 0) hx hb dX11_happens_131 (by decide) ?_
      refine lv_goto (tgt := 209) hx hb dX11_happens_132 (by decide) ?_
      refine lv_topi (fun x9 ex9 => ?_)
      rw [show (0 : Int32) = lpos kind from by simp [lpos, eq_true c128_2]] at ex9
      subst ex9
      exact J2 ls (lv_sub hl [0, 1, 2, 3] rfl)
  refine lv_aload_n hx hb dX11_happens_0 rfl (lv_at hl 0 rfl) ?_
  refine m_int C0 hH hM 40 (by decide) (by decide) fl_X11_147 (v := m 40 0) rfl dX11_happens_1 ?_
  refine lv_iconst (v := 4) hx hb dX11_happens_4 (by decide) ?_
  refine lv_iadd hx hb dX11_happens_5 ?_
  refine lv_aload_n hx hb dX11_happens_6 rfl (lv_at hl 0 rfl) ?_
  refine m_arr C0 hH hM 31 (by decide) fl_X11_105 dX11_happens_7 ?_
  refine m_len C0 hH hM rfl dX11_happens_10 ?_
  refine lv_icmp_le (tgt := 61) hx hb dX11_happens_11 (by decide) (fun c11_10 => ?_) (fun c11_10 => ?_)
  · have hgr : ¬ nI (LLm m) < m 40 0 + 4 := Int32.not_lt.mpr c11_10
    rw [show m = M from by rw [hMe]; unfold fHap0; rw [if_neg hgr]] at hM
    exact J _ _ _ _ _ _ (Nat.zero_le _) (Nat.zero_le _) hH hM ls (lv_sub hl [0, 1, 2, 3] rfl)
  · have hgr : nI (LLm m) < m 40 0 + 4 := Int32.not_le.mp c11_10
    have hru := hap_up hw hgr p kind li
    refine lv_iconst (v := 2) hx hb dX11_happens_14 (by decide) ?_
    refine lv_aload_n hx hb dX11_happens_15 rfl (lv_at hl 0 rfl) ?_
    refine m_arr C0 hH hM 31 (by decide) fl_X11_105 dX11_happens_16 ?_
    refine m_len C0 hH hM rfl dX11_happens_19 ?_
    refine lv_imul hx hb dX11_happens_20 ?_
    refine lv_topi (fun x9 ex9 => ?_)
    replace ex9 : x9 = nI (2 * LLm m) := ex9.trans (pk_mul 2 (LLm m))
    subst ex9
    refine o_newP (K := 20) (t0 := 0) C0 hH ac_int rfl rfl (by decide) (by decide) (N' := 2 * LLm m) (fun _ => rfl) (nI_pos (by omega)) (nI_clamp (by omega)) (by show 2 * LLm m * 4 ≤ _; omega) (by show 0 + 1 ≤ uC (fHap m p kind li) - uC m; omega) (by show 0 + 2 * LLm m ≤ uS (fHap m p kind li) - uS m; omega) dX11_happens_21 (fun q H hq0 hH => ?_)
    have hap := hM.apart hq0
    have hM := hM.fresh hq0 20 (2 * LLm m)
    have hq : aK (pN h q 20 (2 * LLm m)) q = 20 := by rw [aK_pN, if_pos rfl]
    have hqn : aN (pN h q 20 (2 * LLm m)) q = 2 * LLm m := by rw [aN_pN, if_pos rfl]
    have hqc : ∀ z, aI (pN h q 20 (2 * LLm m)) z q = if z < 0 then m 31 z else 0 := fun z => by rw [aI_pN, if_pos rfl, if_neg (Nat.not_lt_zero z)]
    refine lv_astore (lv' := [(4, .ref (q)), (0, .ref (o)), (1, .int (nI p)), (2, .int (kind)), (3, .int (li))]) hx hb dX11_happens_23 hl (by decide) rfl (fun ls hl => ?_)
    refine lv_iconst (v := 0) hx hb dX11_happens_25 (by decide) ?_
    refine lv_istore (lv' := [(5, .int (0)), (4, .ref (q)), (0, .ref (o)), (1, .int (nI p)), (2, .int (kind)), (3, .int (li))]) hx hb dX11_happens_26 hl (by decide) rfl (fun ls hl => ?_)
    have K : ∀ (k i : Nat) , i + k = 4 * logN m → True → ∀ (h : AH) (H : Heap) (locs : List Loc) (hH : HS G.1 G.2.1 A s.heap h H locs) (hM : RM h o ad m) (hq : aK h q = 20) (hqn : aN h q = 2 * LLm m) (hqc : ∀ z, aI h z q = if z < i then m 31 z else 0) (ls : Array Slot), lv_has ls 6 [(5, .int (nI i)), (4, .ref (q)), (0, .ref (o)), (1, .int (nI p)), (2, .int (kind)), (3, .int (li))] → W pr l e (rmm 0 0 (uC (fHap m p kind li) - uC m) (uS (fHap m p kind li) - uS m)) s m9 ([.ref (o), .int (nI p), .int (kind), .int (li)] : List Value).toArray below meth c H locs (0 + 1) (0 + 2 * LLm m) (QV below G A (fun h' => ∃ ad', RM h' o ad' (fHap m p kind li)) ([.ref (o), .int (nI p), .int (kind), .int (li)] : List Value).toArray s (uC (fHap m p kind li) - uC m) (uS (fHap m p kind li) - uS m)) (F0 m9 28 ls []) := by
      intro k
      induction k with
      | zero =>
        intro i  hik hT  h H locs hH hM hq hqn hqc ls hl
        refine lv_iload hx hb dX11_happens_28 (lv_at hl 0 rfl) ?_
        refine lv_aload_n hx hb dX11_happens_30 rfl (lv_at hl 2 rfl) ?_
        refine m_int C0 hH hM 40 (by decide) (by decide) fl_X11_147 (v := m 40 0) rfl dX11_happens_31 ?_
        refine lv_icmp_ge (tgt := 55) hx hb dX11_happens_34 (by decide) (fun c34_11 => ?_) (fun c34_11 => ?_)
        · refine lv_aload_n hx hb dX11_happens_55 rfl (lv_at hl 2 rfl) ?_
          refine lv_aload hx hb dX11_happens_56 (lv_at hl 1 rfl) ?_
          refine o_putR hx hb hts hown hK hH ci_15 hM.1 (tyl15R 31 (by decide)) (TX11_cls 31 (by decide)) fl_X11_105 (x := some q) rfl hK_rf dX11_happens_58 (fun H locs hH => ?_)
          have hM := hM.swap (m' := grw m) (j := 31) (by decide) hap.2 hq (by rw [hqn]; exact (grw_LL (by omega)).symm) (fun z => by rw [hqc z, grw_log hw]; rw [show i = 4 * logN m from by omega]) (lenM_31 m (grw m)) (fun k z h1 h2 => by rw [grw_key h2 (by omega)])
          rw [show grw m = M from by rw [hMe]; unfold fHap0; rw [if_pos hgr]] at hM
          exact J _ _ _ _ _ _ (by show 0 + 1 ≤ _; omega) (by show 0 + 2 * LLm m ≤ _; omega) hH hM ls (lv_sub hl [2, 3, 4, 5] rfl)
        · exact absurd (by rw [hB]; exact nI_le (by omega) (by omega)) c34_11
      | succ k ih =>
        intro i  hik hT  h H locs hH hM hq hqn hqc ls hl
        refine lv_iload hx hb dX11_happens_28 (lv_at hl 0 rfl) ?_
        refine lv_aload_n hx hb dX11_happens_30 rfl (lv_at hl 2 rfl) ?_
        refine m_int C0 hH hM 40 (by decide) (by decide) fl_X11_147 (v := m 40 0) rfl dX11_happens_31 ?_
        refine lv_icmp_ge (tgt := 55) hx hb dX11_happens_34 (by decide) (fun c34_12 => ?_) (fun c34_12 => ?_)
        · exact absurd c34_12 (by rw [hB]; exact nI_ge (by omega) (by omega))
        · refine lv_aload hx hb dX11_happens_37 (lv_at hl 1 rfl) ?_
          refine lv_iload hx hb dX11_happens_39 (lv_at hl 0 rfl) ?_
          refine lv_aload_n hx hb dX11_happens_41 rfl (lv_at hl 2 rfl) ?_
          refine m_arr C0 hH hM 31 (by decide) fl_X11_105 dX11_happens_42 ?_
          refine lv_iload hx hb dX11_happens_45 (lv_at hl 0 rfl) ?_
          refine m_ldI C0 hH hM 31 (by decide) rfl (n := LLm m) rfl (ix := i) (nI_clamp (by omega)) (by first | assumption | exact vp_in_nI (by omega) (by omega)) (v := m 31 i) rfl dX11_happens_47 ?_
          refine o_iast hx hb hK hH hq (n := 2 * LLm m) hqn (vp_in_nI (by omega) (by omega)) dX11_happens_48 (fun H locs hH => ?_)
          rw [nI_clamp (show i < 2 ^ 31 by omega)] at hH
          have hM := hM.other hap.1 hap.2 i (m 31 i)
          have hqc : ∀ z, aI (pI h i q (m 31 i)) z q = if z < i + 1 then m 31 z else 0 := by
              intro z
              rw [aI_pI, hqc z]
              by_cases e : z = i
              · subst e; rw [if_pos ⟨rfl, rfl⟩, if_pos (Nat.lt_succ_self z)]
              · rw [if_neg (fun w => e w.1)]
                by_cases f : z < i
                · rw [if_pos f, if_pos (by omega)]
                · rw [if_neg f, if_neg (by omega)]
          refine lv_iinc (v := nI (i + 1)) (lv' := [(5, .int (nI (i + 1))), (4, .ref (q)), (0, .ref (o)), (1, .int (nI p)), (2, .int (kind)), (3, .int (li))]) hx hb dX11_happens_49 hl (k := 0) rfl (by rw [← nI_1]; rfl) (by decide) rfl (fun ls hl => ?_)
          refine lv_goto (tgt := 28) hx hb dX11_happens_52 (by decide) ?_
          exact ih (i + 1)  (by omega) (trivial)  _ _ _ hH hM hq hqn hqc ls (lv_sub hl [0, 1, 2, 3, 4, 5] rfl)
    exact K (4 * logN m) 0  (by omega) (trivial)  _ _ _ hH hM hq hqn hqc ls (lv_sub hl [0, 1, 2, 3, 4, 5] rfl)
