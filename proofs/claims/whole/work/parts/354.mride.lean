set_option maxHeartbeats 4000000 in
set_option maxRecDepth 100000 in
theorem cM_riding (l : Launch) (G : GT) (A : Nat → Prop) (h : AH) (o : Nat) (ad : Nat → Nat) (m : MM) (hM : RM h o ad m) (x : Int32) (hw : WFa m) : cmI l G A yX11_riding cX11_riding 4 (Option.some FieldType.int) 2 43 0 0 [.ref (o), .int (x)] h (fun r h' => r = (fRdg m x).1 ∧ RM h' o ad ((fRdg m x).2)) := by
  refine cm_of "RoutepostModel" rfl (by decide) (Nat.le_of_ble_eq_true rfl) ?_
  intro pr e s m9 below meth c C0 hr hname hH ls hl
  obtain ⟨hx, hb, hml, hown, hts, hK, hA, -⟩ := id C0
  have hl : lv_has ls 4 [(0, .ref (o)), (1, .int (x))] := hl
  have hnp := hw.np
  have hnl := hw.nl
  have hnh := hw.nh
  have hB := (hw.thr (bi (¬ isLn m x = true)) 1).np.1
  have hB9 : m 39 0 = nI (npN (thr m (bi (¬ isLn m x = true)) 1)) := hB
  have hnp2 := (hw.thr (bi (¬ isLn m x = true)) 1).np
  refine lv_aload_n hx hb dX11_riding_0 rfl (lv_at hl 0 rfl) ?_
  refine lv_iload_n hx hb dX11_riding_1 rfl (lv_at hl 1 rfl) ?_
  refine k_i hH (k_runV (rest := []) C0 hH (cM_isNoLine l G A _ o ad m hM x) mv_X11_isNoLine ml_X11_198 ci_15 hM.1 rfl ⟨by decide, by decide⟩ hl.1 rfl (Nat.le_of_ble_eq_true rfl) dX11_riding_2 (by simp)) (fun r_1 h H locs hp hH => ?_)
  obtain ⟨er_1, hM⟩ := hp
  subst er_1
  refine lv_if_eq (tgt := 10) hx hb dX11_riding_5 (by decide) (fun c5_2 => ?_) (fun c5_2 => ?_)
  · replace c5_2 := bi_0.mp c5_2
    replace c5_2 := Classical.not_not.mp c5_2
    have hx9 := hw.isLn.mp c5_2
    have c5 := c5_2
    refine lv_iconst (v := 0) hx hb dX11_riding_10 (by decide) ?_
    refine lv_istore_n (lv' := [(2, .int (0)), (0, .ref (o)), (1, .int (x))]) hx hb dX11_riding_11 rfl hl (by decide) rfl (fun ls hl => ?_)
    refine lv_iconst (v := 0) hx hb dX11_riding_12 (by decide) ?_
    refine lv_istore_n (lv' := [(3, .int (0)), (2, .int (0)), (0, .ref (o)), (1, .int (x))]) hx hb dX11_riding_13 rfl hl (by decide) rfl (fun ls hl => ?_)
    have K : ∀ (k i : Nat) (n : Int32), i + k = npN (thr m (bi (¬ isLn m x = true)) 1) → rdL (thr m (bi (¬ isLn m x = true)) 1) x k i n = rdL (thr m (bi (¬ isLn m x = true)) 1) x (npN (thr m (bi (¬ isLn m x = true)) 1)) 0 0 → ∀ (ls : Array Slot), lv_has ls 4 [(3, .int (nI i)), (2, .int (n)), (0, .ref (o)), (1, .int (x))] → W pr l e (rmm 2 43 0 0) s m9 ([.ref (o), .int (x)] : List Value).toArray below meth c H locs 0 0 (QI below G A (fun r h' => r = (fRdg m x).1 ∧ RM h' o ad ((fRdg m x).2)) ([.ref (o), .int (x)] : List Value).toArray s 0 0) (F0 m9 14 ls []) := by
      intro k
      induction k with
      | zero =>
        intro i n hik hT  ls hl
        refine lv_iload_n hx hb dX11_riding_14 rfl (lv_at hl 0 rfl) ?_
        refine lv_aload_n hx hb dX11_riding_15 rfl (lv_at hl 2 rfl) ?_
        refine m_int C0 hH hM 39 (by decide) (by decide) fl_X11_144 (v := m 39 0) rfl dX11_riding_16 ?_
        refine lv_icmp_ge (tgt := 57) hx hb dX11_riding_19 (by decide) (fun c19_3 => ?_) (fun c19_3 => ?_)
        · refine lv_iload_n hx hb dX11_riding_57 rfl (lv_at hl 1 rfl) ?_
          have eR : n = (fRdg m x).1 := by rw [show n = _ from hT]; unfold fRdg fNoLine; dsimp only; rw [if_neg (fun q => q (bi_0.mpr (fun y => y c5)))]
          have eM : (fRdg m x).2 = (up m 45 0 (if (bi (¬ isLn m x)) = 0 then 0 else 1)) := by simp [fRdg, bi, thr, fNone, fNoLine, c19_3, Int32.not_lt.mpr c19_3]
          exact e_I C0 hr hH ⟨eR, by rw [eM]; exact hM⟩ (Nat.le_refl _) (Nat.le_refl _) dX11_riding_58
        · exact absurd (by rw [hB9]; exact nI_le (by omega) (by omega)) c19_3
      | succ k ih =>
        intro i n hik hT  ls hl
        refine lv_iload_n hx hb dX11_riding_14 rfl (lv_at hl 0 rfl) ?_
        refine lv_aload_n hx hb dX11_riding_15 rfl (lv_at hl 2 rfl) ?_
        refine m_int C0 hH hM 39 (by decide) (by decide) fl_X11_144 (v := m 39 0) rfl dX11_riding_16 ?_
        refine lv_icmp_ge (tgt := 57) hx hb dX11_riding_19 (by decide) (fun c19_4 => ?_) (fun c19_4 => ?_)
        · exact absurd c19_4 (by rw [hB9]; exact nI_ge (by omega) (by omega))
        · refine lv_iload_n hx hb dX11_riding_22 rfl (lv_at hl 1 rfl) ?_
          refine lv_aload_n hx hb dX11_riding_23 rfl (lv_at hl 2 rfl) ?_
          refine m_arr C0 hH hM 28 (by decide) fl_X11_95 dX11_riding_24 ?_
          refine lv_iload_n hx hb dX11_riding_27 rfl (lv_at hl 0 rfl) ?_
          refine m_ldC C0 hH hM 28 (by decide) rfl (n := 40) rfl (ix := i) (nI_clamp (by omega)) (by first | assumption | exact vp_in_nI (by omega) (by omega)) (v := m 28 i) rfl dX11_riding_28 ?_
          refine lv_bipush (v := 116) hx hb dX11_riding_29 (by decide) ?_
          refine lv_icmp_ne (tgt := 48) hx hb dX11_riding_31 (by decide) (fun c31_5 => ?_) (fun c31_5 => ?_)
          · refine lv_iconst (v := 0) hx hb dX11_riding_48 (by decide) ?_
            refine lv_iadd hx hb dX11_riding_49 ?_
            refine lv_istore_n (lv' := [(2, .int (n + 0)), (3, .int (nI i)), (0, .ref (o)), (1, .int (x))]) hx hb dX11_riding_50 rfl hl (by decide) rfl (fun ls hl => ?_)
            refine lv_iinc (v := nI (i + 1)) (lv' := [(3, .int (nI (i + 1))), (2, .int (n + 0)), (0, .ref (o)), (1, .int (x))]) hx hb dX11_riding_51 hl (k := 1) rfl (by rw [← nI_1]; rfl) (by decide) rfl (fun ls hl => ?_)
            refine lv_goto (tgt := 14) hx hb dX11_riding_54 (by decide) ?_
            exact ih (i + 1) (n + 0) (by omega) (by rw [← hT]; simp [rdL, thr, up, c19_4, Int32.not_le.mp c19_4, eq_false c31_5])  ls (lv_sub hl [0, 1, 2, 3] rfl)
          · refine lv_aload_n hx hb dX11_riding_34 rfl (lv_at hl 2 rfl) ?_
            refine m_arr C0 hH hM 16 (by decide) fl_X11_59 dX11_riding_35 ?_
            refine lv_iload_n hx hb dX11_riding_38 rfl (lv_at hl 0 rfl) ?_
            refine m_ldI C0 hH hM 16 (by decide) rfl (n := 40) rfl (ix := i) (nI_clamp (by omega)) (by first | assumption | exact vp_in_nI (by omega) (by omega)) (v := m 16 i) rfl dX11_riding_39 ?_
            refine lv_iload_n hx hb dX11_riding_40 rfl (lv_at hl 3 rfl) ?_
            refine lv_icmp_ne (tgt := 48) hx hb dX11_riding_41 (by decide) (fun c41_6 => ?_) (fun c41_6 => ?_)
            · refine lv_iconst (v := 0) hx hb dX11_riding_48 (by decide) ?_
              refine lv_iadd hx hb dX11_riding_49 ?_
              refine lv_istore_n (lv' := [(2, .int (n + 0)), (3, .int (nI i)), (0, .ref (o)), (1, .int (x))]) hx hb dX11_riding_50 rfl hl (by decide) rfl (fun ls hl => ?_)
              refine lv_iinc (v := nI (i + 1)) (lv' := [(3, .int (nI (i + 1))), (2, .int (n + 0)), (0, .ref (o)), (1, .int (x))]) hx hb dX11_riding_51 hl (k := 1) rfl (by rw [← nI_1]; rfl) (by decide) rfl (fun ls hl => ?_)
              refine lv_goto (tgt := 14) hx hb dX11_riding_54 (by decide) ?_
              exact ih (i + 1) (n + 0) (by omega) (by rw [← hT]; simp [rdL, thr, up, c19_4, Int32.not_le.mp c19_4, eq_true c31_5, eq_false c41_6])  ls (lv_sub hl [0, 1, 2, 3] rfl)
            · refine lv_iconst (v := 1) hx hb dX11_riding_44 (by decide) ?_
              refine lv_goto (tgt := 49) hx hb dX11_riding_45 (by decide) ?_
              refine lv_iadd hx hb dX11_riding_49 ?_
              refine lv_istore_n (lv' := [(2, .int (n + 1)), (3, .int (nI i)), (0, .ref (o)), (1, .int (x))]) hx hb dX11_riding_50 rfl hl (by decide) rfl (fun ls hl => ?_)
              refine lv_iinc (v := nI (i + 1)) (lv' := [(3, .int (nI (i + 1))), (2, .int (n + 1)), (0, .ref (o)), (1, .int (x))]) hx hb dX11_riding_51 hl (k := 1) rfl (by rw [← nI_1]; rfl) (by decide) rfl (fun ls hl => ?_)
              refine lv_goto (tgt := 14) hx hb dX11_riding_54 (by decide) ?_
              exact ih (i + 1) (n + 1) (by omega) (by rw [← hT]; simp [rdL, thr, up, c19_4, Int32.not_le.mp c19_4, eq_true c31_5, eq_true c41_6])  ls (lv_sub hl [0, 1, 2, 3] rfl)
    exact K (npN (thr m (bi (¬ isLn m x = true)) 1)) 0 0 (by omega) (rfl)  ls (lv_sub hl [0, 1, 2, 3] rfl)
  · replace c5_2 := bi_n0.mp c5_2
    refine lv_iconst (v := 0) hx hb dX11_riding_8 (by decide) ?_
    have eR : 0 = (fRdg m x).1 := by simp [fRdg, bi, thr, fNone, fNoLine, c5_2]
    have eM : (fRdg m x).2 = (up m 45 0 (if (bi (¬ isLn m x)) = 0 then 0 else 1)) := by simp [fRdg, bi, thr, fNone, fNoLine, c5_2]
    exact e_I C0 hr hH ⟨eR, by rw [eM]; exact hM⟩ (Nat.le_refl _) (Nat.le_refl _) dX11_riding_9
/-! for the law's cases -/
theorem sim_nar28 {n : Nat} {c m : MM} (hS : Sim n c m) (hw : WFa m) {i : Nat} (z : ok c 9 i) : narrow .char (.int (c 28 i)) = .int (c 28 i) := by
  have hq : i < npN m := by rw [← hS.1.1.1.2.2]; exact z
  have k28 : c 28 i = m 28 i := (hS.1.2.2.1 _ hq).1.1 28 rfl
  rcases (hw.pa hq).2.2.2.2.2 with h | h | h | h | h <;> (rw [k28, h]; decide)
theorem sim_nar29 {n : Nat} {c m : MM} (hS : Sim n c m) (hw : WFa m) {i : Nat} (z : ok c 9 i) : narrow .boolean (.int (c 29 i)) = .int (c 29 i) := by
  have hq : i < npN m := by rw [← hS.1.1.1.2.2]; exact z
  have k29 : c 29 i = m 29 i := (hS.1.2.2.1 _ hq).1.1 29 rfl
  rcases hS.2.2.2.2.2.2.1 i hq with h | h <;> (rw [k29, h]; decide)
theorem cntE_at {m : MM} {p : Nat} : ∀ (n i : Nat), i < cntE m p n → ∃ j, j < n ∧ m 31 (4 * j) = nI p ∧ cntE m p j = i
  | 0, i, h => absurd h (Nat.not_lt_zero i)
  | n + 1, i, h => by
    have h' : i < cntE m p n + (if m 31 (4 * n) = nI p then 1 else 0) := h
    by_cases y : i < cntE m p n
    · obtain ⟨j, h1, h2, h3⟩ := cntE_at n i y
      exact ⟨j, by omega, h2, h3⟩
    · by_cases z : m 31 (4 * n) = nI p
      · rw [if_pos z] at h'
        exact ⟨n, by omega, z, by omega⟩
      · rw [if_neg z] at h'
        omega
theorem sim_nar120 {n : Nat} {c m : MM} (hS : Sim n c m) (hw : WFa m) (hc : WFc c) {e : Nat} (z : ok c 5 e) : narrow .char (.int (c 120 e)) = .int (c 120 e) := by
  have z' : e / 1024 < npN c ∧ e % 1024 < evN c (e / 1024) := z
  obtain ⟨z1, z2⟩ := z'
  have hq : e / 1024 < npN m := by rw [← hS.1.1.1.2.2]; exact z1
  obtain ⟨⟨a1, a2⟩, a3⟩ := hS.1.2.2.2.2 _ hq
  rw [(hc.sz6 z1).2, a1] at z2
  obtain ⟨j, j1, j2, j3⟩ := cntE_at _ _ z2
  obtain ⟨b1, -⟩ := a3 j j1 j2
  rw [j3, show 1024 * (e / 1024) + e % 1024 = e by omega] at b1
  rw [b1]
  exact (hw.ev j1).2.1
def bz (v : Int32) : Int32 := if v = 0 then 0 else 1
theorem lw_bool {p : Program} {l : Launch} {e : Env} {s : State} {m : MethodId} {below : List Frame} {meth : Method} {c : Code} {b L : Nat} {xs : Nat → Int32} {G : GT} {cL cD : ClassId} {oL oD : Nat} {H : Heap} {cells slots : Nat} {Q : State → Prop} {ls : Array Slot} {q : Nat} {v : Int32} {st : List Value} (F : LwF p s m c b L xs G cL cD oL oD) (d1 : decode code q = .ok (.ifCond .eq 7, 3)) (d2 : decode code (q + 3) = .ok (.iconst 1, 1)) (d3 : decode code (q + 4) = .ok (.goto 4, 3)) (d4 : decode code (q + 7) = .ok (.iconst 0, 1))
    (kk : W p l e room_1 s m #[Value.ref b] below meth c H [] cells slots Q (F0 m (q + 8) ls (.int (bz v) :: st))) : W p l e room_1 s m #[Value.ref b] below meth c H [] cells slots Q (F0 m q ls (.int v :: st)) := by
  obtain ⟨⟨hx, hb, -⟩, -⟩ := F
  refine lv_if_eq (tgt := q + 7) hx hb d1 (by omega) (fun z => ?_) (fun z => ?_)
  · refine lv_iconst (v := 0) hx hb d4 (by decide) ?_
    rw [show bz v = 0 from if_pos z] at kk
    exact kk
  · refine lv_iconst (v := 1) hx hb d2 (by decide) ?_
    refine lv_goto (tgt := q + 8) hx hb d3 (by omega) ?_
    rw [show bz v = 1 from if_neg z] at kk
    exact kk
/-! the start: nothing is there -/
theorem m0_z {k : Nat} (hk : k ≠ 46) (i : Nat) : m0 k i = 0 := if_neg (fun z => hk z.1)
theorem m0_nh : nhN m0 = 0 := by unfold nhN; rw [m0_z (by omega)]; rfl
theorem m0_nl : nlN m0 = 0 := by unfold nlN; rw [m0_z (by omega)]; rfl
theorem m0_np : npN m0 = 0 := by unfold npN; rw [m0_z (by omega)]; rfl
theorem m0_lg : logN m0 = 0 := by unfold logN; rw [m0_z (by omega)]; rfl
theorem m0_LL : LLm m0 = 4000 := by unfold LLm; rw [show m0 46 0 = 4000 from if_pos ⟨rfl, rfl⟩]; rfl
theorem isN_0 {x : Int32} {b : Nat} (h : x = 0) : isN x 0 b := by
  subst h
  exact ⟨rfl, Nat.zero_le _, Nat.zero_le _⟩
theorem m0_wf : WFa m0 := by
  refine ⟨⟨?_, ?_⟩, ⟨?_, ?_⟩, ⟨?_, ?_⟩, ?_, ?_, ⟨?_, ?_, ?_, ?_, ?_, ?_⟩, ?_, ⟨?_, ?_⟩⟩
  · rw [m0_nh, m0_z (by omega)]; rfl
  · rw [m0_nh]; omega
  · rw [m0_nl, m0_z (by omega)]; rfl
  · rw [m0_nl]; omega
  · rw [m0_np, m0_z (by omega)]; rfl
  · rw [m0_np]; omega
  · intro i hi; rw [m0_nl] at hi; omega
  · intro i hi; rw [m0_np] at hi; omega
  · rw [m0_lg, m0_z (by omega)]; rfl
  · rw [m0_lg, m0_LL]; omega
  · rw [m0_LL]; exact if_pos ⟨rfl, rfl⟩
  · rw [m0_LL]; omega
  · rw [m0_LL]; omega
  · rw [m0_lg, m0_LL]; omega
  · intro j hj; rw [m0_lg] at hj; omega
  · intro i _; exact m0_z (by omega) i
  · intro i _; exact ⟨m0_z (by omega) i, m0_z (by omega) i⟩
theorem sim0 (cap : Nat) : Sim 0 (c00 cap) m0 := by
  have hw := m0_wf
  have c1 : nhN (c00 cap) = 0 := by unfold nhN; rw [c0_z rfl (by omega) (by omega)]; rfl
  have c2 : nlN (c00 cap) = 0 := by unfold nlN; rw [c0_z rfl (by omega) (by omega)]; rfl
  have c3 : npN (c00 cap) = 0 := by unfold npN; rw [c0_z rfl (by omega) (by omega)]; rfl
  have e41 : m0 41 0 = 0 := m0_z (by omega) 0
  refine ⟨⟨⟨⟨?_, ?_, ?_⟩, ?_, ?_, ?_⟩, ⟨hw.lnk, ⟨?_, ?_⟩, ?_, ?_⟩, ?_, ?_, ?_⟩, ?_, ?_, ?_, ?_, ?_, ?_, ?_, ?_⟩
  · rw [c1, m0_nh]
  · rw [c2, m0_nl]
  · rw [c3, m0_np]
  · rw [e41, c0_z rfl (by omega) (by omega)]
  · intro i hi; rw [m0_nh] at hi; omega
  · intro i hi; rw [m0_nl] at hi; omega
  · intro i hi; rw [m0_nh] at hi; omega
  · intro i hi; rw [m0_nl] at hi; omega
  · rw [m0_np]; omega
  · exact isN_0 e41
  · intro i hi; rw [m0_np] at hi; omega
  · intro i hi; rw [m0_nl] at hi; omega
  · intro i hi; rw [m0_np] at hi; omega
  · intro i hi; rw [m0_np] at hi; omega
  · intro i _; rw [m0_lg]; exact Nat.zero_le _
  · exact isN_0 e41
  · intro i _; exact ⟨m0_z (by omega) i, m0_z (by omega) i, m0_z (by omega) i, m0_z (by omega) i, m0_z (by omega) i, m0_z (by omega) i, m0_z (by omega) i⟩
  · intro i; exact m0_z (by omega) i
  · intro i hi; rw [m0_np] at hi; omega
  · intro i hi; rw [m0_nh] at hi; omega
  · intro i hi; rw [m0_np] at hi; omega
