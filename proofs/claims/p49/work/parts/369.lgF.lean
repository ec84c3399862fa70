set_option maxHeartbeats 12000000 in
set_option maxRecDepth 100000 in
theorem lL_isPassed (l : Launch) (hlt : l.stackTraces = false) (Sc : SCR) (G : GT) (A : Nat → Prop) (h : AH) (b : BA) (c m : MM) (n : Nat) (L : LNum) (M : LRef) (o : Nat) (hJ : JW G.2.2.1 h b c L M) (ho : b 14 0 = o) (hwc : WFc c) (hS : Sim n c m) (hw : WFa m) (hI : IV m) (hn : n < 512) (v : Nat) (hv1 : v ≤ 61440) (hv : m 41 0 = nI v) (an : Nat) (f : Nat → Int32) (hL : L an = some (700, f)) (hT : NT f m) : lcI l Sc G A yL_isPassed cL_isPassed 11 (Option.some FieldType.boolean) 14 468 (200 + (UC (pasZ m v c) - UC c)) (4000 + (US (pasZ m v c) - US c)) [.ref (o), .ref (an)] h (fun r h' => r = nI 1 ∧ ∃ b' c2 f' m', JW G.2.2.1 h' b' c2 (setL L an 700 f') M ∧ b' 14 0 = o ∧ WFc c2 ∧ Stt (n + 1) c2 m' ∧ NT f' m' ∧ m' 41 0 = nI (v + 1) ∧ Kp m m' ∧ (UC (pasZ m v c) ≤ UC c2 ∧ US (pasZ m v c) ≤ US c2)) := by
  refine lm_of rfl (Nat.le_of_ble_eq_true rfl) ?_
  intro pr e s m9 below meth c9 C0 hN hr hH ls hl
  obtain ⟨hx, hb, hml, hown, hts, hK, hA, -⟩ := id C0
  have hl : lv_has ls 11 [(0, .ref (o)), (1, .ref (an))] := hl
  have n40 := hw.np.2
  have n6 := hw.nh.2
  have nl12 := hw.nl.2
  have hwc00 := hwc
  have hml := hS.1.2.1
  have hB9 : ∀ l, l < nlN m → isN (m 4 l) 0 59 ∧ isN (m 5 l) 5 60 := fun l hl => ⟨(hml.2.1.2 l hl).1, (hml.2.1.2 l hl).2.1⟩
  have hvn : m 41 0 + 1 = nI (v + 1) := by rw [hv, nI_1]
  refine lv_aload_n hx hb dL_isPassed_0 rfl (lv_at hl 0 rfl) ?_
  refine j_q0m (rest := []) C0 hH hJ ho (cC_X10_minute l G _ _ b c hJ.rest hwc) (v := nI v) ((v_min hS).trans hv) mv_X10_minute ml_L_124 rfl ⟨Nat.le_of_ble_eq_true rfl, Nat.le_of_ble_eq_true rfl⟩ hl.1 rfl (Nat.le_of_ble_eq_true rfl) dL_isPassed_1 ⟨by show _ ≤ 200 + (UC (pasZ m v c) - UC c); omega, by show _ ≤ 4000 + (US (pasZ m v c) - US c); omega⟩ (fun H locs hH => ?_)
  refine lv_iconst (v := nI 1) hx hb dL_isPassed_4 (by decide) ?_
  refine lv_iadd hx hb dL_isPassed_5 ?_
  rw [show nI v + nI 1 = nI (v + 1) from nI_add _ _]
  refine lv_istore_n (lv' := [(2, .int (nI (v + 1))), (0, .ref (o)), (1, .ref (an))]) hx hb dL_isPassed_6 rfl hl (by decide) rfl (fun ls hl => ?_)
  refine lv_bipush (v := nI 40) hx hb dL_isPassed_7 (by decide) ?_
  refine j_new (rest := []) C0 hH hJ (k := 40) (by decide) dL_isPassed_9 (by show _ ≤ 200 + (UC (pasZ m v c) - UC c); omega) (by show _ ≤ 4000 + (US (pasZ m v c) - US c); omega) (fun ra h H locs hH hJ hq_ra hm_ra _ => ?_)
  obtain ⟨L_1, hL_1⟩ : ∃ z, z = setL L ra 40 (fun _ => 0) := ⟨_, rfl⟩
  rw [← hL_1] at hJ
  have hne_an_ra : an ≠ ra := fun z => by rw [← z, hL] at hq_ra; exact nomatch hq_ra
  have hL_L_1 : L_1 an = some (700, f) := by rw [hL_1, setL_o hne_an_ra]; exact hL
  have hLra_L_1 : L_1 ra = some (40, fun _ => 0) := by rw [hL_1]; exact setL_s _ _ _ _
  refine lv_astore_n (lv' := [(3, .ref (ra)), (2, .int (nI (v + 1))), (0, .ref (o)), (1, .ref (an))]) hx hb dL_isPassed_11 rfl hl (by decide) rfl (fun ls hl => ?_)
  refine lv_bipush (v := nI 12) hx hb dL_isPassed_12 (by decide) ?_
  refine j_newM (rest := []) C0 hH hJ (k := 12) (by decide) cl_L_219 dL_isPassed_14 (by show _ ≤ 200 + (UC (pasZ m v c) - UC c); omega) (by show _ ≤ 4000 + (US (pasZ m v c) - US c); omega) (fun bm h H locs hH hJ hq_bm hm_bm => ?_)
  have hbm : bm ≠ ra := fun z => by rw [z, hLra_L_1] at hq_bm; exact nomatch hq_bm
  refine lv_astore (lv' := [(4, .ref (bm)), (3, .ref (ra)), (2, .int (nI (v + 1))), (0, .ref (o)), (1, .ref (an))]) hx hb dL_isPassed_17 hl (by decide) rfl (fun ls hl => ?_)
  refine lv_iconst (v := nI 0) hx hb dL_isPassed_19 (by decide) ?_
  refine lv_istore (lv' := [(5, .int (nI 0)), (4, .ref (bm)), (3, .ref (ra)), (2, .int (nI (v + 1))), (0, .ref (o)), (1, .ref (an))]) hx hb dL_isPassed_20 hl (by decide) rfl (fun ls hl => ?_)
  have hanra : an ≠ ra := hne_an_ra
  have T1 : ∀ (cs : MM) (L1 : LNum) (M1 : LRef) (fB : Nat → Option Nat), Sim n cs m → WFc cs → L1 an = some (700, f) → M1 bm = some (12, fB) → (∀ a x, L a = some x → L1 a = some x) → (∀ a x, M a = some x → M1 a = some x) → cs = pasC m (nI (v + 1)) (nlN m) c → L1 ra = some (40, minRt m (nI (v + 1)) (nlN m)) → (∀ l, l < nlN m → fB l = none ∨ ∃ q, fB l = some q ∧ L1 q = some (100, minBg m (nI (v + 1)) l) ∧ (m 9 l = 0 ∧ lvs m l (nI (v + 1)) = nI (v + 1))) → ∀ (h : AH) (b : BA) (H : Heap) (locs : List Loc) (hH : HS G.1 G.2.1 A s.heap h H locs) (hJ : JW G.2.2.1 h b cs L1 M1) (ho : b 14 0 = o) (ls : Array Slot), lv_has ls 11 [(0, .ref (o)), (1, .ref (an)), (2, .int (nI (v + 1))), (3, .ref (ra)), (4, .ref (bm))] → W pr l e (rmm 14 468 (200 + (UC (pasZ m v c) - UC c)) (4000 + (US (pasZ m v c) - US c))) s m9 ([.ref (o), .ref (an)] : List Value).toArray below meth c9 H locs (2 + 7 * nlN m + (UC cs - UC c)) (52 + 264 * nlN m + (US cs - US c)) (MQ below (va_Qi (fun r h' => r = nI 1 ∧ ∃ b' c2 f' m', JW G.2.2.1 h' b' c2 (setL L an 700 f') M ∧ b' 14 0 = o ∧ WFc c2 ∧ Stt (n + 1) c2 m' ∧ NT f' m' ∧ m' 41 0 = nI (v + 1) ∧ Kp m m' ∧ (UC (pasZ m v c) ≤ UC c2 ∧ US (pasZ m v c) ≤ US c2)) (fun h' t => HW G.1 G.2.1 A h' t.heap) A) ([.ref (o), .ref (an)] : List Value).toArray s (200 + (UC (pasZ m v c) - UC c)) (4000 + (US (pasZ m v c) - US c)) A) (F0 m9 129 ls []) := by
    intro cs L1 M1 fB hS hwc hL1 hM1 hxL hxM ecs hR1 hfB h b H locs hH hJ ho ls hl
    have hgc := pas_le (m := m) (now := nI (v + 1)) hwc00.lw (Nat.zero_le (nlN m))
    rw [← ecs, show pasC m (nI (v + 1)) 0 c = c from rfl] at hgc
    have ecz : pasZ m v c = (cPsL (nI 1).toNatClampNeg 0 cs).2 := by unfold pasZ; rw [← ecs]
    have hgz := (LG.psL (nI 1).toNatClampNeg 0 (u := cs) hwc.nl).leU hwc.lw
    rw [← ecz] at hgz
    refine lv_bipush (v := nI 40) hx hb dL_isPassed_129 (by decide) ?_
    refine j_new (rest := []) C0 hH hJ (k := 40) (by decide) dL_isPassed_131 (by show _ ≤ 200 + (UC (pasZ m v c) - UC c); omega) (by show _ ≤ 4000 + (US (pasZ m v c) - US c); omega) (fun wa h H locs hH hJ hq_wa hm_wa _ => ?_)
    obtain ⟨L_2, hL_2⟩ : ∃ z, z = setL L1 wa 40 (fun _ => 0) := ⟨_, rfl⟩
    rw [← hL_2] at hJ
    have hne_an_wa : an ≠ wa := fun z => by rw [← z, hL1] at hq_wa; exact nomatch hq_wa
    have hL1_L_2 : L_2 an = some (700, f) := by rw [hL_2, setL_o hne_an_wa]; exact hL1
    have hne_ra_wa : ra ≠ wa := fun z => by rw [← z, hR1] at hq_wa; exact nomatch hq_wa
    have hR1_L_2 : L_2 ra = some (40, (minRt m (nI (v + 1)) (nlN m))) := by rw [hL_2, setL_o hne_ra_wa]; exact hR1
    have hLwa_L_2 : L_2 wa = some (40, fun _ => 0) := by rw [hL_2]; exact setL_s _ _ _ _
    refine lv_astore (lv' := [(5, .ref (wa)), (0, .ref (o)), (1, .ref (an)), (2, .int (nI (v + 1))), (3, .ref (ra)), (4, .ref (bm))]) hx hb dL_isPassed_133 hl (by decide) rfl (fun ls hl => ?_)
    refine lv_iconst (v := nI 0) hx hb dL_isPassed_135 (by decide) ?_
    refine lv_istore (lv' := [(6, .int (nI 0)), (5, .ref (wa)), (0, .ref (o)), (1, .ref (an)), (2, .int (nI (v + 1))), (3, .ref (ra)), (4, .ref (bm))]) hx hb dL_isPassed_136 hl (by decide) rfl (fun ls hl => ?_)
    refine lv_iconst (v := nI 0) hx hb dL_isPassed_138 (by decide) ?_
    refine lv_istore (lv' := [(7, .int (nI 0)), (6, .int (nI 0)), (5, .ref (wa)), (0, .ref (o)), (1, .ref (an)), (2, .int (nI (v + 1))), (3, .ref (ra)), (4, .ref (bm))]) hx hb dL_isPassed_139 hl (by decide) rfl (fun ls hl => ?_)
    have hwan : wa ≠ an := fun z => by rw [z, hL1] at hq_wa; exact nomatch hq_wa
    have hwra : wa ≠ ra := fun z => by rw [z, hR1] at hq_wa; exact nomatch hq_wa
    have T2 : ∀ (wf : Nat → Int32), (∀ i, i < npN m → wf i = m 28 i) → ∀ (h : AH) (b : BA) (H : Heap) (locs : List Loc) (hH : HS G.1 G.2.1 A s.heap h H locs) (hJ : JW G.2.2.1 h b cs (setL L1 wa 40 wf) M1) (ho : b 14 0 = o) (ls : Array Slot), lv_has ls 11 [(6, .int (nI (dueN m (nI (v + 1)) (npN m) 0 0))), (5, .ref (wa)), (0, .ref (o)), (1, .ref (an)), (2, .int (nI (v + 1))), (3, .ref (ra)), (4, .ref (bm))] → W pr l e (rmm 14 468 (200 + (UC (pasZ m v c) - UC c)) (4000 + (US (pasZ m v c) - US c))) s m9 ([.ref (o), .ref (an)] : List Value).toArray below meth c9 H locs (2 + 7 * nlN m + (UC cs - UC c) + 1) (52 + 264 * nlN m + (US cs - US c) + 40) (MQ below (va_Qi (fun r h' => r = nI 1 ∧ ∃ b' c2 f' m', JW G.2.2.1 h' b' c2 (setL L an 700 f') M ∧ b' 14 0 = o ∧ WFc c2 ∧ Stt (n + 1) c2 m' ∧ NT f' m' ∧ m' 41 0 = nI (v + 1) ∧ Kp m m' ∧ (UC (pasZ m v c) ≤ UC c2 ∧ US (pasZ m v c) ≤ US c2)) (fun h' t => HW G.1 G.2.1 A h' t.heap) A) ([.ref (o), .ref (an)] : List Value).toArray s (200 + (UC (pasZ m v c) - UC c)) (4000 + (US (pasZ m v c) - US c)) A) (F0 m9 201 ls []) := by
      intro wf hwf h b H locs hH hJ ho ls hl
      obtain ⟨Lw, hLw⟩ : ∃ z, z = setL L1 wa 40 wf := ⟨_, rfl⟩
      rw [← hLw] at hJ
      have hLwa : Lw wa = some (40, wf) := by rw [hLw]; exact setL_s _ _ _ _
      have hLwo : ∀ a, a ≠ wa → Lw a = L1 a := fun a z => by rw [hLw, setL_o z]
      obtain ⟨px, pxv, m1, hSt1, hMT, hBO, hRo⟩ := d_pass ⟨hS, hw, hI⟩ hwc hn
      rw [hvn] at pxv hMT hBO hRo
      have hdn := dueN_le m (nI (v + 1)) (npN m) 0 0
      refine lv_aload_n hx hb dL_isPassed_201 rfl (lv_at hl 2 rfl) ?_
      refine lv_iconst (v := nI 1) hx hb dL_isPassed_202 (by decide) ?_
      rw [ecz] at hgz
      have hez : UC (pasZ m v c) = UC (cPsL (nI 1).toNatClampNeg 0 cs).2 ∧ US (pasZ m v c) = US (cPsL (nI 1).toNatClampNeg 0 cs).2 := by rw [ecz]; exact ⟨rfl, rfl⟩
      refine j_w1 (As := [.int (nI 1)]) (rest := []) (v := nI (dueN m (nI (v + 1)) (npN m) 0 0)) (c' := (cPsL (nI 1).toNatClampNeg 0 cs).2) C0 hN hH hJ ho (lW_pass (nI 1) hJ.own hJ.obj (cC_X10_pass l hlt G _ _ b cs hJ.rest hwc (nI 1)) (hin_n px (fun E h9 z => z.1))) (hv_in px pxv (fun E h9 z => z.1)) ms_L_pass ml_L_227 rfl ⟨Nat.le_of_ble_eq_true rfl, Nat.le_of_ble_eq_true rfl⟩ hl.1 rfl (Nat.le_of_ble_eq_true rfl) dL_isPassed_203 ⟨by show _ ≤ 200 + (UC (pasZ m v c) - UC c); omega, by show _ ≤ 4000 + (US (pasZ m v c) - US c); omega⟩ (fun h b H locs hH hJ ho hwc => ?_)
      obtain ⟨cs9, hcs9⟩ : ∃ z, z = (cPsL (nI 1).toNatClampNeg 0 cs).2 := ⟨_, rfl⟩
      rw [← hcs9] at hJ hwc hSt1 hgz ecz hez ⊢
      have hS9 := hSt1.1
      refine lv_iload hx hb dL_isPassed_206 (lv_at hl 0 rfl) ?_
      refine lv_icmp_ne (tgt := 219) hx hb dL_isPassed_208 (by decide) (fun c208_3 => ?_) (fun c208_3 => ?_)
      · exact absurd rfl c208_3
      · replace c208_3 : dueN m (nI (v + 1)) (npN m) 0 0 = dueN m (nI (v + 1)) (npN m) 0 0 := (nI_eq (a := dueN m (nI (v + 1)) (npN m) 0 0) (b := dueN m (nI (v + 1)) (npN m) 0 0) (by omega) (by omega)).mp c208_3
        refine lv_aload_n hx hb dL_isPassed_211 rfl (lv_at hl 2 rfl) ?_
        refine j_q0m (rest := []) C0 hH hJ ho (cC_X10_minute l G _ _ b cs9 hJ.rest hwc) (v := nI (v + 1)) ((v_min hS9).trans hMT.2.1) mv_X10_minute ml_L_124 rfl ⟨Nat.le_of_ble_eq_true rfl, Nat.le_of_ble_eq_true rfl⟩ hl.1 rfl (Nat.le_of_ble_eq_true rfl) dL_isPassed_212 ⟨by show _ ≤ 200 + (UC (pasZ m v c) - UC c); omega, by show _ ≤ 4000 + (US (pasZ m v c) - US c); omega⟩ (fun H locs hH => ?_)
        refine lv_iload_n hx hb dL_isPassed_215 rfl (lv_at hl 4 rfl) ?_
        refine lv_icmp_eq (tgt := 221) hx hb dL_isPassed_216 (by decide) (fun c216_4 => ?_) (fun c216_4 => ?_)
        · replace c216_4 : v + 1 = v + 1 := (nI_eq (a := v + 1) (b := v + 1) (by omega) (by omega)).mp c216_4
          refine lv_iconst (v := nI 0) hx hb dL_isPassed_221 (by decide) ?_
          refine lv_istore (lv' := [(7, .int (nI 0)), (6, .int (nI (dueN m (nI (v + 1)) (npN m) 0 0))), (5, .ref (wa)), (0, .ref (o)), (1, .ref (an)), (2, .int (nI (v + 1))), (3, .ref (ra)), (4, .ref (bm))]) hx hb dL_isPassed_222 hl (by decide) rfl (fun ls hl => ?_)
          have hw1 := hSt1.2.1
          have np1 : npN m1 = npN m := npN_ext (hMT.1 39 (Or.inr (Or.inr (by omega))))
          have nl1 : nlN m1 = nlN m := nlN_ext (hMT.1 38 (Or.inr (Or.inr (by omega))))
          have hLwn : Lw an = some (700, f) := by rw [hLwo an (Ne.symm hwan)]; exact hL1
          have hLwr : Lw ra = some (40, minRt m (nI (v + 1)) (nlN m)) := by rw [hLwo ra (Ne.symm hwra)]; exact hR1
          have K3 : ∀ (k p : Nat) (f3 : Nat → Int32) (cs3 : MM), p + k = npN m → Sim (n + 1) cs3 m1 → WFc cs3 → (UC cs9 ≤ UC cs3 ∧ US cs9 ≤ US cs3) → (∀ i, i < 140 → f3 i = f i) → (∀ i, 140 + 12 * p ≤ i → f3 i = f i) → (∀ q, q < p → NP f3 m1 q) → ∀ (h : AH) (b : BA) (H : Heap) (locs : List Loc) (hH : HS G.1 G.2.1 A s.heap h H locs) (hJ : JW G.2.2.1 h b cs3 (setL Lw an 700 f3) M1) (ho : b 14 0 = o) (ls : Array Slot), lv_has ls 11 [(7, .int (nI p)), (5, .ref (wa)), (0, .ref (o)), (1, .ref (an)), (2, .int (nI (v + 1))), (3, .ref (ra)), (4, .ref (bm))] → W pr l e (rmm 14 468 (200 + (UC (pasZ m v c) - UC c)) (4000 + (US (pasZ m v c) - US c))) s m9 ([.ref (o), .ref (an)] : List Value).toArray below meth c9 H locs (7 + 7 * nlN m + 2 * p + (UC cs9 - UC c)) (116 + 264 * nlN m + 12 * p + (US cs9 - US c)) (MQ below (va_Qi (fun r h' => r = nI 1 ∧ ∃ b' c2 f' m', JW G.2.2.1 h' b' c2 (setL L an 700 f') M ∧ b' 14 0 = o ∧ WFc c2 ∧ Stt (n + 1) c2 m' ∧ NT f' m' ∧ m' 41 0 = nI (v + 1) ∧ Kp m m' ∧ (UC (pasZ m v c) ≤ UC c2 ∧ US (pasZ m v c) ≤ US c2)) (fun h' t => HW G.1 G.2.1 A h' t.heap) A) ([.ref (o), .ref (an)] : List Value).toArray s (200 + (UC (pasZ m v c) - UC c)) (4000 + (US (pasZ m v c) - US c)) A) (F0 m9 224 ls []) := by
            intro k
            induction k with
            | zero =>
              intro p f3 cs3 hk hS3 hwc hg3 hlow hhi hnp h b H locs hH hJ ho ls hl
              obtain ⟨L3, hL3⟩ : ∃ z, z = setL Lw an 700 f3 := ⟨_, rfl⟩
              rw [← hL3] at hJ
              have hLn3 : L3 an = some (700, f3) := by rw [hL3]; exact setL_s _ _ _ _
              have hL3o : ∀ a, a ≠ an → L3 a = Lw a := fun a z => by rw [hL3, setL_o z]
              have hLw3 : L3 wa = some (40, wf) := by rw [hL3o wa hwan]; exact hLwa
              have hLr3 : L3 ra = some (40, minRt m (nI (v + 1)) (nlN m)) := by rw [hL3o ra (Ne.symm hanra)]; exact hLwr
              have hne_an_wa := Ne.symm hwan
              have hne_wa_an := hwan
              have hne_an_ra := hanra
              have hne_ra_an := Ne.symm hanra
              refine lv_iload hx hb dL_isPassed_224 (lv_at hl 0 rfl) ?_
              refine lv_aload_n hx hb dL_isPassed_226 rfl (lv_at hl 3 rfl) ?_
              refine lv_iconst (v := nI 2) hx hb dL_isPassed_227 (by decide) ?_
              refine j_ld C0 hH hJ hLn3 (ix := 2) (by omega) (by decide) (v := nI (npN m)) ((hlow 2 (by omega)).trans hT.p0) dL_isPassed_228 ?_
              refine lv_icmp_ge (tgt := 498) hx hb dL_isPassed_229 (by decide) (fun c229_5 => ?_) (fun c229_5 => ?_)
              · replace c229_5 : npN m ≤ p := (nI_leI (a := npN m) (b := p) (by omega) (by omega)).mp c229_5
                have hT3 : NT f3 m1 := hT.min hw hMT hlow (fun i hi => hhi i (by omega)) (fun q hq => hnp q (by omega))
                have hBg : BgsP m1 L3 fB := fun l8 hl8 => by
                  rw [nl1] at hl8
                  rcases hfB l8 hl8 with z | ⟨q, z1, z2, z3⟩
                  · exact Or.inl z
                  · obtain ⟨bn, y1, y2, y3⟩ := hBO l8 hl8 z3
                    have e1 : q ≠ an := fun y => by rw [y, hL1] at z2; exact absurd (congrArg Prod.fst (Option.some.inj z2)) (by show ¬ (700 : Nat) = 100; decide)
                    have e2 : q ≠ wa := fun y => by rw [y, hq_wa] at z2; exact nomatch z2
                    exact Or.inr ⟨q, _, bn, z1, by rw [hL3o q e1, hLwo q e2]; exact z2, y1, y2, y3⟩
                have hgcz := hgz
                have hfin : ∀ a x, setL L an 700 f3 a = some x → L3 a = some x := fun a x z => by
                  by_cases y : a = an
                  · rw [y, setL_s] at z; rw [y, hLn3]; exact z
                  · rw [setL_o y] at z
                    have y2 : a ≠ wa := fun y2 => by rw [y2] at z; rw [hxL _ _ z] at hq_wa; exact nomatch hq_wa
                    rw [hL3o a y, hLwo a y2]; exact hxL a x z
                refine lv_aload_n hx hb dL_isPassed_498 rfl (lv_at hl 2 rfl) ?_
                refine lv_aload_n hx hb dL_isPassed_499 rfl (lv_at hl 3 rfl) ?_
                refine lv_aload hx hb dL_isPassed_500 (lv_at hl 6 rfl) ?_
                refine k_i hH (k_lS (rest := []) C0 hN hH (lL_areBagged l hlt Sc G A _ _ cs3 m1 (n + 1) _ _ o hJ ho hwc hS3 hw1 an f3 hLn3 hT3 bm fB hM1 hBg) mv_L_areBagged ml_L_234 rfl ⟨Nat.le_of_ble_eq_true rfl, Nat.le_of_ble_eq_true rfl⟩ hl.1 rfl (Nat.le_of_ble_eq_true rfl) dL_isPassed_502 ⟨by show _ ≤ 200 + (UC (pasZ m v c) - UC c); omega, by show _ ≤ 4000 + (US (pasZ m v c) - US c); omega⟩) (fun rr h1 H locs hp hH => ?_)
                obtain ⟨ea, eh⟩ := hp
                rw [eh] at hH
                rw [ea]
                exact e_Z C0 hr (by decide) hH ⟨rfl, b, cs3, f3, m1, hJ.less hfin hxM, ho, hwc, ⟨hS3, hw1, hSt1.2.2⟩, hT3, hMT.2.1, ⟨nhN_ext (hMT.1 37 (Or.inr (Or.inr (by omega)))), Nat.le_of_eq nl1.symm, hMT.1 0 (Or.inl (by omega))⟩, by rw [ecz]; exact hg3⟩ (by omega) (by omega) dL_isPassed_505
              · exact absurd ((nI_leI (by omega) (by omega)).mpr (show npN m ≤ p by omega)) c229_5
            | succ k ih =>
              intro p f3 cs3 hk hS3 hwc hg3 hlow hhi hnp h b H locs hH hJ ho ls hl
              obtain ⟨L3, hL3⟩ : ∃ z, z = setL Lw an 700 f3 := ⟨_, rfl⟩
              rw [← hL3] at hJ
              have hLn3 : L3 an = some (700, f3) := by rw [hL3]; exact setL_s _ _ _ _
              have hL3o : ∀ a, a ≠ an → L3 a = Lw a := fun a z => by rw [hL3, setL_o z]
              have hLw3 : L3 wa = some (40, wf) := by rw [hL3o wa hwan]; exact hLwa
              have hLr3 : L3 ra = some (40, minRt m (nI (v + 1)) (nlN m)) := by rw [hL3o ra (Ne.symm hanra)]; exact hLwr
              have hne_an_wa := Ne.symm hwan
              have hne_wa_an := hwan
              have hne_an_ra := hanra
              have hne_ra_an := Ne.symm hanra
              have hp : p < npN m := by omega
              have hp1 : p < npN m1 := by omega
              have hTp := hMT.2.2 p hp
              have hNP := hT.pa hp
              have hf3 : ∀ j, j < 12 → f3 (140 + 12 * p + j) = f (140 + 12 * p + j) := fun j hj => hhi _ (by omega)
              have hf0 : f3 (140 + 12 * p) = f (140 + 12 * p) := hhi _ (by omega)
              rcases hRo p hp with hr0 | ⟨h28, l1, hl1, h19, hr0 | hr0⟩
              · rw [hr0] at hTp
                by_cases hd : m 28 p = 116 ∧ m 17 p = nI (v + 1)
                · obtain ⟨d28, d24, d15⟩ := hTp.cC hd
                  have h116 := hd.1
                  have h16a := (hw.pa hp).2.2.2.2.1 h116
                  have e16 : m 16 p = nI (vN (m 16 p)) := vp_nI h16a (by omega)
                  have h16b : vN (m 16 p) < nlN m := vp_nat h16a
                  refine lv_iload hx hb dL_isPassed_224 (lv_at hl 0 rfl) ?_
                  refine lv_aload_n hx hb dL_isPassed_226 rfl (lv_at hl 3 rfl) ?_
                  refine lv_iconst (v := nI 2) hx hb dL_isPassed_227 (by decide) ?_
                  refine j_ld C0 hH hJ hLn3 (ix := 2) (by omega) (by decide) (v := nI (npN m)) ((hlow 2 (by omega)).trans hT.p0) dL_isPassed_228 ?_
                  refine lv_icmp_ge (tgt := 498) hx hb dL_isPassed_229 (by decide) (fun c229_6 => ?_) (fun c229_6 => ?_)
                  · exact absurd ((nI_leI (by omega) (by omega)).mp c229_6) (by omega)
                  · replace c229_6 : ¬ (npN m ≤ p) := fun z => c229_6 ((nI_leI (a := npN m) (b := p) (by omega) (by omega)).mpr z)
                    refine lv_sipush (v := nI 140) hx hb dL_isPassed_232 (by decide) ?_
                    refine lv_bipush (v := nI 12) hx hb dL_isPassed_235 (by decide) ?_
                    refine lv_iload hx hb dL_isPassed_237 (lv_at hl 0 rfl) ?_
                    refine lv_imul hx hb dL_isPassed_239 ?_
                    rw [show nI 12 * nI p = nI (12 * p) from nI_mul]
                    refine lv_iadd hx hb dL_isPassed_240 ?_
                    rw [show nI 140 + nI (12 * p) = nI (140 + 12 * p) from nI_add _ _]
                    refine lv_istore (lv' := [(8, .int (nI (140 + 12 * p))), (7, .int (nI p)), (5, .ref (wa)), (0, .ref (o)), (1, .ref (an)), (2, .int (nI (v + 1))), (3, .ref (ra)), (4, .ref (bm))]) hx hb dL_isPassed_241 hl (by decide) rfl (fun ls hl => ?_)
                    refine lv_aload hx hb dL_isPassed_243 (lv_at hl 2 rfl) ?_
                    refine lv_iload hx hb dL_isPassed_245 (lv_at hl 1 rfl) ?_
                    refine j_ld C0 hH hJ hLw3 (ix := p) (by omega) (by decide) (v := nI 116) ((hwf p hp).trans hd.1) dL_isPassed_247 ?_
                    refine lv_bipush (v := nI 116) hx hb dL_isPassed_248 (by decide) ?_
                    refine lv_icmp_ne (tgt := 267) hx hb dL_isPassed_250 (by decide) (fun c250_7 => ?_) (fun c250_7 => ?_)
                    · exact absurd (by decide) c250_7
                    · refine lv_aload_n hx hb dL_isPassed_253 rfl (lv_at hl 4 rfl) ?_
                      refine lv_iload hx hb dL_isPassed_254 (lv_at hl 0 rfl) ?_
                      refine lv_iconst (v := nI 4) hx hb dL_isPassed_256 (by decide) ?_
                      refine lv_iadd hx hb dL_isPassed_257 ?_
                      rw [show nI (140 + 12 * p) + nI 4 = nI (140 + 12 * p + 4) from nI_add _ _]
                      refine j_ld C0 hH hJ hLn3 (ix := 140 + 12 * p + 4) (by omega) (by decide) (v := nI (v + 1)) ((hf3 4 (by omega)).trans ((hNP.g4 h116).trans hd.2)) dL_isPassed_258 ?_
                      refine lv_iload_n hx hb dL_isPassed_259 rfl (lv_at hl 5 rfl) ?_
                      refine lv_icmp_ne (tgt := 267) hx hb dL_isPassed_260 (by decide) (fun c260_8 => ?_) (fun c260_8 => ?_)
                      · exact absurd rfl c260_8
                      · replace c260_8 : v + 1 = v + 1 := (nI_eq (a := v + 1) (b := v + 1) (by omega) (by omega)).mp c260_8
                        refine lv_iconst (v := nI 1) hx hb dL_isPassed_263 (by decide) ?_
                        refine lv_goto (tgt := 268) hx hb dL_isPassed_264 (by decide) ?_
                        refine lv_istore (lv' := [(9, .int (nI 1)), (8, .int (nI (140 + 12 * p))), (7, .int (nI p)), (5, .ref (wa)), (0, .ref (o)), (1, .ref (an)), (2, .int (nI (v + 1))), (3, .ref (ra)), (4, .ref (bm))]) hx hb dL_isPassed_268 hl (by decide) rfl (fun ls hl => ?_)
                        refine lv_aload_n hx hb dL_isPassed_270 rfl (lv_at hl 7 rfl) ?_
                        refine lv_iload hx hb dL_isPassed_271 (lv_at hl 2 rfl) ?_
                        refine j_ld C0 hH hJ hLr3 (ix := p) (by omega) (by decide) (v := nI 0) hr0 dL_isPassed_273 ?_
                        refine lv_if_le (tgt := 282) hx hb dL_isPassed_274 (by decide) (fun c274_9 => ?_) (fun c274_9 => ?_)
                        · refine lv_iload hx hb dL_isPassed_282 (lv_at hl 0 rfl) ?_
                          refine lv_if_eq (tgt := 292) hx hb dL_isPassed_284 (by decide) (fun c284_10 => ?_) (fun c284_10 => ?_)
                          · exact absurd c284_10 (by decide)
                          · refine lv_bipush (v := nI 117) hx hb dL_isPassed_287 (by decide) ?_
                            refine lv_goto (tgt := 297) hx hb dL_isPassed_289 (by decide) ?_
                            refine lv_istore (lv' := [(10, .int (nI 117)), (9, .int (nI 1)), (8, .int (nI (140 + 12 * p))), (7, .int (nI p)), (5, .ref (wa)), (0, .ref (o)), (1, .ref (an)), (2, .int (nI (v + 1))), (3, .ref (ra)), (4, .ref (bm))]) hx hb dL_isPassed_297 hl (by decide) rfl (fun ls hl => ?_)
                            refine lv_aload_n hx hb dL_isPassed_299 rfl (lv_at hl 8 rfl) ?_
                            refine lv_iload hx hb dL_isPassed_300 (lv_at hl 3 rfl) ?_
                            refine j_ld C0 hH hJ hLr3 (ix := p) (by omega) (by decide) (v := nI 0) hr0 dL_isPassed_302 ?_
                            refine lv_if_le (tgt := 340) hx hb dL_isPassed_303 (by decide) (fun c303_11 => ?_) (fun c303_11 => ?_)
                            · refine lv_aload_n hx hb dL_isPassed_340 rfl (lv_at hl 6 rfl) ?_
                              refine lv_iload hx hb dL_isPassed_341 (lv_at hl 2 rfl) ?_
                              refine lv_bipush (v := nI 10) hx hb dL_isPassed_343 (by decide) ?_
                              refine lv_iadd hx hb dL_isPassed_345 ?_
                              rw [show nI (140 + 12 * p) + nI 10 = nI (140 + 12 * p + 10) from nI_add _ _]
                              refine lv_dup2_11 hx hb dL_isPassed_346 rfl rfl ?_
                              refine j_ld C0 hH hJ hLn3 (ix := 140 + 12 * p + 10) (by omega) (by decide) (v := m 24 p) ((hf3 10 (by omega)).trans hNP.g10) dL_isPassed_347 ?_
                              refine lv_aload_n hx hb dL_isPassed_348 rfl (lv_at hl 8 rfl) ?_
                              refine lv_iload hx hb dL_isPassed_349 (lv_at hl 3 rfl) ?_
                              refine j_ld C0 hH hJ hLr3 (ix := p) (by omega) (by decide) (v := nI 0) hr0 dL_isPassed_351 ?_
                              refine lv_if_ge (tgt := 359) hx hb dL_isPassed_352 (by decide) (fun c352_12 => ?_) (fun c352_12 => ?_)
                              · refine lv_iconst (v := nI 0) hx hb dL_isPassed_359 (by decide) ?_
                                refine lv_iadd hx hb dL_isPassed_360 ?_
                                refine j_st C0 hH hJ hLn3 (ix := 140 + 12 * p + 10) (by omega) (by decide) dL_isPassed_361 (fun h H locs hH hJ => ?_)
                                obtain ⟨f_13, hf_13⟩ : ∃ z, z = upF f3 (140 + 12 * p + 10) ((m 24 p) + (nI 0)) := ⟨_, rfl⟩
                                obtain ⟨L_14, hL_14⟩ : ∃ z, z = setL L3 an 700 f_13 := ⟨_, rfl⟩
                                rw [← hf_13, ← hL_14] at hJ
                                have hLn3_L_14 : L_14 an = some (700, f_13) := by rw [hL_14]; exact setL_s _ _ _ _
                                have hLw3_L_14 : L_14 wa = some (40, wf) := by rw [hL_14, setL_o hne_wa_an]; exact hLw3
                                have hLr3_L_14 : L_14 ra = some (40, (minRt m (nI (v + 1)) (nlN m))) := by rw [hL_14, setL_o hne_ra_an]; exact hLr3
                                refine lv_aload_n hx hb dL_isPassed_362 rfl (lv_at hl 5 rfl) ?_
                                refine lv_iload hx hb dL_isPassed_363 (lv_at hl 3 rfl) ?_
                                refine j_w0 (As := [.int (nI p)]) (rest := []) (v := nI 117) C0 hN hH ho (lW_state (nI p) hJ.own hJ.obj (cN_X10_state l hlt G _ _ b cs3 hJ.rest hwc (nI p) (v_nar28 hS3 hw1 hp1) (v_pX hS3 hw1 hwc hp1)) (fun E h9 z => absurd ((v_pX hS3 hw1 hwc hp1).symm.trans z.1) (fun y => nomatch y))) (fun r h9 z => z.elim (fun y => ⟨y.2.1.trans ((v_pk hS3 hw1 hp1 (k := 28) rfl).trans d28), y.2.2⟩) (fun ⟨E, y, _⟩ => absurd ((v_pX hS3 hw1 hwc hp1).symm.trans y.1) (fun q => nomatch q))) ms_L_state ml_L_147 rfl ⟨Nat.le_of_ble_eq_true rfl, Nat.le_of_ble_eq_true rfl⟩ hl.1 rfl (Nat.le_of_ble_eq_true rfl) dL_isPassed_365 ⟨by show _ ≤ 200 + (UC (pasZ m v c) - UC c); omega, by show _ ≤ 4000 + (US (pasZ m v c) - US c); omega⟩ (fun H locs hH => ?_)
                                refine lv_iload hx hb dL_isPassed_368 (lv_at hl 0 rfl) ?_
                                refine lv_icmp_ne (tgt := 490) hx hb dL_isPassed_370 (by decide) (fun c370_15 => ?_) (fun c370_15 => ?_)
                                · exact absurd (by decide) c370_15
                                · refine lv_aload_n hx hb dL_isPassed_373 rfl (lv_at hl 5 rfl) ?_
                                  refine lv_iload hx hb dL_isPassed_374 (lv_at hl 3 rfl) ?_
                                  refine j_q0 (rest := []) C0 hH hJ ho (cN_X10_missed l hlt G _ _ b cs3 hJ.rest hwc (nI p) (v_pX hS3 hw1 hwc hp1)) (v_pX hS3 hw1 hwc hp1) (v := m 24 p + nI 0) ((v_pk hS3 hw1 hp1 (k := 24) rfl).trans d24) mv_X10_missed ml_L_229 rfl ⟨Nat.le_of_ble_eq_true rfl, Nat.le_of_ble_eq_true rfl⟩ hl.1 rfl (Nat.le_of_ble_eq_true rfl) dL_isPassed_376 ⟨by show _ ≤ 200 + (UC (pasZ m v c) - UC c); omega, by show _ ≤ 4000 + (US (pasZ m v c) - US c); omega⟩ (fun H locs hH => ?_)
                                  refine lv_aload_n hx hb dL_isPassed_379 rfl (lv_at hl 6 rfl) ?_
                                  refine lv_iload hx hb dL_isPassed_380 (lv_at hl 2 rfl) ?_
                                  refine lv_bipush (v := nI 10) hx hb dL_isPassed_382 (by decide) ?_
                                  refine lv_iadd hx hb dL_isPassed_384 ?_
                                  rw [show nI (140 + 12 * p) + nI 10 = nI (140 + 12 * p + 10) from nI_add _ _]
                                  refine j_ld C0 hH hJ hLn3_L_14 (ix := 140 + 12 * p + 10) (by omega) (by decide) (v := (m 24 p) + (nI 0)) (by rw [hf_13]; unfold upF; exact if_pos rfl) dL_isPassed_385 ?_
                                  refine lv_icmp_ne (tgt := 490) hx hb dL_isPassed_386 (by decide) (fun c386_16 => ?_) (fun c386_16 => ?_)
                                  · exact absurd rfl c386_16
                                  · refine lv_iload hx hb dL_isPassed_389 (lv_at hl 0 rfl) ?_
                                    refine lv_bipush (v := nI 116) hx hb dL_isPassed_391 (by decide) ?_
                                    refine lv_icmp_ne (tgt := 422) hx hb dL_isPassed_393 (by decide) (fun c393_17 => ?_) (fun c393_17 => ?_)
                                    · refine lv_iload hx hb dL_isPassed_422 (lv_at hl 0 rfl) ?_
                                      refine lv_bipush (v := nI 116) hx hb dL_isPassed_424 (by decide) ?_
                                      refine lv_icmp_eq (tgt := 440) hx hb dL_isPassed_426 (by decide) (fun c426_18 => ?_) (fun c426_18 => ?_)
                                      · exact absurd c426_18 (by decide)
                                      · refine lv_aload_n hx hb dL_isPassed_429 rfl (lv_at hl 5 rfl) ?_
                                        refine lv_iload hx hb dL_isPassed_430 (lv_at hl 3 rfl) ?_
                                        refine j_w0 (As := [.int (nI p)]) (rest := []) (v := -900002) C0 hN hH ho (lW_rides (nI p) hJ.own hJ.obj (cC_X10_rides l hlt G _ _ b cs3 hJ.rest hwc (nI p)) (hin_x (v_rdX hS3 hw1 hwc hp1 (by rw [d28]; decide)) (fun E h9 z => z.1) ⟨_, List.mem_cons_of_mem _ List.mem_cons_self⟩)) (hv_x0 (v_rdX hS3 hw1 hwc hp1 (by rw [d28]; decide)) rfl (fun r h9 z => z.1)) ms_L_rides ml_L_155 rfl ⟨Nat.le_of_ble_eq_true rfl, Nat.le_of_ble_eq_true rfl⟩ hl.1 rfl (Nat.le_of_ble_eq_true rfl) dL_isPassed_432 ⟨by show _ ≤ 200 + (UC (pasZ m v c) - UC c); omega, by show _ ≤ 4000 + (US (pasZ m v c) - US c); omega⟩ (fun H locs hH => ?_)
                                        refine lv_ldc hx hb hown (hts _ kl_L_20) dL_isPassed_435 ?_
                                        refine lv_icmp_ne (tgt := 490) hx hb dL_isPassed_437 (by decide) (fun c437_19 => ?_) (fun c437_19 => ?_)
                                        · exact absurd (by decide) c437_19
                                        · refine lv_iload hx hb dL_isPassed_440 (lv_at hl 1 rfl) ?_
                                          refine lv_if_eq (tgt := 468) hx hb dL_isPassed_442 (by decide) (fun c442_20 => ?_) (fun c442_20 => ?_)
                                          · exact absurd c442_20 (by decide)
                                          · refine lv_aload_n hx hb dL_isPassed_445 rfl (lv_at hl 5 rfl) ?_
                                            refine lv_iload hx hb dL_isPassed_446 (lv_at hl 3 rfl) ?_
                                            refine j_w0 (As := [.int (nI p)]) (rest := []) (v := m 3 (vN (m 16 p))) C0 hN hH ho (lW_at (nI p) hJ.own hJ.obj (cN_X10_at l hlt G _ _ b cs3 hJ.rest hwc (nI p) (v_at hS3 hw1 hwc hp1 (by rw [d28]; decide))) (fun E h9 z => absurd ((v_at hS3 hw1 hwc hp1 (by rw [d28]; decide)).symm.trans z.1) (fun y => nomatch y))) (fun r h9 z => z.elim (fun y => ⟨y.2.1.trans ((v_pk hS3 hw1 hp1 (k := 15) rfl).trans d15), y.2.2⟩) (fun ⟨E, y, _⟩ => absurd ((v_at hS3 hw1 hwc hp1 (by rw [d28]; decide)).symm.trans y.1) (fun q => nomatch q))) ms_L_at ml_L_149 rfl ⟨Nat.le_of_ble_eq_true rfl, Nat.le_of_ble_eq_true rfl⟩ hl.1 rfl (Nat.le_of_ble_eq_true rfl) dL_isPassed_448 ⟨by show _ ≤ 200 + (UC (pasZ m v c) - UC c); omega, by show _ ≤ 4000 + (US (pasZ m v c) - US c); omega⟩ (fun H locs hH => ?_)
                                            refine lv_aload_n hx hb dL_isPassed_451 rfl (lv_at hl 6 rfl) ?_
                                            refine lv_bipush (v := nI 31) hx hb dL_isPassed_452 (by decide) ?_
                                            refine lv_bipush (v := nI 8) hx hb dL_isPassed_454 (by decide) ?_
                                            refine lv_aload_n hx hb dL_isPassed_456 rfl (lv_at hl 6 rfl) ?_
                                            refine lv_iload hx hb dL_isPassed_457 (lv_at hl 2 rfl) ?_
                                            refine lv_iconst (v := nI 5) hx hb dL_isPassed_459 (by decide) ?_
                                            refine lv_iadd hx hb dL_isPassed_460 ?_
                                            rw [show nI (140 + 12 * p) + nI 5 = nI (140 + 12 * p + 5) from nI_add _ _]
                                            refine j_ld C0 hH hJ hLn3_L_14 (ix := 140 + 12 * p + 5) (by omega) (by decide) (v := nI (vN (m 16 p))) (by rw [hf_13]; unfold upF; rw [if_neg (by omega)]; exact ((hf3 5 (by omega)).trans ((hNP.g5 h116).trans e16))) dL_isPassed_461 ?_
                                            refine lv_imul hx hb dL_isPassed_462 ?_
                                            rw [show nI 8 * nI (vN (m 16 p)) = nI (8 * (vN (m 16 p))) from nI_mul]
                                            refine lv_iadd hx hb dL_isPassed_463 ?_
                                            rw [show nI 31 + nI (8 * (vN (m 16 p))) = nI (31 + 8 * (vN (m 16 p))) from nI_add _ _]
                                            refine j_ld C0 hH hJ hLn3_L_14 (ix := 31 + 8 * (vN (m 16 p))) (by omega) (by decide) (v := m 3 (vN (m 16 p))) (by rw [hf_13]; unfold upF; rw [if_neg (by omega)]; exact ((hlow _ (by omega)).trans (hT.ln h16b 1 (by omega) (by omega)))) dL_isPassed_464 ?_
                                            refine lv_icmp_ne (tgt := 490) hx hb dL_isPassed_465 (by decide) (fun c465_21 => ?_) (fun c465_21 => ?_)
                                            · exact absurd rfl c465_21
                                            · refine lv_aload_n hx hb dL_isPassed_468 rfl (lv_at hl 8 rfl) ?_
                                              refine lv_iload hx hb dL_isPassed_469 (lv_at hl 3 rfl) ?_
                                              refine j_ld C0 hH hJ hLr3_L_14 (ix := p) (by omega) (by decide) (v := nI 0) hr0 dL_isPassed_471 ?_
                                              refine lv_if_ge (tgt := 492) hx hb dL_isPassed_472 (by decide) (fun c472_22 => ?_) (fun c472_22 => ?_)
                                              · refine lv_iinc (v := nI (p + 1)) (lv' := [(7, .int (nI (p + 1))), (10, .int (nI 117)), (9, .int (nI 1)), (8, .int (nI (140 + 12 * p))), (5, .ref (wa)), (0, .ref (o)), (1, .ref (an)), (2, .int (nI (v + 1))), (3, .ref (ra)), (4, .ref (bm))]) hx hb dL_isPassed_492 hl (k := 3) rfl (nI_add (p) 1) (by decide) rfl (fun ls hl => ?_)
                                                refine lv_goto (tgt := 224) hx hb dL_isPassed_495 (by decide) ?_
                                                have hof : ∀ i, i ≠ 140 + 12 * p + 4 → i ≠ 140 + 12 * p + 5 → i ≠ 140 + 12 * p + 10 → f_13 i = f3 i := fun i z1 z2 z3 => by rw [hf_13]; unfold upF; rw [if_neg (by omega)]
                                                have hnew : NP f_13 m1 p := hNP.min hTp (fun j hj a1 a2 a3 => by rw [← hf3 j hj]; exact hof _ (by omega) (by omega) (by omega)) (fun z => by rw [d28] at z; exact absurd z (by decide)) (by rw [d24, hf_13]; exact upF_s _ _ _) (by rw [d28, h116]; decide)
                                                rw [hL_14, hL3, setL_2] at hJ
                                                refine W.widen (k := 7 + 7 * nlN m + 2 * (p + 1) + (UC cs9 - UC c)) (n := 116 + 264 * nlN m + 12 * (p + 1) + (US cs9 - US c)) (by omega) (by omega) ?_
                                                exact ih (p + 1) f_13 cs3 (by omega) hS3 hwc hg3 (fun i hi => by rw [hof i (by omega) (by omega) (by omega)]; exact hlow i hi) (fun i hi => by rw [hof i (by omega) (by omega) (by omega)]; exact hhi i (by omega)) (fun q hq => by by_cases y : q = p; (· rw [y]; exact hnew); (· exact (hnp q (by omega)).ext (fun j hj => hof _ (by omega) (by omega) (by omega)) (fun _ _ _ => rfl))) h b H locs hH hJ ho ls (lv_sub hl [0, 4, 5, 6, 7, 8, 9] rfl)
                                              · exact absurd (by decide) c472_22
                                    · exact absurd c393_17 (by decide)
                              · exact absurd (by decide) c352_12
                            · exact absurd (by decide) c303_11
                        · exact absurd (by decide) c274_9
                · obtain ⟨d28, d24, d16, d17⟩ := hTp.cD hd
                  refine lv_iload hx hb dL_isPassed_224 (lv_at hl 0 rfl) ?_
                  refine lv_aload_n hx hb dL_isPassed_226 rfl (lv_at hl 3 rfl) ?_
                  refine lv_iconst (v := nI 2) hx hb dL_isPassed_227 (by decide) ?_
                  refine j_ld C0 hH hJ hLn3 (ix := 2) (by omega) (by decide) (v := nI (npN m)) ((hlow 2 (by omega)).trans hT.p0) dL_isPassed_228 ?_
                  refine lv_icmp_ge (tgt := 498) hx hb dL_isPassed_229 (by decide) (fun c229_23 => ?_) (fun c229_23 => ?_)
                  · exact absurd ((nI_leI (by omega) (by omega)).mp c229_23) (by omega)
                  · replace c229_23 : ¬ (npN m ≤ p) := fun z => c229_23 ((nI_leI (a := npN m) (b := p) (by omega) (by omega)).mpr z)
                    refine lv_sipush (v := nI 140) hx hb dL_isPassed_232 (by decide) ?_
                    refine lv_bipush (v := nI 12) hx hb dL_isPassed_235 (by decide) ?_
                    refine lv_iload hx hb dL_isPassed_237 (lv_at hl 0 rfl) ?_
                    refine lv_imul hx hb dL_isPassed_239 ?_
                    rw [show nI 12 * nI p = nI (12 * p) from nI_mul]
                    refine lv_iadd hx hb dL_isPassed_240 ?_
                    rw [show nI 140 + nI (12 * p) = nI (140 + 12 * p) from nI_add _ _]
                    refine lv_istore (lv' := [(8, .int (nI (140 + 12 * p))), (7, .int (nI p)), (5, .ref (wa)), (0, .ref (o)), (1, .ref (an)), (2, .int (nI (v + 1))), (3, .ref (ra)), (4, .ref (bm))]) hx hb dL_isPassed_241 hl (by decide) rfl (fun ls hl => ?_)
                    refine lv_aload hx hb dL_isPassed_243 (lv_at hl 2 rfl) ?_
                    refine lv_iload hx hb dL_isPassed_245 (lv_at hl 1 rfl) ?_
                    refine j_ld C0 hH hJ hLw3 (ix := p) (by omega) (by decide) (v := m 28 p) (hwf p hp) dL_isPassed_247 ?_
                    refine lv_bipush (v := nI 116) hx hb dL_isPassed_248 (by decide) ?_
                    refine lv_icmp_ne (tgt := 267) hx hb dL_isPassed_250 (by decide) (fun c250_24 => ?_) (fun c250_24 => ?_)
                    · refine lv_iconst (v := nI 0) hx hb dL_isPassed_267 (by decide) ?_
                      refine lv_istore (lv' := [(9, .int (nI 0)), (8, .int (nI (140 + 12 * p))), (7, .int (nI p)), (5, .ref (wa)), (0, .ref (o)), (1, .ref (an)), (2, .int (nI (v + 1))), (3, .ref (ra)), (4, .ref (bm))]) hx hb dL_isPassed_268 hl (by decide) rfl (fun ls hl => ?_)
                      refine lv_aload_n hx hb dL_isPassed_270 rfl (lv_at hl 7 rfl) ?_
                      refine lv_iload hx hb dL_isPassed_271 (lv_at hl 2 rfl) ?_
                      refine j_ld C0 hH hJ hLr3 (ix := p) (by omega) (by decide) (v := nI 0) hr0 dL_isPassed_273 ?_
                      refine lv_if_le (tgt := 282) hx hb dL_isPassed_274 (by decide) (fun c274_25 => ?_) (fun c274_25 => ?_)
                      · refine lv_iload hx hb dL_isPassed_282 (lv_at hl 0 rfl) ?_
                        refine lv_if_eq (tgt := 292) hx hb dL_isPassed_284 (by decide) (fun c284_26 => ?_) (fun c284_26 => ?_)
                        · refine lv_aload hx hb dL_isPassed_292 (lv_at hl 3 rfl) ?_
                          refine lv_iload hx hb dL_isPassed_294 (lv_at hl 2 rfl) ?_
                          refine j_ld C0 hH hJ hLw3 (ix := p) (by omega) (by decide) (v := m 28 p) (hwf p hp) dL_isPassed_296 ?_
                          refine lv_istore (lv' := [(10, .int (m 28 p)), (9, .int (nI 0)), (8, .int (nI (140 + 12 * p))), (7, .int (nI p)), (5, .ref (wa)), (0, .ref (o)), (1, .ref (an)), (2, .int (nI (v + 1))), (3, .ref (ra)), (4, .ref (bm))]) hx hb dL_isPassed_297 hl (by decide) rfl (fun ls hl => ?_)
                          refine lv_aload_n hx hb dL_isPassed_299 rfl (lv_at hl 8 rfl) ?_
                          refine lv_iload hx hb dL_isPassed_300 (lv_at hl 3 rfl) ?_
                          refine j_ld C0 hH hJ hLr3 (ix := p) (by omega) (by decide) (v := nI 0) hr0 dL_isPassed_302 ?_
                          refine lv_if_le (tgt := 340) hx hb dL_isPassed_303 (by decide) (fun c303_27 => ?_) (fun c303_27 => ?_)
                          · refine lv_aload_n hx hb dL_isPassed_340 rfl (lv_at hl 6 rfl) ?_
                            refine lv_iload hx hb dL_isPassed_341 (lv_at hl 2 rfl) ?_
                            refine lv_bipush (v := nI 10) hx hb dL_isPassed_343 (by decide) ?_
                            refine lv_iadd hx hb dL_isPassed_345 ?_
                            rw [show nI (140 + 12 * p) + nI 10 = nI (140 + 12 * p + 10) from nI_add _ _]
                            refine lv_dup2_11 hx hb dL_isPassed_346 rfl rfl ?_
                            refine j_ld C0 hH hJ hLn3 (ix := 140 + 12 * p + 10) (by omega) (by decide) (v := m 24 p) ((hf3 10 (by omega)).trans hNP.g10) dL_isPassed_347 ?_
                            refine lv_aload_n hx hb dL_isPassed_348 rfl (lv_at hl 8 rfl) ?_
                            refine lv_iload hx hb dL_isPassed_349 (lv_at hl 3 rfl) ?_
                            refine j_ld C0 hH hJ hLr3 (ix := p) (by omega) (by decide) (v := nI 0) hr0 dL_isPassed_351 ?_
                            refine lv_if_ge (tgt := 359) hx hb dL_isPassed_352 (by decide) (fun c352_28 => ?_) (fun c352_28 => ?_)
                            · refine lv_iconst (v := nI 0) hx hb dL_isPassed_359 (by decide) ?_
                              refine lv_iadd hx hb dL_isPassed_360 ?_
                              refine j_st C0 hH hJ hLn3 (ix := 140 + 12 * p + 10) (by omega) (by decide) dL_isPassed_361 (fun h H locs hH hJ => ?_)
                              obtain ⟨f_29, hf_29⟩ : ∃ z, z = upF f3 (140 + 12 * p + 10) ((m 24 p) + (nI 0)) := ⟨_, rfl⟩
                              obtain ⟨L_30, hL_30⟩ : ∃ z, z = setL L3 an 700 f_29 := ⟨_, rfl⟩
                              rw [← hf_29, ← hL_30] at hJ
                              have hLn3_L_30 : L_30 an = some (700, f_29) := by rw [hL_30]; exact setL_s _ _ _ _
                              have hLw3_L_30 : L_30 wa = some (40, wf) := by rw [hL_30, setL_o hne_wa_an]; exact hLw3
                              have hLr3_L_30 : L_30 ra = some (40, (minRt m (nI (v + 1)) (nlN m))) := by rw [hL_30, setL_o hne_ra_an]; exact hLr3
                              refine lv_aload_n hx hb dL_isPassed_362 rfl (lv_at hl 5 rfl) ?_
                              refine lv_iload hx hb dL_isPassed_363 (lv_at hl 3 rfl) ?_
                              refine j_w0 (As := [.int (nI p)]) (rest := []) (v := m 28 p) C0 hN hH ho (lW_state (nI p) hJ.own hJ.obj (cN_X10_state l hlt G _ _ b cs3 hJ.rest hwc (nI p) (v_nar28 hS3 hw1 hp1) (v_pX hS3 hw1 hwc hp1)) (fun E h9 z => absurd ((v_pX hS3 hw1 hwc hp1).symm.trans z.1) (fun y => nomatch y))) (fun r h9 z => z.elim (fun y => ⟨y.2.1.trans ((v_pk hS3 hw1 hp1 (k := 28) rfl).trans d28), y.2.2⟩) (fun ⟨E, y, _⟩ => absurd ((v_pX hS3 hw1 hwc hp1).symm.trans y.1) (fun q => nomatch q))) ms_L_state ml_L_147 rfl ⟨Nat.le_of_ble_eq_true rfl, Nat.le_of_ble_eq_true rfl⟩ hl.1 rfl (Nat.le_of_ble_eq_true rfl) dL_isPassed_365 ⟨by show _ ≤ 200 + (UC (pasZ m v c) - UC c); omega, by show _ ≤ 4000 + (US (pasZ m v c) - US c); omega⟩ (fun H locs hH => ?_)
                              refine lv_iload hx hb dL_isPassed_368 (lv_at hl 0 rfl) ?_
                              refine lv_icmp_ne (tgt := 490) hx hb dL_isPassed_370 (by decide) (fun c370_31 => ?_) (fun c370_31 => ?_)
                              · exact absurd rfl c370_31
                              · refine lv_aload_n hx hb dL_isPassed_373 rfl (lv_at hl 5 rfl) ?_
                                refine lv_iload hx hb dL_isPassed_374 (lv_at hl 3 rfl) ?_
                                refine j_q0 (rest := []) C0 hH hJ ho (cN_X10_missed l hlt G _ _ b cs3 hJ.rest hwc (nI p) (v_pX hS3 hw1 hwc hp1)) (v_pX hS3 hw1 hwc hp1) (v := m 24 p + nI 0) ((v_pk hS3 hw1 hp1 (k := 24) rfl).trans d24) mv_X10_missed ml_L_229 rfl ⟨Nat.le_of_ble_eq_true rfl, Nat.le_of_ble_eq_true rfl⟩ hl.1 rfl (Nat.le_of_ble_eq_true rfl) dL_isPassed_376 ⟨by show _ ≤ 200 + (UC (pasZ m v c) - UC c); omega, by show _ ≤ 4000 + (US (pasZ m v c) - US c); omega⟩ (fun H locs hH => ?_)
                                refine lv_aload_n hx hb dL_isPassed_379 rfl (lv_at hl 6 rfl) ?_
                                refine lv_iload hx hb dL_isPassed_380 (lv_at hl 2 rfl) ?_
                                refine lv_bipush (v := nI 10) hx hb dL_isPassed_382 (by decide) ?_
                                refine lv_iadd hx hb dL_isPassed_384 ?_
                                rw [show nI (140 + 12 * p) + nI 10 = nI (140 + 12 * p + 10) from nI_add _ _]
                                refine j_ld C0 hH hJ hLn3_L_30 (ix := 140 + 12 * p + 10) (by omega) (by decide) (v := (m 24 p) + (nI 0)) (by rw [hf_29]; unfold upF; exact if_pos rfl) dL_isPassed_385 ?_
                                refine lv_icmp_ne (tgt := 490) hx hb dL_isPassed_386 (by decide) (fun c386_32 => ?_) (fun c386_32 => ?_)
                                · exact absurd rfl c386_32
                                · refine lv_iload hx hb dL_isPassed_389 (lv_at hl 0 rfl) ?_
                                  refine lv_bipush (v := nI 116) hx hb dL_isPassed_391 (by decide) ?_
                                  refine lv_icmp_ne (tgt := 422) hx hb dL_isPassed_393 (by decide) (fun c393_33 => ?_) (fun c393_33 => ?_)
                                  · refine lv_iload hx hb dL_isPassed_422 (lv_at hl 0 rfl) ?_
                                    refine lv_bipush (v := nI 116) hx hb dL_isPassed_424 (by decide) ?_
                                    refine lv_icmp_eq (tgt := 440) hx hb dL_isPassed_426 (by decide) (fun c426_34 => ?_) (fun c426_34 => ?_)
                                    · exact absurd c426_34 c393_33
                                    · have hn116 : ¬ m 28 p = 116 := c250_24
                                      refine lv_aload_n hx hb dL_isPassed_429 rfl (lv_at hl 5 rfl) ?_
                                      refine lv_iload hx hb dL_isPassed_430 (lv_at hl 3 rfl) ?_
                                      refine j_w0 (As := [.int (nI p)]) (rest := []) (v := -900002) C0 hN hH ho (lW_rides (nI p) hJ.own hJ.obj (cC_X10_rides l hlt G _ _ b cs3 hJ.rest hwc (nI p)) (hin_x (v_rdX hS3 hw1 hwc hp1 (by rw [d28]; exact hn116)) (fun E h9 z => z.1) ⟨_, List.mem_cons_of_mem _ List.mem_cons_self⟩)) (hv_x0 (v_rdX hS3 hw1 hwc hp1 (by rw [d28]; exact hn116)) rfl (fun r h9 z => z.1)) ms_L_rides ml_L_155 rfl ⟨Nat.le_of_ble_eq_true rfl, Nat.le_of_ble_eq_true rfl⟩ hl.1 rfl (Nat.le_of_ble_eq_true rfl) dL_isPassed_432 ⟨by show _ ≤ 200 + (UC (pasZ m v c) - UC c); omega, by show _ ≤ 4000 + (US (pasZ m v c) - US c); omega⟩ (fun H locs hH => ?_)
                                      refine lv_ldc hx hb hown (hts _ kl_L_20) dL_isPassed_435 ?_
                                      refine lv_icmp_ne (tgt := 490) hx hb dL_isPassed_437 (by decide) (fun c437_35 => ?_) (fun c437_35 => ?_)
                                      · exact absurd (by decide) c437_35
                                      · refine lv_iload hx hb dL_isPassed_440 (lv_at hl 1 rfl) ?_
                                        refine lv_if_eq (tgt := 468) hx hb dL_isPassed_442 (by decide) (fun c442_36 => ?_) (fun c442_36 => ?_)
                                        · refine lv_aload_n hx hb dL_isPassed_468 rfl (lv_at hl 8 rfl) ?_
                                          refine lv_iload hx hb dL_isPassed_469 (lv_at hl 3 rfl) ?_
                                          refine j_ld C0 hH hJ hLr3_L_30 (ix := p) (by omega) (by decide) (v := nI 0) hr0 dL_isPassed_471 ?_
                                          refine lv_if_ge (tgt := 492) hx hb dL_isPassed_472 (by decide) (fun c472_37 => ?_) (fun c472_37 => ?_)
                                          · refine lv_iinc (v := nI (p + 1)) (lv' := [(7, .int (nI (p + 1))), (10, .int (m 28 p)), (9, .int (nI 0)), (8, .int (nI (140 + 12 * p))), (5, .ref (wa)), (0, .ref (o)), (1, .ref (an)), (2, .int (nI (v + 1))), (3, .ref (ra)), (4, .ref (bm))]) hx hb dL_isPassed_492 hl (k := 3) rfl (nI_add (p) 1) (by decide) rfl (fun ls hl => ?_)
                                            refine lv_goto (tgt := 224) hx hb dL_isPassed_495 (by decide) ?_
                                            have hof : ∀ i, i ≠ 140 + 12 * p + 4 → i ≠ 140 + 12 * p + 5 → i ≠ 140 + 12 * p + 10 → f_29 i = f3 i := fun i z1 z2 z3 => by rw [hf_29]; unfold upF; rw [if_neg (by omega)]
                                            have hnew : NP f_29 m1 p := hNP.min hTp (fun j hj a1 a2 a3 => by rw [← hf3 j hj]; exact hof _ (by omega) (by omega) (by omega)) (fun z => by have y : m 28 p = 116 := d28.symm.trans z; exact ⟨by rw [d17, hf_29, upF_o (by omega)]; exact (hf3 4 (by omega)).trans (hNP.g4 y), by rw [d16, hf_29, upF_o (by omega)]; exact (hf3 5 (by omega)).trans (hNP.g5 y)⟩) (by rw [d24, hf_29]; exact upF_s _ _ _) (by rw [d28])
                                            rw [hL_30, hL3, setL_2] at hJ
                                            refine W.widen (k := 7 + 7 * nlN m + 2 * (p + 1) + (UC cs9 - UC c)) (n := 116 + 264 * nlN m + 12 * (p + 1) + (US cs9 - US c)) (by omega) (by omega) ?_
                                            exact ih (p + 1) f_29 cs3 (by omega) hS3 hwc hg3 (fun i hi => by rw [hof i (by omega) (by omega) (by omega)]; exact hlow i hi) (fun i hi => by rw [hof i (by omega) (by omega) (by omega)]; exact hhi i (by omega)) (fun q hq => by by_cases y : q = p; (· rw [y]; exact hnew); (· exact (hnp q (by omega)).ext (fun j hj => hof _ (by omega) (by omega) (by omega)) (fun _ _ _ => rfl))) h b H locs hH hJ ho ls (lv_sub hl [0, 4, 5, 6, 7, 8, 9] rfl)
                                          · exact absurd (by decide) c472_37
                                        · exact absurd (by decide) c442_36
                                  · exact absurd c393_33 c250_24
                            · exact absurd (by decide) c352_28
                          · exact absurd (by decide) c303_27
                        · exact absurd (by decide) c284_26
                      · exact absurd (by decide) c274_25
                    · have h116 : m 28 p = 116 := c250_24
                      refine lv_aload_n hx hb dL_isPassed_253 rfl (lv_at hl 4 rfl) ?_
                      refine lv_iload hx hb dL_isPassed_254 (lv_at hl 0 rfl) ?_
                      refine lv_iconst (v := nI 4) hx hb dL_isPassed_256 (by decide) ?_
                      refine lv_iadd hx hb dL_isPassed_257 ?_
                      rw [show nI (140 + 12 * p) + nI 4 = nI (140 + 12 * p + 4) from nI_add _ _]
                      refine j_ld C0 hH hJ hLn3 (ix := 140 + 12 * p + 4) (by omega) (by decide) (v := m 17 p) ((hf3 4 (by omega)).trans (hNP.g4 h116)) dL_isPassed_258 ?_
                      refine lv_iload_n hx hb dL_isPassed_259 rfl (lv_at hl 5 rfl) ?_
                      refine lv_icmp_ne (tgt := 267) hx hb dL_isPassed_260 (by decide) (fun c260_38 => ?_) (fun c260_38 => ?_)
                      · refine lv_iconst (v := nI 0) hx hb dL_isPassed_267 (by decide) ?_
                        refine lv_istore (lv' := [(9, .int (nI 0)), (8, .int (nI (140 + 12 * p))), (7, .int (nI p)), (5, .ref (wa)), (0, .ref (o)), (1, .ref (an)), (2, .int (nI (v + 1))), (3, .ref (ra)), (4, .ref (bm))]) hx hb dL_isPassed_268 hl (by decide) rfl (fun ls hl => ?_)
                        refine lv_aload_n hx hb dL_isPassed_270 rfl (lv_at hl 7 rfl) ?_
                        refine lv_iload hx hb dL_isPassed_271 (lv_at hl 2 rfl) ?_
                        refine j_ld C0 hH hJ hLr3 (ix := p) (by omega) (by decide) (v := nI 0) hr0 dL_isPassed_273 ?_
                        refine lv_if_le (tgt := 282) hx hb dL_isPassed_274 (by decide) (fun c274_39 => ?_) (fun c274_39 => ?_)
                        · refine lv_iload hx hb dL_isPassed_282 (lv_at hl 0 rfl) ?_
                          refine lv_if_eq (tgt := 292) hx hb dL_isPassed_284 (by decide) (fun c284_40 => ?_) (fun c284_40 => ?_)
                          · refine lv_aload hx hb dL_isPassed_292 (lv_at hl 3 rfl) ?_
                            refine lv_iload hx hb dL_isPassed_294 (lv_at hl 2 rfl) ?_
                            refine j_ld C0 hH hJ hLw3 (ix := p) (by omega) (by decide) (v := m 28 p) (hwf p hp) dL_isPassed_296 ?_
                            refine lv_istore (lv' := [(10, .int (m 28 p)), (9, .int (nI 0)), (8, .int (nI (140 + 12 * p))), (7, .int (nI p)), (5, .ref (wa)), (0, .ref (o)), (1, .ref (an)), (2, .int (nI (v + 1))), (3, .ref (ra)), (4, .ref (bm))]) hx hb dL_isPassed_297 hl (by decide) rfl (fun ls hl => ?_)
                            refine lv_aload_n hx hb dL_isPassed_299 rfl (lv_at hl 8 rfl) ?_
                            refine lv_iload hx hb dL_isPassed_300 (lv_at hl 3 rfl) ?_
                            refine j_ld C0 hH hJ hLr3 (ix := p) (by omega) (by decide) (v := nI 0) hr0 dL_isPassed_302 ?_
                            refine lv_if_le (tgt := 340) hx hb dL_isPassed_303 (by decide) (fun c303_41 => ?_) (fun c303_41 => ?_)
                            · refine lv_aload_n hx hb dL_isPassed_340 rfl (lv_at hl 6 rfl) ?_
                              refine lv_iload hx hb dL_isPassed_341 (lv_at hl 2 rfl) ?_
                              refine lv_bipush (v := nI 10) hx hb dL_isPassed_343 (by decide) ?_
                              refine lv_iadd hx hb dL_isPassed_345 ?_
                              rw [show nI (140 + 12 * p) + nI 10 = nI (140 + 12 * p + 10) from nI_add _ _]
                              refine lv_dup2_11 hx hb dL_isPassed_346 rfl rfl ?_
                              refine j_ld C0 hH hJ hLn3 (ix := 140 + 12 * p + 10) (by omega) (by decide) (v := m 24 p) ((hf3 10 (by omega)).trans hNP.g10) dL_isPassed_347 ?_
                              refine lv_aload_n hx hb dL_isPassed_348 rfl (lv_at hl 8 rfl) ?_
                              refine lv_iload hx hb dL_isPassed_349 (lv_at hl 3 rfl) ?_
                              refine j_ld C0 hH hJ hLr3 (ix := p) (by omega) (by decide) (v := nI 0) hr0 dL_isPassed_351 ?_
                              refine lv_if_ge (tgt := 359) hx hb dL_isPassed_352 (by decide) (fun c352_42 => ?_) (fun c352_42 => ?_)
                              · refine lv_iconst (v := nI 0) hx hb dL_isPassed_359 (by decide) ?_
                                refine lv_iadd hx hb dL_isPassed_360 ?_
                                refine j_st C0 hH hJ hLn3 (ix := 140 + 12 * p + 10) (by omega) (by decide) dL_isPassed_361 (fun h H locs hH hJ => ?_)
                                obtain ⟨f_43, hf_43⟩ : ∃ z, z = upF f3 (140 + 12 * p + 10) ((m 24 p) + (nI 0)) := ⟨_, rfl⟩
                                obtain ⟨L_44, hL_44⟩ : ∃ z, z = setL L3 an 700 f_43 := ⟨_, rfl⟩
                                rw [← hf_43, ← hL_44] at hJ
                                have hLn3_L_44 : L_44 an = some (700, f_43) := by rw [hL_44]; exact setL_s _ _ _ _
                                have hLw3_L_44 : L_44 wa = some (40, wf) := by rw [hL_44, setL_o hne_wa_an]; exact hLw3
                                have hLr3_L_44 : L_44 ra = some (40, (minRt m (nI (v + 1)) (nlN m))) := by rw [hL_44, setL_o hne_ra_an]; exact hLr3
                                refine lv_aload_n hx hb dL_isPassed_362 rfl (lv_at hl 5 rfl) ?_
                                refine lv_iload hx hb dL_isPassed_363 (lv_at hl 3 rfl) ?_
                                refine j_w0 (As := [.int (nI p)]) (rest := []) (v := m 28 p) C0 hN hH ho (lW_state (nI p) hJ.own hJ.obj (cN_X10_state l hlt G _ _ b cs3 hJ.rest hwc (nI p) (v_nar28 hS3 hw1 hp1) (v_pX hS3 hw1 hwc hp1)) (fun E h9 z => absurd ((v_pX hS3 hw1 hwc hp1).symm.trans z.1) (fun y => nomatch y))) (fun r h9 z => z.elim (fun y => ⟨y.2.1.trans ((v_pk hS3 hw1 hp1 (k := 28) rfl).trans d28), y.2.2⟩) (fun ⟨E, y, _⟩ => absurd ((v_pX hS3 hw1 hwc hp1).symm.trans y.1) (fun q => nomatch q))) ms_L_state ml_L_147 rfl ⟨Nat.le_of_ble_eq_true rfl, Nat.le_of_ble_eq_true rfl⟩ hl.1 rfl (Nat.le_of_ble_eq_true rfl) dL_isPassed_365 ⟨by show _ ≤ 200 + (UC (pasZ m v c) - UC c); omega, by show _ ≤ 4000 + (US (pasZ m v c) - US c); omega⟩ (fun H locs hH => ?_)
                                refine lv_iload hx hb dL_isPassed_368 (lv_at hl 0 rfl) ?_
                                refine lv_icmp_ne (tgt := 490) hx hb dL_isPassed_370 (by decide) (fun c370_45 => ?_) (fun c370_45 => ?_)
                                · exact absurd rfl c370_45
                                · refine lv_aload_n hx hb dL_isPassed_373 rfl (lv_at hl 5 rfl) ?_
                                  refine lv_iload hx hb dL_isPassed_374 (lv_at hl 3 rfl) ?_
                                  refine j_q0 (rest := []) C0 hH hJ ho (cN_X10_missed l hlt G _ _ b cs3 hJ.rest hwc (nI p) (v_pX hS3 hw1 hwc hp1)) (v_pX hS3 hw1 hwc hp1) (v := m 24 p + nI 0) ((v_pk hS3 hw1 hp1 (k := 24) rfl).trans d24) mv_X10_missed ml_L_229 rfl ⟨Nat.le_of_ble_eq_true rfl, Nat.le_of_ble_eq_true rfl⟩ hl.1 rfl (Nat.le_of_ble_eq_true rfl) dL_isPassed_376 ⟨by show _ ≤ 200 + (UC (pasZ m v c) - UC c); omega, by show _ ≤ 4000 + (US (pasZ m v c) - US c); omega⟩ (fun H locs hH => ?_)
                                  refine lv_aload_n hx hb dL_isPassed_379 rfl (lv_at hl 6 rfl) ?_
                                  refine lv_iload hx hb dL_isPassed_380 (lv_at hl 2 rfl) ?_
                                  refine lv_bipush (v := nI 10) hx hb dL_isPassed_382 (by decide) ?_
                                  refine lv_iadd hx hb dL_isPassed_384 ?_
                                  rw [show nI (140 + 12 * p) + nI 10 = nI (140 + 12 * p + 10) from nI_add _ _]
                                  refine j_ld C0 hH hJ hLn3_L_44 (ix := 140 + 12 * p + 10) (by omega) (by decide) (v := (m 24 p) + (nI 0)) (by rw [hf_43]; unfold upF; exact if_pos rfl) dL_isPassed_385 ?_
                                  refine lv_icmp_ne (tgt := 490) hx hb dL_isPassed_386 (by decide) (fun c386_46 => ?_) (fun c386_46 => ?_)
                                  · exact absurd rfl c386_46
                                  · refine lv_iload hx hb dL_isPassed_389 (lv_at hl 0 rfl) ?_
                                    refine lv_bipush (v := nI 116) hx hb dL_isPassed_391 (by decide) ?_
                                    refine lv_icmp_ne (tgt := 422) hx hb dL_isPassed_393 (by decide) (fun c393_47 => ?_) (fun c393_47 => ?_)
                                    · exact absurd c250_24 c393_47
                                    · refine lv_aload_n hx hb dL_isPassed_396 rfl (lv_at hl 5 rfl) ?_
                                      refine lv_iload hx hb dL_isPassed_397 (lv_at hl 3 rfl) ?_
                                      refine j_w0 (As := [.int (nI p)]) (rest := []) (v := m 16 p) C0 hN hH ho (lW_rides (nI p) hJ.own hJ.obj (cN_X10_rides l hlt G _ _ b cs3 hJ.rest hwc (nI p) (v_rd hS3 hw1 hwc hp1 (d28.trans h116))) (fun E h9 z => absurd ((v_rd hS3 hw1 hwc hp1 (d28.trans h116)).symm.trans z.1) (fun y => nomatch y))) (fun r h9 z => z.elim (fun y => ⟨y.2.1.trans ((v_16 hS3 hw1 hp1 (d28.trans h116)).trans d16), y.2.2⟩) (fun ⟨E, y, _⟩ => absurd ((v_rd hS3 hw1 hwc hp1 (d28.trans h116)).symm.trans y.1) (fun q => nomatch q))) ms_L_rides ml_L_155 rfl ⟨Nat.le_of_ble_eq_true rfl, Nat.le_of_ble_eq_true rfl⟩ hl.1 rfl (Nat.le_of_ble_eq_true rfl) dL_isPassed_399 ⟨by show _ ≤ 200 + (UC (pasZ m v c) - UC c); omega, by show _ ≤ 4000 + (US (pasZ m v c) - US c); omega⟩ (fun H locs hH => ?_)
                                      refine lv_aload_n hx hb dL_isPassed_402 rfl (lv_at hl 6 rfl) ?_
                                      refine lv_iload hx hb dL_isPassed_403 (lv_at hl 2 rfl) ?_
                                      refine lv_iconst (v := nI 5) hx hb dL_isPassed_405 (by decide) ?_
                                      refine lv_iadd hx hb dL_isPassed_406 ?_
                                      rw [show nI (140 + 12 * p) + nI 5 = nI (140 + 12 * p + 5) from nI_add _ _]
                                      refine j_ld C0 hH hJ hLn3_L_44 (ix := 140 + 12 * p + 5) (by omega) (by decide) (v := m 16 p) (by rw [hf_43]; unfold upF; rw [if_neg (by omega)]; exact ((hf3 5 (by omega)).trans (hNP.g5 h116))) dL_isPassed_407 ?_
                                      refine lv_icmp_ne (tgt := 490) hx hb dL_isPassed_408 (by decide) (fun c408_48 => ?_) (fun c408_48 => ?_)
                                      · exact absurd rfl c408_48
                                      · refine lv_aload_n hx hb dL_isPassed_411 rfl (lv_at hl 5 rfl) ?_
                                        refine lv_iload hx hb dL_isPassed_412 (lv_at hl 3 rfl) ?_
                                        refine j_w0 (As := [.int (nI p)]) (rest := []) (v := -900002) C0 hN hH ho (lW_at (nI p) hJ.own hJ.obj (cC_X10_at l hlt G _ _ b cs3 hJ.rest hwc (nI p)) (hin_x (v_atX hS3 hw1 hwc hp1 (d28.trans h116)) (fun E h9 z => z.1) ⟨_, List.mem_cons_of_mem _ List.mem_cons_self⟩)) (hv_x0 (v_atX hS3 hw1 hwc hp1 (d28.trans h116)) rfl (fun r h9 z => z.1)) ms_L_at ml_L_149 rfl ⟨Nat.le_of_ble_eq_true rfl, Nat.le_of_ble_eq_true rfl⟩ hl.1 rfl (Nat.le_of_ble_eq_true rfl) dL_isPassed_414 ⟨by show _ ≤ 200 + (UC (pasZ m v c) - UC c); omega, by show _ ≤ 4000 + (US (pasZ m v c) - US c); omega⟩ (fun H locs hH => ?_)
                                        refine lv_ldc hx hb hown (hts _ kl_L_20) dL_isPassed_417 ?_
                                        refine lv_icmp_ne (tgt := 490) hx hb dL_isPassed_419 (by decide) (fun c419_49 => ?_) (fun c419_49 => ?_)
                                        · exact absurd (by decide) c419_49
                                        · refine lv_iload hx hb dL_isPassed_422 (lv_at hl 0 rfl) ?_
                                          refine lv_bipush (v := nI 116) hx hb dL_isPassed_424 (by decide) ?_
                                          refine lv_icmp_eq (tgt := 440) hx hb dL_isPassed_426 (by decide) (fun c426_50 => ?_) (fun c426_50 => ?_)
                                          · refine lv_iload hx hb dL_isPassed_440 (lv_at hl 1 rfl) ?_
                                            refine lv_if_eq (tgt := 468) hx hb dL_isPassed_442 (by decide) (fun c442_51 => ?_) (fun c442_51 => ?_)
                                            · refine lv_aload_n hx hb dL_isPassed_468 rfl (lv_at hl 8 rfl) ?_
                                              refine lv_iload hx hb dL_isPassed_469 (lv_at hl 3 rfl) ?_
                                              refine j_ld C0 hH hJ hLr3_L_44 (ix := p) (by omega) (by decide) (v := nI 0) hr0 dL_isPassed_471 ?_
                                              refine lv_if_ge (tgt := 492) hx hb dL_isPassed_472 (by decide) (fun c472_52 => ?_) (fun c472_52 => ?_)
                                              · refine lv_iinc (v := nI (p + 1)) (lv' := [(7, .int (nI (p + 1))), (10, .int (m 28 p)), (9, .int (nI 0)), (8, .int (nI (140 + 12 * p))), (5, .ref (wa)), (0, .ref (o)), (1, .ref (an)), (2, .int (nI (v + 1))), (3, .ref (ra)), (4, .ref (bm))]) hx hb dL_isPassed_492 hl (k := 3) rfl (nI_add (p) 1) (by decide) rfl (fun ls hl => ?_)
                                                refine lv_goto (tgt := 224) hx hb dL_isPassed_495 (by decide) ?_
                                                have hof : ∀ i, i ≠ 140 + 12 * p + 4 → i ≠ 140 + 12 * p + 5 → i ≠ 140 + 12 * p + 10 → f_43 i = f3 i := fun i z1 z2 z3 => by rw [hf_43]; unfold upF; rw [if_neg (by omega)]
                                                have hnew : NP f_43 m1 p := hNP.min hTp (fun j hj a1 a2 a3 => by rw [← hf3 j hj]; exact hof _ (by omega) (by omega) (by omega)) (fun z => by have y : m 28 p = 116 := d28.symm.trans z; exact ⟨by rw [d17, hf_43, upF_o (by omega)]; exact (hf3 4 (by omega)).trans (hNP.g4 y), by rw [d16, hf_43, upF_o (by omega)]; exact (hf3 5 (by omega)).trans (hNP.g5 y)⟩) (by rw [d24, hf_43]; exact upF_s _ _ _) (by rw [d28])
                                                rw [hL_44, hL3, setL_2] at hJ
                                                refine W.widen (k := 7 + 7 * nlN m + 2 * (p + 1) + (UC cs9 - UC c)) (n := 116 + 264 * nlN m + 12 * (p + 1) + (US cs9 - US c)) (by omega) (by omega) ?_
                                                exact ih (p + 1) f_43 cs3 (by omega) hS3 hwc hg3 (fun i hi => by rw [hof i (by omega) (by omega) (by omega)]; exact hlow i hi) (fun i hi => by rw [hof i (by omega) (by omega) (by omega)]; exact hhi i (by omega)) (fun q hq => by by_cases y : q = p; (· rw [y]; exact hnew); (· exact (hnp q (by omega)).ext (fun j hj => hof _ (by omega) (by omega) (by omega)) (fun _ _ _ => rfl))) h b H locs hH hJ ho ls (lv_sub hl [0, 4, 5, 6, 7, 8, 9] rfl)
                                              · exact absurd (by decide) c472_52
                                            · exact absurd (by decide) c442_51
                                          · exact absurd c393_47 c426_50
                              · exact absurd (by decide) c352_42
                            · exact absurd (by decide) c303_41
                          · exact absurd (by decide) c284_40
                        · exact absurd (by decide) c274_39
                      · exact absurd ⟨h116, c260_38⟩ hd
              · rw [hr0] at hTp
                · obtain ⟨d28, d24, d19⟩ := hTp.cB h28
                  refine lv_iload hx hb dL_isPassed_224 (lv_at hl 0 rfl) ?_
                  refine lv_aload_n hx hb dL_isPassed_226 rfl (lv_at hl 3 rfl) ?_
                  refine lv_iconst (v := nI 2) hx hb dL_isPassed_227 (by decide) ?_
                  refine j_ld C0 hH hJ hLn3 (ix := 2) (by omega) (by decide) (v := nI (npN m)) ((hlow 2 (by omega)).trans hT.p0) dL_isPassed_228 ?_
                  refine lv_icmp_ge (tgt := 498) hx hb dL_isPassed_229 (by decide) (fun c229_53 => ?_) (fun c229_53 => ?_)
                  · exact absurd ((nI_leI (by omega) (by omega)).mp c229_53) (by omega)
                  · replace c229_53 : ¬ (npN m ≤ p) := fun z => c229_53 ((nI_leI (a := npN m) (b := p) (by omega) (by omega)).mpr z)
                    refine lv_sipush (v := nI 140) hx hb dL_isPassed_232 (by decide) ?_
                    refine lv_bipush (v := nI 12) hx hb dL_isPassed_235 (by decide) ?_
                    refine lv_iload hx hb dL_isPassed_237 (lv_at hl 0 rfl) ?_
                    refine lv_imul hx hb dL_isPassed_239 ?_
                    rw [show nI 12 * nI p = nI (12 * p) from nI_mul]
                    refine lv_iadd hx hb dL_isPassed_240 ?_
                    rw [show nI 140 + nI (12 * p) = nI (140 + 12 * p) from nI_add _ _]
                    refine lv_istore (lv' := [(8, .int (nI (140 + 12 * p))), (7, .int (nI p)), (5, .ref (wa)), (0, .ref (o)), (1, .ref (an)), (2, .int (nI (v + 1))), (3, .ref (ra)), (4, .ref (bm))]) hx hb dL_isPassed_241 hl (by decide) rfl (fun ls hl => ?_)
                    refine lv_aload hx hb dL_isPassed_243 (lv_at hl 2 rfl) ?_
                    refine lv_iload hx hb dL_isPassed_245 (lv_at hl 1 rfl) ?_
                    refine j_ld C0 hH hJ hLw3 (ix := p) (by omega) (by decide) (v := nI 115) ((hwf p hp).trans h28) dL_isPassed_247 ?_
                    refine lv_bipush (v := nI 116) hx hb dL_isPassed_248 (by decide) ?_
                    refine lv_icmp_ne (tgt := 267) hx hb dL_isPassed_250 (by decide) (fun c250_54 => ?_) (fun c250_54 => ?_)
                    · refine lv_iconst (v := nI 0) hx hb dL_isPassed_267 (by decide) ?_
                      refine lv_istore (lv' := [(9, .int (nI 0)), (8, .int (nI (140 + 12 * p))), (7, .int (nI p)), (5, .ref (wa)), (0, .ref (o)), (1, .ref (an)), (2, .int (nI (v + 1))), (3, .ref (ra)), (4, .ref (bm))]) hx hb dL_isPassed_268 hl (by decide) rfl (fun ls hl => ?_)
                      refine lv_aload_n hx hb dL_isPassed_270 rfl (lv_at hl 7 rfl) ?_
                      refine lv_iload hx hb dL_isPassed_271 (lv_at hl 2 rfl) ?_
                      refine j_ld C0 hH hJ hLr3 (ix := p) (by omega) (by decide) (v := -1) hr0 dL_isPassed_273 ?_
                      refine lv_if_le (tgt := 282) hx hb dL_isPassed_274 (by decide) (fun c274_55 => ?_) (fun c274_55 => ?_)
                      · refine lv_iload hx hb dL_isPassed_282 (lv_at hl 0 rfl) ?_
                        refine lv_if_eq (tgt := 292) hx hb dL_isPassed_284 (by decide) (fun c284_56 => ?_) (fun c284_56 => ?_)
                        · refine lv_aload hx hb dL_isPassed_292 (lv_at hl 3 rfl) ?_
                          refine lv_iload hx hb dL_isPassed_294 (lv_at hl 2 rfl) ?_
                          refine j_ld C0 hH hJ hLw3 (ix := p) (by omega) (by decide) (v := nI 115) ((hwf p hp).trans h28) dL_isPassed_296 ?_
                          refine lv_istore (lv' := [(10, .int (nI 115)), (9, .int (nI 0)), (8, .int (nI (140 + 12 * p))), (7, .int (nI p)), (5, .ref (wa)), (0, .ref (o)), (1, .ref (an)), (2, .int (nI (v + 1))), (3, .ref (ra)), (4, .ref (bm))]) hx hb dL_isPassed_297 hl (by decide) rfl (fun ls hl => ?_)
                          refine lv_aload_n hx hb dL_isPassed_299 rfl (lv_at hl 8 rfl) ?_
                          refine lv_iload hx hb dL_isPassed_300 (lv_at hl 3 rfl) ?_
                          refine j_ld C0 hH hJ hLr3 (ix := p) (by omega) (by decide) (v := -1) hr0 dL_isPassed_302 ?_
                          refine lv_if_le (tgt := 340) hx hb dL_isPassed_303 (by decide) (fun c303_57 => ?_) (fun c303_57 => ?_)
                          · refine lv_aload_n hx hb dL_isPassed_340 rfl (lv_at hl 6 rfl) ?_
                            refine lv_iload hx hb dL_isPassed_341 (lv_at hl 2 rfl) ?_
                            refine lv_bipush (v := nI 10) hx hb dL_isPassed_343 (by decide) ?_
                            refine lv_iadd hx hb dL_isPassed_345 ?_
                            rw [show nI (140 + 12 * p) + nI 10 = nI (140 + 12 * p + 10) from nI_add _ _]
                            refine lv_dup2_11 hx hb dL_isPassed_346 rfl rfl ?_
                            refine j_ld C0 hH hJ hLn3 (ix := 140 + 12 * p + 10) (by omega) (by decide) (v := m 24 p) ((hf3 10 (by omega)).trans hNP.g10) dL_isPassed_347 ?_
                            refine lv_aload_n hx hb dL_isPassed_348 rfl (lv_at hl 8 rfl) ?_
                            refine lv_iload hx hb dL_isPassed_349 (lv_at hl 3 rfl) ?_
                            refine j_ld C0 hH hJ hLr3 (ix := p) (by omega) (by decide) (v := -1) hr0 dL_isPassed_351 ?_
                            refine lv_if_ge (tgt := 359) hx hb dL_isPassed_352 (by decide) (fun c352_58 => ?_) (fun c352_58 => ?_)
                            · exact absurd c352_58 (by decide)
                            · refine lv_iconst (v := nI 1) hx hb dL_isPassed_355 (by decide) ?_
                              refine lv_goto (tgt := 360) hx hb dL_isPassed_356 (by decide) ?_
                              refine lv_iadd hx hb dL_isPassed_360 ?_
                              refine j_st C0 hH hJ hLn3 (ix := 140 + 12 * p + 10) (by omega) (by decide) dL_isPassed_361 (fun h H locs hH hJ => ?_)
                              obtain ⟨f_59, hf_59⟩ : ∃ z, z = upF f3 (140 + 12 * p + 10) ((m 24 p) + (nI 1)) := ⟨_, rfl⟩
                              obtain ⟨L_60, hL_60⟩ : ∃ z, z = setL L3 an 700 f_59 := ⟨_, rfl⟩
                              rw [← hf_59, ← hL_60] at hJ
                              have hLn3_L_60 : L_60 an = some (700, f_59) := by rw [hL_60]; exact setL_s _ _ _ _
                              have hLw3_L_60 : L_60 wa = some (40, wf) := by rw [hL_60, setL_o hne_wa_an]; exact hLw3
                              have hLr3_L_60 : L_60 ra = some (40, (minRt m (nI (v + 1)) (nlN m))) := by rw [hL_60, setL_o hne_ra_an]; exact hLr3
                              refine lv_aload_n hx hb dL_isPassed_362 rfl (lv_at hl 5 rfl) ?_
                              refine lv_iload hx hb dL_isPassed_363 (lv_at hl 3 rfl) ?_
                              refine j_w0 (As := [.int (nI p)]) (rest := []) (v := nI 115) C0 hN hH ho (lW_state (nI p) hJ.own hJ.obj (cN_X10_state l hlt G _ _ b cs3 hJ.rest hwc (nI p) (v_nar28 hS3 hw1 hp1) (v_pX hS3 hw1 hwc hp1)) (fun E h9 z => absurd ((v_pX hS3 hw1 hwc hp1).symm.trans z.1) (fun y => nomatch y))) (fun r h9 z => z.elim (fun y => ⟨y.2.1.trans ((v_pk hS3 hw1 hp1 (k := 28) rfl).trans d28), y.2.2⟩) (fun ⟨E, y, _⟩ => absurd ((v_pX hS3 hw1 hwc hp1).symm.trans y.1) (fun q => nomatch q))) ms_L_state ml_L_147 rfl ⟨Nat.le_of_ble_eq_true rfl, Nat.le_of_ble_eq_true rfl⟩ hl.1 rfl (Nat.le_of_ble_eq_true rfl) dL_isPassed_365 ⟨by show _ ≤ 200 + (UC (pasZ m v c) - UC c); omega, by show _ ≤ 4000 + (US (pasZ m v c) - US c); omega⟩ (fun H locs hH => ?_)
                              refine lv_iload hx hb dL_isPassed_368 (lv_at hl 0 rfl) ?_
                              refine lv_icmp_ne (tgt := 490) hx hb dL_isPassed_370 (by decide) (fun c370_61 => ?_) (fun c370_61 => ?_)
                              · exact absurd (by decide) c370_61
                              · refine lv_aload_n hx hb dL_isPassed_373 rfl (lv_at hl 5 rfl) ?_
                                refine lv_iload hx hb dL_isPassed_374 (lv_at hl 3 rfl) ?_
                                refine j_q0 (rest := []) C0 hH hJ ho (cN_X10_missed l hlt G _ _ b cs3 hJ.rest hwc (nI p) (v_pX hS3 hw1 hwc hp1)) (v_pX hS3 hw1 hwc hp1) (v := m 24 p + nI 1) ((v_pk hS3 hw1 hp1 (k := 24) rfl).trans d24) mv_X10_missed ml_L_229 rfl ⟨Nat.le_of_ble_eq_true rfl, Nat.le_of_ble_eq_true rfl⟩ hl.1 rfl (Nat.le_of_ble_eq_true rfl) dL_isPassed_376 ⟨by show _ ≤ 200 + (UC (pasZ m v c) - UC c); omega, by show _ ≤ 4000 + (US (pasZ m v c) - US c); omega⟩ (fun H locs hH => ?_)
                                refine lv_aload_n hx hb dL_isPassed_379 rfl (lv_at hl 6 rfl) ?_
                                refine lv_iload hx hb dL_isPassed_380 (lv_at hl 2 rfl) ?_
                                refine lv_bipush (v := nI 10) hx hb dL_isPassed_382 (by decide) ?_
                                refine lv_iadd hx hb dL_isPassed_384 ?_
                                rw [show nI (140 + 12 * p) + nI 10 = nI (140 + 12 * p + 10) from nI_add _ _]
                                refine j_ld C0 hH hJ hLn3_L_60 (ix := 140 + 12 * p + 10) (by omega) (by decide) (v := (m 24 p) + (nI 1)) (by rw [hf_59]; unfold upF; exact if_pos rfl) dL_isPassed_385 ?_
                                refine lv_icmp_ne (tgt := 490) hx hb dL_isPassed_386 (by decide) (fun c386_62 => ?_) (fun c386_62 => ?_)
                                · exact absurd rfl c386_62
                                · refine lv_iload hx hb dL_isPassed_389 (lv_at hl 0 rfl) ?_
                                  refine lv_bipush (v := nI 116) hx hb dL_isPassed_391 (by decide) ?_
                                  refine lv_icmp_ne (tgt := 422) hx hb dL_isPassed_393 (by decide) (fun c393_63 => ?_) (fun c393_63 => ?_)
                                  · refine lv_iload hx hb dL_isPassed_422 (lv_at hl 0 rfl) ?_
                                    refine lv_bipush (v := nI 116) hx hb dL_isPassed_424 (by decide) ?_
                                    refine lv_icmp_eq (tgt := 440) hx hb dL_isPassed_426 (by decide) (fun c426_64 => ?_) (fun c426_64 => ?_)
                                    · exact absurd c426_64 (by decide)
                                    · refine lv_aload_n hx hb dL_isPassed_429 rfl (lv_at hl 5 rfl) ?_
                                      refine lv_iload hx hb dL_isPassed_430 (lv_at hl 3 rfl) ?_
                                      refine j_w0 (As := [.int (nI p)]) (rest := []) (v := -900002) C0 hN hH ho (lW_rides (nI p) hJ.own hJ.obj (cC_X10_rides l hlt G _ _ b cs3 hJ.rest hwc (nI p)) (hin_x (v_rdX hS3 hw1 hwc hp1 (by rw [d28]; decide)) (fun E h9 z => z.1) ⟨_, List.mem_cons_of_mem _ List.mem_cons_self⟩)) (hv_x0 (v_rdX hS3 hw1 hwc hp1 (by rw [d28]; decide)) rfl (fun r h9 z => z.1)) ms_L_rides ml_L_155 rfl ⟨Nat.le_of_ble_eq_true rfl, Nat.le_of_ble_eq_true rfl⟩ hl.1 rfl (Nat.le_of_ble_eq_true rfl) dL_isPassed_432 ⟨by show _ ≤ 200 + (UC (pasZ m v c) - UC c); omega, by show _ ≤ 4000 + (US (pasZ m v c) - US c); omega⟩ (fun H locs hH => ?_)
                                      refine lv_ldc hx hb hown (hts _ kl_L_20) dL_isPassed_435 ?_
                                      refine lv_icmp_ne (tgt := 490) hx hb dL_isPassed_437 (by decide) (fun c437_65 => ?_) (fun c437_65 => ?_)
                                      · exact absurd (by decide) c437_65
                                      · refine lv_iload hx hb dL_isPassed_440 (lv_at hl 1 rfl) ?_
                                        refine lv_if_eq (tgt := 468) hx hb dL_isPassed_442 (by decide) (fun c442_66 => ?_) (fun c442_66 => ?_)
                                        · refine lv_aload_n hx hb dL_isPassed_468 rfl (lv_at hl 8 rfl) ?_
                                          refine lv_iload hx hb dL_isPassed_469 (lv_at hl 3 rfl) ?_
                                          refine j_ld C0 hH hJ hLr3_L_60 (ix := p) (by omega) (by decide) (v := -1) hr0 dL_isPassed_471 ?_
                                          refine lv_if_ge (tgt := 492) hx hb dL_isPassed_472 (by decide) (fun c472_67 => ?_) (fun c472_67 => ?_)
                                          · exact absurd c472_67 (by decide)
                                          · refine lv_aload_n hx hb dL_isPassed_475 rfl (lv_at hl 5 rfl) ?_
                                            refine lv_iload hx hb dL_isPassed_476 (lv_at hl 3 rfl) ?_
                                            refine j_w0 (As := [.int (nI p)]) (rest := []) (v := bHd (plR m1 p)) C0 hN hH ho (lW_nextLine (nI p) hJ.own hJ.obj (cN_X10_nextLine l hlt G _ _ b cs3 hJ.rest hwc (nI p) (v_sc hS3 hw1 hwc hp1 d28)) (fun E h9 z => absurd ((v_sc hS3 hw1 hwc hp1 d28).symm.trans z.1) (fun y => nomatch y))) (fun r h9 z => z.elim (fun y => ⟨y.2.1.trans ((v_pk hS3 hw1 hp1 (k := 19) rfl).trans d19), y.2.2⟩) (fun ⟨E, y, _⟩ => absurd ((v_sc hS3 hw1 hwc hp1 d28).symm.trans y.1) (fun q => nomatch q))) ms_L_nextLine ml_L_203 rfl ⟨Nat.le_of_ble_eq_true rfl, Nat.le_of_ble_eq_true rfl⟩ hl.1 rfl (Nat.le_of_ble_eq_true rfl) dL_isPassed_478 ⟨by show _ ≤ 200 + (UC (pasZ m v c) - UC c); omega, by show _ ≤ 4000 + (US (pasZ m v c) - US c); omega⟩ (fun H locs hH => ?_)
                                            refine lv_aload_n hx hb dL_isPassed_481 rfl (lv_at hl 5 rfl) ?_
                                            refine lv_iload hx hb dL_isPassed_482 (lv_at hl 3 rfl) ?_
                                            have hwc0 := hwc
                                            have hgt := (gm_tr hwc0 (nI p)).1
                                            refine j_w1 (As := [.int (nI p)]) (rest := [.int (bHd (plR m1 p))]) (v := bHd (plR m1 p)) (c' := cTr cs3 (nI p)) C0 hN hH hJ ho (lW_nextLineByPaths (nI p) hJ.own hJ.obj (cN_X10_nextLineByPaths l hlt G _ _ b cs3 hJ.rest hwc (nI p) (v_sc hS3 hw1 hwc hp1 d28)) (hin_n (v_sc hS3 hw1 hwc hp1 d28) (fun E h9 z => z.1))) (hv_in0 (v_sc hS3 hw1 hwc hp1 d28) (v_nxP hS3 hw1 hwc hp1 d28).1 (fun E h9 z => z.1)) ms_L_nextLineByPaths ml_L_232 rfl ⟨Nat.le_of_ble_eq_true rfl, Nat.le_of_ble_eq_true rfl⟩ hl.1 rfl (Nat.le_of_ble_eq_true rfl) dL_isPassed_484 ⟨by show _ ≤ 200 + (UC (pasZ m v c) - UC c); omega, by show _ ≤ 4000 + (US (pasZ m v c) - US c); omega⟩ (fun h b H locs hH hJ ho hwc => ?_)
                                            have hS4 := (v_nxP hS3 hw1 hwc0 hp1 d28).2
                                            refine lv_icmp_eq (tgt := 492) hx hb dL_isPassed_487 (by decide) (fun c487_68 => ?_) (fun c487_68 => ?_)
                                            · refine lv_iinc (v := nI (p + 1)) (lv' := [(7, .int (nI (p + 1))), (10, .int (nI 115)), (9, .int (nI 0)), (8, .int (nI (140 + 12 * p))), (5, .ref (wa)), (0, .ref (o)), (1, .ref (an)), (2, .int (nI (v + 1))), (3, .ref (ra)), (4, .ref (bm))]) hx hb dL_isPassed_492 hl (k := 3) rfl (nI_add (p) 1) (by decide) rfl (fun ls hl => ?_)
                                              refine lv_goto (tgt := 224) hx hb dL_isPassed_495 (by decide) ?_
                                              have hof : ∀ i, i ≠ 140 + 12 * p + 4 → i ≠ 140 + 12 * p + 5 → i ≠ 140 + 12 * p + 10 → f_59 i = f3 i := fun i z1 z2 z3 => by rw [hf_59]; unfold upF; rw [if_neg (by omega)]
                                              have hnew : NP f_59 m1 p := hNP.min hTp (fun j hj a1 a2 a3 => by rw [← hf3 j hj]; exact hof _ (by omega) (by omega) (by omega)) (fun z => by rw [d28] at z; exact absurd z (by decide)) (by rw [d24, hf_59]; exact upF_s _ _ _) (by rw [d28, h28]; decide)
                                              rw [hL_60, hL3, setL_2] at hJ
                                              refine W.widen (k := 7 + 7 * nlN m + 2 * (p + 1) + (UC cs9 - UC c)) (n := 116 + 264 * nlN m + 12 * (p + 1) + (US cs9 - US c)) (by omega) (by omega) ?_
                                              exact ih (p + 1) f_59 _ (by omega) hS4 hwc ⟨Nat.le_trans hg3.1 hgt.1, Nat.le_trans hg3.2 hgt.2⟩ (fun i hi => by rw [hof i (by omega) (by omega) (by omega)]; exact hlow i hi) (fun i hi => by rw [hof i (by omega) (by omega) (by omega)]; exact hhi i (by omega)) (fun q hq => by by_cases y : q = p; (· rw [y]; exact hnew); (· exact (hnp q (by omega)).ext (fun j hj => hof _ (by omega) (by omega) (by omega)) (fun _ _ _ => rfl))) h b H locs hH hJ ho ls (lv_sub hl [0, 4, 5, 6, 7, 8, 9] rfl)
                                            · exact absurd rfl c487_68
                                        · exact absurd (by decide) c442_66
                                  · exact absurd c393_63 (by decide)
                          · exact absurd (by decide) c303_57
                        · exact absurd (by decide) c284_56
                      · exact absurd (by decide) c274_55
                    · exact absurd c250_54 (by decide)
              · rw [hr0] at hTp
                · obtain ⟨d28, d16, d17, d24⟩ := hTp.cA (by omega) h28
                  refine lv_iload hx hb dL_isPassed_224 (lv_at hl 0 rfl) ?_
                  refine lv_aload_n hx hb dL_isPassed_226 rfl (lv_at hl 3 rfl) ?_
                  refine lv_iconst (v := nI 2) hx hb dL_isPassed_227 (by decide) ?_
                  refine j_ld C0 hH hJ hLn3 (ix := 2) (by omega) (by decide) (v := nI (npN m)) ((hlow 2 (by omega)).trans hT.p0) dL_isPassed_228 ?_
                  refine lv_icmp_ge (tgt := 498) hx hb dL_isPassed_229 (by decide) (fun c229_69 => ?_) (fun c229_69 => ?_)
                  · exact absurd ((nI_leI (by omega) (by omega)).mp c229_69) (by omega)
                  · replace c229_69 : ¬ (npN m ≤ p) := fun z => c229_69 ((nI_leI (a := npN m) (b := p) (by omega) (by omega)).mpr z)
                    refine lv_sipush (v := nI 140) hx hb dL_isPassed_232 (by decide) ?_
                    refine lv_bipush (v := nI 12) hx hb dL_isPassed_235 (by decide) ?_
                    refine lv_iload hx hb dL_isPassed_237 (lv_at hl 0 rfl) ?_
                    refine lv_imul hx hb dL_isPassed_239 ?_
                    rw [show nI 12 * nI p = nI (12 * p) from nI_mul]
                    refine lv_iadd hx hb dL_isPassed_240 ?_
                    rw [show nI 140 + nI (12 * p) = nI (140 + 12 * p) from nI_add _ _]
                    refine lv_istore (lv' := [(8, .int (nI (140 + 12 * p))), (7, .int (nI p)), (5, .ref (wa)), (0, .ref (o)), (1, .ref (an)), (2, .int (nI (v + 1))), (3, .ref (ra)), (4, .ref (bm))]) hx hb dL_isPassed_241 hl (by decide) rfl (fun ls hl => ?_)
                    refine lv_aload hx hb dL_isPassed_243 (lv_at hl 2 rfl) ?_
                    refine lv_iload hx hb dL_isPassed_245 (lv_at hl 1 rfl) ?_
                    refine j_ld C0 hH hJ hLw3 (ix := p) (by omega) (by decide) (v := nI 115) ((hwf p hp).trans h28) dL_isPassed_247 ?_
                    refine lv_bipush (v := nI 116) hx hb dL_isPassed_248 (by decide) ?_
                    refine lv_icmp_ne (tgt := 267) hx hb dL_isPassed_250 (by decide) (fun c250_70 => ?_) (fun c250_70 => ?_)
                    · refine lv_iconst (v := nI 0) hx hb dL_isPassed_267 (by decide) ?_
                      refine lv_istore (lv' := [(9, .int (nI 0)), (8, .int (nI (140 + 12 * p))), (7, .int (nI p)), (5, .ref (wa)), (0, .ref (o)), (1, .ref (an)), (2, .int (nI (v + 1))), (3, .ref (ra)), (4, .ref (bm))]) hx hb dL_isPassed_268 hl (by decide) rfl (fun ls hl => ?_)
                      refine lv_aload_n hx hb dL_isPassed_270 rfl (lv_at hl 7 rfl) ?_
                      refine lv_iload hx hb dL_isPassed_271 (lv_at hl 2 rfl) ?_
                      refine j_ld C0 hH hJ hLr3 (ix := p) (by omega) (by decide) (v := nI (1 + l1)) hr0 dL_isPassed_273 ?_
                      refine lv_if_le (tgt := 282) hx hb dL_isPassed_274 (by decide) (fun c274_71 => ?_) (fun c274_71 => ?_)
                      · exact absurd ((nI_leI (a := 1 + l1) (b := 0) (by omega) (by omega)).mp c274_71) (by omega)
                      · replace c274_71 : ¬ (1 + l1 ≤ 0) := fun z => c274_71 ((nI_leI (a := 1 + l1) (b := 0) (by omega) (by omega)).mpr z)
                        refine lv_bipush (v := nI 116) hx hb dL_isPassed_277 (by decide) ?_
                        refine lv_goto (tgt := 297) hx hb dL_isPassed_279 (by decide) ?_
                        refine lv_istore (lv' := [(10, .int (nI 116)), (9, .int (nI 0)), (8, .int (nI (140 + 12 * p))), (7, .int (nI p)), (5, .ref (wa)), (0, .ref (o)), (1, .ref (an)), (2, .int (nI (v + 1))), (3, .ref (ra)), (4, .ref (bm))]) hx hb dL_isPassed_297 hl (by decide) rfl (fun ls hl => ?_)
                        refine lv_aload_n hx hb dL_isPassed_299 rfl (lv_at hl 8 rfl) ?_
                        refine lv_iload hx hb dL_isPassed_300 (lv_at hl 3 rfl) ?_
                        refine j_ld C0 hH hJ hLr3 (ix := p) (by omega) (by decide) (v := nI (1 + l1)) hr0 dL_isPassed_302 ?_
                        refine lv_if_le (tgt := 340) hx hb dL_isPassed_303 (by decide) (fun c303_72 => ?_) (fun c303_72 => ?_)
                        · exact absurd ((nI_leI (a := 1 + l1) (b := 0) (by omega) (by omega)).mp c303_72) c274_71
                        · replace c303_72 : ¬ (1 + l1 ≤ 0) := fun z => c303_72 ((nI_leI (a := 1 + l1) (b := 0) (by omega) (by omega)).mpr z)
                          refine lv_aload_n hx hb dL_isPassed_306 rfl (lv_at hl 6 rfl) ?_
                          refine lv_iload hx hb dL_isPassed_307 (lv_at hl 2 rfl) ?_
                          refine lv_iconst (v := nI 5) hx hb dL_isPassed_309 (by decide) ?_
                          refine lv_iadd hx hb dL_isPassed_310 ?_
                          rw [show nI (140 + 12 * p) + nI 5 = nI (140 + 12 * p + 5) from nI_add _ _]
                          refine lv_aload_n hx hb dL_isPassed_311 rfl (lv_at hl 8 rfl) ?_
                          refine lv_iload hx hb dL_isPassed_312 (lv_at hl 3 rfl) ?_
                          refine j_ld C0 hH hJ hLr3 (ix := p) (by omega) (by decide) (v := nI (1 + l1)) hr0 dL_isPassed_314 ?_
                          refine lv_iconst (v := nI 1) hx hb dL_isPassed_315 (by decide) ?_
                          refine lv_isub hx hb dL_isPassed_316 ?_
                          rw [show nI (1 + l1) - nI 1 = nI l1 by rw [nI_sub (by omega)]; congr 1; omega]
                          refine j_st C0 hH hJ hLn3 (ix := 140 + 12 * p + 5) (by omega) (by decide) dL_isPassed_317 (fun h H locs hH hJ => ?_)
                          obtain ⟨f_73, hf_73⟩ : ∃ z, z = upF f3 (140 + 12 * p + 5) (nI l1) := ⟨_, rfl⟩
                          obtain ⟨L_74, hL_74⟩ : ∃ z, z = setL L3 an 700 f_73 := ⟨_, rfl⟩
                          rw [← hf_73, ← hL_74] at hJ
                          have hLn3_L_74 : L_74 an = some (700, f_73) := by rw [hL_74]; exact setL_s _ _ _ _
                          have hLw3_L_74 : L_74 wa = some (40, wf) := by rw [hL_74, setL_o hne_wa_an]; exact hLw3
                          have hLr3_L_74 : L_74 ra = some (40, (minRt m (nI (v + 1)) (nlN m))) := by rw [hL_74, setL_o hne_ra_an]; exact hLr3
                          refine lv_aload_n hx hb dL_isPassed_318 rfl (lv_at hl 6 rfl) ?_
                          refine lv_iload hx hb dL_isPassed_319 (lv_at hl 2 rfl) ?_
                          refine lv_iconst (v := nI 4) hx hb dL_isPassed_321 (by decide) ?_
                          refine lv_iadd hx hb dL_isPassed_322 ?_
                          rw [show nI (140 + 12 * p) + nI 4 = nI (140 + 12 * p + 4) from nI_add _ _]
                          refine lv_iload_n hx hb dL_isPassed_323 rfl (lv_at hl 7 rfl) ?_
                          refine lv_aload_n hx hb dL_isPassed_324 rfl (lv_at hl 6 rfl) ?_
                          refine lv_bipush (v := nI 34) hx hb dL_isPassed_325 (by decide) ?_
                          refine lv_bipush (v := nI 8) hx hb dL_isPassed_327 (by decide) ?_
                          refine lv_aload_n hx hb dL_isPassed_329 rfl (lv_at hl 6 rfl) ?_
                          refine lv_iload hx hb dL_isPassed_330 (lv_at hl 2 rfl) ?_
                          refine lv_iconst (v := nI 5) hx hb dL_isPassed_332 (by decide) ?_
                          refine lv_iadd hx hb dL_isPassed_333 ?_
                          rw [show nI (140 + 12 * p) + nI 5 = nI (140 + 12 * p + 5) from nI_add _ _]
                          refine j_ld C0 hH hJ hLn3_L_74 (ix := 140 + 12 * p + 5) (by omega) (by decide) (v := nI l1) (by rw [hf_73]; unfold upF; exact if_pos rfl) dL_isPassed_334 ?_
                          refine lv_imul hx hb dL_isPassed_335 ?_
                          rw [show nI 8 * nI l1 = nI (8 * l1) from nI_mul]
                          refine lv_iadd hx hb dL_isPassed_336 ?_
                          rw [show nI 34 + nI (8 * l1) = nI (34 + 8 * l1) from nI_add _ _]
                          refine j_ld C0 hH hJ hLn3_L_74 (ix := 34 + 8 * l1) (by omega) (by decide) (v := m 6 l1) (by rw [hf_73]; unfold upF; rw [if_neg (by omega)]; exact ((hlow _ (by omega)).trans (hT.ln hl1 4 (by omega) (by omega)))) dL_isPassed_337 ?_
                          refine lv_iadd hx hb dL_isPassed_338 ?_
                          refine j_st C0 hH hJ hLn3_L_74 (ix := 140 + 12 * p + 4) (by omega) (by decide) dL_isPassed_339 (fun h H locs hH hJ => ?_)
                          obtain ⟨f_75, hf_75⟩ : ∃ z, z = upF f_73 (140 + 12 * p + 4) ((nI (v + 1)) + (m 6 l1)) := ⟨_, rfl⟩
                          obtain ⟨L_76, hL_76⟩ : ∃ z, z = setL L_74 an 700 f_75 := ⟨_, rfl⟩
                          rw [← hf_75, ← hL_76] at hJ
                          have hLn3_L_74_L_76 : L_76 an = some (700, f_75) := by rw [hL_76]; exact setL_s _ _ _ _
                          have hLw3_L_74_L_76 : L_76 wa = some (40, wf) := by rw [hL_76, setL_o hne_wa_an]; exact hLw3_L_74
                          have hLr3_L_74_L_76 : L_76 ra = some (40, (minRt m (nI (v + 1)) (nlN m))) := by rw [hL_76, setL_o hne_ra_an]; exact hLr3_L_74
                          refine lv_aload_n hx hb dL_isPassed_340 rfl (lv_at hl 6 rfl) ?_
                          refine lv_iload hx hb dL_isPassed_341 (lv_at hl 2 rfl) ?_
                          refine lv_bipush (v := nI 10) hx hb dL_isPassed_343 (by decide) ?_
                          refine lv_iadd hx hb dL_isPassed_345 ?_
                          rw [show nI (140 + 12 * p) + nI 10 = nI (140 + 12 * p + 10) from nI_add _ _]
                          refine lv_dup2_11 hx hb dL_isPassed_346 rfl rfl ?_
                          refine j_ld C0 hH hJ hLn3_L_74_L_76 (ix := 140 + 12 * p + 10) (by omega) (by decide) (v := m 24 p) (by rw [hf_75, hf_73]; unfold upF; rw [if_neg (by omega), if_neg (by omega)]; exact ((hf3 10 (by omega)).trans hNP.g10)) dL_isPassed_347 ?_
                          refine lv_aload_n hx hb dL_isPassed_348 rfl (lv_at hl 8 rfl) ?_
                          refine lv_iload hx hb dL_isPassed_349 (lv_at hl 3 rfl) ?_
                          refine j_ld C0 hH hJ hLr3_L_74_L_76 (ix := p) (by omega) (by decide) (v := nI (1 + l1)) hr0 dL_isPassed_351 ?_
                          refine lv_if_ge (tgt := 359) hx hb dL_isPassed_352 (by decide) (fun c352_77 => ?_) (fun c352_77 => ?_)
                          · replace c352_77 : 0 ≤ 1 + l1 := (nI_leI (a := 0) (b := 1 + l1) (by omega) (by omega)).mp c352_77
                            refine lv_iconst (v := nI 0) hx hb dL_isPassed_359 (by decide) ?_
                            refine lv_iadd hx hb dL_isPassed_360 ?_
                            refine j_st C0 hH hJ hLn3_L_74_L_76 (ix := 140 + 12 * p + 10) (by omega) (by decide) dL_isPassed_361 (fun h H locs hH hJ => ?_)
                            obtain ⟨f_78, hf_78⟩ : ∃ z, z = upF f_75 (140 + 12 * p + 10) ((m 24 p) + (nI 0)) := ⟨_, rfl⟩
                            obtain ⟨L_79, hL_79⟩ : ∃ z, z = setL L_76 an 700 f_78 := ⟨_, rfl⟩
                            rw [← hf_78, ← hL_79] at hJ
                            have hLn3_L_74_L_76_L_79 : L_79 an = some (700, f_78) := by rw [hL_79]; exact setL_s _ _ _ _
                            have hLw3_L_74_L_76_L_79 : L_79 wa = some (40, wf) := by rw [hL_79, setL_o hne_wa_an]; exact hLw3_L_74_L_76
                            have hLr3_L_74_L_76_L_79 : L_79 ra = some (40, (minRt m (nI (v + 1)) (nlN m))) := by rw [hL_79, setL_o hne_ra_an]; exact hLr3_L_74_L_76
                            refine lv_aload_n hx hb dL_isPassed_362 rfl (lv_at hl 5 rfl) ?_
                            refine lv_iload hx hb dL_isPassed_363 (lv_at hl 3 rfl) ?_
                            refine j_w0 (As := [.int (nI p)]) (rest := []) (v := nI 116) C0 hN hH ho (lW_state (nI p) hJ.own hJ.obj (cN_X10_state l hlt G _ _ b cs3 hJ.rest hwc (nI p) (v_nar28 hS3 hw1 hp1) (v_pX hS3 hw1 hwc hp1)) (fun E h9 z => absurd ((v_pX hS3 hw1 hwc hp1).symm.trans z.1) (fun y => nomatch y))) (fun r h9 z => z.elim (fun y => ⟨y.2.1.trans ((v_pk hS3 hw1 hp1 (k := 28) rfl).trans d28), y.2.2⟩) (fun ⟨E, y, _⟩ => absurd ((v_pX hS3 hw1 hwc hp1).symm.trans y.1) (fun q => nomatch q))) ms_L_state ml_L_147 rfl ⟨Nat.le_of_ble_eq_true rfl, Nat.le_of_ble_eq_true rfl⟩ hl.1 rfl (Nat.le_of_ble_eq_true rfl) dL_isPassed_365 ⟨by show _ ≤ 200 + (UC (pasZ m v c) - UC c); omega, by show _ ≤ 4000 + (US (pasZ m v c) - US c); omega⟩ (fun H locs hH => ?_)
                            refine lv_iload hx hb dL_isPassed_368 (lv_at hl 0 rfl) ?_
                            refine lv_icmp_ne (tgt := 490) hx hb dL_isPassed_370 (by decide) (fun c370_80 => ?_) (fun c370_80 => ?_)
                            · exact absurd (by decide) c370_80
                            · refine lv_aload_n hx hb dL_isPassed_373 rfl (lv_at hl 5 rfl) ?_
                              refine lv_iload hx hb dL_isPassed_374 (lv_at hl 3 rfl) ?_
                              refine j_q0 (rest := []) C0 hH hJ ho (cN_X10_missed l hlt G _ _ b cs3 hJ.rest hwc (nI p) (v_pX hS3 hw1 hwc hp1)) (v_pX hS3 hw1 hwc hp1) (v := m 24 p + nI 0) ((v_pk hS3 hw1 hp1 (k := 24) rfl).trans d24) mv_X10_missed ml_L_229 rfl ⟨Nat.le_of_ble_eq_true rfl, Nat.le_of_ble_eq_true rfl⟩ hl.1 rfl (Nat.le_of_ble_eq_true rfl) dL_isPassed_376 ⟨by show _ ≤ 200 + (UC (pasZ m v c) - UC c); omega, by show _ ≤ 4000 + (US (pasZ m v c) - US c); omega⟩ (fun H locs hH => ?_)
                              refine lv_aload_n hx hb dL_isPassed_379 rfl (lv_at hl 6 rfl) ?_
                              refine lv_iload hx hb dL_isPassed_380 (lv_at hl 2 rfl) ?_
                              refine lv_bipush (v := nI 10) hx hb dL_isPassed_382 (by decide) ?_
                              refine lv_iadd hx hb dL_isPassed_384 ?_
                              rw [show nI (140 + 12 * p) + nI 10 = nI (140 + 12 * p + 10) from nI_add _ _]
                              refine j_ld C0 hH hJ hLn3_L_74_L_76_L_79 (ix := 140 + 12 * p + 10) (by omega) (by decide) (v := (m 24 p) + (nI 0)) (by rw [hf_78]; unfold upF; exact if_pos rfl) dL_isPassed_385 ?_
                              refine lv_icmp_ne (tgt := 490) hx hb dL_isPassed_386 (by decide) (fun c386_81 => ?_) (fun c386_81 => ?_)
                              · exact absurd rfl c386_81
                              · refine lv_iload hx hb dL_isPassed_389 (lv_at hl 0 rfl) ?_
                                refine lv_bipush (v := nI 116) hx hb dL_isPassed_391 (by decide) ?_
                                refine lv_icmp_ne (tgt := 422) hx hb dL_isPassed_393 (by decide) (fun c393_82 => ?_) (fun c393_82 => ?_)
                                · exact absurd (by decide) c393_82
                                · refine lv_aload_n hx hb dL_isPassed_396 rfl (lv_at hl 5 rfl) ?_
                                  refine lv_iload hx hb dL_isPassed_397 (lv_at hl 3 rfl) ?_
                                  refine j_w0 (As := [.int (nI p)]) (rest := []) (v := nI l1) C0 hN hH ho (lW_rides (nI p) hJ.own hJ.obj (cN_X10_rides l hlt G _ _ b cs3 hJ.rest hwc (nI p) (v_rd hS3 hw1 hwc hp1 d28)) (fun E h9 z => absurd ((v_rd hS3 hw1 hwc hp1 d28).symm.trans z.1) (fun y => nomatch y))) (fun r h9 z => z.elim (fun y => ⟨y.2.1.trans ((v_16 hS3 hw1 hp1 d28).trans d16), y.2.2⟩) (fun ⟨E, y, _⟩ => absurd ((v_rd hS3 hw1 hwc hp1 d28).symm.trans y.1) (fun q => nomatch q))) ms_L_rides ml_L_155 rfl ⟨Nat.le_of_ble_eq_true rfl, Nat.le_of_ble_eq_true rfl⟩ hl.1 rfl (Nat.le_of_ble_eq_true rfl) dL_isPassed_399 ⟨by show _ ≤ 200 + (UC (pasZ m v c) - UC c); omega, by show _ ≤ 4000 + (US (pasZ m v c) - US c); omega⟩ (fun H locs hH => ?_)
                                  refine lv_aload_n hx hb dL_isPassed_402 rfl (lv_at hl 6 rfl) ?_
                                  refine lv_iload hx hb dL_isPassed_403 (lv_at hl 2 rfl) ?_
                                  refine lv_iconst (v := nI 5) hx hb dL_isPassed_405 (by decide) ?_
                                  refine lv_iadd hx hb dL_isPassed_406 ?_
                                  rw [show nI (140 + 12 * p) + nI 5 = nI (140 + 12 * p + 5) from nI_add _ _]
                                  refine j_ld C0 hH hJ hLn3_L_74_L_76_L_79 (ix := 140 + 12 * p + 5) (by omega) (by decide) (v := nI l1) (by rw [hf_78, hf_75, hf_73]; unfold upF; rw [if_neg (by omega), if_neg (by omega)]; exact if_pos rfl) dL_isPassed_407 ?_
                                  refine lv_icmp_ne (tgt := 490) hx hb dL_isPassed_408 (by decide) (fun c408_83 => ?_) (fun c408_83 => ?_)
                                  · exact absurd rfl c408_83
                                  · replace c408_83 : l1 = l1 := (nI_eq (a := l1) (b := l1) (by omega) (by omega)).mp c408_83
                                    refine lv_aload_n hx hb dL_isPassed_411 rfl (lv_at hl 5 rfl) ?_
                                    refine lv_iload hx hb dL_isPassed_412 (lv_at hl 3 rfl) ?_
                                    refine j_w0 (As := [.int (nI p)]) (rest := []) (v := -900002) C0 hN hH ho (lW_at (nI p) hJ.own hJ.obj (cC_X10_at l hlt G _ _ b cs3 hJ.rest hwc (nI p)) (hin_x (v_atX hS3 hw1 hwc hp1 d28) (fun E h9 z => z.1) ⟨_, List.mem_cons_of_mem _ List.mem_cons_self⟩)) (hv_x0 (v_atX hS3 hw1 hwc hp1 d28) rfl (fun r h9 z => z.1)) ms_L_at ml_L_149 rfl ⟨Nat.le_of_ble_eq_true rfl, Nat.le_of_ble_eq_true rfl⟩ hl.1 rfl (Nat.le_of_ble_eq_true rfl) dL_isPassed_414 ⟨by show _ ≤ 200 + (UC (pasZ m v c) - UC c); omega, by show _ ≤ 4000 + (US (pasZ m v c) - US c); omega⟩ (fun H locs hH => ?_)
                                    refine lv_ldc hx hb hown (hts _ kl_L_20) dL_isPassed_417 ?_
                                    refine lv_icmp_ne (tgt := 490) hx hb dL_isPassed_419 (by decide) (fun c419_84 => ?_) (fun c419_84 => ?_)
                                    · exact absurd (by decide) c419_84
                                    · refine lv_iload hx hb dL_isPassed_422 (lv_at hl 0 rfl) ?_
                                      refine lv_bipush (v := nI 116) hx hb dL_isPassed_424 (by decide) ?_
                                      refine lv_icmp_eq (tgt := 440) hx hb dL_isPassed_426 (by decide) (fun c426_85 => ?_) (fun c426_85 => ?_)
                                      · refine lv_iload hx hb dL_isPassed_440 (lv_at hl 1 rfl) ?_
                                        refine lv_if_eq (tgt := 468) hx hb dL_isPassed_442 (by decide) (fun c442_86 => ?_) (fun c442_86 => ?_)
                                        · refine lv_aload_n hx hb dL_isPassed_468 rfl (lv_at hl 8 rfl) ?_
                                          refine lv_iload hx hb dL_isPassed_469 (lv_at hl 3 rfl) ?_
                                          refine j_ld C0 hH hJ hLr3_L_74_L_76_L_79 (ix := p) (by omega) (by decide) (v := nI (1 + l1)) hr0 dL_isPassed_471 ?_
                                          refine lv_if_ge (tgt := 492) hx hb dL_isPassed_472 (by decide) (fun c472_87 => ?_) (fun c472_87 => ?_)
                                          · replace c472_87 : 0 ≤ 1 + l1 := (nI_leI (a := 0) (b := 1 + l1) (by omega) (by omega)).mp c472_87
                                            refine lv_iinc (v := nI (p + 1)) (lv' := [(7, .int (nI (p + 1))), (10, .int (nI 116)), (9, .int (nI 0)), (8, .int (nI (140 + 12 * p))), (5, .ref (wa)), (0, .ref (o)), (1, .ref (an)), (2, .int (nI (v + 1))), (3, .ref (ra)), (4, .ref (bm))]) hx hb dL_isPassed_492 hl (k := 3) rfl (nI_add (p) 1) (by decide) rfl (fun ls hl => ?_)
                                            refine lv_goto (tgt := 224) hx hb dL_isPassed_495 (by decide) ?_
                                            have hof : ∀ i, i ≠ 140 + 12 * p + 4 → i ≠ 140 + 12 * p + 5 → i ≠ 140 + 12 * p + 10 → f_78 i = f3 i := fun i z1 z2 z3 => by rw [hf_78, hf_75, hf_73]; unfold upF; rw [if_neg (by omega), if_neg (by omega), if_neg (by omega)]
                                            have hnew : NP f_78 m1 p := hNP.min hTp (fun j hj a1 a2 a3 => by rw [← hf3 j hj]; exact hof _ (by omega) (by omega) (by omega)) (fun _ => ⟨by rw [d17, hf_78, hf_75, hf_73]; unfold upF; rw [if_neg (by omega), if_pos rfl], by rw [d16, hf_78, hf_75, hf_73]; unfold upF; rw [if_neg (by omega), if_neg (by omega), if_pos rfl]⟩) (by rw [d24, hf_78]; exact upF_s _ _ _) (by rw [d28, h28]; decide)
                                            rw [hL_79, hL_76, hL_74, hL3, setL_2, setL_2, setL_2] at hJ
                                            refine W.widen (k := 7 + 7 * nlN m + 2 * (p + 1) + (UC cs9 - UC c)) (n := 116 + 264 * nlN m + 12 * (p + 1) + (US cs9 - US c)) (by omega) (by omega) ?_
                                            exact ih (p + 1) f_78 cs3 (by omega) hS3 hwc hg3 (fun i hi => by rw [hof i (by omega) (by omega) (by omega)]; exact hlow i hi) (fun i hi => by rw [hof i (by omega) (by omega) (by omega)]; exact hhi i (by omega)) (fun q hq => by by_cases y : q = p; (· rw [y]; exact hnew); (· exact (hnp q (by omega)).ext (fun j hj => hof _ (by omega) (by omega) (by omega)) (fun _ _ _ => rfl))) h b H locs hH hJ ho ls (lv_sub hl [0, 4, 5, 6, 7, 8, 9] rfl)
                                          · exact absurd ((nI_leI (a := 0) (b := 1 + l1) (by omega) (by omega)).mpr c352_77) c472_87
                                        · exact absurd (by decide) c442_86
                                      · exact absurd (by decide) c426_85
                          · exact absurd ((nI_leI (a := 0) (b := 1 + l1) (by omega) (by omega)).mpr (by omega)) c352_77
                    · exact absurd c250_70 (by decide)
          refine W.widen (k := 7 + 7 * nlN m + 2 * 0 + (UC cs9 - UC c)) (n := 116 + 264 * nlN m + 12 * 0 + (US cs9 - US c)) (by omega) (by omega) ?_
          exact K3 (npN m) 0 f cs9 (by omega) hS9 hwc ⟨Nat.le_refl _, Nat.le_refl _⟩ (fun _ _ => rfl) (fun _ _ => rfl) (fun q hq => absurd hq (Nat.not_lt_zero _)) h b H locs hH (by rw [setL_id hLwn]; exact hJ) ho ls (lv_sub hl [0, 2, 3, 4, 5, 6, 7] rfl)
        · exact absurd rfl c216_4
    have K2 : ∀ (k p a : Nat) (wf : Nat → Int32), p + k = npN m → dueN m (nI (v + 1)) k p a = dueN m (nI (v + 1)) (npN m) 0 0 → a ≤ p → (∀ i, i < p → wf i = m 28 i) → ∀ (h : AH) (b : BA) (H : Heap) (locs : List Loc) (hH : HS G.1 G.2.1 A s.heap h H locs) (hJ : JW G.2.2.1 h b cs (setL L1 wa 40 wf) M1) (ho : b 14 0 = o) (ls : Array Slot), lv_has ls 11 [(7, .int (nI p)), (6, .int (nI a)), (5, .ref (wa)), (0, .ref (o)), (1, .ref (an)), (2, .int (nI (v + 1))), (3, .ref (ra)), (4, .ref (bm))] → W pr l e (rmm 14 468 (200 + (UC (pasZ m v c) - UC c)) (4000 + (US (pasZ m v c) - US c))) s m9 ([.ref (o), .ref (an)] : List Value).toArray below meth c9 H locs (2 + 7 * nlN m + (UC cs - UC c) + 1) (52 + 264 * nlN m + (US cs - US c) + 40) (MQ below (va_Qi (fun r h' => r = nI 1 ∧ ∃ b' c2 f' m', JW G.2.2.1 h' b' c2 (setL L an 700 f') M ∧ b' 14 0 = o ∧ WFc c2 ∧ Stt (n + 1) c2 m' ∧ NT f' m' ∧ m' 41 0 = nI (v + 1) ∧ Kp m m' ∧ (UC (pasZ m v c) ≤ UC c2 ∧ US (pasZ m v c) ≤ US c2)) (fun h' t => HW G.1 G.2.1 A h' t.heap) A) ([.ref (o), .ref (an)] : List Value).toArray s (200 + (UC (pasZ m v c) - UC c)) (4000 + (US (pasZ m v c) - US c)) A) (F0 m9 141 ls []) := by
      intro k
      induction k with
      | zero =>
        intro p a wf hk hE hap hwf h b H locs hH hJ ho ls hl
        obtain ⟨L2, hL2⟩ : ∃ z, z = setL L1 wa 40 wf := ⟨_, rfl⟩
        rw [← hL2] at hJ
        have hLw2 : L2 wa = some (40, wf) := by rw [hL2]; exact setL_s _ _ _ _
        have hLn2 : L2 an = some (700, f) := by rw [hL2, setL_o (Ne.symm hwan)]; exact hL1
        have hne_an_wa := Ne.symm hwan
        have hne_wa_an := hwan
        refine lv_iload hx hb dL_isPassed_141 (lv_at hl 0 rfl) ?_
        refine lv_aload_n hx hb dL_isPassed_143 rfl (lv_at hl 4 rfl) ?_
        refine lv_iconst (v := nI 2) hx hb dL_isPassed_144 (by decide) ?_
        refine j_ld C0 hH hJ hLn2 (ix := 2) (by omega) (by decide) (v := nI (npN m)) hT.p0 dL_isPassed_145 ?_
        refine lv_icmp_ge (tgt := 201) hx hb dL_isPassed_146 (by decide) (fun c146_88 => ?_) (fun c146_88 => ?_)
        · replace c146_88 : npN m ≤ p := (nI_leI (a := npN m) (b := p) (by omega) (by omega)).mp c146_88
          have ea : a = dueN m (nI (v + 1)) (npN m) 0 0 := hE
          rw [ea] at hl
          rw [hL2] at hJ
          exact T2 wf (fun i hi => hwf i (by omega)) h b H locs hH hJ ho ls (lv_sub hl [1, 2, 3, 4, 5, 6, 7] rfl)
        · exact absurd ((nI_leI (by omega) (by omega)).mpr (show npN m ≤ p by omega)) c146_88
      | succ k ih =>
        intro p a wf hk hE hap hwf h b H locs hH hJ ho ls hl
        obtain ⟨L2, hL2⟩ : ∃ z, z = setL L1 wa 40 wf := ⟨_, rfl⟩
        rw [← hL2] at hJ
        have hLw2 : L2 wa = some (40, wf) := by rw [hL2]; exact setL_s _ _ _ _
        have hLn2 : L2 an = some (700, f) := by rw [hL2, setL_o (Ne.symm hwan)]; exact hL1
        have hne_an_wa := Ne.symm hwan
        have hne_wa_an := hwan
        have hp : p < npN m := by omega
        refine lv_iload hx hb dL_isPassed_141 (lv_at hl 0 rfl) ?_
        refine lv_aload_n hx hb dL_isPassed_143 rfl (lv_at hl 4 rfl) ?_
        refine lv_iconst (v := nI 2) hx hb dL_isPassed_144 (by decide) ?_
        refine j_ld C0 hH hJ hLn2 (ix := 2) (by omega) (by decide) (v := nI (npN m)) hT.p0 dL_isPassed_145 ?_
        refine lv_icmp_ge (tgt := 201) hx hb dL_isPassed_146 (by decide) (fun c146_89 => ?_) (fun c146_89 => ?_)
        · exact absurd ((nI_leI (by omega) (by omega)).mp c146_89) (by omega)
        · replace c146_89 : ¬ (npN m ≤ p) := fun z => c146_89 ((nI_leI (a := npN m) (b := p) (by omega) (by omega)).mpr z)
          refine lv_aload hx hb dL_isPassed_149 (lv_at hl 2 rfl) ?_
          refine lv_iload hx hb dL_isPassed_151 (lv_at hl 0 rfl) ?_
          refine lv_aload_n hx hb dL_isPassed_153 rfl (lv_at hl 3 rfl) ?_
          refine lv_iload hx hb dL_isPassed_154 (lv_at hl 0 rfl) ?_
          refine j_w0 (As := [.int (nI p)]) (rest := [.int (nI p), .ref (wa)]) (v := m 28 p) C0 hN hH ho (lW_state (nI p) hJ.own hJ.obj (cN_X10_state l hlt G _ _ b cs hJ.rest hwc (nI p) (v_nar28 hS hw hp) (v_pX hS hw hwc hp)) (fun E h9 z => absurd ((v_pX hS hw hwc hp).symm.trans z.1) (fun y => nomatch y))) (fun r h9 z => z.elim (fun y => ⟨y.2.1.trans (v_pk hS hw hp (k := 28) rfl), y.2.2⟩) (fun ⟨E, y, _⟩ => absurd ((v_pX hS hw hwc hp).symm.trans y.1) (fun q => nomatch q))) ms_L_state ml_L_147 rfl ⟨Nat.le_of_ble_eq_true rfl, Nat.le_of_ble_eq_true rfl⟩ hl.1 rfl (Nat.le_of_ble_eq_true rfl) dL_isPassed_156 ⟨by show _ ≤ 200 + (UC (pasZ m v c) - UC c); omega, by show _ ≤ 4000 + (US (pasZ m v c) - US c); omega⟩ (fun H locs hH => ?_)
          refine j_st C0 hH hJ hLw2 (ix := p) (by omega) (by decide) dL_isPassed_159 (fun h H locs hH hJ => ?_)
          obtain ⟨f_90, hf_90⟩ : ∃ z, z = upF wf p (m 28 p) := ⟨_, rfl⟩
          obtain ⟨L_91, hL_91⟩ : ∃ z, z = setL L2 wa 40 f_90 := ⟨_, rfl⟩
          rw [← hf_90, ← hL_91] at hJ
          have hLn2_L_91 : L_91 an = some (700, f) := by rw [hL_91, setL_o hne_an_wa]; exact hLn2
          have hLw2_L_91 : L_91 wa = some (40, f_90) := by rw [hL_91]; exact setL_s _ _ _ _
          refine lv_iload hx hb dL_isPassed_160 (lv_at hl 1 rfl) ?_
          refine lv_aload hx hb dL_isPassed_162 (lv_at hl 2 rfl) ?_
          refine lv_iload hx hb dL_isPassed_164 (lv_at hl 0 rfl) ?_
          refine j_ld C0 hH hJ hLw2_L_91 (ix := p) (by omega) (by decide) (v := m 28 p) (by rw [hf_90]; unfold upF; exact if_pos rfl) dL_isPassed_166 ?_
          refine lv_bipush (v := nI 116) hx hb dL_isPassed_167 (by decide) ?_
          refine lv_icmp_ne (tgt := 191) hx hb dL_isPassed_169 (by decide) (fun c169_92 => ?_) (fun c169_92 => ?_)
          · refine lv_iconst (v := nI 0) hx hb dL_isPassed_191 (by decide) ?_
            refine lv_iadd hx hb dL_isPassed_192 ?_
            rw [show nI a + nI 0 = nI (a + 0) from nI_add _ _]
            refine lv_istore (lv' := [(6, .int (nI (a + 0))), (7, .int (nI p)), (5, .ref (wa)), (0, .ref (o)), (1, .ref (an)), (2, .int (nI (v + 1))), (3, .ref (ra)), (4, .ref (bm))]) hx hb dL_isPassed_193 hl (by decide) rfl (fun ls hl => ?_)
            refine lv_iinc (v := nI (p + 1)) (lv' := [(7, .int (nI (p + 1))), (6, .int (nI (a + 0))), (5, .ref (wa)), (0, .ref (o)), (1, .ref (an)), (2, .int (nI (v + 1))), (3, .ref (ra)), (4, .ref (bm))]) hx hb dL_isPassed_195 hl (k := 1) rfl (nI_add (p) 1) (by decide) rfl (fun ls hl => ?_)
            refine lv_goto (tgt := 141) hx hb dL_isPassed_198 (by decide) ?_
            rw [hL_91, hL2, setL_2] at hJ
            exact ih (p + 1) (a + 0) f_90 (by omega) (by rw [← hE]; show _ = dueN m (nI (v + 1)) k (p + 1) (if m 28 p = 116 ∧ m 17 p = nI (v + 1) then a + 1 else a); rw [if_neg (fun z => c169_92 z.1)]; rfl) (by omega) (fun i hi => by rw [hf_90]; by_cases y : i = p; (· rw [y, upF_s]); (· rw [upF_o y]; exact hwf i (by omega))) h b H locs hH hJ ho ls (lv_sub hl [0, 1, 2, 3, 4, 5, 6, 7] rfl)
          · have h116 : m 28 p = 116 := c169_92
            refine lv_aload_n hx hb dL_isPassed_172 rfl (lv_at hl 4 rfl) ?_
            refine lv_sipush (v := nI 144) hx hb dL_isPassed_173 (by decide) ?_
            refine lv_bipush (v := nI 12) hx hb dL_isPassed_176 (by decide) ?_
            refine lv_iload hx hb dL_isPassed_178 (lv_at hl 0 rfl) ?_
            refine lv_imul hx hb dL_isPassed_180 ?_
            rw [show nI 12 * nI p = nI (12 * p) from nI_mul]
            refine lv_iadd hx hb dL_isPassed_181 ?_
            rw [show nI 144 + nI (12 * p) = nI (144 + 12 * p) from nI_add _ _]
            refine j_ld C0 hH hJ hLn2_L_91 (ix := 144 + 12 * p) (by omega) (by decide) (v := m 17 p) ((congrArg f (show 144 + 12 * p = 140 + 12 * p + 4 by omega)).trans ((hT.pa hp).g4 h116)) dL_isPassed_182 ?_
            refine lv_iload_n hx hb dL_isPassed_183 rfl (lv_at hl 5 rfl) ?_
            refine lv_icmp_ne (tgt := 191) hx hb dL_isPassed_184 (by decide) (fun c184_93 => ?_) (fun c184_93 => ?_)
            · refine lv_iconst (v := nI 0) hx hb dL_isPassed_191 (by decide) ?_
              refine lv_iadd hx hb dL_isPassed_192 ?_
              rw [show nI a + nI 0 = nI (a + 0) from nI_add _ _]
              refine lv_istore (lv' := [(6, .int (nI (a + 0))), (7, .int (nI p)), (5, .ref (wa)), (0, .ref (o)), (1, .ref (an)), (2, .int (nI (v + 1))), (3, .ref (ra)), (4, .ref (bm))]) hx hb dL_isPassed_193 hl (by decide) rfl (fun ls hl => ?_)
              refine lv_iinc (v := nI (p + 1)) (lv' := [(7, .int (nI (p + 1))), (6, .int (nI (a + 0))), (5, .ref (wa)), (0, .ref (o)), (1, .ref (an)), (2, .int (nI (v + 1))), (3, .ref (ra)), (4, .ref (bm))]) hx hb dL_isPassed_195 hl (k := 1) rfl (nI_add (p) 1) (by decide) rfl (fun ls hl => ?_)
              refine lv_goto (tgt := 141) hx hb dL_isPassed_198 (by decide) ?_
              rw [hL_91, hL2, setL_2] at hJ
              exact ih (p + 1) (a + 0) f_90 (by omega) (by rw [← hE]; show _ = dueN m (nI (v + 1)) k (p + 1) (if m 28 p = 116 ∧ m 17 p = nI (v + 1) then a + 1 else a); rw [if_neg (fun z => c184_93 z.2)]; rfl) (by omega) (fun i hi => by rw [hf_90]; by_cases y : i = p; (· rw [y, upF_s]); (· rw [upF_o y]; exact hwf i (by omega))) h b H locs hH hJ ho ls (lv_sub hl [0, 1, 2, 3, 4, 5, 6, 7] rfl)
            · refine lv_iconst (v := nI 1) hx hb dL_isPassed_187 (by decide) ?_
              refine lv_goto (tgt := 192) hx hb dL_isPassed_188 (by decide) ?_
              refine lv_iadd hx hb dL_isPassed_192 ?_
              rw [show nI a + nI 1 = nI (a + 1) from nI_add _ _]
              refine lv_istore (lv' := [(6, .int (nI (a + 1))), (7, .int (nI p)), (5, .ref (wa)), (0, .ref (o)), (1, .ref (an)), (2, .int (nI (v + 1))), (3, .ref (ra)), (4, .ref (bm))]) hx hb dL_isPassed_193 hl (by decide) rfl (fun ls hl => ?_)
              refine lv_iinc (v := nI (p + 1)) (lv' := [(7, .int (nI (p + 1))), (6, .int (nI (a + 1))), (5, .ref (wa)), (0, .ref (o)), (1, .ref (an)), (2, .int (nI (v + 1))), (3, .ref (ra)), (4, .ref (bm))]) hx hb dL_isPassed_195 hl (k := 1) rfl (nI_add (p) 1) (by decide) rfl (fun ls hl => ?_)
              refine lv_goto (tgt := 141) hx hb dL_isPassed_198 (by decide) ?_
              rw [hL_91, hL2, setL_2] at hJ
              exact ih (p + 1) (a + 1) f_90 (by omega) (by rw [← hE]; show _ = dueN m (nI (v + 1)) k (p + 1) (if m 28 p = 116 ∧ m 17 p = nI (v + 1) then a + 1 else a); rw [if_pos ⟨c169_92, c184_93⟩]) (by omega) (fun i hi => by rw [hf_90]; by_cases y : i = p; (· rw [y, upF_s]); (· rw [upF_o y]; exact hwf i (by omega))) h b H locs hH hJ ho ls (lv_sub hl [0, 1, 2, 3, 4, 5, 6, 7] rfl)
    rw [hL_2] at hJ
    exact K2 (npN m) 0 0 (fun _ => 0) (by omega) rfl (Nat.le_refl _) (fun i hi => absurd hi (Nat.not_lt_zero _)) h b H locs hH hJ ho ls (lv_sub hl [0, 1, 2, 3, 4, 5, 6, 7] rfl)
  have K1 : ∀ (j l0 : Nat) (cs : MM) (L1 : LNum) (M1 : LRef) (fB : Nat → Option Nat), Sim n cs m → WFc cs → L1 an = some (700, f) → M1 bm = some (12, fB) → (∀ a x, L a = some x → L1 a = some x) → (∀ a x, M a = some x → M1 a = some x) → l0 + j = nlN m → cs = pasC m (nI (v + 1)) l0 c → L1 ra = some (40, minRt m (nI (v + 1)) l0) → (∀ l, l < l0 → fB l = none ∨ ∃ q, fB l = some q ∧ L1 q = some (100, minBg m (nI (v + 1)) l) ∧ (m 9 l = 0 ∧ lvs m l (nI (v + 1)) = nI (v + 1))) → (∀ l, l0 ≤ l → fB l = none) → ∀ (h : AH) (b : BA) (H : Heap) (locs : List Loc) (hH : HS G.1 G.2.1 A s.heap h H locs) (hJ : JW G.2.2.1 h b cs L1 M1) (ho : b 14 0 = o) (ls : Array Slot), lv_has ls 11 [(5, .int (nI l0)), (0, .ref (o)), (1, .ref (an)), (2, .int (nI (v + 1))), (3, .ref (ra)), (4, .ref (bm))] → W pr l e (rmm 14 468 (200 + (UC (pasZ m v c) - UC c)) (4000 + (US (pasZ m v c) - US c))) s m9 ([.ref (o), .ref (an)] : List Value).toArray below meth c9 H locs (2 + 7 * l0 + (UC cs - UC c)) (52 + 264 * l0 + (US cs - US c)) (MQ below (va_Qi (fun r h' => r = nI 1 ∧ ∃ b' c2 f' m', JW G.2.2.1 h' b' c2 (setL L an 700 f') M ∧ b' 14 0 = o ∧ WFc c2 ∧ Stt (n + 1) c2 m' ∧ NT f' m' ∧ m' 41 0 = nI (v + 1) ∧ Kp m m' ∧ (UC (pasZ m v c) ≤ UC c2 ∧ US (pasZ m v c) ≤ US c2)) (fun h' t => HW G.1 G.2.1 A h' t.heap) A) ([.ref (o), .ref (an)] : List Value).toArray s (200 + (UC (pasZ m v c) - UC c)) (4000 + (US (pasZ m v c) - US c)) A) (F0 m9 22 ls []) := by
    intro j
    induction j with
    | zero =>
      intro l0 cs L1 M1 fB hS hwc hL1 hM1 hxL hxM hj ecs hR1 hfB hfB0 h b H locs hH hJ ho ls hl
      refine lv_iload hx hb dL_isPassed_22 (lv_at hl 0 rfl) ?_
      refine lv_aload_n hx hb dL_isPassed_24 rfl (lv_at hl 2 rfl) ?_
      refine lv_iconst (v := nI 1) hx hb dL_isPassed_25 (by decide) ?_
      refine j_ld C0 hH hJ hL1 (ix := 1) (by omega) (by decide) (v := nI (nlN m)) hT.l0 dL_isPassed_26 ?_
      refine lv_icmp_ge (tgt := 129) hx hb dL_isPassed_27 (by decide) (fun c27_94 => ?_) (fun c27_94 => ?_)
      · replace c27_94 : nlN m ≤ l0 := (nI_leI (a := nlN m) (b := l0) (by omega) (by omega)).mp c27_94
        have el : l0 = nlN m := by omega
        rw [el] at ecs hR1 hfB ⊢
        exact T1 cs L1 M1 fB hS hwc hL1 hM1 hxL hxM ecs hR1 hfB h b H locs hH hJ ho ls (lv_sub hl [1, 2, 3, 4, 5] rfl)
      · exact absurd ((nI_leI (by omega) (by omega)).mpr (show nlN m ≤ l0 by omega)) c27_94
    | succ j ih =>
      intro l0 cs L1 M1 fB hS hwc hL1 hM1 hxL hxM hj ecs hR1 hfB hfB0 h b H locs hH hJ ho ls hl
      have hl0 : l0 < nlN m := by omega
      have hb2 := (hml.1.ln hl0).1
      obtain ⟨mo, h7a, mo1, mo4⟩ := mo_1 hw hl0
      have v7 : vN (m 7 l0) = mo := by rw [h7a]; exact nI_clamp (by omega)
      have h7 : m 7 l0 = nI (vN (m 7 l0)) := by rw [v7]; exact h7a
      have hSt : Stt n cs m := ⟨hS, hw, hI⟩
      obtain ⟨hrow, hrC⟩ := hSt.row hwc hl0
      have hg1 := pas_le1 (m := m) (now := nI (v + 1)) hwc00.lw hl0
      have hg2 := pas_le (m := m) (now := nI (v + 1)) hwc00.lw (show l0 + 1 ≤ nlN m by omega)
      have hg0 := pas_le (m := m) (now := nI (v + 1)) hwc00.lw (Nat.zero_le l0)
      rw [← ecs, show pasC m (nI (v + 1)) 0 c = c from rfl] at hg0
      rw [← ecs] at hg1
      have hgo := (lg_ord0 (c := cs) (l := l0) (n := rowC m l0)).leU hwc.lw
      have hnl : nlN (pasC m (nI (v + 1)) (nlN m) c) ≤ 12 := by have q := lg_pas m (nI (v + 1)) c 0 (nlN m) hwc00.lw; rw [Nat.zero_add] at q; rw [q.2.2.2.1]; exact hwc00.nl
      have hgz := (LG.psL (nI 1).toNatClampNeg 0 (u := pasC m (nI (v + 1)) (nlN m) c) hnl).leU (by have q := lg_pas m (nI (v + 1)) c 0 (nlN m) hwc00.lw; rw [Nat.zero_add] at q; exact q.1)
      rw [show (cPsL (nI 1).toNatClampNeg 0 (pasC m (nI (v + 1)) (nlN m) c)).2 = pasZ m v c from rfl] at hgz
      refine lv_iload hx hb dL_isPassed_22 (lv_at hl 0 rfl) ?_
      refine lv_aload_n hx hb dL_isPassed_24 rfl (lv_at hl 2 rfl) ?_
      refine lv_iconst (v := nI 1) hx hb dL_isPassed_25 (by decide) ?_
      refine j_ld C0 hH hJ hL1 (ix := 1) (by omega) (by decide) (v := nI (nlN m)) hT.l0 dL_isPassed_26 ?_
      refine lv_icmp_ge (tgt := 129) hx hb dL_isPassed_27 (by decide) (fun c27_95 => ?_) (fun c27_95 => ?_)
      · exact absurd ((nI_leI (by omega) (by omega)).mp c27_95) (by omega)
      · replace c27_95 : ¬ (nlN m ≤ l0) := fun z => c27_95 ((nI_leI (a := nlN m) (b := l0) (by omega) (by omega)).mpr z)
        refine lv_aload_n hx hb dL_isPassed_30 rfl (lv_at hl 2 rfl) ?_
        refine lv_bipush (v := nI 36) hx hb dL_isPassed_31 (by decide) ?_
        refine lv_bipush (v := nI 8) hx hb dL_isPassed_33 (by decide) ?_
        refine lv_iload hx hb dL_isPassed_35 (lv_at hl 0 rfl) ?_
        refine lv_imul hx hb dL_isPassed_37 ?_
        rw [show nI 8 * nI l0 = nI (8 * l0) from nI_mul]
        refine lv_iadd hx hb dL_isPassed_38 ?_
        rw [show nI 36 + nI (8 * l0) = nI (36 + 8 * l0) from nI_add _ _]
        refine j_ld C0 hH hJ hL1 (ix := 36 + 8 * l0) (by omega) (by decide) (v := m 9 l0) (hT.cl (by omega)) dL_isPassed_39 ?_
        refine lv_if_ne (tgt := 47) hx hb dL_isPassed_40 (by decide) (fun c40_96 => ?_) (fun c40_96 => ?_)
        · refine lv_iconst (v := nI 0) hx hb dL_isPassed_47 (by decide) ?_
          refine lv_istore (lv' := [(6, .int (nI 0)), (5, .int (nI l0)), (0, .ref (o)), (1, .ref (an)), (2, .int (nI (v + 1))), (3, .ref (ra)), (4, .ref (bm))]) hx hb dL_isPassed_48 hl (by decide) rfl (fun ls hl => ?_)
          refine lv_aload_n hx hb dL_isPassed_50 rfl (lv_at hl 2 rfl) ?_
          refine lv_aload_n hx hb dL_isPassed_51 rfl (lv_at hl 3 rfl) ?_
          refine lv_iload hx hb dL_isPassed_52 (lv_at hl 1 rfl) ?_
          have hwc0 := hwc
          refine k_i hH (k_lS (rest := []) C0 hN hH (lL_isOrdered l hlt Sc G A _ _ cs m n _ _ o hJ ho hwc hS hw hI an f hL1 hT l0 hl0 hb2) mv_L_isOrdered ml_L_221 rfl ⟨Nat.le_of_ble_eq_true rfl, Nat.le_of_ble_eq_true rfl⟩ hl.1 rfl (Nat.le_of_ble_eq_true rfl) dL_isPassed_54 ⟨by show _ ≤ 200 + (UC (pasZ m v c) - UC c); omega, by show _ ≤ 4000 + (US (pasZ m v c) - US c); omega⟩) (fun rr h H locs hp hH => ?_)
          obtain ⟨ea, b, hJ, ho, hwc⟩ := hp
          rw [ea]
          have hS2 := ord_sim hS hw hwc0 (k := rowC m l0) hl0
          obtain ⟨cs2, hcs2⟩ : ∃ z, z = ordC l0 (rowC m l0) cs := ⟨_, rfl⟩
          rw [← hcs2] at hJ hwc hS2 hg1 hgo ⊢
          refine lv_if_eq (tgt := 81) hx hb dL_isPassed_57 (by decide) (fun c57_97 => ?_) (fun c57_97 => ?_)
          · exact absurd c57_97 (by decide)
          · refine lv_iload hx hb dL_isPassed_60 (lv_at hl 0 rfl) ?_
            refine lv_if_eq (tgt := 83) hx hb dL_isPassed_62 (by decide) (fun c62_98 => ?_) (fun c62_98 => ?_)
            · refine lv_iload hx hb dL_isPassed_83 (lv_at hl 0 rfl) ?_
              refine lv_if_eq (tgt := 123) hx hb dL_isPassed_85 (by decide) (fun c85_99 => ?_) (fun c85_99 => ?_)
              · refine lv_iinc (v := nI (l0 + 1)) (lv' := [(5, .int (nI (l0 + 1))), (6, .int (nI 0)), (0, .ref (o)), (1, .ref (an)), (2, .int (nI (v + 1))), (3, .ref (ra)), (4, .ref (bm))]) hx hb dL_isPassed_123 hl (k := 1) rfl (nI_add (l0) 1) (by decide) rfl (fun ls hl => ?_)
                refine lv_goto (tgt := 22) hx hb dL_isPassed_126 (by decide) ?_
                have hnd : ¬ (m 9 l0 = 0 ∧ lvs m l0 (nI (v + 1)) = nI (v + 1)) := fun z => c40_96 z.1
                have epz : pasC m (nI (v + 1)) (l0 + 1) c = cs2 := by show (if _ then _ else _) = _; rw [if_neg hnd, ← ecs, hcs2]
                refine W.widen (k := 2 + 7 * (l0 + 1) + (UC cs2 - UC c)) (n := 52 + 264 * (l0 + 1) + (US cs2 - US c)) (by omega) (by omega) ?_
                exact ih (l0 + 1) cs2 L1 M1 fB hS2 hwc hL1 hM1 hxL hxM (by omega) epz.symm (by rw [hR1]; show _ = some (40, if _ then _ else _); rw [if_neg hnd]) (fun l8 hl8 => by by_cases y : l8 = l0; (· exact Or.inl (by rw [y]; exact hfB0 l0 (Nat.le_refl _))); (· exact hfB l8 (by omega))) (fun l8 hl8 => hfB0 l8 (by omega)) h b H locs hH hJ ho ls (lv_sub hl [0, 2, 3, 4, 5, 6] rfl)
              · exact absurd (by decide) c85_99
            · exact absurd (by decide) c62_98
        · refine lv_iconst (v := nI 1) hx hb dL_isPassed_43 (by decide) ?_
          refine lv_goto (tgt := 48) hx hb dL_isPassed_44 (by decide) ?_
          refine lv_istore (lv' := [(6, .int (nI 1)), (5, .int (nI l0)), (0, .ref (o)), (1, .ref (an)), (2, .int (nI (v + 1))), (3, .ref (ra)), (4, .ref (bm))]) hx hb dL_isPassed_48 hl (by decide) rfl (fun ls hl => ?_)
          refine lv_aload_n hx hb dL_isPassed_50 rfl (lv_at hl 2 rfl) ?_
          refine lv_aload_n hx hb dL_isPassed_51 rfl (lv_at hl 3 rfl) ?_
          refine lv_iload hx hb dL_isPassed_52 (lv_at hl 1 rfl) ?_
          have hwc0 := hwc
          refine k_i hH (k_lS (rest := []) C0 hN hH (lL_isOrdered l hlt Sc G A _ _ cs m n _ _ o hJ ho hwc hS hw hI an f hL1 hT l0 hl0 hb2) mv_L_isOrdered ml_L_221 rfl ⟨Nat.le_of_ble_eq_true rfl, Nat.le_of_ble_eq_true rfl⟩ hl.1 rfl (Nat.le_of_ble_eq_true rfl) dL_isPassed_54 ⟨by show _ ≤ 200 + (UC (pasZ m v c) - UC c); omega, by show _ ≤ 4000 + (US (pasZ m v c) - US c); omega⟩) (fun rr h H locs hp hH => ?_)
          obtain ⟨ea, b, hJ, ho, hwc⟩ := hp
          rw [ea]
          have hS2 := ord_sim hS hw hwc0 (k := rowC m l0) hl0
          obtain ⟨cs2, hcs2⟩ : ∃ z, z = ordC l0 (rowC m l0) cs := ⟨_, rfl⟩
          rw [← hcs2] at hJ hwc hS2 hg1 hgo ⊢
          refine lv_if_eq (tgt := 81) hx hb dL_isPassed_57 (by decide) (fun c57_100 => ?_) (fun c57_100 => ?_)
          · exact absurd c57_100 (by decide)
          · refine lv_iload hx hb dL_isPassed_60 (lv_at hl 0 rfl) ?_
            refine lv_if_eq (tgt := 83) hx hb dL_isPassed_62 (by decide) (fun c62_101 => ?_) (fun c62_101 => ?_)
            · exact absurd c62_101 (by decide)
            · have h90 : m 9 l0 = 0 := c40_96
              refine lv_aload_n hx hb dL_isPassed_65 rfl (lv_at hl 2 rfl) ?_
              refine lv_iload hx hb dL_isPassed_66 (lv_at hl 1 rfl) ?_
              refine j_w0 (As := [.int (nI l0)]) (rest := []) (v := lvs m l0 (nI (v + 1))) C0 hN hH ho (lW_nextDeparture (nI l0) hJ.own hJ.obj (cN_X10_nextDeparture l hlt G _ _ b cs2 hJ.rest hwc (nI l0) (v_opn hS2 hw hwc hl0 h90)) (fun E h9 z => absurd ((v_opn hS2 hw hwc hl0 h90).symm.trans z.1) (fun y => nomatch y))) (fun r h9 z => z.elim (fun y => ⟨y.2.1.trans ((v_dep hS2 hw hwc hl0 h90).trans (by rw [hvn])), y.2.2⟩) (fun ⟨E, y, _⟩ => absurd ((v_opn hS2 hw hwc hl0 h90).symm.trans y.1) (fun q => nomatch q))) ms_L_nextDeparture ml_L_198 rfl ⟨Nat.le_of_ble_eq_true rfl, Nat.le_of_ble_eq_true rfl⟩ hl.1 rfl (Nat.le_of_ble_eq_true rfl) dL_isPassed_68 ⟨by show _ ≤ 200 + (UC (pasZ m v c) - UC c); omega, by show _ ≤ 4000 + (US (pasZ m v c) - US c); omega⟩ (fun H locs hH => ?_)
              refine lv_aload_n hx hb dL_isPassed_71 rfl (lv_at hl 3 rfl) ?_
              refine lv_iload hx hb dL_isPassed_72 (lv_at hl 1 rfl) ?_
              refine lv_iload_n hx hb dL_isPassed_74 rfl (lv_at hl 4 rfl) ?_
              refine k_i hH (k_lS (rest := [.int (lvs m l0 (nI (v + 1)))]) C0 hN hH (lL_leaves l Sc G A _ b cs2 m _ _ hJ an f hL1 hT hw hB9 l0 (v + 1) hl0 (by omega)) mv_L_leaves ml_L_224 rfl ⟨Nat.le_of_ble_eq_true rfl, Nat.le_of_ble_eq_true rfl⟩ hl.1 rfl (Nat.le_of_ble_eq_true rfl) dL_isPassed_75 ⟨by show _ ≤ 200 + (UC (pasZ m v c) - UC c); omega, by show _ ≤ 4000 + (US (pasZ m v c) - US c); omega⟩) (fun rr h1 H locs hp hH => ?_)
              obtain ⟨ea, eh⟩ := hp
              rw [eh] at hH
              rw [ea]
              refine lv_icmp_eq (tgt := 83) hx hb dL_isPassed_78 (by decide) (fun c78_102 => ?_) (fun c78_102 => ?_)
              · refine lv_iload hx hb dL_isPassed_83 (lv_at hl 0 rfl) ?_
                refine lv_if_eq (tgt := 123) hx hb dL_isPassed_85 (by decide) (fun c85_103 => ?_) (fun c85_103 => ?_)
                · exact absurd c85_103 (by decide)
                · refine lv_aload_n hx hb dL_isPassed_88 rfl (lv_at hl 3 rfl) ?_
                  refine lv_iload hx hb dL_isPassed_89 (lv_at hl 1 rfl) ?_
                  refine lv_iload_n hx hb dL_isPassed_91 rfl (lv_at hl 4 rfl) ?_
                  refine k_i hH (k_lS (rest := []) C0 hN hH (lL_leaves l Sc G A _ b cs2 m _ _ hJ an f hL1 hT hw hB9 l0 (v + 1) hl0 (by omega)) mv_L_leaves ml_L_224 rfl ⟨Nat.le_of_ble_eq_true rfl, Nat.le_of_ble_eq_true rfl⟩ hl.1 rfl (Nat.le_of_ble_eq_true rfl) dL_isPassed_92 ⟨by show _ ≤ 200 + (UC (pasZ m v c) - UC c); omega, by show _ ≤ 4000 + (US (pasZ m v c) - US c); omega⟩) (fun rr h1 H locs hp hH => ?_)
                  obtain ⟨ea, eh⟩ := hp
                  rw [eh] at hH
                  rw [ea]
                  refine lv_iload_n hx hb dL_isPassed_95 rfl (lv_at hl 4 rfl) ?_
                  refine lv_icmp_ne (tgt := 123) hx hb dL_isPassed_96 (by decide) (fun c96_104 => ?_) (fun c96_104 => ?_)
                  · refine lv_iinc (v := nI (l0 + 1)) (lv' := [(5, .int (nI (l0 + 1))), (6, .int (nI 1)), (0, .ref (o)), (1, .ref (an)), (2, .int (nI (v + 1))), (3, .ref (ra)), (4, .ref (bm))]) hx hb dL_isPassed_123 hl (k := 1) rfl (nI_add (l0) 1) (by decide) rfl (fun ls hl => ?_)
                    refine lv_goto (tgt := 22) hx hb dL_isPassed_126 (by decide) ?_
                    have hnd : ¬ (m 9 l0 = 0 ∧ lvs m l0 (nI (v + 1)) = nI (v + 1)) := fun z => c96_104 z.2
                    have epz : pasC m (nI (v + 1)) (l0 + 1) c = cs2 := by show (if _ then _ else _) = _; rw [if_neg hnd, ← ecs, hcs2]
                    refine W.widen (k := 2 + 7 * (l0 + 1) + (UC cs2 - UC c)) (n := 52 + 264 * (l0 + 1) + (US cs2 - US c)) (by omega) (by omega) ?_
                    exact ih (l0 + 1) cs2 L1 M1 fB hS2 hwc hL1 hM1 hxL hxM (by omega) epz.symm (by rw [hR1]; show _ = some (40, if _ then _ else _); rw [if_neg hnd]) (fun l8 hl8 => by by_cases y : l8 = l0; (· exact Or.inl (by rw [y]; exact hfB0 l0 (Nat.le_refl _))); (· exact hfB l8 (by omega))) (fun l8 hl8 => hfB0 l8 (by omega)) h b H locs hH hJ ho ls (lv_sub hl [0, 2, 3, 4, 5, 6] rfl)
                  · have hdep : m 9 l0 = 0 ∧ lvs m l0 (nI (v + 1)) = nI (v + 1) := ⟨h90, c96_104⟩
                    refine lv_aload hx hb dL_isPassed_99 (lv_at hl 6 rfl) ?_
                    refine lv_iload hx hb dL_isPassed_101 (lv_at hl 1 rfl) ?_
                    refine lv_aload_n hx hb dL_isPassed_103 rfl (lv_at hl 2 rfl) ?_
                    refine lv_aload_n hx hb dL_isPassed_104 rfl (lv_at hl 3 rfl) ?_
                    refine lv_iload hx hb dL_isPassed_105 (lv_at hl 1 rfl) ?_
                    refine lv_iload_n hx hb dL_isPassed_107 rfl (lv_at hl 4 rfl) ?_
                    refine lv_aload_n hx hb dL_isPassed_108 rfl (lv_at hl 3 rfl) ?_
                    refine lv_bipush (v := nI 35) hx hb dL_isPassed_109 (by decide) ?_
                    refine lv_bipush (v := nI 8) hx hb dL_isPassed_111 (by decide) ?_
                    refine lv_iload hx hb dL_isPassed_113 (lv_at hl 1 rfl) ?_
                    refine lv_imul hx hb dL_isPassed_115 ?_
                    rw [show nI 8 * nI l0 = nI (8 * l0) from nI_mul]
                    refine lv_iadd hx hb dL_isPassed_116 ?_
                    rw [show nI 35 + nI (8 * l0) = nI (35 + 8 * l0) from nI_add _ _]
                    refine j_ld C0 hH hJ hL1 (ix := 35 + 8 * l0) (by omega) (by decide) (v := nI (vN (m 7 l0))) ((hT.ln hl0 5 (by omega) (by omega)).trans h7) dL_isPassed_117 ?_
                    refine lv_aload_n hx hb dL_isPassed_118 rfl (lv_at hl 5 rfl) ?_
                    have hwc1 := hwc
                    have hgw := (lg_wtI (c := cs2) l0 (rowC m l0)).leU hwc.lw
                    have epz : pasC m (nI (v + 1)) (l0 + 1) c = wtI l0 (rowC m l0) cs2 := by show (if _ then _ else _) = _; rw [if_pos hdep, ← ecs, hcs2]
                    rw [epz] at hg2
                    refine k_q hH (k_lS (rest := [.int (nI l0), .ref (bm)]) C0 hN hH (lL_bagged l hlt Sc G A _ _ cs2 m n _ _ o hJ ho hwc hS2 hw hI an f hL1 hT l0 hl0 hrow hrC hb2 (nI (v + 1)) (vN (m 7 l0)) (by omega) ra (minRt m (nI (v + 1)) l0) hR1 (fun z => by rw [z, hR1] at hL1; exact absurd (congrArg Prod.fst (Option.some.inj hL1)) (by show ¬ (40 : Nat) = 700; decide))) mv_L_bagged ml_L_209 rfl ⟨Nat.le_of_ble_eq_true rfl, Nat.le_of_ble_eq_true rfl⟩ hl.1 rfl (Nat.le_of_ble_eq_true rfl) dL_isPassed_119 ⟨by show _ ≤ 200 + (UC (pasZ m v c) - UC c); omega, by show _ ≤ 4000 + (US (pasZ m v c) - US c); omega⟩) (fun rq h H locs hp hH => ?_)
                    obtain ⟨q, eq9, hq_q, -, b, hJ, ho, hwc⟩ := hp
                    rw [eq9]
                    have hqra : q ≠ ra := fun z => by rw [z, hR1] at hq_q; exact nomatch hq_q
                    have hqan : q ≠ an := fun z => by rw [z, hL1] at hq_q; exact nomatch hq_q
                    have hS3 := wtI_sim hS2 hw hwc1 hl0 (rowC m l0)
                    obtain ⟨L9, hL9⟩ : ∃ z, z = setL (setL L1 ra 40 (bgAll m (nI (v + 1)) l0 (vN (m 7 l0)) (minRt m (nI (v + 1)) l0)).2) q 100 (bgAll m (nI (v + 1)) l0 (vN (m 7 l0)) (minRt m (nI (v + 1)) l0)).1 := ⟨_, rfl⟩
                    rw [← hL9] at hJ
                    have hLq9 : L9 q = some (100, minBg m (nI (v + 1)) l0) := by rw [hL9]; exact setL_s _ _ _ _
                    have hL9o : ∀ a, a ≠ q → a ≠ ra → L9 a = L1 a := fun a z1 z2 => by rw [hL9, setL_o z1, setL_o z2]
                    have hR9 : L9 ra = some (40, minRt m (nI (v + 1)) (l0 + 1)) := by rw [hL9, setL_o (Ne.symm hqra), setL_s]; show _ = some (40, if _ then _ else _); rw [if_pos hdep]
                    obtain ⟨cs3, hcs3⟩ : ∃ z, z = wtI l0 (rowC m l0) cs2 := ⟨_, rfl⟩
                    rw [← hcs3] at hJ hwc hS3 hgw hg2 epz ⊢
                    refine j_stM C0 hH hJ hM1 (ix := l0) (by omega) (by decide) hLq9 dL_isPassed_122 (fun h H locs hH hJ => ?_)
                    refine lv_iinc (v := nI (l0 + 1)) (lv' := [(5, .int (nI (l0 + 1))), (6, .int (nI 1)), (0, .ref (o)), (1, .ref (an)), (2, .int (nI (v + 1))), (3, .ref (ra)), (4, .ref (bm))]) hx hb dL_isPassed_123 hl (k := 1) rfl (nI_add (l0) 1) (by decide) rfl (fun ls hl => ?_)
                    refine lv_goto (tgt := 22) hx hb dL_isPassed_126 (by decide) ?_
                    refine W.widen (k := 2 + 7 * (l0 + 1) + (UC cs3 - UC c)) (n := 52 + 264 * (l0 + 1) + (US cs3 - US c)) (by omega) (by omega) ?_
                    exact ih (l0 + 1) cs3 L9 _ (fun j => if j = l0 then some q else fB j) hS3 hwc (by rw [hL9o an (Ne.symm hqan) hanra]; exact hL1) (if_pos rfl) (fun a x z => by rw [hL9o a (fun y => by rw [y] at z; rw [hxL _ _ z] at hq_q; exact nomatch hq_q) (fun y => by rw [y, hq_ra] at z; exact nomatch z)]; exact hxL a x z) (fun a x z => by have y : a ≠ bm := (fun y => by rw [y, hm_bm] at z; exact nomatch z); show setM M1 bm 12 _ a = some x; unfold setM; rw [if_neg y]; exact hxM a x z) (by omega) epz.symm hR9 (fun l8 hl8 => by by_cases y : l8 = l0; (· exact Or.inr ⟨q, by show (if l8 = l0 then some q else fB l8) = some q; rw [if_pos y], by rw [y]; exact hLq9, by rw [y]; exact hdep⟩); (· exact (hfB l8 (by omega)).elim (fun z => Or.inl (by show (if l8 = l0 then some q else fB l8) = none; rw [if_neg y]; exact z)) (fun ⟨q8, z1, z2, z3⟩ => Or.inr ⟨q8, by show (if l8 = l0 then some q else fB l8) = some q8; rw [if_neg y]; exact z1, by rw [hL9o q8 (fun w => by rw [w, hq_q] at z2; exact nomatch z2) (fun w => by rw [w, hR1] at z2; exact absurd (congrArg Prod.fst (Option.some.inj z2)) (by show ¬ (40 : Nat) = 100; decide))]; exact z2, z3⟩))) (fun l8 hl8 => by show (if l8 = l0 then some q else fB l8) = none; rw [if_neg (by omega)]; exact hfB0 l8 (by omega)) h b H locs hH hJ ho ls (lv_sub hl [0, 2, 3, 4, 5, 6] rfl)
              · exact absurd rfl c78_102
  refine W.widen (k := 2 + 7 * 0 + (UC c - UC c)) (n := 52 + 264 * 0 + (US c - US c)) (by omega) (by omega) ?_
  exact K1 (nlN m) 0 c L_1 _ (fun _ => none) hS hwc hL_L_1 (if_pos rfl) (fun a x z => by rw [hL_1, setL_o (fun y => by rw [y, hq_ra] at z; exact nomatch z)]; exact z) (fun a x z => by have y : a ≠ bm := (fun y => by rw [y, hm_bm] at z; exact nomatch z); show setM M bm 12 _ a = some x; unfold setM; rw [if_neg y]; exact z) (by omega) rfl hLra_L_1 (fun l8 hl8 => absurd hl8 (Nat.not_lt_zero _)) (fun _ _ => rfl) h b H locs hH hJ ho ls (lv_sub hl [0, 4, 5, 3, 2, 1] rfl)
