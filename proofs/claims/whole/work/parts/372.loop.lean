/-! the law's loop -/
theorem cmp7 {L n : Nat} (hL : L < 2 ^ 20) (hn : n < 2 ^ 20) : nI L - nI 7 < nI (7 * n) ↔ L < 7 * n + 7 := by
  rw [Int32.lt_iff_toInt_lt, pk_sub_toInt (by omega) (by omega), nI_toInt (by omega)]
  omega
theorem LwS.idle {s : State} {G : GT} {cL cD : ClassId} {oL oD a o n : Nat} {H : Heap} {cells slots : Nat} (h : LwS s G cL cD oL oD a o n H cells slots) : LwS s G cL cD oL oD a o (n + 1) H cells slots := by
  obtain ⟨hc, hr, bb, c9, mm, ad, vL, vD, I, h1, ⟨h2, h3, h4⟩, h5, h6⟩ := h
  exact ⟨hc, hr, bb, c9, mm, ad, vL, vD, I, h1, ⟨h2, h3, h4.mono (by omega)⟩, by omega, by omega⟩
set_option maxHeartbeats 4000000 in
theorem law_loop {p : Program} {l : Launch} {e : Env} {s : State} {m : MethodId} {below : List Frame} {meth : Method} {c : Code} {b L : Nat} {xs : Nat → Int32} {G : GT} {cL cD : ClassId} {oL oD a o : Nat} (hlt : l.stackTraces = false) (F : LwF p s m c b L xs G cL cD oL oD) (hL2 : L ≤ 3584) (hr : meth.sig.returnType = ret) (hlocks : meth.locks = false) :
    ∀ (k n : Nat), n + k = L / 7 → ∀ (H : Heap) (cells slots : Nat) (ls : Array Slot), LwS s G cL cD oL oD a o n H cells slots → lv_has ls 9 (lvs0 b a o oL oD (nI (7 * n))) → W p l e room_1 s m #[Value.ref b] below meth c H [] cells slots (lw_Z below #[Value.ref b] s) (F0 m 28 ls []) := by
  have F' := F
  obtain ⟨⟨hx, hb, -⟩, ⟨hX, hbl⟩, -⟩ := F'
  intro k
  induction k with
  | zero =>
    intro n hk H cells slots ls hS hl
    have hS' := hS
    obtain ⟨hc, hr9, bb, c9, mm, ad, vL, vD, I, ⟨hR, hw, ha⟩, ⟨hM, hwa, hSim⟩, hcl, hsl⟩ := hS'
    obtain ⟨u1, u2, u3⟩ := uC_max hSim hwa (by omega)
    obtain ⟨x1, x2⟩ := UC_max hw
    obtain ⟨Ac, Ar, -, -, -, -, -, -, h7⟩ := I
    refine lv_iload hx hb dL_law_28 (lv_at hl 0 rfl) ?_
    refine lv_aload_n hx hb dL_law_30 rfl (lv_at hl 5 rfl) ?_
    refine va_slen (A := fun q => s.heap.size ≤ q) hx hb hX hbl (Nat.not_le.mpr hbl) h7 dL_law_31 ?_
    refine lv_bipush (v := nI 7) hx hb dL_law_32 (by decide) ?_
    refine lv_isub hx hb dL_law_34 ?_
    refine lv_icmp_gt (tgt := 2909) hx hb dL_law_35 (by decide) (fun _ => ?_) (fun z => absurd ((cmp7 (L := L) (n := n) (by omega) (by omega)).mpr (by omega)) z)
    refine lv_iconst (v := 1) hx hb dL_law_2909 (by decide) ?_
    refine W.widen (k := 603072) (n := 7207017) (by omega) (by omega) ?_
    refine W.base ?_
    exact lw_ret (Drawn.sameBut.refl s.drawn lw_cs) hx hb hr hlocks dL_law_2910
  | succ k ih =>
    intro n hk H cells slots ls hS hl
    have hS' := hS
    obtain ⟨hc, hr9, bb, c9, mm, ad, vL, vD, I, ⟨hR, hw, ha⟩, ⟨hM, hwa, hSim⟩, hcl, hsl⟩ := hS'
    have hn : n < 512 := by omega
    have hL : 7 * n + 6 < L := by omega
    have K : ∀ (H1 : Heap) (cells1 slots1 : Nat) (ls1 : Array Slot), LwS s G cL cD oL oD a o (n + 1) H1 cells1 slots1 → lv_has ls1 9 (lvs0 b a o oL oD (nI (7 * n))) → W p l e room_1 s m #[Value.ref b] below meth c H1 [] cells1 slots1 (lw_Z below #[Value.ref b] s) (F0 m 2903 ls1 []) := by
      intro H1 cells1 slots1 ls1 hS1 hl1
      refine lv_iinc (v := nI (7 * (n + 1))) (lv' := lvs0 b a o oL oD (nI (7 * (n + 1)))) hx hb dL_law_2903 hl1 (k := 0) rfl (by rw [show (7 * (n + 1) : Nat) = 7 * n + 7 by omega, ← nI_add]; rfl) (by decide) rfl (fun ls2 hl2 => ?_)
      refine lv_goto (tgt := 28) hx hb dL_law_2906 (by decide) ?_
      exact ih (n + 1) (by omega) H1 cells1 slots1 ls2 hS1 hl2
    have I' := I
    obtain ⟨Ac, Ar, -, -, -, -, -, -, h7⟩ := I'
    refine lv_iload hx hb dL_law_28 (lv_at hl 0 rfl) ?_
    refine lv_aload_n hx hb dL_law_30 rfl (lv_at hl 5 rfl) ?_
    refine va_slen (A := fun q => s.heap.size ≤ q) hx hb hX hbl (Nat.not_le.mpr hbl) h7 dL_law_31 ?_
    refine lv_bipush (v := nI 7) hx hb dL_law_32 (by decide) ?_
    refine lv_isub hx hb dL_law_34 ?_
    refine lv_icmp_gt (tgt := 2909) hx hb dL_law_35 (by decide) (fun z => absurd ((cmp7 (L := L) (n := n) (by omega) (by omega)).mp z) (by omega)) (fun _ => ?_)
    refine lv_aload_n hx hb dL_law_38 rfl (lv_at hl 5 rfl) ?_
    refine lv_iload hx hb dL_law_39 (lv_at hl 0 rfl) ?_
    refine va_sld (A := fun q => s.heap.size ≤ q) hx hb hX hbl (Nat.not_le.mpr hbl) h7 (vp_in_nI (by omega) (by omega)) dL_law_41 ?_
    refine lv_bipush (v := 63) hx hb dL_law_42 (by decide) ?_
    refine lv_iand hx hb dL_law_44 ?_
    obtain ⟨j, hj, ej⟩ := pk_andE (xs (nI (7 * n)).toNatClampNeg) (m := 63) 6 (by decide)
    rw [ej]
    match j, hj with
    | 0, _ => exact lv_tableIn (tgt := 244) hx hb dL_law_45 (by decide) (by decide) rfl (by decide) (lc_openHub hlt F hn hL hL2 hS hl K)
    | 1, _ => exact lv_tableIn (tgt := 312) hx hb dL_law_45 (by decide) (by decide) rfl (by decide) (lc_addLine hlt F hn hL hL2 hS hl K)
    | 2, _ => exact lv_tableIn (tgt := 430) hx hb dL_law_45 (by decide) (by decide) rfl (by decide) (lc_closeLine hlt F hn hL hL2 hS hl K)
    | 3, _ => exact lv_tableIn (tgt := 486) hx hb dL_law_45 (by decide) (by decide) rfl (by decide) (lc_accept hlt F hn hL hL2 hS hl K)
    | 4, _ => exact lv_tableIn (tgt := 578) hx hb dL_law_45 (by decide) (by decide) rfl (by decide) (lc_scan hlt F hn hL hL2 hS hl K)
    | 5, _ => exact lv_tableIn (tgt := 646) hx hb dL_law_45 (by decide) (by decide) rfl (by decide) (lc_deliver hlt F hn hL hL2 hS hl K)
    | 6, _ => exact lv_tableIn (tgt := 730) hx hb dL_law_45 (by decide) (by decide) rfl (by decide) (lc_recall hlt F hn hL hL2 hS hl K)
    | 7, _ => exact lv_tableIn (tgt := 786) hx hb dL_law_45 (by decide) (by decide) rfl (by decide) (lc_pass hlt F hn hL hL2 hS hl K)
    | 8, _ => exact lv_tableIn (tgt := 842) hx hb dL_law_45 (by decide) (by decide) rfl (by decide) (lc_minute hlt F hn hL hL2 hS hl K)
    | 9, _ => exact lv_tableIn (tgt := 855) hx hb dL_law_45 (by decide) (by decide) rfl (by decide) (lc_hubs hlt F hn hL hL2 hS hl K)
    | 10, _ => exact lv_tableIn (tgt := 868) hx hb dL_law_45 (by decide) (by decide) rfl (by decide) (lc_lines hlt F hn hL hL2 hS hl K)
    | 11, _ => exact lv_tableIn (tgt := 881) hx hb dL_law_45 (by decide) (by decide) rfl (by decide) (lc_parcels hlt F hn hL hL2 hS hl K)
    | 12, _ => exact lv_tableIn (tgt := 894) hx hb dL_law_45 (by decide) (by decide) rfl (by decide) (lc_hubOf hlt F hn hL hL2 hS hl K)
    | 13, _ => exact lv_tableIn (tgt := 950) hx hb dL_law_45 (by decide) (by decide) rfl (by decide) (lc_hubByTrying hlt F hn hL hL2 hS hl K)
    | 14, _ => exact lv_tableIn (tgt := 1006) hx hb dL_law_45 (by decide) (by decide) rfl (by decide) (lc_nextDeparture hlt F hn hL hL2 hS hl K)
    | 15, _ => exact lv_tableIn (tgt := 1062) hx hb dL_law_45 (by decide) (by decide) rfl (by decide) (lc_state hlt F hn hL hL2 hS hl K)
    | 16, _ => exact lv_tableIn (tgt := 1118) hx hb dL_law_45 (by decide) (by decide) rfl (by decide) (lc_at hlt F hn hL hL2 hS hl K)
    | 17, _ => exact lv_tableIn (tgt := 1174) hx hb dL_law_45 (by decide) (by decide) rfl (by decide) (lc_rides hlt F hn hL hL2 hS hl K)
    | 18, _ => exact lv_tableIn (tgt := 1230) hx hb dL_law_45 (by decide) (by decide) rfl (by decide) (lc_destination hlt F hn hL hL2 hS hl K)
    | 19, _ => exact lv_tableIn (tgt := 1286) hx hb dL_law_45 (by decide) (by decide) rfl (by decide) (lc_isReturn hlt F hn hL hL2 hS hl K)
    | 20, _ => exact lv_tableIn (tgt := 1349) hx hb dL_law_45 (by decide) (by decide) rfl (by decide) (lc_promise hlt F hn hL hL2 hS hl K)
    | 21, _ => exact lv_tableIn (tgt := 1405) hx hb dL_law_45 (by decide) (by decide) rfl (by decide) (lc_isLate hlt F hn hL hL2 hS hl K)
    | 22, _ => exact lv_tableIn (tgt := 1468) hx hb dL_law_45 (by decide) (by decide) rfl (by decide) (lc_misroutes hlt F hn hL hL2 hS hl K)
    | 23, _ => exact lv_tableIn (tgt := 1524) hx hb dL_law_45 (by decide) (by decide) rfl (by decide) (lc_attempts hlt F hn hL hL2 hS hl K)
    | 24, _ => exact lv_tableIn (tgt := 1580) hx hb dL_law_45 (by decide) (by decide) rfl (by decide) (lc_missed hlt F hn hL hL2 hS hl K)
    | 25, _ => exact lv_tableIn (tgt := 1636) hx hb dL_law_45 (by decide) (by decide) rfl (by decide) (lc_nextLine hlt F hn hL hL2 hS hl K)
    | 26, _ => exact lv_tableIn (tgt := 1692) hx hb dL_law_45 (by decide) (by decide) rfl (by decide) (lc_nextLineByPaths hlt F hn hL hL2 hS hl K)
    | 27, _ => exact lv_tableIn (tgt := 1748) hx hb dL_law_45 (by decide) (by decide) rfl (by decide) (lc_pathSize hlt F hn hL hL2 hS hl K)
    | 28, _ => exact lv_tableIn (tgt := 1804) hx hb dL_law_45 (by decide) (by decide) rfl (by decide) (lc_pathAt hlt F hn hL hL2 hS hl K)
    | 29, _ => exact lv_tableIn (tgt := 1872) hx hb dL_law_45 (by decide) (by decide) rfl (by decide) (lc_arrival hlt F hn hL hL2 hS hl K)
    | 30, _ => exact lv_tableIn (tgt := 1928) hx hb dL_law_45 (by decide) (by decide) rfl (by decide) (lc_arrivalByPaths hlt F hn hL hL2 hS hl K)
    | 31, _ => exact lv_tableIn (tgt := 1984) hx hb dL_law_45 (by decide) (by decide) rfl (by decide) (lc_arrivalBySimulation hlt F hn hL hL2 hS hl K)
    | 32, _ => exact lv_tableIn (tgt := 2040) hx hb dL_law_45 (by decide) (by decide) rfl (by decide) (lc_waiting hlt F hn hL hL2 hS hl K)
    | 33, _ => exact lv_tableIn (tgt := 2096) hx hb dL_law_45 (by decide) (by decide) rfl (by decide) (lc_waitingAt hlt F hn hL hL2 hS hl K)
    | 34, _ => exact lv_tableIn (tgt := 2164) hx hb dL_law_45 (by decide) (by decide) rfl (by decide) (lc_bagsNeeded hlt F hn hL hL2 hS hl K)
    | 35, _ => exact lv_tableIn (tgt := 2220) hx hb dL_law_45 (by decide) (by decide) rfl (by decide) (lc_bagsAtLeast hlt F hn hL hL2 hS hl K)
    | 36, _ => exact lv_tableIn (tgt := 2276) hx hb dL_law_45 (by decide) (by decide) rfl (by decide) (lc_bags hlt F hn hL hL2 hS hl K)
    | 37, _ => exact lv_tableIn (tgt := 2332) hx hb dL_law_45 (by decide) (by decide) rfl (by decide) (lc_bagVolume hlt F hn hL hL2 hS hl K)
    | 38, _ => exact lv_tableIn (tgt := 2400) hx hb dL_law_45 (by decide) (by decide) rfl (by decide) (lc_riding hlt F hn hL hL2 hS hl K)
    | 39, _ => exact lv_tableIn (tgt := 2456) hx hb dL_law_45 (by decide) (by decide) rfl (by decide) (lc_events hlt F hn hL hL2 hS hl K)
    | 40, _ => exact lv_tableIn (tgt := 2512) hx hb dL_law_45 (by decide) (by decide) rfl (by decide) (lc_eventKind hlt F hn hL hL2 hS hl K)
    | 41, _ => exact lv_tableIn (tgt := 2580) hx hb dL_law_45 (by decide) (by decide) rfl (by decide) (lc_eventMinute hlt F hn hL hL2 hS hl K)
    | 42, _ => exact lv_tableIn (tgt := 2648) hx hb dL_law_45 (by decide) (by decide) rfl (by decide) (lc_eventHub hlt F hn hL hL2 hS hl K)
    | 43, _ => exact lv_tableIn (tgt := 2716) hx hb dL_law_45 (by decide) (by decide) rfl (by decide) (lc_trace hlt F hn hL hL2 hS hl K)
    | 44, _ => exact lv_tableIn (tgt := 2772) hx hb dL_law_45 (by decide) (by decide) rfl (by decide) (lc_lateShare hlt F hn hL hL2 hS hl K)
    | 45, _ => exact lv_tableIn (tgt := 2838) hx hb dL_law_45 (by decide) (by decide) rfl (by decide) (lc_meanTime hlt F hn hL hL2 hS hl K)
    | j + 46, hj =>
      have e9 : (nI (j + 46)).toInt = ((j + 46 : Nat) : Int) := nI_toInt (by omega)
      exact lv_tableOut (tgt := 2903) hx hb dL_law_45 (Or.inr (by rw [e9]; omega)) (by decide) (K H cells slots ls hS.idle hl)
