theorem dJ0_length_8abf5_0 : decode cJ0_length_8abf5 0 = .ok (.aload_n 0, 1) := by decide +kernel
theorem dJ0_length_8abf5_1 : decode cJ0_length_8abf5 1 = .ok (.getfield 9, 3) := by decide +kernel
theorem dJ0_length_8abf5_4 : decode cJ0_length_8abf5 4 = .ok (.arraylength, 1) := by decide +kernel
theorem dJ0_length_8abf5_5 : decode cJ0_length_8abf5 5 = .ok (.aload_n 0, 1) := by decide +kernel
theorem dJ0_length_8abf5_6 : decode cJ0_length_8abf5 6 = .ok (.invokevirtual 335, 3) := by decide +kernel
theorem dJ0_length_8abf5_9 : decode cJ0_length_8abf5 9 = .ok (.ishr, 1) := by decide +kernel
theorem dJ0_length_8abf5_10 : decode cJ0_length_8abf5 10 = .ok (.ireturn, 1) := by decide +kernel
theorem dJ0_coder_7d493_0 : decode cJ0_coder_7d493 0 = .ok (.getstatic 38, 3) := by decide +kernel
theorem dJ0_coder_7d493_3 : decode cJ0_coder_7d493 3 = .ok (.ifCond .eq 10, 3) := by decide +kernel
theorem dJ0_coder_7d493_6 : decode cJ0_coder_7d493 6 = .ok (.aload_n 0, 1) := by decide +kernel
theorem dJ0_coder_7d493_7 : decode cJ0_coder_7d493 7 = .ok (.getfield 15, 3) := by decide +kernel
theorem dJ0_coder_7d493_10 : decode cJ0_coder_7d493 10 = .ok (.goto 4, 3) := by decide +kernel
theorem dJ0_coder_7d493_13 : decode cJ0_coder_7d493 13 = .ok (.iconst 1, 1) := by decide +kernel
theorem dJ0_coder_7d493_14 : decode cJ0_coder_7d493 14 = .ok (.ireturn, 1) := by decide +kernel
section SROWS
variable {p : Program} {l : Launch} {e : Env} {R : Room} {s : State} {m : MethodId} {args : Array Value} {below : List Frame} {meth : Method} {c : Code} {H : Heap} {locs : List Loc} {cells slots : Nat} {Q : State → Prop}
variable {cc : ByteArray} {pc nL index : Nat} {ls : Array Slot} {rest stk : List Value} {G : GT} {A : Nat → Prop} {h : AH} {own : String}
variable {y : MethodName} {bytes : ByteArray} {maxL n fr lo mc ms : Nat} {ret : Option FieldType} {Qc : Array Value → State → Outcome → State → Prop} {As : List Value}
theorem k_runVS (C0 : CX p l s m args meth c cc nL own G A) (hH : HS G.1 G.2.1 A s.heap h H locs) (hM : Met l y (ws_ y bytes maxL ret) (rmm fr lo mc ms) (va_Pc (.ref G.2.2.2.1 :: As) (WP G A h)) Qc mc ms A) (mv : MV y bytes maxL ret n "java/lang/String") (hl : Cond.methodLink own index y ∈ lw_all) (hAs : As.length = n) (hR : fr + 1 ≤ R.frames ∧ 8 + (maxL + 11) + lo ≤ R.locals) (hls : ls.size = nL) (hstk : stk = As.reverse ++ .ref G.2.2.2.1 :: rest) (hst : (rest.map fun v => v.category).sum ≤ 8) (hdg : decode cc pc = .ok (.invokevirtual index, 3)) (hf : cells + mc ≤ R.cells ∧ slots + ms ≤ R.slots) :
    va_Run p l e R s m args below meth c H locs cells slots mc ms (F0 m pc ls stk) rest (Qc (Value.ref G.2.2.2.1 :: As).toArray) A := by
  have hw := fun U hU hW => WP.at C0 hH U hU hW
  obtain ⟨hx, hb, hml, hown, hts, hK, hA, hG, hG2, -⟩ := C0
  have hr := va_Orecv hG2.2.2.2.2.1 hH.2
  exact va_runV (C := "java/lang/String") ⟨hx, hb, hml, hown, hts⟩ hM (cwV n hts (mv.good hl) rfl rfl rfl ⟨mv.2.2.2.2.1, mv.2.2.2.2.2⟩ hR) ⟨WP.blind, hr, fun U hU hW => ⟨rfl, hw U hU hW⟩⟩ rfl hAs hls hstk (lv_room hst) hdg hf
theorem k_scoder (C0 : CX p l s m args meth c cc nL own G A) (hH : HS G.1 G.2.1 A s.heap h H locs) (hl : Cond.fieldLink own index "java/lang/String" "coder" "B" ∈ lw_all) (hdg : decode cc pc = .ok (.getfield index, 3))
    (kk : W p l e R s m args below meth c H locs cells slots Q (F0 m (pc + 3) ls (.int 0 :: rest))) : W p l e R s m args below meth c H locs cells slots Q (F0 m pc ls (.ref G.2.2.2.1 :: rest)) := by
  obtain ⟨hx, hb, hml, hown, hts, hK, hA, hG, hG2, -⟩ := C0
  exact vk_getf hx hb hG2.2.2.2.2.2.1 hH.2 hown (hts _ hl) (fun x e => e) hdg kk
theorem k_svalue (C0 : CX p l s m args meth c cc nL own G A) (hH : HS G.1 G.2.1 A s.heap h H locs) (hl : Cond.fieldLink own index "java/lang/String" "value" "[B" ∈ lw_all) (hdg : decode cc pc = .ok (.getfield index, 3))
    (kk : W p l e R s m args below meth c H locs cells slots Q (F0 m (pc + 3) ls (.ref G.2.2.2.2 :: rest))) : W p l e R s m args below meth c H locs cells slots Q (F0 m pc ls (.ref G.2.2.2.1 :: rest)) := by
  obtain ⟨hx, hb, hml, hown, hts, hK, hA, hG, hG2, -⟩ := C0
  exact vk_getf hx hb hG2.2.2.2.2.2.2.1 hH.2 hown (hts _ hl) (fun x e => e) hdg kk
theorem k_scomp (C0 : CX p l s m args meth c cc nL own G A) (hH : HS G.1 G.2.1 A s.heap h H locs) (hl : Cond.fieldLink own index "java/lang/String" "COMPACT_STRINGS" "Z" ∈ lw_all) (hdg : decode cc pc = .ok (.getstatic index, 3))
    (kk : W p l e R s m args below meth c H locs cells slots Q (F0 m (pc + 3) ls (.int 1 :: rest))) : W p l e R s m args below meth c H locs cells slots Q (F0 m pc ls rest) := by
  obtain ⟨hx, hb, hml, hown, hts, hK, hA, hG, hG2, -⟩ := C0
  exact va_gets hx hb hG2.2.2.2.2.2.2.2.2 hH.2 hown (hts _ hl) (fun x e => e) hdg kk
theorem k_sbyte (C0 : CX p l s m args meth c cc nL own G A) (hH : HS G.1 G.2.1 A s.heap h H locs) {i : Nat} (hi : i < 9) (hdg : decode cc pc = .ok (.baload, 1))
    (kk : W p l e R s m args below meth c H locs cells slots Q (F0 m (pc + 1) ls (.int (lw_letters.getD i 0) :: rest))) : W p l e R s m args below meth c H locs cells slots Q (F0 m pc ls (.int (nI i) :: .ref G.2.2.2.2 :: rest)) := by
  obtain ⟨hx, hb, hml, hown, hts, hK, hA, hG, hG2, -⟩ := C0
  exact va_tb hx hb hG2.2.2.2.2.2.2.2.1 hH.2 (vp_in_nI hi (by omega)) (by rw [nI_clamp (by omega)]) hdg kk
theorem k_slen (C0 : CX p l s m args meth c cc nL own G A) (hH : HS G.1 G.2.1 A s.heap h H locs) (hdg : decode cc pc = .ok (.arraylength, 1))
    (kk : W p l e R s m args below meth c H locs cells slots Q (F0 m (pc + 1) ls (.int 9 :: rest))) : W p l e R s m args below meth c H locs cells slots Q (F0 m pc ls (.ref G.2.2.2.2 :: rest)) := by
  obtain ⟨hx, hb, hml, hown, hts, hK, hA, hG, hG2, -⟩ := C0
  exact va_tlen hx hb hG2.2.2.2.2.2.2.2.1 hH.2 rfl hdg kk
end SROWS
theorem let_b : ∀ j, j < 9 → (lw_letters.getD j 0).toInt8.toInt32 = lw_letters.getD j 0 := by decide
theorem let_pos : ∀ j, j < 9 → ¬ lw_letters.getD j 0 < 0 ∧ ¬ 255 < lw_letters.getD j 0 := by decide
theorem let_ne : ∀ i, i < 9 → ∀ j, j < 9 → i ≠ j → ¬ lw_letters.getD i 0 = lw_letters.getD j 0 := by decide
set_option maxHeartbeats 4000000 in
set_option maxRecDepth 100000 in
theorem cJ_J0_coder_7d493 (l : Launch) (G : GT) (A : Nat → Prop) (h : AH)  : cmI l G A yJ0_coder_7d493 cJ0_coder_7d493 1 (Option.some FieldType.byte) 0 0 0 0 [.ref (G.2.2.2.1)] h (fun r h' => r = 0 ∧ h' = h) := by
  refine cm_of "java/lang/String" rfl (by decide) (Nat.le_of_ble_eq_true rfl) ?_
  intro pr e s m9 below meth c C0 hr hname hH ls hl
  obtain ⟨hx, hb, hml, hown, hts, hK, hA, -⟩ := id C0
  have hl : lv_has ls 1 [(0, .ref (G.2.2.2.1))] := hl
  refine k_scomp C0 hH fl_J0_38 dJ0_coder_7d493_0 ?_
  refine lv_if_eq (tgt := 13) hx hb dJ0_coder_7d493_3 (by decide) (fun c3_1 => ?_) (fun c3_1 => ?_)
  · exact absurd c3_1 (by decide)
  · refine lv_aload_n hx hb dJ0_coder_7d493_6 rfl (lv_at hl 0 rfl) ?_
    refine k_scoder C0 hH fl_J0_15 dJ0_coder_7d493_7 ?_
    refine lv_goto (tgt := 14) hx hb dJ0_coder_7d493_10 (by decide) ?_
    exact e_Z C0 hr (by decide) hH ⟨rfl, rfl⟩ (by omega) (by omega) dJ0_coder_7d493_14
set_option maxHeartbeats 4000000 in
set_option maxRecDepth 100000 in
theorem cJ_J0_isLatin1_aae02 (l : Launch) (G : GT) (A : Nat → Prop) (h : AH)  : cmI l G A yJ0_isLatin1_aae02 cJ0_isLatin1_aae02 1 (Option.some FieldType.boolean) 0 0 0 0 [.ref (G.2.2.2.1)] h (fun r h' => r = 1 ∧ h' = h) := by
  refine cm_of "java/lang/String" rfl (by decide) (Nat.le_of_ble_eq_true rfl) ?_
  intro pr e s m9 below meth c C0 hr hname hH ls hl
  obtain ⟨hx, hb, hml, hown, hts, hK, hA, -⟩ := id C0
  have hl : lv_has ls 1 [(0, .ref (G.2.2.2.1))] := hl
  refine k_scomp C0 hH fl_J0_38 dJ0_isLatin1_aae02_0 ?_
  refine lv_if_eq (tgt := 17) hx hb dJ0_isLatin1_aae02_3 (by decide) (fun c3_1 => ?_) (fun c3_1 => ?_)
  · exact absurd c3_1 (by decide)
  · refine lv_aload_n hx hb dJ0_isLatin1_aae02_6 rfl (lv_at hl 0 rfl) ?_
    refine k_scoder C0 hH fl_J0_15 dJ0_isLatin1_aae02_7 ?_
    refine lv_if_ne (tgt := 17) hx hb dJ0_isLatin1_aae02_10 (by decide) (fun c10_2 => ?_) (fun c10_2 => ?_)
    · exact absurd (by decide) c10_2
    · refine lv_iconst (v := 1) hx hb dJ0_isLatin1_aae02_13 (by decide) ?_
      refine lv_goto (tgt := 18) hx hb dJ0_isLatin1_aae02_14 (by decide) ?_
      exact e_Z C0 hr (by decide) hH ⟨rfl, rfl⟩ (by omega) (by omega) dJ0_isLatin1_aae02_18
set_option maxHeartbeats 4000000 in
set_option maxRecDepth 100000 in
theorem cJ_J0_length_8abf5 (l : Launch) (G : GT) (A : Nat → Prop) (h : AH)  : cmI l G A yJ0_length_8abf5 cJ0_length_8abf5 1 (Option.some FieldType.int) 1 20 0 0 [.ref (G.2.2.2.1)] h (fun r h' => r = 9 ∧ h' = h) := by
  refine cm_of "java/lang/String" rfl (by decide) (Nat.le_of_ble_eq_true rfl) ?_
  intro pr e s m9 below meth c C0 hr hname hH ls hl
  obtain ⟨hx, hb, hml, hown, hts, hK, hA, -⟩ := id C0
  have hl : lv_has ls 1 [(0, .ref (G.2.2.2.1))] := hl
  refine lv_aload_n hx hb dJ0_length_8abf5_0 rfl (lv_at hl 0 rfl) ?_
  refine k_svalue C0 hH fl_J0_9 dJ0_length_8abf5_1 ?_
  refine k_slen C0 hH dJ0_length_8abf5_4 ?_
  refine lv_aload_n hx hb dJ0_length_8abf5_5 rfl (lv_at hl 0 rfl) ?_
  refine k_i hH (k_runVS (rest := [.int (9)]) C0 hH (cJ_J0_coder_7d493 l G A h) mv_J0_coder_7d493 ml_J0_335 rfl ⟨Nat.le_of_ble_eq_true rfl, Nat.le_of_ble_eq_true rfl⟩ hl.1 rfl (Nat.le_of_ble_eq_true rfl) dJ0_length_8abf5_6 (by simp)) (fun r_1 h1 H locs hp hH => ?_)
  obtain ⟨er_1, eh⟩ := hp
  rw [eh] at hH
  clear eh
  subst er_1
  refine lv_ishr hx hb dJ0_length_8abf5_9 ?_
  exact e_I C0 hr hH ⟨by decide, rfl⟩ (by omega) (by omega) dJ0_length_8abf5_10
set_option maxHeartbeats 4000000 in
set_option maxRecDepth 100000 in
theorem cJ_J1_canEncode_9a6ad (l : Launch) (G : GT) (A : Nat → Prop) (h : AH) (j : Nat) (hj : j < 9) : cmI l G A yJ1_canEncode_9a6ad cJ1_canEncode_9a6ad 1 (Option.some FieldType.boolean) 0 0 0 0 [.int (lw_letters.getD j 0)] h (fun r h' => r = 1 ∧ h' = h) := by
  refine cm_of "java/lang/StringLatin1" rfl (by decide) (Nat.le_of_ble_eq_true rfl) ?_
  intro pr e s m9 below meth c C0 hr hname hH ls hl
  obtain ⟨hx, hb, hml, hown, hts, hK, hA, -⟩ := id C0
  have hl : lv_has ls 1 [(0, .int (lw_letters.getD j 0))] := hl
  refine lv_iload_n hx hb dJ1_canEncode_9a6ad_0 rfl (lv_at hl 0 rfl) ?_
  refine lv_if_lt (tgt := 15) hx hb dJ1_canEncode_9a6ad_1 (by decide) (fun c1_1 => ?_) (fun c1_1 => ?_)
  · exact absurd c1_1 (let_pos j hj).1
  · refine lv_iload_n hx hb dJ1_canEncode_9a6ad_4 rfl (lv_at hl 0 rfl) ?_
    refine lv_sipush (v := 255) hx hb dJ1_canEncode_9a6ad_5 (by decide) ?_
    refine lv_icmp_gt (tgt := 15) hx hb dJ1_canEncode_9a6ad_8 (by decide) (fun c8_2 => ?_) (fun c8_2 => ?_)
    · exact absurd c8_2 (let_pos j hj).2
    · refine lv_iconst (v := 1) hx hb dJ1_canEncode_9a6ad_11 (by decide) ?_
      refine lv_goto (tgt := 16) hx hb dJ1_canEncode_9a6ad_12 (by decide) ?_
      exact e_Z C0 hr (by decide) hH ⟨rfl, rfl⟩ (by omega) (by omega) dJ1_canEncode_9a6ad_16
set_option maxHeartbeats 4000000 in
set_option maxRecDepth 100000 in
theorem cJ_J1_indexOfChar_4cfef (l : Launch) (G : GT) (A : Nat → Prop) (h : AH) (j : Nat) (hj : j < 9) : cmI l G A yJ1_indexOfChar_4cfef cJ1_indexOfChar_4cfef 6 (Option.some FieldType.int) 0 0 0 0 [.ref (G.2.2.2.2), .int (lw_letters.getD j 0), .int (0), .int (9)] h (fun r h' => r = nI j ∧ h' = h) := by
  refine cm_of "java/lang/StringLatin1" rfl (by decide) (Nat.le_of_ble_eq_true rfl) ?_
  intro pr e s m9 below meth c C0 hr hname hH ls hl
  obtain ⟨hx, hb, hml, hown, hts, hK, hA, -⟩ := id C0
  have hl : lv_has ls 6 [(0, .ref (G.2.2.2.2)), (1, .int (lw_letters.getD j 0)), (2, .int (0)), (3, .int (9))] := hl
  refine lv_iload_n hx hb dJ1_indexOfChar_4cfef_0 rfl (lv_at hl 1 rfl) ?_
  refine lv_i2b (v := lw_letters.getD j 0) hx hb dJ1_indexOfChar_4cfef_1 (let_b j hj) ?_
  refine lv_istore (lv' := [(4, .int (lw_letters.getD j 0)), (0, .ref (G.2.2.2.2)), (1, .int (lw_letters.getD j 0)), (2, .int (0)), (3, .int (9))]) hx hb dJ1_indexOfChar_4cfef_2 hl (by decide) rfl (fun ls hl => ?_)
  refine lv_iload_n hx hb dJ1_indexOfChar_4cfef_4 rfl (lv_at hl 3 rfl) ?_
  refine lv_istore (lv' := [(5, .int (0)), (4, .int (lw_letters.getD j 0)), (0, .ref (G.2.2.2.2)), (1, .int (lw_letters.getD j 0)), (2, .int (0)), (3, .int (9))]) hx hb dJ1_indexOfChar_4cfef_5 hl (by decide) rfl (fun ls hl => ?_)
  have K : ∀ (k i : Nat), i + k = j → ∀ (ls : Array Slot), lv_has ls 6 [(5, .int (nI i)), (4, .int (lw_letters.getD j 0)), (0, .ref (G.2.2.2.2)), (3, .int (9))] → W pr l e (rmm 0 0 0 0) s m9 ([.ref (G.2.2.2.2), .int (lw_letters.getD j 0), .int (0), .int (9)] : List Value).toArray below meth c s.heap [] 0 0 (QI below G A (fun r h' => r = nI j ∧ h' = h) ([.ref (G.2.2.2.2), .int (lw_letters.getD j 0), .int (0), .int (9)] : List Value).toArray s 0 0) (F0 m9 7 ls []) := by
    intro k
    induction k with
    | zero =>
      intro i hik ls hl
      have hi9 : i < 9 := by omega
      refine lv_iload hx hb dJ1_indexOfChar_4cfef_7 (lv_at hl 0 rfl) ?_
      refine lv_iload_n hx hb dJ1_indexOfChar_4cfef_9 rfl (lv_at hl 3 rfl) ?_
      refine lv_icmp_ge (tgt := 31) hx hb dJ1_indexOfChar_4cfef_10 (by decide) (fun c10_1 => ?_) (fun c10_1 => ?_)
      · exact absurd (nI_lt hi9 (by omega)) (Int32.not_lt.mpr c10_1)
      · refine lv_aload_n hx hb dJ1_indexOfChar_4cfef_13 rfl (lv_at hl 2 rfl) ?_
        refine lv_iload hx hb dJ1_indexOfChar_4cfef_14 (lv_at hl 0 rfl) ?_
        refine k_sbyte C0 hH hi9 dJ1_indexOfChar_4cfef_16 ?_
        refine lv_iload hx hb dJ1_indexOfChar_4cfef_17 (lv_at hl 1 rfl) ?_
        refine lv_icmp_ne (tgt := 25) hx hb dJ1_indexOfChar_4cfef_19 (by decide) (fun c19_2 => ?_) (fun c19_2 => ?_)
        · exact absurd (by rw [show i = j by omega]) c19_2
        · refine lv_iload hx hb dJ1_indexOfChar_4cfef_22 (lv_at hl 0 rfl) ?_
          exact e_I C0 hr hH ⟨by rw [show i = j by omega], rfl⟩ (by omega) (by omega) dJ1_indexOfChar_4cfef_24
    | succ k ih =>
      intro i hik ls hl
      have hi9 : i < 9 := by omega
      refine lv_iload hx hb dJ1_indexOfChar_4cfef_7 (lv_at hl 0 rfl) ?_
      refine lv_iload_n hx hb dJ1_indexOfChar_4cfef_9 rfl (lv_at hl 3 rfl) ?_
      refine lv_icmp_ge (tgt := 31) hx hb dJ1_indexOfChar_4cfef_10 (by decide) (fun c10_3 => ?_) (fun c10_3 => ?_)
      · exact absurd (nI_lt hi9 (by omega)) (Int32.not_lt.mpr c10_3)
      · refine lv_aload_n hx hb dJ1_indexOfChar_4cfef_13 rfl (lv_at hl 2 rfl) ?_
        refine lv_iload hx hb dJ1_indexOfChar_4cfef_14 (lv_at hl 0 rfl) ?_
        refine k_sbyte C0 hH hi9 dJ1_indexOfChar_4cfef_16 ?_
        refine lv_iload hx hb dJ1_indexOfChar_4cfef_17 (lv_at hl 1 rfl) ?_
        refine lv_icmp_ne (tgt := 25) hx hb dJ1_indexOfChar_4cfef_19 (by decide) (fun c19_4 => ?_) (fun c19_4 => ?_)
        · refine lv_iinc (v := nI (i + 1)) (lv' := [(5, .int (nI (i + 1))), (4, .int (lw_letters.getD j 0)), (0, .ref (G.2.2.2.2)), (3, .int (9))]) hx hb dJ1_indexOfChar_4cfef_25 hl (k := 0) rfl (by rw [← nI_1]; rfl) (by decide) rfl (fun ls hl => ?_)
          refine lv_goto (tgt := 7) hx hb dJ1_indexOfChar_4cfef_28 (by decide) ?_
          exact ih (i + 1) (by omega) ls (lv_sub hl [0, 1, 2, 3] rfl)
        · exact absurd c19_4 (let_ne i hi9 j hj (by omega))
  exact K j 0 (by omega) ls (lv_sub hl [0, 1, 2, 5] rfl)
set_option maxHeartbeats 4000000 in
set_option maxRecDepth 100000 in
theorem cJ_J1_indexOf_4cfef (l : Launch) (G : GT) (A : Nat → Prop) (h : AH) (j : Nat) (hj : j < 9) : cmI l G A yJ1_indexOf_4cfef cJ1_indexOf_4cfef 4 (Option.some FieldType.int) 1 25 0 0 [.ref (G.2.2.2.2), .int (lw_letters.getD j 0), .int (0), .int (9)] h (fun r h' => r = nI j ∧ h' = h) := by
  refine cm_of "java/lang/StringLatin1" rfl (by decide) (Nat.le_of_ble_eq_true rfl) ?_
  intro pr e s m9 below meth c C0 hr hname hH ls hl
  obtain ⟨hx, hb, hml, hown, hts, hK, hA, -⟩ := id C0
  have hl : lv_has ls 4 [(0, .ref (G.2.2.2.2)), (1, .int (lw_letters.getD j 0)), (2, .int (0)), (3, .int (9))] := hl
  refine lv_iload_n hx hb dJ1_indexOf_4cfef_0 rfl (lv_at hl 1 rfl) ?_
  refine k_i hH (k_runS (rest := []) C0 hH (cJ_J1_canEncode_9a6ad l G A h j hj) mv_J1_canEncode_9a6ad ml_J1_88 rfl ⟨Nat.le_of_ble_eq_true rfl, Nat.le_of_ble_eq_true rfl⟩ hl.1 rfl (Nat.le_of_ble_eq_true rfl) dJ1_indexOf_4cfef_1 (by simp)) (fun r_1 h1 H locs hp hH => ?_)
  obtain ⟨er_1, eh⟩ := hp
  rw [eh] at hH
  clear eh
  subst er_1
  refine lv_if_ne (tgt := 9) hx hb dJ1_indexOf_4cfef_4 (by decide) (fun c4_2 => ?_) (fun c4_2 => ?_)
  · refine lv_iload_n hx hb dJ1_indexOf_4cfef_9 rfl (lv_at hl 2 rfl) ?_
    refine lv_iconst (v := 0) hx hb dJ1_indexOf_4cfef_10 (by decide) ?_
    refine o_mmax C0 ml_J1_92 hl.1 dJ1_indexOf_4cfef_11 (Nat.le_of_ble_eq_true rfl) (Nat.le_of_ble_eq_true rfl) (by simp) ?_
    rw [show (if (0 : Int32) < 0 then (0 : Int32) else 0) = 0 from rfl]
    refine lv_istore_n (lv' := [(2, .int (0)), (0, .ref (G.2.2.2.2)), (1, .int (lw_letters.getD j 0)), (3, .int (9))]) hx hb dJ1_indexOf_4cfef_14 rfl hl (by decide) rfl (fun ls hl => ?_)
    refine lv_iload_n hx hb dJ1_indexOf_4cfef_15 rfl (lv_at hl 3 rfl) ?_
    refine lv_aload_n hx hb dJ1_indexOf_4cfef_16 rfl (lv_at hl 1 rfl) ?_
    refine k_slen C0 hH dJ1_indexOf_4cfef_17 ?_
    refine o_mmin C0 ml_J1_38 hl.1 dJ1_indexOf_4cfef_18 (Nat.le_of_ble_eq_true rfl) (Nat.le_of_ble_eq_true rfl) (by simp) ?_
    rw [show (if (9 : Int32) < 9 then (9 : Int32) else 9) = 9 from rfl]
    refine lv_istore_n (lv' := [(3, .int (9)), (2, .int (0)), (0, .ref (G.2.2.2.2)), (1, .int (lw_letters.getD j 0))]) hx hb dJ1_indexOf_4cfef_21 rfl hl (by decide) rfl (fun ls hl => ?_)
    refine lv_iload_n hx hb dJ1_indexOf_4cfef_22 rfl (lv_at hl 1 rfl) ?_
    refine lv_iload_n hx hb dJ1_indexOf_4cfef_23 rfl (lv_at hl 0 rfl) ?_
    refine lv_icmp_lt (tgt := 29) hx hb dJ1_indexOf_4cfef_24 (by decide) (fun c24_3 => ?_) (fun c24_3 => ?_)
    · refine lv_aload_n hx hb dJ1_indexOf_4cfef_29 rfl (lv_at hl 2 rfl) ?_
      refine lv_iload_n hx hb dJ1_indexOf_4cfef_30 rfl (lv_at hl 3 rfl) ?_
      refine lv_iload_n hx hb dJ1_indexOf_4cfef_31 rfl (lv_at hl 1 rfl) ?_
      refine lv_iload_n hx hb dJ1_indexOf_4cfef_32 rfl (lv_at hl 0 rfl) ?_
      refine k_i hH (k_runS (rest := []) C0 hH (cJ_J1_indexOfChar_4cfef l G A h j hj) mv_J1_indexOfChar_4cfef ml_J1_95 rfl ⟨Nat.le_of_ble_eq_true rfl, Nat.le_of_ble_eq_true rfl⟩ hl.1 rfl (Nat.le_of_ble_eq_true rfl) dJ1_indexOf_4cfef_33 (by simp)) (fun r_4 h1 H locs hp hH => ?_)
      obtain ⟨er_4, eh⟩ := hp
      rw [eh] at hH
      clear eh
      subst er_4
      exact e_I C0 hr hH ⟨rfl, rfl⟩ (by omega) (by omega) dJ1_indexOf_4cfef_36
    · exact absurd (by decide) c24_3
  · exact absurd c4_2 (by decide)
set_option maxHeartbeats 4000000 in
set_option maxRecDepth 100000 in
theorem cJ_J0_indexOf_7cf53 (l : Launch) (G : GT) (A : Nat → Prop) (h : AH) (j : Nat) (hj : j < 9) : cmI l G A yJ0_indexOf_7cf53 cJ0_indexOf_7cf53 3 (Option.some FieldType.int) 2 48 0 0 [.ref (G.2.2.2.1), .int (lw_letters.getD j 0), .int (0)] h (fun r h' => r = nI j ∧ h' = h) := by
  refine cm_of "java/lang/String" rfl (by decide) (Nat.le_of_ble_eq_true rfl) ?_
  intro pr e s m9 below meth c C0 hr hname hH ls hl
  obtain ⟨hx, hb, hml, hown, hts, hK, hA, -⟩ := id C0
  have hl : lv_has ls 3 [(0, .ref (G.2.2.2.1)), (1, .int (lw_letters.getD j 0)), (2, .int (0))] := hl
  refine lv_aload_n hx hb dJ0_indexOf_7cf53_0 rfl (lv_at hl 0 rfl) ?_
  refine k_i hH (k_runVS (rest := []) C0 hH (cJ_J0_isLatin1_aae02 l G A h) mv_J0_isLatin1_aae02 ml_J0_492 rfl ⟨Nat.le_of_ble_eq_true rfl, Nat.le_of_ble_eq_true rfl⟩ hl.1 rfl (Nat.le_of_ble_eq_true rfl) dJ0_indexOf_7cf53_1 (by simp)) (fun r_1 h1 H locs hp hH => ?_)
  obtain ⟨er_1, eh⟩ := hp
  rw [eh] at hH
  clear eh
  subst er_1
  refine lv_if_eq (tgt := 23) hx hb dJ0_indexOf_7cf53_4 (by decide) (fun c4_2 => ?_) (fun c4_2 => ?_)
  · exact absurd c4_2 (by decide)
  · refine lv_aload_n hx hb dJ0_indexOf_7cf53_7 rfl (lv_at hl 0 rfl) ?_
    refine k_svalue C0 hH fl_J0_9 dJ0_indexOf_7cf53_8 ?_
    refine lv_iload_n hx hb dJ0_indexOf_7cf53_11 rfl (lv_at hl 1 rfl) ?_
    refine lv_iload_n hx hb dJ0_indexOf_7cf53_12 rfl (lv_at hl 2 rfl) ?_
    refine lv_aload_n hx hb dJ0_indexOf_7cf53_13 rfl (lv_at hl 0 rfl) ?_
    refine k_i hH (k_runVS (rest := [.int (0), .int (lw_letters.getD j 0), .ref (G.2.2.2.2)]) C0 hH (cJ_J0_length_8abf5 l G A h) mv_J0_length_8abf5 ml_J0_505 rfl ⟨Nat.le_of_ble_eq_true rfl, Nat.le_of_ble_eq_true rfl⟩ hl.1 rfl (Nat.le_of_ble_eq_true rfl) dJ0_indexOf_7cf53_14 (by simp)) (fun r_3 h1 H locs hp hH => ?_)
    obtain ⟨er_3, eh⟩ := hp
    rw [eh] at hH
    clear eh
    subst er_3
    refine k_i hH (k_runS (rest := []) C0 hH (cJ_J1_indexOf_4cfef l G A h j hj) mv_J1_indexOf_4cfef ml_J0_637 rfl ⟨Nat.le_of_ble_eq_true rfl, Nat.le_of_ble_eq_true rfl⟩ hl.1 rfl (Nat.le_of_ble_eq_true rfl) dJ0_indexOf_7cf53_17 (by simp)) (fun r_4 h1 H locs hp hH => ?_)
    obtain ⟨er_4, eh⟩ := hp
    rw [eh] at hH
    clear eh
    subst er_4
    refine lv_goto (tgt := 36) hx hb dJ0_indexOf_7cf53_20 (by decide) ?_
    exact e_I C0 hr hH ⟨rfl, rfl⟩ (by omega) (by omega) dJ0_indexOf_7cf53_36
set_option maxHeartbeats 4000000 in
set_option maxRecDepth 100000 in
theorem cJ_J0_indexOf_0f7a4 (l : Launch) (G : GT) (A : Nat → Prop) (h : AH) (j : Nat) (hj : j < 9) : cmI l G A yJ0_indexOf_0f7a4 cJ0_indexOf_0f7a4 2 (Option.some FieldType.int) 3 70 0 0 [.ref (G.2.2.2.1), .int (lw_letters.getD j 0)] h (fun r h' => r = nI j ∧ h' = h) := by
  refine cm_of "java/lang/String" rfl (by decide) (Nat.le_of_ble_eq_true rfl) ?_
  intro pr e s m9 below meth c C0 hr hname hH ls hl
  obtain ⟨hx, hb, hml, hown, hts, hK, hA, -⟩ := id C0
  have hl : lv_has ls 2 [(0, .ref (G.2.2.2.1)), (1, .int (lw_letters.getD j 0))] := hl
  refine lv_aload_n hx hb dJ0_indexOf_0f7a4_0 rfl (lv_at hl 0 rfl) ?_
  refine lv_iload_n hx hb dJ0_indexOf_0f7a4_1 rfl (lv_at hl 1 rfl) ?_
  refine lv_iconst (v := 0) hx hb dJ0_indexOf_0f7a4_2 (by decide) ?_
  refine k_i hH (k_runVS (rest := []) C0 hH (cJ_J0_indexOf_7cf53 l G A h j hj) mv_J0_indexOf_7cf53 ml_J0_633 rfl ⟨Nat.le_of_ble_eq_true rfl, Nat.le_of_ble_eq_true rfl⟩ hl.1 rfl (Nat.le_of_ble_eq_true rfl) dJ0_indexOf_0f7a4_3 (by simp)) (fun r_1 h1 H locs hp hH => ?_)
  obtain ⟨er_1, eh⟩ := hp
  rw [eh] at hH
  clear eh
  subst er_1
  exact e_I C0 hr hH ⟨rfl, rfl⟩ (by omega) (by omega) dJ0_indexOf_0f7a4_6
set_option maxHeartbeats 4000000 in
set_option maxRecDepth 100000 in
theorem cJ_Jx4a65c_clear_da8c8 (l : Launch) (G : GT) (A : Nat → Prop) (h : AH) (a arr n cap : Nat) (hL : LSh G.2.2.1 h a arr n cap) : cmV l G A yJx4a65c_clear_da8c8 cJx4a65c_clear_da8c8 4 0 0 0 0 [.ref (a)] h (fun h' => (aI h' 2 a = 0 ∧ aR h' 1 a = some arr ∧ aK h' a = 3 ∧ (0 < cap → aK h' arr = 31 ∧ aN h' arr = cap) ∧ SameX h h' (fun y => y = a ∨ 0 < cap ∧ y = arr))) := by
  refine cm_of "java/util/ArrayList" rfl (by decide) (Nat.le_of_ble_eq_true rfl) ?_
  intro pr e s m9 below meth c C0 hr hname hH ls hl
  obtain ⟨hx, hb, hml, hown, hts, hK, hA, -⟩ := id C0
  have hl : lv_has ls 4 [(0, .ref (a))] := hl
  obtain ⟨hk, hs, hra, hnc, hcap, h6, h7⟩ := id hL
  refine lv_aload_n hx hb dJx4a65c_clear_da8c8_0 rfl (lv_at hl 0 rfl) ?_
  refine lv_dup hx hb dJx4a65c_clear_da8c8_1 rfl ?_
  refine j_getI C0 hH hk 0 rfl "java/util/ArrayList" (Or.inr ⟨rfl, rfl⟩) fl_Jx4a65c_63 (v := aI h 0 a) rfl dJx4a65c_clear_da8c8_2 ?_
  refine lv_iconst (v := 1) hx hb dJx4a65c_clear_da8c8_5 (by decide) ?_
  refine lv_iadd hx hb dJx4a65c_clear_da8c8_6 ?_
  refine j_putI C0 hH hk 0 rfl rfl "java/util/ArrayList" (Or.inr ⟨rfl, rfl⟩) fl_Jx4a65c_63 dJx4a65c_clear_da8c8_7 (fun H locs hH => ?_)
  refine lv_aload_n hx hb dJx4a65c_clear_da8c8_10 rfl (lv_at hl 0 rfl) ?_
  refine j_getR C0 hH hk fl_Jx4a65c_9 (v := some arr) hra dJx4a65c_clear_da8c8_11 ?_
  refine lv_astore_n (lv' := [(1, .ref (arr)), (0, .ref (a))]) hx hb dJx4a65c_clear_da8c8_14 rfl hl (by decide) rfl (fun ls hl => ?_)
  refine lv_aload_n hx hb dJx4a65c_clear_da8c8_15 rfl (lv_at hl 1 rfl) ?_
  refine j_getI C0 hH hk 2 rfl "java/util/ArrayList" (Or.inl rfl) fl_Jx4a65c_48 (v := nI n) (by rw [aI_pI, if_neg (fun z => absurd z.1 (by decide))]; exact hs) dJx4a65c_clear_da8c8_16 ?_
  refine lv_istore_n (lv' := [(2, .int (nI n)), (1, .ref (arr)), (0, .ref (a))]) hx hb dJx4a65c_clear_da8c8_19 rfl hl (by decide) rfl (fun ls hl => ?_)
  refine lv_aload_n hx hb dJx4a65c_clear_da8c8_20 rfl (lv_at hl 2 rfl) ?_
  refine lv_iconst (v := 0) hx hb dJx4a65c_clear_da8c8_21 (by decide) ?_
  refine lv_dup_x1 hx hb dJx4a65c_clear_da8c8_22 rfl rfl ?_
  refine j_putI C0 hH hk 2 rfl rfl "java/util/ArrayList" (Or.inl rfl) fl_Jx4a65c_48 dJx4a65c_clear_da8c8_23 (fun H locs hH => ?_)
  refine lv_istore_n (lv' := [(3, .int (0)), (2, .int (nI n)), (1, .ref (arr)), (0, .ref (a))]) hx hb dJx4a65c_clear_da8c8_26 rfl hl (by decide) rfl (fun ls hl => ?_)
  have K : ∀ (k i : Nat) (h2 : AH) (H : Heap) (locs : List Loc), HS G.1 G.2.1 A s.heap h2 H locs → i + k = n → (aI h2 2 a = 0 ∧ aR h2 1 a = some arr ∧ aK h2 a = 3 ∧ (0 < cap → aK h2 arr = 31 ∧ aN h2 arr = cap) ∧ SameX h h2 (fun y => y = a ∨ 0 < cap ∧ y = arr)) → ∀ (ls : Array Slot), lv_has ls 4 [(3, .int (nI i)), (2, .int (nI n)), (1, .ref (arr)), (0, .ref (a))] → W pr l e (rmm 0 0 0 0) s m9 ([.ref (a)] : List Value).toArray below meth c H locs 0 0 (QV below G A (fun h' => (aI h' 2 a = 0 ∧ aR h' 1 a = some arr ∧ aK h' a = 3 ∧ (0 < cap → aK h' arr = 31 ∧ aN h' arr = cap) ∧ SameX h h' (fun y => y = a ∨ 0 < cap ∧ y = arr))) ([.ref (a)] : List Value).toArray s 0 0) (F0 m9 27 ls []) := by
    intro k
    induction k with
    | zero =>
      intro i h2 H locs hH hik hinv ls hl
      refine lv_iload_n hx hb dJx4a65c_clear_da8c8_27 rfl (lv_at hl 0 rfl) ?_
      refine lv_iload_n hx hb dJx4a65c_clear_da8c8_28 rfl (lv_at hl 1 rfl) ?_
      refine lv_icmp_ge (tgt := 42) hx hb dJx4a65c_clear_da8c8_29 (by decide) (fun c29_1 => ?_) (fun c29_1 => ?_)
      · exact e_V C0 hr hH hinv (Nat.le_refl _) (Nat.le_refl _) dJx4a65c_clear_da8c8_42
      · exact absurd (by rw [show i = n by omega]; exact Int32.le_refl _) c29_1
    | succ k ih =>
      intro i h2 H locs hH hik hinv ls hl
      refine lv_iload_n hx hb dJx4a65c_clear_da8c8_27 rfl (lv_at hl 0 rfl) ?_
      refine lv_iload_n hx hb dJx4a65c_clear_da8c8_28 rfl (lv_at hl 1 rfl) ?_
      refine lv_icmp_ge (tgt := 42) hx hb dJx4a65c_clear_da8c8_29 (by decide) (fun c29_2 => ?_) (fun c29_2 => ?_)
      · exact absurd c29_2 (nI_ge (by omega) (by omega))
      · refine lv_aload_n hx hb dJx4a65c_clear_da8c8_32 rfl (lv_at hl 2 rfl) ?_
        refine lv_iload_n hx hb dJx4a65c_clear_da8c8_33 rfl (lv_at hl 0 rfl) ?_
        refine lv_null hx hb dJx4a65c_clear_da8c8_34 ?_
        obtain ⟨i1, i2, i3, i4, i5⟩ := hinv
        obtain ⟨i6, i7⟩ := i4 (by omega)
        refine k_astN C0 hH i6 i7 (vp_in_nI (show i < cap by omega) (by omega)) dJx4a65c_clear_da8c8_35 (fun H locs hH => ?_)
        rw [nI_clamp (show i < 2 ^ 31 by omega)] at hH
        refine lv_iinc (v := nI (i + 1)) (lv' := [(3, .int (nI (i + 1))), (2, .int (nI n)), (1, .ref (arr)), (0, .ref (a))]) hx hb dJx4a65c_clear_da8c8_36 hl (k := 0) rfl (by rw [← nI_1]; rfl) (by decide) rfl (fun ls hl => ?_)
        refine lv_goto (tgt := 27) hx hb dJx4a65c_clear_da8c8_39 (by decide) ?_
        exact ih (i + 1) _ _ _ hH (by omega) (⟨i1, by rw [aR_pR, if_neg (fun z => (fun e => by rw [← e, i3] at i6; omega : ¬ a = arr) z.2)]; exact i2, i3, i4, (i5.trans (SameX.pR h2 i arr none)).mono (fun y hy => hy.elim id (fun z => Or.inr ⟨by omega, z⟩))⟩) ls (lv_sub hl [0, 1, 2, 3] rfl)
  exact K (n) 0 _ _ _ hH (by omega) (⟨by rw [aI_pI, if_pos ⟨rfl, rfl⟩], hra, hk, fun z => ⟨(h7 z).1, (h7 z).2.1⟩, ((SameX.pI h 0 a (aI h 0 a + 1)).trans (SameX.pI _ 2 a 0)).mono (fun y hy => hy.elim Or.inl Or.inl)⟩) ls (lv_sub hl [0, 1, 2, 3] rfl)
