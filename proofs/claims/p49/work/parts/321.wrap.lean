/-! the wrappers -/
theorem kf_L_92 : Cond.constantFloat "RoutepostLaw" 92 (3378231824 : UInt32) ∈ lw_all := lw_in6 217 (by decide +kernel) (by decide +kernel)
theorem kd_L_97 : Cond.constantDouble "RoutepostLaw" 97 (13919350198670196736 : UInt64) ∈ lw_all := lw_in6 218 (by decide +kernel) (by decide +kernel)
theorem lW_openHub {l : Launch} {Sc : SCR} {G : GT} {A : Nat → Prop} {h : AH} {O : Nat → Bool} {r9 fr lo mc ms : Nat} {P : Int32 → AH → Prop} {xp : String → AH → Prop} (x0 x1 : Int32) (hO : ∀ q, O q = true → aK h q ≠ 0) (hk : aK h r9 = 14) (cX : cxI l G (aO A O) yX10_openHub cX10_openHub 4 (Option.some FieldType.int) fr lo mc ms (.ref r9 :: [.int x0, .int x1]) (rO O h) P xp) (hin : ∀ E h', xp E h' → ∃ v, (E, v) ∈ ([(iaeC, (-900001)), (iseC, (-900002))] : List (String × Int32))) :
    lhI l Sc G A yL_openHub cL_openHub 4 (Option.some FieldType.int) [(0, 6, 7, 15), (0, 6, 11, 18)] (fr + 1) (8 + (4 + 11) + lo) mc ms [.ref r9, .int x0, .int x1] h (fun r h' => ∃ h1, (P r h1 ∨ ∃ E, xp E h1 ∧ r = kdL E [(iaeC, (-900001)), (iseC, (-900002))]) ∧ h' = jO O h1 h ∧ ∀ q, aK h1 q ≠ 0 → O q = false) := by
  refine lh_core (idx := 9) (pci := 3) (As := [.int x0, .int x1]) ms_L_openHub mv_X10_openHub ml_L_9 rfl (Nat.le_of_ble_eq_true rfl) dL_openHub_3 dL_openHub_6 ⟨⟨by decide, by decide, cl_L_15, ca_58, 3, 1, 17, by decide, Or.inl ⟨3, rfl, dL_openHub_7, rfl⟩, kl_L_17, dL_openHub_8, dL_openHub_10⟩, by decide +kernel, ⟨by decide, by decide, cl_L_18, ca_155, 3, 1, 20, by decide, Or.inl ⟨3, rfl, dL_openHub_11, rfl⟩, kl_L_20, dL_openHub_12, dL_openHub_14⟩, by decide +kernel, True.intro⟩ ?_ hO hk cX hin
  intro p e R s m args below meth c9 H locs cells slots Q ls hx hb hl k
  refine lv_aload_n hx hb dL_openHub_0 rfl (lv_at hl 0 rfl) ?_
  refine lv_iload_n hx hb dL_openHub_1 rfl (lv_at hl 1 rfl) ?_
  refine lv_iload_n hx hb dL_openHub_2 rfl (lv_at hl 2 rfl) ?_
  exact k
theorem lW_addLine {l : Launch} {Sc : SCR} {G : GT} {A : Nat → Prop} {h : AH} {O : Nat → Bool} {r9 fr lo mc ms : Nat} {P : Int32 → AH → Prop} {xp : String → AH → Prop} (x0 x1 x2 x3 x4 x5 : Int32) (hO : ∀ q, O q = true → aK h q ≠ 0) (hk : aK h r9 = 14) (cX : cxI l G (aO A O) yX10_addLine cX10_addLine 10 (Option.some FieldType.int) fr lo mc ms (.ref r9 :: [.int x0, .int x1, .int x2, .int x3, .int x4, .int x5]) (rO O h) P xp) (hin : ∀ E h', xp E h' → ∃ v, (E, v) ∈ ([(nseC, (-900001)), (iaeC, (-900002)), (iseC, (-900003))] : List (String × Int32))) :
    lhI l Sc G A yL_addLine cL_addLine 8 (Option.some FieldType.int) [(0, 13, 14, 25), (0, 13, 19, 15), (0, 13, 24, 18)] (fr + 1) (8 + (10 + 11) + lo) mc ms [.ref r9, .int x0, .int x1, .int x2, .int x3, .int x4, .int x5] h (fun r h' => ∃ h1, (P r h1 ∨ ∃ E, xp E h1 ∧ r = kdL E [(nseC, (-900001)), (iaeC, (-900002)), (iseC, (-900003))]) ∧ h' = jO O h1 h ∧ ∀ q, aK h1 q ≠ 0 → O q = false) := by
  refine lh_core (idx := 21) (pci := 10) (As := [.int x0, .int x1, .int x2, .int x3, .int x4, .int x5]) ms_L_addLine mv_X10_addLine ml_L_21 rfl (Nat.le_of_ble_eq_true rfl) dL_addLine_10 dL_addLine_13 ⟨⟨by decide, by decide, cl_L_25, ca_276, 7, 2, 17, by decide, Or.inr ⟨dL_addLine_14, rfl⟩, kl_L_17, dL_addLine_16, dL_addLine_18⟩, by decide +kernel, ⟨by decide, by decide, cl_L_15, ca_58, 7, 2, 20, by decide, Or.inr ⟨dL_addLine_19, rfl⟩, kl_L_20, dL_addLine_21, dL_addLine_23⟩, by decide +kernel, ⟨by decide, by decide, cl_L_18, ca_155, 7, 2, 27, by decide, Or.inr ⟨dL_addLine_24, rfl⟩, kl_L_27, dL_addLine_26, dL_addLine_28⟩, by decide +kernel, True.intro⟩ ?_ hO hk cX hin
  intro p e R s m args below meth c9 H locs cells slots Q ls hx hb hl k
  refine lv_aload_n hx hb dL_addLine_0 rfl (lv_at hl 0 rfl) ?_
  refine lv_iload_n hx hb dL_addLine_1 rfl (lv_at hl 1 rfl) ?_
  refine lv_iload_n hx hb dL_addLine_2 rfl (lv_at hl 2 rfl) ?_
  refine lv_iload_n hx hb dL_addLine_3 rfl (lv_at hl 3 rfl) ?_
  refine lv_iload hx hb dL_addLine_4 (lv_at hl 4 rfl) ?_
  refine lv_iload hx hb dL_addLine_6 (lv_at hl 5 rfl) ?_
  refine lv_iload hx hb dL_addLine_8 (lv_at hl 6 rfl) ?_
  exact k
theorem lW_closeLine {l : Launch} {Sc : SCR} {G : GT} {A : Nat → Prop} {h : AH} {O : Nat → Bool} {r9 fr lo mc ms : Nat} {P : Int32 → AH → Prop} {xp : String → AH → Prop} (x0 : Int32) (hO : ∀ q, O q = true → aK h q ≠ 0) (hk : aK h r9 = 14) (cX : cxI l G (aO A O) yX10_closeLine cX10_closeLine 4 (Option.some FieldType.int) fr lo mc ms (.ref r9 :: [.int x0]) (rO O h) P xp) (hin : ∀ E h', xp E h' → ∃ v, (E, v) ∈ ([(nseC, (-900001)), (iseC, (-900002))] : List (String × Int32))) :
    lhI l Sc G A yL_closeLine cL_closeLine 3 (Option.some FieldType.int) [(0, 5, 6, 25), (0, 5, 10, 18)] (fr + 1) (8 + (4 + 11) + lo) mc ms [.ref r9, .int x0] h (fun r h' => ∃ h1, (P r h1 ∨ ∃ E, xp E h1 ∧ r = kdL E [(nseC, (-900001)), (iseC, (-900002))]) ∧ h' = jO O h1 h ∧ ∀ q, aK h1 q ≠ 0 → O q = false) := by
  refine lh_core (idx := 28) (pci := 2) (As := [.int x0]) ms_L_closeLine mv_X10_closeLine ml_L_28 rfl (Nat.le_of_ble_eq_true rfl) dL_closeLine_2 dL_closeLine_5 ⟨⟨by decide, by decide, cl_L_25, ca_276, 2, 1, 17, by decide, Or.inl ⟨2, rfl, dL_closeLine_6, rfl⟩, kl_L_17, dL_closeLine_7, dL_closeLine_9⟩, by decide +kernel, ⟨by decide, by decide, cl_L_18, ca_155, 2, 1, 20, by decide, Or.inl ⟨2, rfl, dL_closeLine_10, rfl⟩, kl_L_20, dL_closeLine_11, dL_closeLine_13⟩, by decide +kernel, True.intro⟩ ?_ hO hk cX hin
  intro p e R s m args below meth c9 H locs cells slots Q ls hx hb hl k
  refine lv_aload_n hx hb dL_closeLine_0 rfl (lv_at hl 0 rfl) ?_
  refine lv_iload_n hx hb dL_closeLine_1 rfl (lv_at hl 1 rfl) ?_
  exact k
theorem lW_accept {l : Launch} {Sc : SCR} {G : GT} {A : Nat → Prop} {h : AH} {O : Nat → Bool} {r9 fr lo mc ms : Nat} {P : Int32 → AH → Prop} {xp : String → AH → Prop} (x0 x1 x2 x3 : Int32) (hO : ∀ q, O q = true → aK h q ≠ 0) (hk : aK h r9 = 14) (cX : cxI l G (aO A O) yX10_accept cX10_accept 8 (Option.some FieldType.int) fr lo mc ms (.ref r9 :: [.int x0, .int x1, .int x2, .int x3]) (rO O h) P xp) (hin : ∀ E h', xp E h' → ∃ v, (E, v) ∈ ([(nseC, (-900001)), (iaeC, (-900002)), (iseC, (-900003))] : List (String × Int32))) :
    lhI l Sc G A yL_accept cL_accept 6 (Option.some FieldType.int) [(0, 9, 10, 25), (0, 9, 15, 15), (0, 9, 20, 18)] (fr + 1) (8 + (8 + 11) + lo) mc ms [.ref r9, .int x0, .int x1, .int x2, .int x3] h (fun r h' => ∃ h1, (P r h1 ∨ ∃ E, xp E h1 ∧ r = kdL E [(nseC, (-900001)), (iaeC, (-900002)), (iseC, (-900003))]) ∧ h' = jO O h1 h ∧ ∀ q, aK h1 q ≠ 0 → O q = false) := by
  refine lh_core (idx := 32) (pci := 6) (As := [.int x0, .int x1, .int x2, .int x3]) ms_L_accept mv_X10_accept ml_L_32 rfl (Nat.le_of_ble_eq_true rfl) dL_accept_6 dL_accept_9 ⟨⟨by decide, by decide, cl_L_25, ca_276, 5, 2, 17, by decide, Or.inr ⟨dL_accept_10, rfl⟩, kl_L_17, dL_accept_12, dL_accept_14⟩, by decide +kernel, ⟨by decide, by decide, cl_L_15, ca_58, 5, 2, 20, by decide, Or.inr ⟨dL_accept_15, rfl⟩, kl_L_20, dL_accept_17, dL_accept_19⟩, by decide +kernel, ⟨by decide, by decide, cl_L_18, ca_155, 5, 2, 27, by decide, Or.inr ⟨dL_accept_20, rfl⟩, kl_L_27, dL_accept_22, dL_accept_24⟩, by decide +kernel, True.intro⟩ ?_ hO hk cX hin
  intro p e R s m args below meth c9 H locs cells slots Q ls hx hb hl k
  refine lv_aload_n hx hb dL_accept_0 rfl (lv_at hl 0 rfl) ?_
  refine lv_iload_n hx hb dL_accept_1 rfl (lv_at hl 1 rfl) ?_
  refine lv_iload_n hx hb dL_accept_2 rfl (lv_at hl 2 rfl) ?_
  refine lv_iload_n hx hb dL_accept_3 rfl (lv_at hl 3 rfl) ?_
  refine lv_iload hx hb dL_accept_4 (lv_at hl 4 rfl) ?_
  exact k
theorem lW_scan {l : Launch} {Sc : SCR} {G : GT} {A : Nat → Prop} {h : AH} {O : Nat → Bool} {r9 fr lo mc ms : Nat} {P : Int32 → AH → Prop} {xp : String → AH → Prop} (x0 x1 : Int32) (hO : ∀ q, O q = true → aK h q ≠ 0) (hk : aK h r9 = 14) (cX : cxI l G (aO A O) yX10_scan cX10_scan 5 (Option.some FieldType.char) fr lo mc ms (.ref r9 :: [.int x0, .int x1]) (rO O h) P xp) (hin : ∀ E h', xp E h' → ∃ v, (E, v) ∈ ([(nseC, (-900001)), (iseC, (-900002))] : List (String × Int32))) :
    lhI l Sc G A yL_scan cL_scan 4 (Option.some FieldType.int) [(0, 6, 7, 25), (0, 6, 11, 18)] (fr + 1) (8 + (5 + 11) + lo) mc ms [.ref r9, .int x0, .int x1] h (fun r h' => ∃ h1, (P r h1 ∨ ∃ E, xp E h1 ∧ r = kdL E [(nseC, (-900001)), (iseC, (-900002))]) ∧ h' = jO O h1 h ∧ ∀ q, aK h1 q ≠ 0 → O q = false) := by
  refine lh_core (idx := 36) (pci := 3) (As := [.int x0, .int x1]) ms_L_scan mv_X10_scan ml_L_36 rfl (Nat.le_of_ble_eq_true rfl) dL_scan_3 dL_scan_6 ⟨⟨by decide, by decide, cl_L_25, ca_276, 3, 1, 17, by decide, Or.inl ⟨3, rfl, dL_scan_7, rfl⟩, kl_L_17, dL_scan_8, dL_scan_10⟩, by decide +kernel, ⟨by decide, by decide, cl_L_18, ca_155, 3, 1, 20, by decide, Or.inl ⟨3, rfl, dL_scan_11, rfl⟩, kl_L_20, dL_scan_12, dL_scan_14⟩, by decide +kernel, True.intro⟩ ?_ hO hk cX hin
  intro p e R s m args below meth c9 H locs cells slots Q ls hx hb hl k
  refine lv_aload_n hx hb dL_scan_0 rfl (lv_at hl 0 rfl) ?_
  refine lv_iload_n hx hb dL_scan_1 rfl (lv_at hl 1 rfl) ?_
  refine lv_iload_n hx hb dL_scan_2 rfl (lv_at hl 2 rfl) ?_
  exact k
theorem lW_deliver {l : Launch} {Sc : SCR} {G : GT} {A : Nat → Prop} {h : AH} {O : Nat → Bool} {r9 fr lo mc ms : Nat} {P : Int32 → AH → Prop} {xp : String → AH → Prop} (x0 x1 : Int32) (hO : ∀ q, O q = true → aK h q ≠ 0) (hk : aK h r9 = 14) (cX : cxI l G (aO A O) yX10_deliver cX10_deliver 4 (Option.some FieldType.char) fr lo mc ms (.ref r9 :: [.int x0, .int x1]) (rO O h) P xp) (hin : ∀ E h', xp E h' → ∃ v, (E, v) ∈ ([(nseC, (-900001)), (iseC, (-900002))] : List (String × Int32))) :
    lhI l Sc G A yL_deliver cL_deliver 4 (Option.some FieldType.int) [(0, 6, 7, 25), (0, 6, 11, 18)] (fr + 1) (8 + (4 + 11) + lo) mc ms [.ref r9, .int x0, .int x1] h (fun r h' => ∃ h1, (P r h1 ∨ ∃ E, xp E h1 ∧ r = kdL E [(nseC, (-900001)), (iseC, (-900002))]) ∧ h' = jO O h1 h ∧ ∀ q, aK h1 q ≠ 0 → O q = false) := by
  refine lh_core (idx := 40) (pci := 3) (As := [.int x0, .int x1]) ms_L_deliver mv_X10_deliver ml_L_40 rfl (Nat.le_of_ble_eq_true rfl) dL_deliver_3 dL_deliver_6 ⟨⟨by decide, by decide, cl_L_25, ca_276, 3, 1, 17, by decide, Or.inl ⟨3, rfl, dL_deliver_7, rfl⟩, kl_L_17, dL_deliver_8, dL_deliver_10⟩, by decide +kernel, ⟨by decide, by decide, cl_L_18, ca_155, 3, 1, 20, by decide, Or.inl ⟨3, rfl, dL_deliver_11, rfl⟩, kl_L_20, dL_deliver_12, dL_deliver_14⟩, by decide +kernel, True.intro⟩ ?_ hO hk cX hin
  intro p e R s m args below meth c9 H locs cells slots Q ls hx hb hl k
  refine lv_aload_n hx hb dL_deliver_0 rfl (lv_at hl 0 rfl) ?_
  refine lv_iload_n hx hb dL_deliver_1 rfl (lv_at hl 1 rfl) ?_
  refine lv_iload_n hx hb dL_deliver_2 rfl (lv_at hl 2 rfl) ?_
  exact k
theorem lW_pass {l : Launch} {Sc : SCR} {G : GT} {A : Nat → Prop} {h : AH} {O : Nat → Bool} {r9 fr lo mc ms : Nat} {P : Int32 → AH → Prop} {xp : String → AH → Prop} (x0 : Int32) (hO : ∀ q, O q = true → aK h q ≠ 0) (hk : aK h r9 = 14) (cX : cxI l G (aO A O) yX10_pass cX10_pass 4 (Option.some FieldType.int) fr lo mc ms (.ref r9 :: [.int x0]) (rO O h) P xp) (hin : ∀ E h', xp E h' → ∃ v, (E, v) ∈ ([(iaeC, (-900001))] : List (String × Int32))) :
    lhI l Sc G A yL_pass cL_pass 3 (Option.some FieldType.int) [(0, 5, 6, 15)] (fr + 1) (8 + (4 + 11) + lo) mc ms [.ref r9, .int x0] h (fun r h' => ∃ h1, (P r h1 ∨ ∃ E, xp E h1 ∧ r = kdL E [(iaeC, (-900001))]) ∧ h' = jO O h1 h ∧ ∀ q, aK h1 q ≠ 0 → O q = false) := by
  refine lh_core (idx := 47) (pci := 2) (As := [.int x0]) ms_L_pass mv_X10_pass ml_L_47 rfl (Nat.le_of_ble_eq_true rfl) dL_pass_2 dL_pass_5 ⟨⟨by decide, by decide, cl_L_15, ca_58, 2, 1, 17, by decide, Or.inl ⟨2, rfl, dL_pass_6, rfl⟩, kl_L_17, dL_pass_7, dL_pass_9⟩, by decide +kernel, True.intro⟩ ?_ hO hk cX hin
  intro p e R s m args below meth c9 H locs cells slots Q ls hx hb hl k
  refine lv_aload_n hx hb dL_pass_0 rfl (lv_at hl 0 rfl) ?_
  refine lv_iload_n hx hb dL_pass_1 rfl (lv_at hl 1 rfl) ?_
  exact k
theorem lW_hubOf {l : Launch} {Sc : SCR} {G : GT} {A : Nat → Prop} {h : AH} {O : Nat → Bool} {r9 fr lo mc ms : Nat} {P : Int32 → AH → Prop} {xp : String → AH → Prop} (x0 : Int32) (hO : ∀ q, O q = true → aK h q ≠ 0) (hk : aK h r9 = 14) (cX : cxI l G (aO A O) yX10_hubOf cX10_hubOf 2 (Option.some FieldType.int) fr lo mc ms (.ref r9 :: [.int x0]) (rO O h) P xp) (hin : ∀ E h', xp E h' → ∃ v, (E, v) ∈ ([(iaeC, (-900001))] : List (String × Int32))) :
    lhI l Sc G A yL_hubOf cL_hubOf 3 (Option.some FieldType.int) [(0, 5, 6, 15)] (fr + 1) (8 + (2 + 11) + lo) mc ms [.ref r9, .int x0] h (fun r h' => ∃ h1, (P r h1 ∨ ∃ E, xp E h1 ∧ r = kdL E [(iaeC, (-900001))]) ∧ h' = jO O h1 h ∧ ∀ q, aK h1 q ≠ 0 → O q = false) := by
  refine lh_core (idx := 50) (pci := 2) (As := [.int x0]) ms_L_hubOf mv_X10_hubOf ml_L_50 rfl (Nat.le_of_ble_eq_true rfl) dL_hubOf_2 dL_hubOf_5 ⟨⟨by decide, by decide, cl_L_15, ca_58, 2, 1, 17, by decide, Or.inl ⟨2, rfl, dL_hubOf_6, rfl⟩, kl_L_17, dL_hubOf_7, dL_hubOf_9⟩, by decide +kernel, True.intro⟩ ?_ hO hk cX hin
  intro p e R s m args below meth c9 H locs cells slots Q ls hx hb hl k
  refine lv_aload_n hx hb dL_hubOf_0 rfl (lv_at hl 0 rfl) ?_
  refine lv_iload_n hx hb dL_hubOf_1 rfl (lv_at hl 1 rfl) ?_
  exact k
theorem lW_state {l : Launch} {Sc : SCR} {G : GT} {A : Nat → Prop} {h : AH} {O : Nat → Bool} {r9 fr lo mc ms : Nat} {P : Int32 → AH → Prop} {xp : String → AH → Prop} (x0 : Int32) (hO : ∀ q, O q = true → aK h q ≠ 0) (hk : aK h r9 = 14) (cX : cxI l G (aO A O) yX10_state cX10_state 2 (Option.some FieldType.char) fr lo mc ms (.ref r9 :: [.int x0]) (rO O h) P xp) (hin : ∀ E h', xp E h' → ∃ v, (E, v) ∈ ([(nseC, (-900001))] : List (String × Int32))) :
    lhI l Sc G A yL_state cL_state 3 (Option.some FieldType.int) [(0, 5, 6, 25)] (fr + 1) (8 + (2 + 11) + lo) mc ms [.ref r9, .int x0] h (fun r h' => ∃ h1, (P r h1 ∨ ∃ E, xp E h1 ∧ r = kdL E [(nseC, (-900001))]) ∧ h' = jO O h1 h ∧ ∀ q, aK h1 q ≠ 0 → O q = false) := by
  refine lh_core (idx := 59) (pci := 2) (As := [.int x0]) ms_L_state mv_X10_state ml_L_59 rfl (Nat.le_of_ble_eq_true rfl) dL_state_2 dL_state_5 ⟨⟨by decide, by decide, cl_L_25, ca_276, 2, 1, 17, by decide, Or.inl ⟨2, rfl, dL_state_6, rfl⟩, kl_L_17, dL_state_7, dL_state_9⟩, by decide +kernel, True.intro⟩ ?_ hO hk cX hin
  intro p e R s m args below meth c9 H locs cells slots Q ls hx hb hl k
  refine lv_aload_n hx hb dL_state_0 rfl (lv_at hl 0 rfl) ?_
  refine lv_iload_n hx hb dL_state_1 rfl (lv_at hl 1 rfl) ?_
  exact k
theorem lW_hubByTrying {l : Launch} {Sc : SCR} {G : GT} {A : Nat → Prop} {h : AH} {O : Nat → Bool} {r9 fr lo mc ms : Nat} {P : Int32 → AH → Prop} {xp : String → AH → Prop} (x0 : Int32) (hO : ∀ q, O q = true → aK h q ≠ 0) (hk : aK h r9 = 14) (cX : cxI l G (aO A O) yX10_hubByTrying cX10_hubByTrying 5 (Option.some FieldType.int) fr lo mc ms (.ref r9 :: [.int x0]) (rO O h) P xp) (hin : ∀ E h', xp E h' → ∃ v, (E, v) ∈ ([(iaeC, (-900001))] : List (String × Int32))) :
    lhI l Sc G A yL_hubByTrying cL_hubByTrying 3 (Option.some FieldType.int) [(0, 5, 6, 15)] (fr + 1) (8 + (5 + 11) + lo) mc ms [.ref r9, .int x0] h (fun r h' => ∃ h1, (P r h1 ∨ ∃ E, xp E h1 ∧ r = kdL E [(iaeC, (-900001))]) ∧ h' = jO O h1 h ∧ ∀ q, aK h1 q ≠ 0 → O q = false) := by
  refine lh_core (idx := 53) (pci := 2) (As := [.int x0]) ms_L_hubByTrying mv_X10_hubByTrying ml_L_53 rfl (Nat.le_of_ble_eq_true rfl) dL_hubByTrying_2 dL_hubByTrying_5 ⟨⟨by decide, by decide, cl_L_15, ca_58, 2, 1, 17, by decide, Or.inl ⟨2, rfl, dL_hubByTrying_6, rfl⟩, kl_L_17, dL_hubByTrying_7, dL_hubByTrying_9⟩, by decide +kernel, True.intro⟩ ?_ hO hk cX hin
  intro p e R s m args below meth c9 H locs cells slots Q ls hx hb hl k
  refine lv_aload_n hx hb dL_hubByTrying_0 rfl (lv_at hl 0 rfl) ?_
  refine lv_iload_n hx hb dL_hubByTrying_1 rfl (lv_at hl 1 rfl) ?_
  exact k
theorem lW_arrival {l : Launch} {Sc : SCR} {G : GT} {A : Nat → Prop} {h : AH} {O : Nat → Bool} {r9 fr lo mc ms : Nat} {P : Int32 → AH → Prop} {xp : String → AH → Prop} (x0 : Int32) (hO : ∀ q, O q = true → aK h q ≠ 0) (hk : aK h r9 = 14) (cX : cxI l G (aO A O) yX10_arrival cX10_arrival 3 (Option.some FieldType.int) fr lo mc ms (.ref r9 :: [.int x0]) (rO O h) P xp) (hin : ∀ E h', xp E h' → ∃ v, (E, v) ∈ ([(nseC, (-900001)), (iseC, (-900002))] : List (String × Int32))) :
    lhI l Sc G A yL_arrival cL_arrival 3 (Option.some FieldType.int) [(0, 5, 6, 25), (0, 5, 10, 18)] (fr + 1) (8 + (3 + 11) + lo) mc ms [.ref r9, .int x0] h (fun r h' => ∃ h1, (P r h1 ∨ ∃ E, xp E h1 ∧ r = kdL E [(nseC, (-900001)), (iseC, (-900002))]) ∧ h' = jO O h1 h ∧ ∀ q, aK h1 q ≠ 0 → O q = false) := by
  refine lh_core (idx := 75) (pci := 2) (As := [.int x0]) ms_L_arrival mv_X10_arrival ml_L_75 rfl (Nat.le_of_ble_eq_true rfl) dL_arrival_2 dL_arrival_5 ⟨⟨by decide, by decide, cl_L_25, ca_276, 2, 1, 17, by decide, Or.inl ⟨2, rfl, dL_arrival_6, rfl⟩, kl_L_17, dL_arrival_7, dL_arrival_9⟩, by decide +kernel, ⟨by decide, by decide, cl_L_18, ca_155, 2, 1, 20, by decide, Or.inl ⟨2, rfl, dL_arrival_10, rfl⟩, kl_L_20, dL_arrival_11, dL_arrival_13⟩, by decide +kernel, True.intro⟩ ?_ hO hk cX hin
  intro p e R s m args below meth c9 H locs cells slots Q ls hx hb hl k
  refine lv_aload_n hx hb dL_arrival_0 rfl (lv_at hl 0 rfl) ?_
  refine lv_iload_n hx hb dL_arrival_1 rfl (lv_at hl 1 rfl) ?_
  exact k
theorem lW_at {l : Launch} {Sc : SCR} {G : GT} {A : Nat → Prop} {h : AH} {O : Nat → Bool} {r9 fr lo mc ms : Nat} {P : Int32 → AH → Prop} {xp : String → AH → Prop} (x0 : Int32) (hO : ∀ q, O q = true → aK h q ≠ 0) (hk : aK h r9 = 14) (cX : cxI l G (aO A O) yX10_at cX10_at 3 (Option.some FieldType.int) fr lo mc ms (.ref r9 :: [.int x0]) (rO O h) P xp) (hin : ∀ E h', xp E h' → ∃ v, (E, v) ∈ ([(nseC, (-900001)), (iseC, (-900002))] : List (String × Int32))) :
    lhI l Sc G A yL_at cL_at 3 (Option.some FieldType.int) [(0, 5, 6, 25), (0, 5, 10, 18)] (fr + 1) (8 + (3 + 11) + lo) mc ms [.ref r9, .int x0] h (fun r h' => ∃ h1, (P r h1 ∨ ∃ E, xp E h1 ∧ r = kdL E [(nseC, (-900001)), (iseC, (-900002))]) ∧ h' = jO O h1 h ∧ ∀ q, aK h1 q ≠ 0 → O q = false) := by
  refine lh_core (idx := 63) (pci := 2) (As := [.int x0]) ms_L_at mv_X10_at ml_L_63 rfl (Nat.le_of_ble_eq_true rfl) dL_at_2 dL_at_5 ⟨⟨by decide, by decide, cl_L_25, ca_276, 2, 1, 17, by decide, Or.inl ⟨2, rfl, dL_at_6, rfl⟩, kl_L_17, dL_at_7, dL_at_9⟩, by decide +kernel, ⟨by decide, by decide, cl_L_18, ca_155, 2, 1, 20, by decide, Or.inl ⟨2, rfl, dL_at_10, rfl⟩, kl_L_20, dL_at_11, dL_at_13⟩, by decide +kernel, True.intro⟩ ?_ hO hk cX hin
  intro p e R s m args below meth c9 H locs cells slots Q ls hx hb hl k
  refine lv_aload_n hx hb dL_at_0 rfl (lv_at hl 0 rfl) ?_
  refine lv_iload_n hx hb dL_at_1 rfl (lv_at hl 1 rfl) ?_
  exact k
theorem lW_rides {l : Launch} {Sc : SCR} {G : GT} {A : Nat → Prop} {h : AH} {O : Nat → Bool} {r9 fr lo mc ms : Nat} {P : Int32 → AH → Prop} {xp : String → AH → Prop} (x0 : Int32) (hO : ∀ q, O q = true → aK h q ≠ 0) (hk : aK h r9 = 14) (cX : cxI l G (aO A O) yX10_rides cX10_rides 4 (Option.some FieldType.int) fr lo mc ms (.ref r9 :: [.int x0]) (rO O h) P xp) (hin : ∀ E h', xp E h' → ∃ v, (E, v) ∈ ([(nseC, (-900001)), (iseC, (-900002))] : List (String × Int32))) :
    lhI l Sc G A yL_rides cL_rides 3 (Option.some FieldType.int) [(0, 5, 6, 25), (0, 5, 10, 18)] (fr + 1) (8 + (4 + 11) + lo) mc ms [.ref r9, .int x0] h (fun r h' => ∃ h1, (P r h1 ∨ ∃ E, xp E h1 ∧ r = kdL E [(nseC, (-900001)), (iseC, (-900002))]) ∧ h' = jO O h1 h ∧ ∀ q, aK h1 q ≠ 0 → O q = false) := by
  refine lh_core (idx := 66) (pci := 2) (As := [.int x0]) ms_L_rides mv_X10_rides ml_L_66 rfl (Nat.le_of_ble_eq_true rfl) dL_rides_2 dL_rides_5 ⟨⟨by decide, by decide, cl_L_25, ca_276, 2, 1, 17, by decide, Or.inl ⟨2, rfl, dL_rides_6, rfl⟩, kl_L_17, dL_rides_7, dL_rides_9⟩, by decide +kernel, ⟨by decide, by decide, cl_L_18, ca_155, 2, 1, 20, by decide, Or.inl ⟨2, rfl, dL_rides_10, rfl⟩, kl_L_20, dL_rides_11, dL_rides_13⟩, by decide +kernel, True.intro⟩ ?_ hO hk cX hin
  intro p e R s m args below meth c9 H locs cells slots Q ls hx hb hl k
  refine lv_aload_n hx hb dL_rides_0 rfl (lv_at hl 0 rfl) ?_
  refine lv_iload_n hx hb dL_rides_1 rfl (lv_at hl 1 rfl) ?_
  exact k
theorem lW_recall {l : Launch} {Sc : SCR} {G : GT} {A : Nat → Prop} {h : AH} {O : Nat → Bool} {r9 fr lo mc ms : Nat} {P : Int32 → AH → Prop} {xp : String → AH → Prop} (x0 : Int32) (hO : ∀ q, O q = true → aK h q ≠ 0) (hk : aK h r9 = 14) (cX : cxI l G (aO A O) yX10_recall cX10_recall 3 (Option.some FieldType.int) fr lo mc ms (.ref r9 :: [.int x0]) (rO O h) P xp) (hin : ∀ E h', xp E h' → ∃ v, (E, v) ∈ ([(nseC, (-900001)), (iseC, (-900002))] : List (String × Int32))) :
    lhI l Sc G A yL_recall cL_recall 3 (Option.some FieldType.int) [(0, 5, 6, 25), (0, 5, 10, 18)] (fr + 1) (8 + (3 + 11) + lo) mc ms [.ref r9, .int x0] h (fun r h' => ∃ h1, (P r h1 ∨ ∃ E, xp E h1 ∧ r = kdL E [(nseC, (-900001)), (iseC, (-900002))]) ∧ h' = jO O h1 h ∧ ∀ q, aK h1 q ≠ 0 → O q = false) := by
  refine lh_core (idx := 44) (pci := 2) (As := [.int x0]) ms_L_recall mv_X10_recall ml_L_44 rfl (Nat.le_of_ble_eq_true rfl) dL_recall_2 dL_recall_5 ⟨⟨by decide, by decide, cl_L_25, ca_276, 2, 1, 17, by decide, Or.inl ⟨2, rfl, dL_recall_6, rfl⟩, kl_L_17, dL_recall_7, dL_recall_9⟩, by decide +kernel, ⟨by decide, by decide, cl_L_18, ca_155, 2, 1, 20, by decide, Or.inl ⟨2, rfl, dL_recall_10, rfl⟩, kl_L_20, dL_recall_11, dL_recall_13⟩, by decide +kernel, True.intro⟩ ?_ hO hk cX hin
  intro p e R s m args below meth c9 H locs cells slots Q ls hx hb hl k
  refine lv_aload_n hx hb dL_recall_0 rfl (lv_at hl 0 rfl) ?_
  refine lv_iload_n hx hb dL_recall_1 rfl (lv_at hl 1 rfl) ?_
  exact k
theorem lW_nextDeparture {l : Launch} {Sc : SCR} {G : GT} {A : Nat → Prop} {h : AH} {O : Nat → Bool} {r9 fr lo mc ms : Nat} {P : Int32 → AH → Prop} {xp : String → AH → Prop} (x0 : Int32) (hO : ∀ q, O q = true → aK h q ≠ 0) (hk : aK h r9 = 14) (cX : cxI l G (aO A O) yX10_nextDeparture cX10_nextDeparture 2 (Option.some FieldType.int) fr lo mc ms (.ref r9 :: [.int x0]) (rO O h) P xp) (hin : ∀ E h', xp E h' → ∃ v, (E, v) ∈ ([(nseC, (-900001)), (iseC, (-900002))] : List (String × Int32))) :
    lhI l Sc G A yL_nextDeparture cL_nextDeparture 3 (Option.some FieldType.int) [(0, 5, 6, 25), (0, 5, 10, 18)] (fr + 1) (8 + (2 + 11) + lo) mc ms [.ref r9, .int x0] h (fun r h' => ∃ h1, (P r h1 ∨ ∃ E, xp E h1 ∧ r = kdL E [(nseC, (-900001)), (iseC, (-900002))]) ∧ h' = jO O h1 h ∧ ∀ q, aK h1 q ≠ 0 → O q = false) := by
  refine lh_core (idx := 56) (pci := 2) (As := [.int x0]) ms_L_nextDeparture mv_X10_nextDeparture ml_L_56 rfl (Nat.le_of_ble_eq_true rfl) dL_nextDeparture_2 dL_nextDeparture_5 ⟨⟨by decide, by decide, cl_L_25, ca_276, 2, 1, 17, by decide, Or.inl ⟨2, rfl, dL_nextDeparture_6, rfl⟩, kl_L_17, dL_nextDeparture_7, dL_nextDeparture_9⟩, by decide +kernel, ⟨by decide, by decide, cl_L_18, ca_155, 2, 1, 20, by decide, Or.inl ⟨2, rfl, dL_nextDeparture_10, rfl⟩, kl_L_20, dL_nextDeparture_11, dL_nextDeparture_13⟩, by decide +kernel, True.intro⟩ ?_ hO hk cX hin
  intro p e R s m args below meth c9 H locs cells slots Q ls hx hb hl k
  refine lv_aload_n hx hb dL_nextDeparture_0 rfl (lv_at hl 0 rfl) ?_
  refine lv_iload_n hx hb dL_nextDeparture_1 rfl (lv_at hl 1 rfl) ?_
  exact k
theorem lW_nextLine {l : Launch} {Sc : SCR} {G : GT} {A : Nat → Prop} {h : AH} {O : Nat → Bool} {r9 fr lo mc ms : Nat} {P : Int32 → AH → Prop} {xp : String → AH → Prop} (x0 : Int32) (hO : ∀ q, O q = true → aK h q ≠ 0) (hk : aK h r9 = 14) (cX : cxI l G (aO A O) yX10_nextLine cX10_nextLine 2 (Option.some FieldType.int) fr lo mc ms (.ref r9 :: [.int x0]) (rO O h) P xp) (hin : ∀ E h', xp E h' → ∃ v, (E, v) ∈ ([(nseC, (-900001)), (iseC, (-900002))] : List (String × Int32))) :
    lhI l Sc G A yL_nextLine cL_nextLine 3 (Option.some FieldType.int) [(0, 5, 6, 25), (0, 5, 10, 18)] (fr + 1) (8 + (2 + 11) + lo) mc ms [.ref r9, .int x0] h (fun r h' => ∃ h1, (P r h1 ∨ ∃ E, xp E h1 ∧ r = kdL E [(nseC, (-900001)), (iseC, (-900002))]) ∧ h' = jO O h1 h ∧ ∀ q, aK h1 q ≠ 0 → O q = false) := by
  refine lh_core (idx := 69) (pci := 2) (As := [.int x0]) ms_L_nextLine mv_X10_nextLine ml_L_69 rfl (Nat.le_of_ble_eq_true rfl) dL_nextLine_2 dL_nextLine_5 ⟨⟨by decide, by decide, cl_L_25, ca_276, 2, 1, 17, by decide, Or.inl ⟨2, rfl, dL_nextLine_6, rfl⟩, kl_L_17, dL_nextLine_7, dL_nextLine_9⟩, by decide +kernel, ⟨by decide, by decide, cl_L_18, ca_155, 2, 1, 20, by decide, Or.inl ⟨2, rfl, dL_nextLine_10, rfl⟩, kl_L_20, dL_nextLine_11, dL_nextLine_13⟩, by decide +kernel, True.intro⟩ ?_ hO hk cX hin
  intro p e R s m args below meth c9 H locs cells slots Q ls hx hb hl k
  refine lv_aload_n hx hb dL_nextLine_0 rfl (lv_at hl 0 rfl) ?_
  refine lv_iload_n hx hb dL_nextLine_1 rfl (lv_at hl 1 rfl) ?_
  exact k
theorem lW_waitingAt {l : Launch} {Sc : SCR} {G : GT} {A : Nat → Prop} {h : AH} {O : Nat → Bool} {r9 fr lo mc ms : Nat} {P : Int32 → AH → Prop} {xp : String → AH → Prop} (x0 x1 : Int32) (hO : ∀ q, O q = true → aK h q ≠ 0) (hk : aK h r9 = 14) (cX : cxI l G (aO A O) yX10_waitingAt cX10_waitingAt 3 (Option.some FieldType.int) fr lo mc ms (.ref r9 :: [.int x0, .int x1]) (rO O h) P xp) (hin : ∀ E h', xp E h' → ∃ v, (E, v) ∈ ([(nseC, (-900001)), (iobC, (-900002))] : List (String × Int32))) :
    lhI l Sc G A yL_waitingAt cL_waitingAt 4 (Option.some FieldType.int) [(0, 6, 7, 25), (0, 6, 11, 81)] (fr + 1) (8 + (3 + 11) + lo) mc ms [.ref r9, .int x0, .int x1] h (fun r h' => ∃ h1, (P r h1 ∨ ∃ E, xp E h1 ∧ r = kdL E [(nseC, (-900001)), (iobC, (-900002))]) ∧ h' = jO O h1 h ∧ ∀ q, aK h1 q ≠ 0 → O q = false) := by
  refine lh_core (idx := 78) (pci := 3) (As := [.int x0, .int x1]) ms_L_waitingAt mv_X10_waitingAt ml_L_78 rfl (Nat.le_of_ble_eq_true rfl) dL_waitingAt_3 dL_waitingAt_6 ⟨⟨by decide, by decide, cl_L_25, ca_276, 3, 1, 17, by decide, Or.inl ⟨3, rfl, dL_waitingAt_7, rfl⟩, kl_L_17, dL_waitingAt_8, dL_waitingAt_10⟩, by decide +kernel, ⟨by decide, by decide, cl_L_81, ca_786, 3, 1, 20, by decide, Or.inl ⟨3, rfl, dL_waitingAt_11, rfl⟩, kl_L_20, dL_waitingAt_12, dL_waitingAt_14⟩, by decide +kernel, True.intro⟩ ?_ hO hk cX hin
  intro p e R s m args below meth c9 H locs cells slots Q ls hx hb hl k
  refine lv_aload_n hx hb dL_waitingAt_0 rfl (lv_at hl 0 rfl) ?_
  refine lv_iload_n hx hb dL_waitingAt_1 rfl (lv_at hl 1 rfl) ?_
  refine lv_iload_n hx hb dL_waitingAt_2 rfl (lv_at hl 2 rfl) ?_
  exact k
theorem lW_nextLineByPaths {l : Launch} {Sc : SCR} {G : GT} {A : Nat → Prop} {h : AH} {O : Nat → Bool} {r9 fr lo mc ms : Nat} {P : Int32 → AH → Prop} {xp : String → AH → Prop} (x0 : Int32) (hO : ∀ q, O q = true → aK h q ≠ 0) (hk : aK h r9 = 14) (cX : cxI l G (aO A O) yX10_nextLineByPaths cX10_nextLineByPaths 2 (Option.some FieldType.int) fr lo mc ms (.ref r9 :: [.int x0]) (rO O h) P xp) (hin : ∀ E h', xp E h' → ∃ v, (E, v) ∈ ([(nseC, (-900001)), (iseC, (-900002))] : List (String × Int32))) :
    lhI l Sc G A yL_nextLineByPaths cL_nextLineByPaths 3 (Option.some FieldType.int) [(0, 5, 6, 25), (0, 5, 10, 18)] (fr + 1) (8 + (2 + 11) + lo) mc ms [.ref r9, .int x0] h (fun r h' => ∃ h1, (P r h1 ∨ ∃ E, xp E h1 ∧ r = kdL E [(nseC, (-900001)), (iseC, (-900002))]) ∧ h' = jO O h1 h ∧ ∀ q, aK h1 q ≠ 0 → O q = false) := by
  refine lh_core (idx := 72) (pci := 2) (As := [.int x0]) ms_L_nextLineByPaths mv_X10_nextLineByPaths ml_L_72 rfl (Nat.le_of_ble_eq_true rfl) dL_nextLineByPaths_2 dL_nextLineByPaths_5 ⟨⟨by decide, by decide, cl_L_25, ca_276, 2, 1, 17, by decide, Or.inl ⟨2, rfl, dL_nextLineByPaths_6, rfl⟩, kl_L_17, dL_nextLineByPaths_7, dL_nextLineByPaths_9⟩, by decide +kernel, ⟨by decide, by decide, cl_L_18, ca_155, 2, 1, 20, by decide, Or.inl ⟨2, rfl, dL_nextLineByPaths_10, rfl⟩, kl_L_20, dL_nextLineByPaths_11, dL_nextLineByPaths_13⟩, by decide +kernel, True.intro⟩ ?_ hO hk cX hin
  intro p e R s m args below meth c9 H locs cells slots Q ls hx hb hl k
  refine lv_aload_n hx hb dL_nextLineByPaths_0 rfl (lv_at hl 0 rfl) ?_
  refine lv_iload_n hx hb dL_nextLineByPaths_1 rfl (lv_at hl 1 rfl) ?_
  exact k
theorem lW_bagVolume {l : Launch} {Sc : SCR} {G : GT} {A : Nat → Prop} {h : AH} {O : Nat → Bool} {r9 fr lo mc ms : Nat} {P : Int32 → AH → Prop} {xp : String → AH → Prop} (x0 x1 : Int32) (hO : ∀ q, O q = true → aK h q ≠ 0) (hk : aK h r9 = 14) (cX : cxI l G (aO A O) yX10_bagVolume cX10_bagVolume 4 (Option.some FieldType.int) fr lo mc ms (.ref r9 :: [.int x0, .int x1]) (rO O h) P xp) (hin : ∀ E h', xp E h' → ∃ v, (E, v) ∈ ([(nseC, (-900001)), (iobC, (-900002))] : List (String × Int32))) :
    lhI l Sc G A yL_bagVolume cL_bagVolume 4 (Option.some FieldType.int) [(0, 6, 7, 25), (0, 6, 11, 81)] (fr + 1) (8 + (4 + 11) + lo) mc ms [.ref r9, .int x0, .int x1] h (fun r h' => ∃ h1, (P r h1 ∨ ∃ E, xp E h1 ∧ r = kdL E [(nseC, (-900001)), (iobC, (-900002))]) ∧ h' = jO O h1 h ∧ ∀ q, aK h1 q ≠ 0 → O q = false) := by
  refine lh_core (idx := 83) (pci := 3) (As := [.int x0, .int x1]) ms_L_bagVolume mv_X10_bagVolume ml_L_83 rfl (Nat.le_of_ble_eq_true rfl) dL_bagVolume_3 dL_bagVolume_6 ⟨⟨by decide, by decide, cl_L_25, ca_276, 3, 1, 17, by decide, Or.inl ⟨3, rfl, dL_bagVolume_7, rfl⟩, kl_L_17, dL_bagVolume_8, dL_bagVolume_10⟩, by decide +kernel, ⟨by decide, by decide, cl_L_81, ca_786, 3, 1, 20, by decide, Or.inl ⟨3, rfl, dL_bagVolume_11, rfl⟩, kl_L_20, dL_bagVolume_12, dL_bagVolume_14⟩, by decide +kernel, True.intro⟩ ?_ hO hk cX hin
  intro p e R s m args below meth c9 H locs cells slots Q ls hx hb hl k
  refine lv_aload_n hx hb dL_bagVolume_0 rfl (lv_at hl 0 rfl) ?_
  refine lv_iload_n hx hb dL_bagVolume_1 rfl (lv_at hl 1 rfl) ?_
  refine lv_iload_n hx hb dL_bagVolume_2 rfl (lv_at hl 2 rfl) ?_
  exact k
theorem lW_lateShare {l : Launch} {Sc : SCR} {G : GT} {A : Nat → Prop} {h : AH} {O : Nat → Bool} {r9 fr lo mc ms : Nat} {P : UInt32 → AH → Prop} {xp : String → AH → Prop} (hO : ∀ q, O q = true → aK h q ≠ 0) (hk : aK h r9 = 14) (cX : cxF l G (aO A O) yX10_lateShare cX10_lateShare 4 (Option.some FieldType.float) fr lo mc ms [.ref r9] (rO O h) P xp) (hin : ∀ E h', xp E h' → E = aeC) :
    lhF l Sc G A yL_lateShare cL_lateShare 2 (Option.some FieldType.float) [(0, 4, 5, 90)] (fr + 1) (8 + (4 + 11) + lo) mc ms [.ref r9] h (fun r h' => ∃ h1, (P r h1 ∨ xp aeC h1 ∧ r = 3378231824) ∧ h' = jO O h1 h ∧ ∀ q, aK h1 q ≠ 0 → O q = false) := by
  refine lh_of ms_L_lateShare (Nat.le_of_ble_eq_true rfl) ?_
  intro p e s m below meth c9 C0 hN hT hr hH ls hl9
  have hl9 : lv_has ls 2 [(0, .ref r9)] := hl9
  obtain ⟨hx, hb, hml, hown, hts, -⟩ := id C0
  refine lv_aload_n hx hb dL_lateShare_0 rfl (lv_at hl9 0 rfl) ?_
  refine k_fxf (rest := []) hH (k_fX C0 hH hO cX mv_X10_lateShare ml_L_86 ci_14 hk rfl ⟨Nat.le_refl _, Nat.le_refl _⟩ hl9.1 rfl (Nat.zero_le _) dL_lateShare_1 ⟨by show 0 + mc ≤ mc; omega, by show 0 + ms ≤ ms; omega⟩) ?_ ?_
  · intro E ce q9 h1 H1 locs1 hx1 hH1 hq1 hce hcv hcl
    have hE := hin E h1 hx1
    subst hE
    refine l_catch (hp := []) (hs := []) (x := (0, 4, 5, 90)) C0 hN.1 hT (fun z hz => by cases hz) (by decide) (by decide) cl_L_90 ca_1434 hce hcv hcl ?_
    refine lv_astore_n (lv := [(0, .ref r9)]) (lv' := [(1, .ref q9), (0, .ref r9)]) hx hb dL_lateShare_5 rfl hl9 (by decide) rfl (fun ls' hl' => ?_)
    refine lv_ldcf (v := 3378231824) hx hb hown (hts _ kf_L_92) dL_lateShare_6 ?_
    exact e_F C0 hr hH1 ⟨h1, Or.inr ⟨hx1, rfl⟩, rfl, hq1⟩ (by omega) (by omega) dL_lateShare_8
  · intro r h1 H1 locs1 hp1 hH1 hq1
    exact e_F C0 hr hH1 ⟨h1, Or.inl hp1, rfl, hq1⟩ (by omega) (by omega) dL_lateShare_4
theorem lW_meanTime {l : Launch} {Sc : SCR} {G : GT} {A : Nat → Prop} {h : AH} {O : Nat → Bool} {r9 fr lo mc ms : Nat} {P : UInt64 → AH → Prop} {xp : String → AH → Prop} (hO : ∀ q, O q = true → aK h q ≠ 0) (hk : aK h r9 = 14) (cX : cxD l G (aO A O) yX10_meanTime cX10_meanTime 5 (Option.some FieldType.double) fr lo mc ms [.ref r9] (rO O h) P xp) (hin : ∀ E h', xp E h' → E = aeC) :
    lhD l Sc G A yL_meanTime cL_meanTime 2 (Option.some FieldType.double) [(0, 4, 5, 90)] (fr + 1) (8 + (5 + 11) + lo) mc ms [.ref r9] h (fun r h' => ∃ h1, (P r h1 ∨ xp aeC h1 ∧ r = 13919350198670196736) ∧ h' = jO O h1 h ∧ ∀ q, aK h1 q ≠ 0 → O q = false) := by
  refine lh_of ms_L_meanTime (Nat.le_of_ble_eq_true rfl) ?_
  intro p e s m below meth c9 C0 hN hT hr hH ls hl9
  have hl9 : lv_has ls 2 [(0, .ref r9)] := hl9
  obtain ⟨hx, hb, hml, hown, hts, -⟩ := id C0
  refine lv_aload_n hx hb dL_meanTime_0 rfl (lv_at hl9 0 rfl) ?_
  refine k_fxd (rest := []) hH (k_fX C0 hH hO cX mv_X10_meanTime ml_L_93 ci_14 hk rfl ⟨Nat.le_refl _, Nat.le_refl _⟩ hl9.1 rfl (Nat.zero_le _) dL_meanTime_1 ⟨by show 0 + mc ≤ mc; omega, by show 0 + ms ≤ ms; omega⟩) ?_ ?_
  · intro E ce q9 h1 H1 locs1 hx1 hH1 hq1 hce hcv hcl
    have hE := hin E h1 hx1
    subst hE
    refine l_catch (hp := []) (hs := []) (x := (0, 4, 5, 90)) C0 hN.1 hT (fun z hz => by cases hz) (by decide) (by decide) cl_L_90 ca_1434 hce hcv hcl ?_
    refine lv_astore_n (lv := [(0, .ref r9)]) (lv' := [(1, .ref q9), (0, .ref r9)]) hx hb dL_meanTime_5 rfl hl9 (by decide) rfl (fun ls' hl' => ?_)
    refine lv_ldc2d (v := 13919350198670196736) hx hb hown (hts _ kd_L_97) dL_meanTime_6 ?_
    exact e_D C0 hr hH1 ⟨h1, Or.inr ⟨hx1, rfl⟩, rfl, hq1⟩ (by omega) (by omega) dL_meanTime_9
  · intro r h1 H1 locs1 hp1 hH1 hq1
    exact e_D C0 hr hH1 ⟨h1, Or.inl hp1, rfl, hq1⟩ (by omega) (by omega) dL_meanTime_4
