/-! the law's cases 8 -/
theorem lc_lines {p : Program} {l : Launch} {e : Env} {s : State} {m : MethodId} {below : List Frame} {meth : Method} {c : Code} {b L : Nat} {xs : Nat → Int32} {G : GT} {cL cD : ClassId} {oL oD : Nat} {H : Heap} {cells slots : Nat} {Q : State → Prop} {ls : Array Slot} {a o n : Nat} (hlt : l.stackTraces = false) (F : LwF p s m c b L xs G cL cD oL oD) (hn : n < 512) (hL : 7 * n + 6 < L) (hL2 : L ≤ 3584) (hS : LwS s G cL cD oL oD a o n H cells slots) (hl : lv_has ls 9 (lvs0 b a o oL oD (nI (7 * n))))
    (K : ∀ (H1 : Heap) (cells1 slots1 : Nat) (ls1 : Array Slot), LwS s G cL cD oL oD a o (n + 1) H1 cells1 slots1 → lv_has ls1 9 (lvs0 b a o oL oD (nI (7 * n))) → W p l e room_1 s m #[Value.ref b] below meth c H1 [] cells1 slots1 Q (F0 m 2903 ls1 [])) :
    W p l e room_1 s m #[Value.ref b] below meth c H [] cells slots Q (F0 m 868 ls []) := by
  obtain ⟨hc, hr, bb, c9, mm, ad, vL, vD, I, ⟨hR, hw, ha⟩, ⟨hM, hwa, hSim⟩, hcl, hsl⟩ := hS
  have F' := F
  obtain ⟨⟨hx, hb, -⟩, -⟩ := F'
  obtain ⟨u1, u2, u3⟩ := uC_max hSim hwa (by omega)
  obtain ⟨x1, x2⟩ := UC_max hw
  have hq := call_counts hSim hwa
  obtain ⟨w1, w2, w3⟩ := (show Rw mm (up mm 45 0 0) from rw_tell hwa 0)
  refine lv_aload_n hx hb dL_law_868 rfl (lv_at hl 4 rfl) ?_
  refine k_virtI (As := []) (rest := []) (r9 := a) F I (fun A => by have h9 := cC_X10_lines l G A hc bb c9 hR hw; rw [ha] at h9; exact h9) mv_X10_lines ml_L_202 ci_14 (by rw [← ha]; exact hR.kind (K := 14) (i := 0) rfl) rfl ⟨Nat.le_of_ble_eq_true rfl, Nat.le_of_ble_eq_true rfl⟩ hl.1 rfl (by decide) dL_law_869 ⟨by omega, by omega⟩ (fun r1 h1 H1 hp I1 => ?_)
  obtain ⟨e1, eh⟩ := hp
  rw [eh] at I1
  refine lv_aload_n hx hb dL_law_872 rfl (lv_at hl 3 rfl) ?_
  refine k_virtI (As := []) (rest := [.int r1]) F I1.swap (fun A => cM_lines_ l G A hr o ad mm hM) mv_X11_lines_ ml_L_205 ci_15 hM.1 rfl ⟨Nat.le_of_ble_eq_true rfl, Nat.le_of_ble_eq_true rfl⟩ hl.1 rfl (by show (1 + 0 : Nat) ≤ 8; decide) dL_law_873 ⟨by omega, by omega⟩ (fun r2 h2 H2 hp2 I2 => ?_)
  obtain ⟨e2, hM2⟩ := hp2
  refine lv_icmp_eq (tgt := 2903) hx hb dL_law_876 (by decide) (fun _ => ?_) (fun z => absurd ((e1.trans (hq.2.2.1)).trans e2.symm) z)
  exact K H2 _ _ ls ⟨hc, h2, bb, c9, _, ad, vL, vD, I2.swap, ⟨hR, hw, ha⟩, ⟨hM2, w1, hSim.tell 0⟩, by omega, by omega⟩ hl
theorem lc_parcels {p : Program} {l : Launch} {e : Env} {s : State} {m : MethodId} {below : List Frame} {meth : Method} {c : Code} {b L : Nat} {xs : Nat → Int32} {G : GT} {cL cD : ClassId} {oL oD : Nat} {H : Heap} {cells slots : Nat} {Q : State → Prop} {ls : Array Slot} {a o n : Nat} (hlt : l.stackTraces = false) (F : LwF p s m c b L xs G cL cD oL oD) (hn : n < 512) (hL : 7 * n + 6 < L) (hL2 : L ≤ 3584) (hS : LwS s G cL cD oL oD a o n H cells slots) (hl : lv_has ls 9 (lvs0 b a o oL oD (nI (7 * n))))
    (K : ∀ (H1 : Heap) (cells1 slots1 : Nat) (ls1 : Array Slot), LwS s G cL cD oL oD a o (n + 1) H1 cells1 slots1 → lv_has ls1 9 (lvs0 b a o oL oD (nI (7 * n))) → W p l e room_1 s m #[Value.ref b] below meth c H1 [] cells1 slots1 Q (F0 m 2903 ls1 [])) :
    W p l e room_1 s m #[Value.ref b] below meth c H [] cells slots Q (F0 m 881 ls []) := by
  obtain ⟨hc, hr, bb, c9, mm, ad, vL, vD, I, ⟨hR, hw, ha⟩, ⟨hM, hwa, hSim⟩, hcl, hsl⟩ := hS
  have F' := F
  obtain ⟨⟨hx, hb, -⟩, -⟩ := F'
  obtain ⟨u1, u2, u3⟩ := uC_max hSim hwa (by omega)
  obtain ⟨x1, x2⟩ := UC_max hw
  have hq := call_counts hSim hwa
  obtain ⟨w1, w2, w3⟩ := (show Rw mm (up mm 45 0 0) from rw_tell hwa 0)
  refine lv_aload_n hx hb dL_law_881 rfl (lv_at hl 4 rfl) ?_
  refine k_virtI (As := []) (rest := []) (r9 := a) F I (fun A => by have h9 := cC_X10_parcels l G A hc bb c9 hR hw; rw [ha] at h9; exact h9) mv_X10_parcels ml_L_206 ci_14 (by rw [← ha]; exact hR.kind (K := 14) (i := 0) rfl) rfl ⟨Nat.le_of_ble_eq_true rfl, Nat.le_of_ble_eq_true rfl⟩ hl.1 rfl (by decide) dL_law_882 ⟨by omega, by omega⟩ (fun r1 h1 H1 hp I1 => ?_)
  obtain ⟨e1, eh⟩ := hp
  rw [eh] at I1
  refine lv_aload_n hx hb dL_law_885 rfl (lv_at hl 3 rfl) ?_
  refine k_virtI (As := []) (rest := [.int r1]) F I1.swap (fun A => cM_parcels l G A hr o ad mm hM) mv_X11_parcels ml_L_209 ci_15 hM.1 rfl ⟨Nat.le_of_ble_eq_true rfl, Nat.le_of_ble_eq_true rfl⟩ hl.1 rfl (by show (1 + 0 : Nat) ≤ 8; decide) dL_law_886 ⟨by omega, by omega⟩ (fun r2 h2 H2 hp2 I2 => ?_)
  obtain ⟨e2, hM2⟩ := hp2
  refine lv_icmp_eq (tgt := 2903) hx hb dL_law_889 (by decide) (fun _ => ?_) (fun z => absurd ((e1.trans (hq.2.2.2)).trans e2.symm) z)
  exact K H2 _ _ ls ⟨hc, h2, bb, c9, _, ad, vL, vD, I2.swap, ⟨hR, hw, ha⟩, ⟨hM2, w1, hSim.tell 0⟩, by omega, by omega⟩ hl
