/-! what the last calls throw -/
set_option maxHeartbeats 800000 in
set_option maxRecDepth 100000 in
theorem cC_X10_state_x (l : Launch) (hlt : l.stackTraces = false) (G : GT) (A : Nat → Prop) (h : AH) (b : BA) (u : MM) (hR : RC G.2.2.1 h b u) (hw : WFc u) (x : Int32) (hX : ¬ xPa u x = none) : cxI l G A yX10_state cX10_state 2 (Option.some FieldType.char) 7 111 1 6 [.ref (b 14 0), .int (x)] h (fun r h' => xPa u x = none ∧ r = u 28 x.toNatClampNeg ∧ h' = h) (fun E h' => xPa u x = some E ∧ h' = h) := by
  refine cx_of "Routepost" rfl (by decide) (Nat.le_of_ble_eq_true rfl) ?_
  intro pr e s m9 below meth c C0 hxt hr hH ls hl
  obtain ⟨hx, hb, hml, hown, hts, hK, hA, -⟩ := id C0
  have hl : lv_has ls 2 [(0, .ref (b 14 0)), (1, .int (x))] := hl
  have hc7 := hw.cnt6 7
  have hc8 := hw.cnt6 8
  have hc9 := hw.cnt6 9
  refine lv_aload_n hx hb dX10_state_0 rfl (lv_at hl 0 rfl) ?_
  refine lv_iload_n hx hb dX10_state_1 rfl (lv_at hl 1 rfl) ?_
  refine k_xq C0 hxt hH (k_xrunV (rest := []) C0 hH (cC_X10_parcelNumbered l hlt G A _ b _ hR hw x ) mv_X10_parcelNumbered ml_X10_186 ci_14 (hR.kind (K := 14) (i := 0) rfl) rfl ⟨Nat.le_of_ble_eq_true rfl, Nat.le_of_ble_eq_true rfl⟩ hl.1 rfl (Nat.le_of_ble_eq_true rfl) dX10_state_2 ⟨Nat.le_of_ble_eq_true rfl, Nat.le_of_ble_eq_true rfl⟩) (fun _ _ z => z) (Nat.le_of_ble_eq_true rfl) (Nat.le_of_ble_eq_true rfl) (fun r_1 h1 H locs hp hH => ?_)
  obtain ⟨exr_1, er_1, eh⟩ := hp
  exact absurd exr_1 hX
section LASTX
variable {n k : Nat} {c m : MM}
theorem t_out {x : Nat} (hx : x < 2 ^ 31) : ¬ vp_in (nI x) x := fun z => z (Or.inr (by rw [nI_clamp hx]; exact Nat.le_refl _))
theorem t_neg {x : Nat} : ¬ vp_in (-1) x := fun z => z (Or.inl (by decide))
theorem t_dg10 : isDg (nI 10) 1 999 = 0 := by decide +kernel
theorem t_dg1111 : isDg (nI 1111) 1 999 = 0 := by decide +kernel
theorem t_ad1011 : isAd (nI 1011) = 0 := by decide +kernel
theorem t_ad111 : isAd (nI 111) = 0 := by decide +kernel
theorem t_open1 (c : MM) : xOpH c (nI 10) (nI 1) = some iaeC := by unfold xOpH; exact if_pos (Or.inl ((cod_eq _).mpr t_dg10))
theorem t_open2 (c : MM) : xOpH c (nI 1111) (nI 1) = some iaeC := by unfold xOpH; exact if_pos (Or.inl ((cod_eq _).mpr t_dg1111))
theorem t_open3 (hS : Sim n c m) (h2 : 2 ≤ nhN m) (h0 : m 0 0 = nI (codeN (k % 6))) : xOpH c (m 0 0) (nI 1) = some iseC := by
  have hc0 : c 0 0 = m 0 0 := (hS.1.1.2.2.1 0 (by omega)).1
  obtain ⟨d, hd⟩ : ∃ d, nhN c = d + 1 := ⟨nhN c - 1, by have := hS.1.1.1.1; omega⟩
  have hw9 : ¬ cHw c (m 0 0) = -1 := by
    unfold cHw
    rw [hd]
    show ¬ (if c 0 0 = m 0 0 then nI 0 else cHwL c (m 0 0) d 1) = -1
    rw [if_pos hc0]
    decide
  unfold xOpH
  rw [if_neg (fun q => q.elim (fun z => by have y := (cod_eq _).mp z; rw [h0] at y; exact code_ok2 k y) (fun z => z (by decide))), if_pos (Or.inl hw9)]
theorem t_hub (hS : Sim n c m) (hc : WFc c) {x : Nat} (h : x < nhN m) (h6 : nhN m ≤ 6) : xHb c (nI x) = none := (hS.hb hc).mpr (vp_in_nI h (by omega))
theorem t_add1 (hS : Sim n c m) (hc : WFc c) (h2 : 2 ≤ nhN m) (h6 : nhN m ≤ 6) (f per tr mb : Int32) : xAdd c (nI 0) (nI (nhN m)) f per tr mb = some nseC := by
  unfold xAdd
  rw [xo_n (t_hub hS hc (x := 0) (by omega) h6)]
  exact xo_s (xHb_ns (fun z => t_out (by omega) ((hS.hb hc).mp z)))
theorem t_add2 (hS : Sim n c m) (hc : WFc c) (h2 : 2 ≤ nhN m) (h6 : nhN m ≤ 6) (f per tr mb : Int32) : xAdd c (nI 1) (nI 1) f per tr mb = some iaeC := by
  unfold xAdd
  rw [xo_n (t_hub hS hc (x := 1) (by omega) h6), xo_n (t_hub hS hc (x := 1) (by omega) h6)]
  exact if_pos (fun q => q.1 rfl)
theorem t_add3 (hS : Sim n c m) (hc : WFc c) (h2 : 2 ≤ nhN m) (h6 : nhN m ≤ 6) (f tr mb : Int32) : xAdd c (nI 0) (nI 1) f (nI 4) tr mb = some iaeC := by
  unfold xAdd
  rw [xo_n (t_hub hS hc (x := 0) (by omega) h6), xo_n (t_hub hS hc (x := 1) (by omega) h6)]
  exact if_pos (fun q => absurd q.2.2.1 (by decide))
theorem t_acc1 (hS : Sim n c m) (hc : WFc c) (ad vol ser : Int32) : xAcc c (-1) ad vol ser = some nseC := by
  unfold xAcc
  exact xo_s (xHb_ns (fun z => t_neg ((hS.hb hc).mp z)))
theorem t_acc2 (hS : Sim n c m) (hc : WFc c) (h2 : 2 ≤ nhN m) (h6 : nhN m ≤ 6) (vol ser : Int32) : xAcc c (nI 0) (nI 1011) vol ser = some iaeC := by
  unfold xAcc
  rw [xo_n (t_hub hS hc (x := 0) (by omega) h6)]
  exact if_pos (Or.inl ((adr_eq _).mpr t_ad1011))
theorem t_acc3 (hS : Sim n c m) (hc : WFc c) (h2 : 2 ≤ nhN m) (h6 : nhN m ≤ 6) (ad vol : Int32) : xAcc c (nI 0) ad vol (nI 3) = some iaeC := by
  unfold xAcc
  rw [xo_n (t_hub hS hc (x := 0) (by omega) h6)]
  exact if_pos (Or.inr (Or.inr (by decide)))
theorem t_par (hS : Sim n c m) (hc : WFc c) (h : npN m ≤ 40) : xPa c (nI (npN m)) = some nseC := xPa_ns (fun z => by have y := (xPa_n hc).mp z; rw [hS.1.1.1.2.2] at y; exact t_out (by omega) y)
theorem t_scn (hS : Sim n c m) (hc : WFc c) (h : npN m ≤ 40) (y : Int32) : xScn c (nI (npN m)) y = some nseC := by
  unfold xScn
  exact xo_s (t_par hS hc h)
theorem t_del (hc : WFc c) : xDel c (-1) = some nseC := by
  unfold xDel
  exact xo_s (xPa_ns (fun z => t_neg ((xPa_n hc).mp z)))
theorem t_pas0 : xPas (nI 0) = some iaeC := by unfold xPas; exact if_neg (by decide)
theorem t_pas1 : xPas (nI 121) = some iaeC := by unfold xPas; exact if_neg (by decide)
theorem t_adr : xAd (nI 111) = some iaeC := by unfold xAd; exact if_pos ((adr_eq _).mpr t_ad111)
theorem t_lin (hS : Sim n c m) (hc : WFc c) (h : nlN m ≤ 12) : xOpn c (nI (nlN m)) = some nseC := by
  unfold xOpn
  exact xo_s (xLn_ns (fun z => by have y := (xLn_n hc).mp z; rw [hS.1.1.1.2.1] at y; exact t_out (by omega) y))
end LASTX
theorem gm_pas {u : MM} (hw : WFc u) (m : MM) (v : Nat) : Gm u (pasZ m v u) :=
  Gm.ofB hw (fun h => ((lbx_pas m (nI (v + 1)) u (nlN m)).trans (LB.psL (nI 1).toNatClampNeg 0 (by rw [(lbx_pas m (nI (v + 1)) u (nlN m) h).2.2.2.1]; exact hw.nl))) h)
theorem jw0_new (q : Nat) : JW0 (pN ((fun _ => 0, fun _ _ => 0, fun _ _ => none, fun _ => 0, fun _ => 0) : AH) q 20 700) (setL (fun _ => none) q 700 (fun _ => 0)) (fun _ => none) := by
  refine ⟨fun a n f e => ?_, fun a n f e => nomatch e⟩
  by_cases z : a = q
  · subst z
    rw [setL_s] at e
    cases e
    exact ⟨by rw [aK_pN, if_pos rfl], by rw [aN_pN, if_pos rfl], fun i _ => by rw [aI_pN, if_pos rfl]⟩
  · rw [setL_o z] at e
    exact nomatch e
