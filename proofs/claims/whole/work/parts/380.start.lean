/-! the law's start -/
theorem wp_of {s : State} {G : GT} {A : Nat → Prop} {h : AH} {H : Heap} (hK : va_K G.1 vwCl (tyA G.2.1) s) (hG : KSv G s) (hG2 : KSh G (fun q => s.heap.size ≤ q) s s.heap) (h7 : va_S (fun q => s.heap.size ≤ q) s.heap H []) (hA : ∀ q, A q → s.heap.size ≤ q) (hA2 : ∀ q, H.size ≤ q → A q) (hW : HW G.1 G.2.1 A h H) (U : State) (hU : U.heap = H) (hWm : s.WarmedH U.vm) : WP G A h U := by
  refine ⟨fun q hq => hA2 q (by rw [← hU]; exact hq), by rw [hU]; exact hW, va_K.moved hWm.alike hK, hG.warm hWm, ?_⟩
  rw [hU]
  exact ((hG2.moved hWm.alike).kept h7.2.1).narrow hA
def hZ : AH := (fun _ => 0, fun _ _ => 0, fun _ _ => none, fun _ => 0, fun _ => 0)
theorem hZ_w {D : va_G} {cy : Nat → ClassId} {A : Nat → Prop} {H : Heap} : HW D cy A hZ H := ⟨[], fun k q h => by simp [va_pl] at h, ⟨fun i j p q h => by simp [va_pl] at h, fun k q h => by simp [va_pl] at h⟩, fun a ha => absurd rfl ha⟩
set_option maxHeartbeats 4000000 in
/-- from the entry, for every script, the law comes to its end with true -/
theorem whole_start {p : Program} {e : Env} {s : State} {m : MethodId} {below : List Frame} {meth : Method} {c : Code} (l : Launch) (hflags : l.flags = flags0) {b L : Nat} {xs : Nat → Int32} (hL : L ≤ 3584) (C0 : lw_At p s m meth c b L xs) : W p l e room_1 s m #[Value.ref b] below meth c s.heap [] 0 0 (lw_Z below #[Value.ref b] s) (entryFrame m ([Value.ref b] : List Value).toArray 9) := by
  obtain ⟨hx, hb, hr, hml, hown, hts, hX, hbl, hlocks, hgv⟩ := id C0
  have hlt : l.stackTraces = false := by unfold Launch.stackTraces; rw [hflags]; decide
  have hta : ∀ w ∈ lw_all, w.before #[Value.ref b] s = true := fun w hw => hts w (List.mem_filter.mp hw).1
  obtain ⟨G, hK, hG, hG2⟩ := lw_world (A := fun q => s.heap.size ≤ q) hts hgv (fun a ha q => absurd ha (Nat.not_lt.mpr q))
  have hnc := lw_ncOf hgv
  have hown : s.vm.findClass "RoutepostLaw" = some m.cls := hown
  have C1 : CX p l s m #[Value.ref b] meth c code 9 "RoutepostLaw" G (fun q => s.heap.size ≤ q) := ⟨hx, hb, hml, hown, hta, hK, fun _ h => h, hG, hG2, hlocks⟩
  have hl := lv_entry ([.ref b]) (n := 9) (Nat.le_of_ble_eq_true rfl)
  rw [lg_entry_eq]
  generalize (lg_sl ([.ref b]) ++ List.replicate (9 - (lg_sl ([.ref b])).length) Slot.unset).toArray = ls at hl ⊢
  have hl : lv_has ls 9 [(0, .ref b)] := hl
  have hH : HS G.1 G.2.1 (fun q => s.heap.size ≤ q) s.heap hZ s.heap [] := ⟨hZ_w, va_S.rf⟩
  refine o_new hx hb hta hown hK (fun _ h => h) hH ci_14 cl_L_8 im_X10 in_X10 (fun j hj => by rcases (by omega : j = 0 ∨ j = 1 ∨ j = 2 ∨ j = 3 ∨ j = 4 ∨ j = 5 ∨ j = 6 ∨ j = 7 ∨ j = 8 ∨ j = 9) with rfl | rfl | rfl | rfl | rfl | rfl | rfl | rfl | rfl | rfl <;> rfl) (Nat.le_of_ble_eq_true rfl) (Nat.le_of_ble_eq_true rfl) dL_law_0 (fun a H1 ha0 hs1 hH1 => ?_)
  refine lv_dup hx hb dL_law_3 rfl ?_
  refine k_v hH1 (k_runI (rest := [.ref a]) (As := []) C1 hH1 (cC_X10_init l G _ _ a (by rw [aK_pN]; exact if_pos rfl)) mv_X10_init ml_L_155 rfl ⟨Nat.le_of_ble_eq_true rfl, Nat.le_of_ble_eq_true rfl⟩ hl.1 rfl (by show (1 + 0 : Nat) ≤ 8; decide) dL_law_4 ⟨Nat.le_of_ble_eq_true rfl, Nat.le_of_ble_eq_true rfl⟩) (fun h1 H2 locs1 hp1 hH2 => ?_)
  refine va_forget hH2.2.2.2 ?_
  refine lv_astore_n (lv' := [(1, .ref a), (0, .ref b)]) hx hb dL_law_7 rfl hl (by decide) rfl (fun ls hl => ?_)
  have z2 : s.heap.size ≤ H2.size := hH2.2.1
  have hH3 : HS G.1 G.2.1 (fun q => H2.size ≤ q) H2 hZ H2 [] := ⟨hZ_w, va_S.rf⟩
  refine o_new hx hb hta hown hK (fun _ h => h) hH3 ci_15 cl_L_156 im_X11 in_X11 (fun j hj => by rcases (by omega : j = 0 ∨ j = 1 ∨ j = 2 ∨ j = 3 ∨ j = 4 ∨ j = 5 ∨ j = 6 ∨ j = 7 ∨ j = 8 ∨ j = 9 ∨ j = 10 ∨ j = 11 ∨ j = 12 ∨ j = 13 ∨ j = 14 ∨ j = 15 ∨ j = 16 ∨ j = 17 ∨ j = 18 ∨ j = 19 ∨ j = 20 ∨ j = 21 ∨ j = 22 ∨ j = 23 ∨ j = 24 ∨ j = 25 ∨ j = 26 ∨ j = 27 ∨ j = 28 ∨ j = 29 ∨ j = 30 ∨ j = 31 ∨ j = 32 ∨ j = 33 ∨ j = 34 ∨ j = 35 ∨ j = 36 ∨ j = 37 ∨ j = 38 ∨ j = 39 ∨ j = 40 ∨ j = 41 ∨ j = 42 ∨ j = 43 ∨ j = 44 ∨ j = 45) with rfl | rfl | rfl | rfl | rfl | rfl | rfl | rfl | rfl | rfl | rfl | rfl | rfl | rfl | rfl | rfl | rfl | rfl | rfl | rfl | rfl | rfl | rfl | rfl | rfl | rfl | rfl | rfl | rfl | rfl | rfl | rfl | rfl | rfl | rfl | rfl | rfl | rfl | rfl | rfl | rfl | rfl | rfl | rfl | rfl | rfl <;> rfl) (Nat.le_of_ble_eq_true rfl) (Nat.le_of_ble_eq_true rfl) dL_law_8 (fun o H3 ho0 hso hH4 => ?_)
  refine lv_dup hx hb dL_law_11 rfl ?_
  have z3 : H2.size ≤ H3.size := hH4.2.1
  have k3 : ∀ q : Nat, q < H2.size → H3[q]? = H2[q]? := fun q hq => hH4.2.2.1 q hq (Nat.not_le.mpr hq)
  have h7 : va_S (fun q => s.heap.size ≤ q) s.heap H3 [] := ⟨Nat.le_trans z2 z3, fun q hq hA => (k3 q (by omega)).trans (hH2.2.2.1 q hq hA), fun _ z => by cases z⟩
  refine va_callv (A0 := fun q => s.heap.size ≤ q) (H0 := s.heap) (va_runI (As := []) (rest := [.ref o]) (Ts := lw_all) (own := "RoutepostLaw") (cc := code) ⟨hx, hb, hml, hown, hta⟩ (cM_init l G (fun q => H2.size ≤ q) (pN hZ o 15 0) o (by rw [aK_pN]; exact if_pos rfl) (fun j => by rw [aI_pN]; exact if_pos rfl)) (cwI 0 hta (ws_good mv_X11_init.1) rfl rfl rfl (hta _ mv_X11_init.2.2.1) (hta _ ml_L_158) (hta _ mv_X11_init.2.1) mv_X11_init.2.2.2.1 mv_X11_init.2.2.2.2 ⟨Nat.le_of_ble_eq_true rfl, Nat.le_of_ble_eq_true rfl⟩) ⟨WP.blind, fun U hU hWm => ⟨rfl, wp_of hK hG hG2 h7 (fun q z => Nat.le_trans z2 z) (fun q z => Nat.le_trans z3 z) hH4.1 U hU hWm⟩⟩ rfl rfl hl.1 rfl (lv_room (by show (1 + 0 : Nat) ≤ 8; decide)) dL_law_12 ⟨Nat.le_of_ble_eq_true rfl, Nat.le_of_ble_eq_true rfl⟩) h7 (fun q _ z => Nat.le_trans z2 z) (fun q z => Nat.le_trans z2 z) (fun h2 t H4 locs2 ht hvm hp2 hB hz hk hS2 => ?_)
  rw [ht] at hB
  refine va_forget hS2.2.2 ?_
  obtain ⟨ad, hM⟩ := hp2
  have k4 : ∀ q : Nat, q < H2.size → H4[q]? = H2[q]? := fun q hq => (hk q (by omega) (Nat.not_le.mpr hq)).trans (k3 q hq)
  refine lv_astore_n (lv' := [(2, .ref o), (1, .ref a), (0, .ref b)]) hx hb dL_law_15 rfl hl (by decide) rfl (fun ls hl => ?_)
  refine lv_iconst (v := 1) hx hb dL_law_16 (by decide) ?_
  refine va_newaK (atype := .long) (N := 1) (h := H4.size) hx hb (hta _ ac_long) rfl dL_law_17 rfl (by decide) rfl (by decide) (Nat.le_of_ble_eq_true rfl) (Nat.le_of_ble_eq_true rfl) rfl (fun H5 cL e5 z5 o5 aL nL => ?_)
  refine (show W p l e room_1 s m #[Value.ref b] below meth c H5 [] _ _ _ (F0 m 19 ls (.ref H4.size :: [])) from ?_)
  refine lv_astore_n (lv' := [(3, .ref H4.size), (2, .ref o), (1, .ref a), (0, .ref b)]) hx hb dL_law_19 rfl hl (by decide) rfl (fun ls hl => ?_)
  refine lv_iconst (v := 1) hx hb dL_law_20 (by decide) ?_
  refine va_newaK (atype := .double) (N := 1) (h := H5.size) hx hb (hta _ ac_double) rfl dL_law_21 rfl (by decide) rfl (by decide) (Nat.le_of_ble_eq_true rfl) (Nat.le_of_ble_eq_true rfl) rfl (fun H6 cD e6 z6 o6 aD nD => ?_)
  refine (show W p l e room_1 s m #[Value.ref b] below meth c H6 [] _ _ _ (F0 m 23 ls (.ref H5.size :: [])) from ?_)
  refine lv_astore (lv' := [(4, .ref H5.size), (3, .ref H4.size), (2, .ref o), (1, .ref a), (0, .ref b)]) hx hb dL_law_23 hl (by decide) rfl (fun ls hl => ?_)
  refine lv_iconst (v := nI (7 * 0)) hx hb dL_law_25 (by decide) ?_
  refine lv_istore (lv' := lvs0 b a o H4.size H5.size (nI (7 * 0))) hx hb dL_law_26 hl (by decide) rfl (fun ls hl => ?_)
  obtain ⟨bb, cap, hba, hR, hw⟩ := RC.c0 hp1
  have k6 : ∀ q : Nat, q < H4.size → H6[q]? = H4[q]? := fun q hq => (o6 q (by omega)).trans (o5 q hq)
  have F : LwF p s m c b L xs G cL cD H4.size H5.size := ⟨⟨hx, hb, hml, hown, hta⟩, ⟨hX, hbl⟩, ⟨hK, hG, hG2⟩, ⟨⟨aL, aD⟩, hnc⟩, by omega, by omega, by omega⟩
  have I : LwI s G cL cD H4.size H5.size h1 h2 (.long 0) (.double 0) H6 := by
    refine ⟨fun q => s.heap.size ≤ q ∧ q < H2.size, fun q => H2.size ≤ q ∧ q < H4.size, fun q hq => ⟨hq.1, by omega, fun z => by omega, by omega, by omega⟩, fun q hq => ⟨by omega, by omega, fun z => by omega, by omega, by omega⟩, ?_, ?_, ?_, ?_, by omega, fun q hq hA => ?_, fun _ z => by cases z⟩
    · exact (hH2.1.weaken (fun q z1 z2 => ⟨z2, z1⟩)).kept (fun q hq _ => (k6 q (by omega)).trans (k4 q hq))
    · exact (hB.weaken (fun q z1 z2 => ⟨z2, z1⟩)).kept (fun q hq _ => k6 q hq)
    · exact (o6 H4.size (by omega)).trans e5
    · exact e6
    · exact (k6 q (by omega)).trans (hS2.2.1 q hq hA)
  exact law_loop hlt F hL hr hlocks (L / 7) 0 (by omega) H6 _ _ ls ⟨h1, h2, bb, c00 cap, m0, ad, .long 0, .double 0, I, ⟨hR, hw, hba⟩, ⟨hM, m0_wf, sim0 cap⟩, by have := Nat.zero_le (UC (c00 cap)); omega, by have := Nat.zero_le (US (c00 cap)); omega⟩ hl
