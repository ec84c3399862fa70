section NOTE1
variable {p : Program} {l : Launch} {e : Env} {R : Room} {s : State} {m : MethodId} {args : Array Value} {below : List Frame} {meth : Method} {c : Code} {H : Heap} {locs : List Loc} {cells slots : Nat} {Q : State → Prop}
variable {ls : Array Slot} {G : GT} {A : Nat → Prop} {h : AH} {b : BA} {u : MM} {q x : Nat} {L t : Int32} {v : Value}
set_option maxHeartbeats 800000 in
set_option maxRecDepth 100000 in
theorem note_add (C0 : CX p l s m args meth c cX2_note 6 "Routepost$History" G A) (hH : HS G.1 G.2.1 A s.heap h H locs) (hR : RC G.2.2.1 h b u) (hw : WFc u) (hp : q < npN u) (hn : szN u (6 + q) < 1024) (hx : x < nhN u) (hL : narrow .char (.int L) = .int L) (hL2 : fits .char (.int L) = true)
    (hl : lv_has ls 6 [(0, .ref (b 6 q)), (1, .int L), (2, .int t), (3, .ref (b 7 x)), (4, v)]) (hf : 8 ≤ R.frames) (hlo : 300 ≤ R.locals) (hc : cells + 1 + 0 + aC (szN u (6 + q)) (capN u (6 + q)) ≤ R.cells) (hs : slots + 3 + 0 + aS (szN u (6 + q)) (capN u (6 + q)) ≤ R.slots)
    (kk : ∀ (h' : AH) (b' : BA) (H1 : Heap) (locs1 : List Loc), HS G.1 G.2.1 A s.heap h' H1 locs1 → BE u b b' → RC G.2.2.1 h' b' (cEv u q L t x) → WFc (cEv u q L t x) → W p l e R s m args below meth c H1 locs1 (cells + 1 + 0 + aC (szN u (6 + q)) (capN u (6 + q))) (slots + 3 + 0 + aS (szN u (6 + q)) (capN u (6 + q))) Q (F0 m 32 ls [])) :
    W p l e R s m args below meth c H locs cells slots Q (F0 m 14 ls []) := by
  obtain ⟨hx0, hb, hml, hown, hts, hK, hA, -⟩ := id C0
  refine lv_aload_n hx0 hb dX2_note_14 rfl (lv_at hl 0 rfl) ?_
  refine c_getR C0 hH hR ci_6 (i := q) (j := 0) hp rfl (by decide) rfl fl_X2_12 (v := some (b 3 (6 + q))) rfl dX2_note_15 ?_
  refine o_new hx0 hb hts hown hK hA hH ci_5 cl_X2_22 im_X1 in_X1 (fun j hj => by rcases (by omega : j = 0 ∨ j = 1 ∨ j = 2) with rfl | rfl | rfl <;> rfl) (by omega) (by omega) dX2_note_18 (fun a H1 hq0 hqs hH => ?_)
  have hfree : ∀ K i, ok u K i → b K i ≠ a := fun K i hk => hR.free hq0 hk
  have hR1 : RC G.2.2.1 (pN h a 5 0) b u := hR.same (SameX.pN h a 5 0) hfree
  have hk5 : aK (pN h a 5 0) a = 5 := by rw [aK_pN, if_pos rfl]
  obtain ⟨h0, hh0⟩ : ∃ z, z = pN h a 5 0 := ⟨_, rfl⟩
  rw [← hh0] at hH hR1 hk5
  refine lv_dup hx0 hb dX2_note_21 rfl ?_
  refine lv_iload_n hx0 hb dX2_note_22 rfl (lv_at hl 1 rfl) ?_
  refine lv_iload_n hx0 hb dX2_note_23 rfl (lv_at hl 2 rfl) ?_
  refine lv_aload_n hx0 hb dX2_note_24 rfl (lv_at hl 3 rfl) ?_
  refine k_v hH (k_runI (rest := [.ref a, .ref (b 3 (6 + q))]) C0 hH (cC_X1_init l G A h0 a (b 7 x) L t hk5 hL hL2) mv_X1_init ml_X2_24 rfl ⟨by show 1 + 1 ≤ R.frames; omega, by show _ ≤ R.locals; simp; omega⟩ hl.1 rfl (Nat.le_of_ble_eq_true rfl) dX2_note_25 ⟨by omega, by omega⟩) (fun h1 H locs hp1 hH => ?_)
  have hs1 : SameX h0 h1 (· = a) := by
    rw [hp1]
    exact (((SameX.pI h0 0 a L).trans (SameX.pI _ 1 a t)).trans (SameX.pR _ 2 a (some (b 7 x)))).mono (fun y hy => hy.elim (fun z => z.elim id id) id)
  have hR2 : RC G.2.2.1 h1 b u := hR1.same hs1 hfree
  have f1 : aK h1 a = 5 := by rw [hp1]; exact hk5
  have f2 : aI h1 0 a = L := by rw [hp1, aI_pR, aI_pI, if_neg (by omega), aI_pI, if_pos ⟨rfl, rfl⟩]
  have f3 : aI h1 1 a = t := by rw [hp1, aI_pR, aI_pI, if_pos ⟨rfl, rfl⟩]
  have f4 : aR h1 2 a = some (b 7 x) := by rw [hp1, aR_pR, if_pos ⟨rfl, rfl⟩]
  have hok : ok u 3 (6 + q) := show 6 + q < 6 + npN u by omega
  refine k_i hH (k_runV (rest := []) C0 hH (cJ_Jx4a65c_add_9ea2d l G A h1 (b 3 (6 + q)) a _ _ _ (hR2.lsh hw hok) (Or.inl f1)) mv_Jx4a65c_add_9ea2d ml_X2_27 ci_3 (hR2.kind (K := 3) hok) rfl ⟨by show 6 + 1 ≤ R.frames; omega, by show _ ≤ R.locals; simp; omega⟩ hl.1 rfl (Nat.le_of_ble_eq_true rfl) dX2_note_28 ⟨by omega, by omega⟩) (fun r h2 H locs hp2 hH => ?_)
  obtain ⟨b', hbe, hR3⟩ := hR2.addE hw (L := L) (t := t) hp hn hx f1 hfree f2 f3 f4 hp2.2
  refine lv_pop hx0 hb dX2_note_31 rfl ?_
  exact kk h2 b' H locs hH hbe hR3 (hw.addE hp hn hx)
end NOTE1

