/-! the object is made -/
def JW0 (h : AH) (L : LNum) (M : LRef) : Prop :=
  (∀ a n f, L a = some (n, f) → aK h a = 20 ∧ aN h a = n ∧ ∀ i, i < n → aI h i a = f i) ∧ ∀ a n f, M a = some (n, f) → aK h a = 32 ∧ aN h a = n ∧ ∀ i, i < n → aR h i a = f i
theorem JW0.own {h : AH} {L : LNum} {M : LRef} (hJ : JW0 h L M) : ∀ q, oLM L M q = true → aK h q ≠ 0 := fun q hq => by
  rcases oLM_t hq with ⟨n, f, e⟩ | ⟨n, f, e⟩
  · rw [(hJ.1 q n f e).1]; decide
  · rw [(hJ.2 q n f e).1]; decide
theorem JW0.make {E : Nat} {h h1 : AH} {b1 : BA} {c1 : MM} {L : LNum} {M : LRef} (hJ : JW0 h L M) (hR : RC E h1 b1 c1) (hq : ∀ q, aK h1 q ≠ 0 → oLM L M q = false) : JW E (jO (oLM L M) h1 h) b1 c1 L M := by
  have hoff : ∀ K i, ok c1 K i → oLM L M (b1 K i) = false := fun K i hk => hq _ (by rw [hR.kind hk]; exact RC.pos hk)
  refine ⟨hR.same (P := fun y => oLM L M y = true) (fun y hy => ⟨if_neg hy, fun _ => if_neg hy, fun _ => if_neg hy, if_neg hy⟩) (fun K i hk => ff_nt (hoff K i hk)), fun a n f e => ?_, fun a n f e => ?_⟩
  · obtain ⟨x1, x2, x3⟩ := hJ.1 a n f e
    have z := oLM_L (M := M) e
    refine ⟨by rw [aK_jO, if_pos z]; exact x1, by rw [aN_jO, if_pos z]; exact x2, fun i hi => by rw [aI_jO, if_pos z]; exact x3 i hi, fun K i hk y => ?_⟩
    have := hoff K i hk
    rw [y, z] at this
    cases this
  · obtain ⟨x1, x2, x3⟩ := hJ.2 a n f e
    have z := oLM_M (L := L) e
    exact ⟨by rw [aK_jO, if_pos z]; exact x1, by rw [aN_jO, if_pos z]; exact x2, fun i hi => by rw [aR_jO, if_pos z]; exact x3 i hi⟩
theorem JW0.pN {h : AH} {L : LNum} {M : LRef} (hJ : JW0 h L M) {q : Nat} (hq : aK h q = 0) : JW0 (pN h q 14 0) L M ∧ oLM L M q = false := by
  refine ⟨⟨fun a n f e => ?_, fun a n f e => ?_⟩, ?_⟩
  · obtain ⟨y1, y2, y3⟩ := hJ.1 a n f e
    have z : a ≠ q := fun w => by rw [w, hq] at y1; cases y1
    exact ⟨by rw [aK_pN, if_neg z]; exact y1, by rw [aN_pN, if_neg z]; exact y2, fun k hk => by rw [aI_pN, if_neg z]; exact y3 k hk⟩
  · obtain ⟨y1, y2, y3⟩ := hJ.2 a n f e
    have z : a ≠ q := fun w => by rw [w, hq] at y1; cases y1
    exact ⟨by rw [aK_pN, if_neg z]; exact y1, by rw [aN_pN, if_neg z]; exact y2, fun k hk => by rw [aR_pN, if_neg z]; exact y3 k hk⟩
  · cases z : oLM L M q with
    | false => rfl
    | true => exact absurd hq (hJ.own q z)
section NEWOBJ
variable {p : Program} {l : Launch} {e : Env} {R : Room} {s : State} {m : MethodId} {args : Array Value} {below : List Frame} {meth : Method} {c : Code} {H : Heap} {locs : List Loc} {cells slots : Nat} {Q : State → Prop}
variable {cc : ByteArray} {pc nL index : Nat} {ls : Array Slot} {rest : List Value} {G : GT} {A : Nat → Prop} {h : AH} {L : LNum} {M : LRef} {a : Nat}
theorem j_init (C0 : CX p l s m args meth c cc nL "RoutepostLaw" G A) (hH : HS G.1 G.2.1 A s.heap h H locs) (h0 : JW0 h L M) (ka : aK h a = 14) (ha : oLM L M a = false) (hl : Cond.methodLink "RoutepostLaw" index yX10_init ∈ lw_all) (hR : 9 ≤ R.frames ∧ 8 + (1 + 11) + 220 ≤ R.locals) (hls : ls.size = nL) (hst : (rest.map fun v => v.category).sum ≤ 8) (hdg : decode cc pc = .ok (.invokespecial index, 3)) (hf : cells + 3000 ≤ R.cells ∧ slots + 12000 ≤ R.slots)
    (kk : ∀ (h : AH) (b : BA) (cap : Nat) (H : Heap) (locs : List Loc), HS G.1 G.2.1 A s.heap h H locs → JW G.2.2.1 h b (c00 cap) L M → b 14 0 = a → WFc (c00 cap) → W p l e R s m args below meth c H locs (cells + 3000) (slots + 12000) Q (F0 m (pc + 3) ls rest)) : W p l e R s m args below meth c H locs cells slots Q (F0 m pc ls (.ref a :: rest)) := by
  have hw := fun U hU hW => WP.atO C0 hH h0.own U hU hW
  have hM := cC_X10_init l G (aO A (oLM L M)) (rO (oLM L M) h) a (by rw [aK_rO, ha]; exact ka)
  have mv := mv_X10_init
  obtain ⟨hx, hb, hml, hown, hts, -⟩ := C0
  have hr := va_runI (e := e) (below := below) (meth := meth) (locs := locs) (rest := rest) ⟨hx, hb, hml, hown, hts⟩ hM (cwI 0 hts (ws_good mv.1) rfl rfl rfl (hts _ mv.2.2.1) (hts _ hl) (hts _ mv.2.1) mv.2.2.2.1 mv.2.2.2.2 hR) ⟨WP.blind, fun U hU hW => ⟨rfl, hw U hU hW⟩⟩ rfl rfl hls rfl (lv_room hst) hdg hf
  refine va_callv hr hH.2 (fun _ _ q => q.1) (fun _ q => q.1) (fun h1 t H1 locs1 ht hvm hp hB hz hk hS1 => ?_)
  rw [ht] at hB
  obtain ⟨hj1, hj2⟩ := hs_join hH hB hk hS1
  obtain ⟨b, cap, e1, e2, e3⟩ := RC.c0 hp
  exact kk _ b cap H1 locs1 hj1 (h0.make e2 hj2) e1 e3
end NEWOBJ
