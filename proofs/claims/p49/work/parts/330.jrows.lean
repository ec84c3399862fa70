/-! rows of the law's walks over the joint world -/
theorem jO_rO (O : Nat → Bool) (h : AH) : jO O (rO O h) h = h := by
  refine Prod.ext (funext fun a => ?_) (Prod.ext (funext fun j => funext fun a => ?_) (Prod.ext (funext fun j => funext fun a => ?_) (Prod.ext (funext fun a => ?_) rfl)))
  · show (if O a = true then aK h a else if O a = true then 0 else aK h a) = aK h a
    by_cases z : O a = true
    · rw [if_pos z]
    · rw [if_neg z, if_neg z]
  · exact ite_self _
  · exact ite_self _
  · exact ite_self _
theorem JW.obj {E : Nat} {h : AH} {b : BA} {c : MM} {L : LNum} {M : LRef} (hJ : JW E h b c L M) : aK h (b 14 0) = 14 := hJ.1.kind (K := 14) (i := 0) rfl
section JROWS
variable {p : Program} {l : Launch} {e : Env} {R : Room} {s : State} {m9 : MethodId} {args : Array Value} {below : List Frame} {meth : Method} {c9 : Code} {H : Heap} {locs : List Loc} {cells slots : Nat} {Q : State → Prop}
variable {cc : ByteArray} {pc nL index : Nat} {ls : Array Slot} {rest stk : List Value} {G : GT} {A : Nat → Prop} {h : AH} {Sc : SCR} {b : BA} {c : MM} {L : LNum} {M : LRef} {o : Nat} {E0 : Nat}
variable {y : MethodName} {bytes : ByteArray} {maxL n fr lo mc ms : Nat} {ret : Option FieldType} {As : List Value} {hh : List (Nat × Nat × Nat × Nat)}
/-- a number of a row -/
theorem j_ld (C0 : CX p l s m9 args meth c9 cc nL "RoutepostLaw" G A) (hH : HS G.1 G.2.1 A s.heap h H locs) (hJ : JW E0 h b c L M) {a k ix : Nat} {f : Nat → Int32} {v : Int32} (e1 : L a = some (k, f)) (hlt : ix < k) (hk : k < 2 ^ 31) (hv : f ix = v) (hdg : decode cc pc = .ok (.iaload, 1))
    (kk : W p l e R s m9 args below meth c9 H locs cells slots Q (F0 m9 (pc + 1) ls (.int v :: rest))) : W p l e R s m9 args below meth c9 H locs cells slots Q (F0 m9 pc ls (.int (nI ix) :: .ref a :: rest)) := by
  obtain ⟨hx, hb, hml, hown, hts, hK, -⟩ := C0
  obtain ⟨x1, x2, x3, -⟩ := hJ.2.1 a k f e1
  exact o_iald hx hb hK hH x1 x2 (vp_in_nI hlt hk) (by rw [nI_clamp (by omega), x3 ix hlt]; exact hv) hdg kk
theorem j_st (C0 : CX p l s m9 args meth c9 cc nL "RoutepostLaw" G A) (hH : HS G.1 G.2.1 A s.heap h H locs) (hJ : JW E0 h b c L M) {a k ix : Nat} {f : Nat → Int32} {x : Int32} (e1 : L a = some (k, f)) (hlt : ix < k) (hk : k < 2 ^ 31) (hdg : decode cc pc = .ok (.iastore, 1))
    (kk : ∀ (h : AH) (H : Heap) (locs : List Loc), HS G.1 G.2.1 A s.heap h H locs → JW E0 h b c (setL L a k (upF f ix x)) M → W p l e R s m9 args below meth c9 H locs cells slots Q (F0 m9 (pc + 1) ls rest)) : W p l e R s m9 args below meth c9 H locs cells slots Q (F0 m9 pc ls (.int x :: .int (nI ix) :: .ref a :: rest)) := by
  obtain ⟨hx, hb, hml, hown, hts, hK, -⟩ := C0
  obtain ⟨x1, x2, x3, -⟩ := hJ.2.1 a k f e1
  refine o_iast hx hb hK hH x1 x2 (vp_in_nI hlt hk) hdg (fun H1 locs1 hH1 => kk _ H1 locs1 hH1 ?_)
  rw [nI_clamp (by omega)]
  exact hJ.st e1
/-- an int[] is made -/
theorem j_new (C0 : CX p l s m9 args meth c9 cc nL "RoutepostLaw" G A) (hH : HS G.1 G.2.1 A s.heap h H locs) (hJ : JW E0 h b c L M) {k : Nat} (hk : k ≤ 1000) (hdg : decode cc pc = .ok (.newarray .int, 2)) (hcells : cells + 1 ≤ R.cells) (hslots : slots + k ≤ R.slots)
    (kk : ∀ (q : Nat) (h : AH) (H : Heap) (locs : List Loc), HS G.1 G.2.1 A s.heap h H locs → JW E0 h b c (setL L q k (fun _ => 0)) M → L q = none → M q = none → (∀ K i, ok c K i → b K i ≠ q) → W p l e R s m9 args below meth c9 H locs (cells + 1) (slots + k) Q (F0 m9 (pc + 2) ls (.ref q :: rest))) : W p l e R s m9 args below meth c9 H locs cells slots Q (F0 m9 pc ls (.int (nI k) :: rest)) := by
  refine o_newP (t0 := 0) (K := 20) C0 hH ac_int rfl rfl (by omega) (by omega) (N' := k) (fun _ => rfl) (nI_pos (by omega)) (nI_clamp (by omega)) (by show k * 4 ≤ 536870912; omega) hcells hslots hdg (fun q H1 hq hH1 => ?_)
  obtain ⟨g1, g2, g3⟩ := hJ.newL (n := k) hq
  exact kk q _ H1 locs hH1 g1 g2 g3 (fun K i hk => hJ.1.free hq hk)
/-- an asking of the class that changes nothing -/
theorem j_q0 {X : Option String} {R9 v : Int32} (C0 : CX p l s m9 args meth c9 cc nL "RoutepostLaw" G A) (hH : HS G.1 G.2.1 A s.heap h H locs) (hJ : JW E0 h b c L M) (ho : b 14 0 = o)
    (cX : cxI l G (aO A (oLM L M)) y bytes maxL ret fr lo 0 0 (.ref (b 14 0) :: As) (rO (oLM L M) h) (fun r h1 => X = none ∧ r = R9 ∧ h1 = rO (oLM L M) h) (fun E h1 => X = some E ∧ h1 = rO (oLM L M) h)) (hX : X = none) (hv : R9 = v) (mv : MV y bytes maxL ret n "Routepost") (hl : Cond.methodLink "RoutepostLaw" index y ∈ lw_all) (hAs : As.length = n) (hR : fr + 1 ≤ R.frames ∧ 8 + (maxL + 11) + lo ≤ R.locals) (hls : ls.size = nL) (hstk : stk = As.reverse ++ .ref o :: rest) (hst : (rest.map fun v => v.category).sum ≤ 8) (hdg : decode cc pc = .ok (.invokevirtual index, 3)) (hf : cells ≤ R.cells ∧ slots ≤ R.slots)
    (kk : ∀ (H : Heap) (locs : List Loc), HS G.1 G.2.1 A s.heap h H locs → W p l e R s m9 args below meth c9 H locs cells slots Q (F0 m9 (pc + 3) ls (.int v :: rest))) : W p l e R s m9 args below meth c9 H locs cells slots Q (F0 m9 pc ls stk) := by
  subst ho
  refine k_fxi (rest := rest) hH (k_fX C0 hH hJ.own cX mv hl ci_14 hJ.obj hAs hR hls hstk hst hdg hf) (fun E ce q9 h1 H1 locs1 hx1 _ _ _ _ _ => ?_) (fun r h1 H1 locs1 hp hH1 _ => ?_)
  · exact absurd (hX.symm.trans hx1.1) (fun z => nomatch z)
  · obtain ⟨-, e1, e2⟩ := hp
    rw [e2, jO_rO] at hH1
    rw [e1, hv]
    exact kk H1 locs1 hH1
theorem j_q0m {R9 v : Int32} (C0 : CX p l s m9 args meth c9 cc nL "RoutepostLaw" G A) (hH : HS G.1 G.2.1 A s.heap h H locs) (hJ : JW E0 h b c L M) (ho : b 14 0 = o)
    (cX : cmI l G (aO A (oLM L M)) y bytes maxL ret fr lo 0 0 (.ref (b 14 0) :: As) (rO (oLM L M) h) (fun r h1 => r = R9 ∧ h1 = rO (oLM L M) h)) (hv : R9 = v) (mv : MV y bytes maxL ret n "Routepost") (hl : Cond.methodLink "RoutepostLaw" index y ∈ lw_all) (hAs : As.length = n) (hR : fr + 1 ≤ R.frames ∧ 8 + (maxL + 11) + lo ≤ R.locals) (hls : ls.size = nL) (hstk : stk = As.reverse ++ .ref o :: rest) (hst : (rest.map fun v => v.category).sum ≤ 8) (hdg : decode cc pc = .ok (.invokevirtual index, 3)) (hf : cells ≤ R.cells ∧ slots ≤ R.slots)
    (kk : ∀ (H : Heap) (locs : List Loc), HS G.1 G.2.1 A s.heap h H locs → W p l e R s m9 args below meth c9 H locs cells slots Q (F0 m9 (pc + 3) ls (.int v :: rest))) : W p l e R s m9 args below meth c9 H locs cells slots Q (F0 m9 pc ls stk) := by
  subst ho
  refine k_fi (rest := rest) hH (k_fV C0 hH hJ.own cX mv hl ci_14 hJ.obj hAs hR hls hstk hst hdg hf) (fun r h1 H1 locs1 hp hH1 _ => ?_)
  obtain ⟨e1, e2⟩ := hp
  rw [e2, jO_rO] at hH1
  rw [e1, hv]
  exact kk H1 locs1 hH1
/-- .. that changes the class's state -/
theorem j_q1 {X : Option String} {v : Int32} {P : Int32 → AH → Prop} {xp : String → AH → Prop} {c' : MM} (C0 : CX p l s m9 args meth c9 cc nL "RoutepostLaw" G A) (hH : HS G.1 G.2.1 A s.heap h H locs) (hJ : JW E0 h b c L M) (ho : b 14 0 = o)
    (cX : cxI l G (aO A (oLM L M)) y bytes maxL ret fr lo mc ms (.ref (b 14 0) :: As) (rO (oLM L M) h) P xp) (hv : ∀ r h1, P r h1 → r = v ∧ ∃ b', b' 14 0 = b 14 0 ∧ RC E0 h1 b' c' ∧ WFc c') (hx9 : ∀ E h1, ¬ xp E h1) (mv : MV y bytes maxL ret n "Routepost") (hl : Cond.methodLink "RoutepostLaw" index y ∈ lw_all) (hAs : As.length = n) (hR : fr + 1 ≤ R.frames ∧ 8 + (maxL + 11) + lo ≤ R.locals) (hls : ls.size = nL) (hstk : stk = As.reverse ++ .ref o :: rest) (hst : (rest.map fun v => v.category).sum ≤ 8) (hdg : decode cc pc = .ok (.invokevirtual index, 3)) (hf : cells + mc ≤ R.cells ∧ slots + ms ≤ R.slots)
    (kk : ∀ (h : AH) (b : BA) (H : Heap) (locs : List Loc), HS G.1 G.2.1 A s.heap h H locs → JW E0 h b c' L M → b 14 0 = o → WFc c' → W p l e R s m9 args below meth c9 H locs (cells + mc) (slots + ms) Q (F0 m9 (pc + 3) ls (.int v :: rest))) : W p l e R s m9 args below meth c9 H locs cells slots Q (F0 m9 pc ls stk) := by
  subst ho
  refine k_fxi (rest := rest) hH (k_fX C0 hH hJ.own cX mv hl ci_14 hJ.obj hAs hR hls hstk hst hdg hf) (fun E ce q9 h1 H1 locs1 hx1 _ _ _ _ _ => absurd hx1 (hx9 E h1)) (fun r h1 H1 locs1 hp hH1 hq1 => ?_)
  obtain ⟨e1, b', e2, e3, e4⟩ := hv r h1 hp
  rw [e1]
  exact kk _ b' H1 locs1 hH1 (hJ.back e3 hq1) e2 e4
/-- a wrapper's asking that changes nothing -/
theorem j_w0 {v : Int32} {P : Int32 → AH → Prop} {xp : String → AH → Prop} {nms : List (String × Int32)} (C0 : CX p l s m9 args meth c9 cc nL "RoutepostLaw" G A) (hN : LX Sc A s) (hH : HS G.1 G.2.1 A s.heap h H locs) (ho : b 14 0 = o)
    (hM : lhI l Sc G A y bytes maxL ret hh fr lo mc ms (.ref (b 14 0) :: As) h (fun r h' => ∃ h1, (P r h1 ∨ ∃ E, xp E h1 ∧ r = kdL E nms) ∧ h' = jO (oLM L M) h1 h ∧ ∀ q, aK h1 q ≠ 0 → oLM L M q = false)) (hv : ∀ r h1, (P r h1 ∨ ∃ E, xp E h1 ∧ r = kdL E nms) → r = v ∧ h1 = rO (oLM L M) h) (mv : MSH y bytes maxL ret hh n) (hl : Cond.methodLink "RoutepostLaw" index y ∈ lw_all) (hAs : As.length + 1 = n) (hR : fr + 1 ≤ R.frames ∧ 8 + (maxL + 11) + lo ≤ R.locals) (hls : ls.size = nL) (hstk : stk = As.reverse ++ .ref o :: rest) (hst : (rest.map fun v => v.category).sum ≤ 8) (hdg : decode cc pc = .ok (.invokestatic index, 3)) (hf : cells + mc ≤ R.cells ∧ slots + ms ≤ R.slots)
    (kk : ∀ (H : Heap) (locs : List Loc), HS G.1 G.2.1 A s.heap h H locs → W p l e R s m9 args below meth c9 H locs (cells + mc) (slots + ms) Q (F0 m9 (pc + 3) ls (.int v :: rest))) : W p l e R s m9 args below meth c9 H locs cells slots Q (F0 m9 pc ls stk) := by
  subst ho
  refine k_i hH (k_lW (rest := rest) C0 hN hH hM mv hl hAs hR hls (by rw [hstk, List.reverse_cons, List.append_assoc]; rfl) hst hdg hf) (fun r h' H1 locs1 hp hH1 => ?_)
  obtain ⟨h1, g1, g2, -⟩ := hp
  obtain ⟨e1, e2⟩ := hv r h1 g1
  rw [g2, e2, jO_rO] at hH1
  rw [e1]
  exact kk H1 locs1 hH1
theorem j_w1 {v : Int32} {P : Int32 → AH → Prop} {xp : String → AH → Prop} {nms : List (String × Int32)} {c' : MM} (C0 : CX p l s m9 args meth c9 cc nL "RoutepostLaw" G A) (hN : LX Sc A s) (hH : HS G.1 G.2.1 A s.heap h H locs) (hJ : JW E0 h b c L M) (ho : b 14 0 = o)
    (hM : lhI l Sc G A y bytes maxL ret hh fr lo mc ms (.ref (b 14 0) :: As) h (fun r h' => ∃ h1, (P r h1 ∨ ∃ E, xp E h1 ∧ r = kdL E nms) ∧ h' = jO (oLM L M) h1 h ∧ ∀ q, aK h1 q ≠ 0 → oLM L M q = false)) (hv : ∀ r h1, (P r h1 ∨ ∃ E, xp E h1 ∧ r = kdL E nms) → r = v ∧ ∃ b', b' 14 0 = b 14 0 ∧ RC E0 h1 b' c' ∧ WFc c') (mv : MSH y bytes maxL ret hh n) (hl : Cond.methodLink "RoutepostLaw" index y ∈ lw_all) (hAs : As.length + 1 = n) (hR : fr + 1 ≤ R.frames ∧ 8 + (maxL + 11) + lo ≤ R.locals) (hls : ls.size = nL) (hstk : stk = As.reverse ++ .ref o :: rest) (hst : (rest.map fun v => v.category).sum ≤ 8) (hdg : decode cc pc = .ok (.invokestatic index, 3)) (hf : cells + mc ≤ R.cells ∧ slots + ms ≤ R.slots)
    (kk : ∀ (h : AH) (b : BA) (H : Heap) (locs : List Loc), HS G.1 G.2.1 A s.heap h H locs → JW E0 h b c' L M → b 14 0 = o → WFc c' → W p l e R s m9 args below meth c9 H locs (cells + mc) (slots + ms) Q (F0 m9 (pc + 3) ls (.int v :: rest))) : W p l e R s m9 args below meth c9 H locs cells slots Q (F0 m9 pc ls stk) := by
  subst ho
  refine k_i hH (k_lW (rest := rest) C0 hN hH hM mv hl hAs hR hls (by rw [hstk, List.reverse_cons, List.append_assoc]; rfl) hst hdg hf) (fun r h' H1 locs1 hp hH1 => ?_)
  obtain ⟨h1, g1, g2, g3⟩ := hp
  obtain ⟨e1, b', e2, e3, e4⟩ := hv r h1 g1
  rw [g2] at hH1
  rw [e1]
  exact kk _ b' H1 locs1 hH1 (hJ.back e3 g3) e2 e4
/-- a number of the script -/
theorem j_scr (C0 : CX p l s m9 args meth c9 cc nL "RoutepostLaw" G A) (hN : LX Sc A s) (hH : HS G.1 G.2.1 A s.heap h H locs) {i : Int32} (hin : vp_in i Sc.2.1) (hdg : decode cc pc = .ok (.iaload, 1))
    (kk : W p l e R s m9 args below meth c9 H locs cells slots Q (F0 m9 (pc + 1) ls (.int (Sc.2.2 i.toNatClampNeg) :: rest))) : W p l e R s m9 args below meth c9 H locs cells slots Q (F0 m9 pc ls (.int i :: .ref Sc.1 :: rest)) := by
  obtain ⟨hx, hb, -⟩ := C0
  exact va_ti hx hb hN.2.1 hH.2 hin rfl hdg kk
theorem j_slen (C0 : CX p l s m9 args meth c9 cc nL "RoutepostLaw" G A) (hN : LX Sc A s) (hH : HS G.1 G.2.1 A s.heap h H locs) (hdg : decode cc pc = .ok (.arraylength, 1))
    (kk : W p l e R s m9 args below meth c9 H locs cells slots Q (F0 m9 (pc + 1) ls (.int (nI Sc.2.1) :: rest))) : W p l e R s m9 args below meth c9 H locs cells slots Q (F0 m9 pc ls (.ref Sc.1 :: rest)) := by
  obtain ⟨hx, hb, -⟩ := C0
  exact va_tlen hx hb hN.2.1 hH.2 rfl hdg kk
end JROWS
