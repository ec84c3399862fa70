/-! reading lists, comparing references, calls of methods that throw -/
theorem cL_get (l : Launch) (G : GT) (A : Nat → Prop) (h : AH) (b : BA) (u : MM) (hR : RC G.2.2.1 h b u) (hw : WFc u) (q i : Nat) (hq : ok u 3 q) (hi : i < szN u q) {a : Nat} (ha : b (elK q) (elI u q i) = a) : cmQ l G A yJx4a65c_get_915e3 cJx4a65c_get_915e3 2 (Option.some (FieldType.object "java/lang/Object")) 2 43 0 0 [.ref (b 3 q), .int (nI i)] h (fun r h' => r = some a ∧ h' = h) := by
  obtain ⟨h1, h2, h3, h4, h5, h6, h7⟩ := hR.lsh hw hq
  obtain ⟨k1, k2, k3⟩ := h7 (by omega)
  have e : aR h i (arrQ G.2.2.1 b u q) = some a := by
    unfold arrQ
    rw [if_neg (by omega), ((hR.ls hq).2 (by omega)).2.2 i hi, ha]
  have := cJ_Jx4a65c_get_915e3 l G A h (b 3 q) (arrQ G.2.2.1 b u q) (capN u q) (szN u q) i h1 h2 h3 k1 k2 hi h4 (by omega)
  rw [e] at this
  exact this
theorem RC.acR {E : Nat} {h : AH} {b : BA} {u : MM} (hR : RC E h b u) (hw : WFc u) {T i j : Nat} (hT : T = 7 ∨ T = 8 ∨ T = 9) (hi : i < cnt u T) (hj : j < cnt u T) : ((some (b T i) : Option Nat) = some (b T j)) ↔ nI i = nI j := by
  have := hw.cnt6 T
  refine ⟨fun e => by rw [hR.inj ((ok_cnt hT).mpr hi) ((ok_cnt hT).mpr hj) (Option.some.inj e)], fun e => by rw [(nI_eq (by omega) (by omega)).mp e]⟩
theorem RC.acQ {E : Nat} {h : AH} {b : BA} {u : MM} (hR : RC E h b u) (hw : WFc u) {T j : Nat} (hT : T = 7 ∨ T = 8 ∨ T = 9) {x : Int32} (hx : RG u T x) (hj : j < cnt u T) : (dec b T x = some (b T j)) ↔ x = nI j := by
  have := hw.cnt6 T
  rw [← dec_nI (b := b) (T := T) (i := j) (by omega)]
  exact hR.deq hw hT hx (RG_v hj (hw.cnt6 T))
theorem nI_nm {v : Nat} (h : v < 2 ^ 31) : ¬ nI v = -1 := by
  intro e
  have := nI_pos h
  rw [e] at this
  exact this (by decide)
section XCALL
variable {p : Program} {l : Launch} {e : Env} {R : Room} {s : State} {m : MethodId} {args : Array Value} {below : List Frame} {meth : Method} {c : Code} {H : Heap} {locs : List Loc} {cells slots : Nat} {Q : State → Prop}
variable {ls : Array Slot} {rest : List Value} {a : Array Value} {A0 A1 : Nat → Prop} {H0 : Heap} {pc mc ms : Nat} {st0 : List Value} {free : Addr → Prop}
theorem vx_callq {S SX : Type} {post : Option Nat → S → Prop} {px : SX → Prop} {B : S → State → Prop} {BX : String → SX → State → Prop} {AX : Nat → Prop} (hr : vx_Run p l e R s m args below meth c H locs cells slots mc ms (F0 m pc ls st0) rest (va_Qq post B A1 a) (vx_X px BX AX) free) (hS : va_S A0 H0 H locs) (hA : ∀ q, q < H.size → A1 q → A0 q) (hf : ∀ q, free q → A0 q) (hAX : ∀ q, q < H.size → AX q → A0 q)
    (kx : ∀ (E : String) (ce : Cell) (q9 : Addr) (u : SX) (t : State) (H1 : Heap) (locs1 : List Loc), t.heap = H1 → s.vm.Alike t.vm → px u → BX E u t → H.size ≤ H1.size → (∀ q : Nat, q < H.size → ¬ AX q → H1[q]? = H[q]?) → va_S A0 H0 H1 locs1 → H1[q9]? = some ce → ce.vm = .none → s.vm.findClass E = some ce.cls → vx_W p l e R s m args below meth c H1 locs1 (cells + mc) (slots + ms) Q (F0 m pc ls rest) q9)
    (kk : ∀ (r : Option Nat) (u : S) (t : State) (H1 : Heap) (locs1 : List Loc), t.heap = H1 → s.vm.Alike t.vm → post r u → B u t → H.size ≤ H1.size → (∀ q : Nat, q < H.size → ¬ A1 q → H1[q]? = H[q]?) → va_S A0 H0 H1 locs1 → W p l e R s m args below meth c H1 locs1 (cells + mc) (slots + ms) Q (F0 m (pc + 3) ls (va_rf r :: rest))) : W p l e R s m args below meth c H locs cells slots Q (F0 m pc ls st0) := by
  intro T hT X
  rcases hr T hT X with ⟨v, st₀, t, T', L, h0, X', hL, e1, e2, ⟨⟨r, u, hv, hp, hb⟩, hF⟩, st⟩ | ⟨q, st₀, t, T', L, E, ce, h0, X', hL, e1, e2, ⟨u, hp, hb, hF⟩, hce, hcv, hcl, st⟩
  · cases hv
    obtain ⟨k1, k2, k3⟩ := vx_keep h0 e1 hS hA hf hL hF
    obtain ⟨t2, a1, b1⟩ := kk r u t T'.heap (locs ++ L) e1.symm (by rw [← e2]; exact X'.warmed.alike) hp hb k1 k2 k3 T' rfl X'
    exact ⟨t2, st t2 a1, b1⟩
  · obtain ⟨k1, k2, k3⟩ := vx_keep h0 e1 hS hAX hf hL hF
    obtain ⟨t2, a1, b1⟩ := kx E ce q u t T'.heap (locs ++ L) e1.symm (by rw [← e2]; exact X'.warmed.alike) hp hb k1 k2 k3 (by rw [e1]; exact hce) hcv hcl T' rfl X'
    exact ⟨t2, st.trans a1, b1⟩
end XCALL
section XC2
variable {p : Program} {l : Launch} {e : Env} {R : Room} {s : State} {m : MethodId} {args : Array Value} {below : List Frame} {meth : Method} {c : Code} {H : Heap} {locs : List Loc} {cells slots : Nat} {Q : State → Prop}
variable {cc : ByteArray} {pc nL index : Nat} {ls : Array Slot} {rest stk : List Value} {G : GT} {A : Nat → Prop} {h : AH} {own : String}
variable {y : MethodName} {bytes : ByteArray} {maxL n fr lo mc ms MC MS : Nat} {ret : Option FieldType} {Qc Qd : Array Value → State → Outcome → State → Prop} {XC : String → State → State → Prop} {As : List Value} {b K N : Nat} {C : String} {T : u_T} {ty : Nat → FieldType} {xp xp' : String → AH → Prop}
theorem k_xrunV (C0 : CX p l s m args meth c cc nL own G A) (hH : HS G.1 G.2.1 A s.heap h H locs) (hM : vx_Met l y (ws_ y bytes maxL ret) (rmm fr lo mc ms) (va_Pc (.ref b :: As) (WP G A h)) Qc XC mc ms A) (mv : MV y bytes maxL ret n C) (hl : Cond.methodLink own index y ∈ lw_all) (hC : CI K C T ty N) (hk : aK h b = K) (hAs : As.length = n) (hR : fr + 1 ≤ R.frames ∧ 8 + (maxL + 11) + lo ≤ R.locals) (hls : ls.size = nL) (hstk : stk = As.reverse ++ .ref b :: rest) (hst : (rest.map fun v => v.category).sum ≤ 8) (hdg : decode cc pc = .ok (.invokevirtual index, 3)) (hf : cells + mc ≤ R.cells ∧ slots + ms ≤ R.slots) :
    vx_Run p l e R s m args below meth c H locs cells slots mc ms (F0 m pc ls stk) rest (Qc (Value.ref b :: As).toArray) XC A := by
  have hr := k_recv C0 hH hC hk
  have hw := fun U hU hW => WP.at C0 hH U hU hW
  obtain ⟨hx, hb, hml, hown, hts, -⟩ := C0
  exact vx_runV (C := C) ⟨hx, hb, hml, hown, hts⟩ hM (cwV n hts (mv.good hl) rfl rfl rfl ⟨mv.2.2.2.2.1, mv.2.2.2.2.2⟩ hR) ⟨WP.blind, hr, fun U hU hW => ⟨rfl, hw U hU hW⟩⟩ rfl hAs hls hstk (lv_room hst) hdg hf
theorem k_xq {post : Option Nat → AH → Prop} {a : Array Value} (C0 : CX p l s m args meth c cc nL own G A) (hxt : ∀ x ∈ c.exceptionTable.toList, False) (hH : HS G.1 G.2.1 A s.heap h H locs) (hr : vx_Run p l e R s m args below meth c H locs cells slots mc ms (F0 m pc ls stk) rest (va_Qq post (fun h' t => HW G.1 G.2.1 A h' t.heap) A a) (xcP G A xp) A) (hxp : ∀ E h', xp E h' → xp' E h') (hc : cells + mc ≤ MC) (hs : slots + ms ≤ MS)
    (kk : ∀ (r : Option Nat) (h' : AH) (H1 : Heap) (locs1 : List Loc), post r h' → HS G.1 G.2.1 A s.heap h' H1 locs1 → W p l e R s m args below meth c H1 locs1 (cells + mc) (slots + ms) (vx_MQ below Qd (xcP G A xp') args s MC MS A) (F0 m (pc + 3) ls (va_rf r :: rest))) : W p l e R s m args below meth c H locs cells slots (vx_MQ below Qd (xcP G A xp') args s MC MS A) (F0 m pc ls stk) := by
  obtain ⟨-, -, -, -, -, -, -, -, -, hlocks⟩ := C0
  exact vx_callq hr hH.2 (fun _ _ q => q) (fun _ q => q) (fun _ _ q => q) (fun E ce q9 u t H1 locs1 ht hvm _ hB hz hk hS1 hce hcv hcl => vx_out (fun x h => (hxt x h).elim) hlocks hce hcv hcl (fun t' ht' hW' => ⟨u, trivial, ⟨hxp E u hB.1, by rw [ht', ← ht]; exact hB.2⟩, hS1.F ht'⟩) hS1.2.2 hc hs)
    (fun r h' t H1 locs1 ht hvm hp hB hz hk hS1 => kk r h' H1 locs1 hp ⟨by rw [← ht]; exact hB, hS1⟩)
theorem k_xi {post : Int32 → AH → Prop} {a : Array Value} (C0 : CX p l s m args meth c cc nL own G A) (hxt : ∀ x ∈ c.exceptionTable.toList, False) (hH : HS G.1 G.2.1 A s.heap h H locs) (hr : vx_Run p l e R s m args below meth c H locs cells slots mc ms (F0 m pc ls stk) rest (va_Qi post (fun h' t => HW G.1 G.2.1 A h' t.heap) A a) (xcP G A xp) A) (hxp : ∀ E h', xp E h' → xp' E h') (hc : cells + mc ≤ MC) (hs : slots + ms ≤ MS)
    (kk : ∀ (r : Int32) (h' : AH) (H1 : Heap) (locs1 : List Loc), post r h' → HS G.1 G.2.1 A s.heap h' H1 locs1 → W p l e R s m args below meth c H1 locs1 (cells + mc) (slots + ms) (vx_MQ below Qd (xcP G A xp') args s MC MS A) (F0 m (pc + 3) ls (.int r :: rest))) : W p l e R s m args below meth c H locs cells slots (vx_MQ below Qd (xcP G A xp') args s MC MS A) (F0 m pc ls stk) := by
  obtain ⟨-, -, -, -, -, -, -, -, -, hlocks⟩ := C0
  exact vx_calli hr hH.2 (fun _ _ q => q) (fun _ q => q) (fun _ _ q => q) (fun E ce q9 u t H1 locs1 ht hvm _ hB hz hk hS1 hce hcv hcl => vx_out (fun x h => (hxt x h).elim) hlocks hce hcv hcl (fun t' ht' hW' => ⟨u, trivial, ⟨hxp E u hB.1, by rw [ht', ← ht]; exact hB.2⟩, hS1.F ht'⟩) hS1.2.2 hc hs)
    (fun r h' t H1 locs1 ht hvm hp hB hz hk hS1 => kk r h' H1 locs1 hp ⟨by rw [← ht]; exact hB, hS1⟩)
end XC2

