/-! contracts that answer a float, a double -/
abbrev cmF (l : Launch) (G : GT) (A : Nat → Prop) (y : MethodName) (b : ByteArray) (n : Nat) (ret : Option FieldType) (fr lo mc ms : Nat) (av : List Value) (h : AH) (post : UInt32 → AH → Prop) : Prop := Met l y (ws_ y b n ret) (rmm fr lo mc ms) (va_Pc av (WP G A h)) (va_Qf post (fun h' t => HW G.1 G.2.1 A h' t.heap) A) mc ms A
abbrev cmD (l : Launch) (G : GT) (A : Nat → Prop) (y : MethodName) (b : ByteArray) (n : Nat) (ret : Option FieldType) (fr lo mc ms : Nat) (av : List Value) (h : AH) (post : UInt64 → AH → Prop) : Prop := Met l y (ws_ y b n ret) (rmm fr lo mc ms) (va_Pc av (WP G A h)) (va_Qd post (fun h' t => HW G.1 G.2.1 A h' t.heap) A) mc ms A
section CALLS2
variable {p : Program} {l : Launch} {e : Env} {R : Room} {s : State} {m : MethodId} {args : Array Value} {below : List Frame} {meth : Method} {c : Code} {H : Heap} {locs : List Loc} {cells slots : Nat} {Q : State → Prop}
variable {cc : ByteArray} {pc nL : Nat} {ls : Array Slot} {rest stk : List Value} {G : GT} {A : Nat → Prop} {h : AH} {own : String} {mc ms : Nat}
theorem e_F {post : UInt32 → AH → Prop} {v : UInt32} (C0 : CX p l s m args meth c cc nL own G A) (hr : meth.sig.returnType = some .float) (hH : HS G.1 G.2.1 A s.heap h H locs) (hp : post v h) (hc : cells ≤ mc) (hs : slots ≤ ms) (hdg : decode cc pc = .ok (.freturn, 1)) : W p l e R s m args below meth c H locs cells slots (MQ below (va_Qf post (fun h' t => HW G.1 G.2.1 A h' t.heap) A) args s mc ms A) (F0 m pc ls [.float v]) := by
  obtain ⟨hx, hb, hml, hown, hts, hK, hA, hG, hG2, hlocks⟩ := C0
  refine W.widen hc hs ?_
  exact W.fret hx hb hr (fun t ht hW => ⟨⟨v, h, rfl, hp, by show HW G.1 G.2.1 A h t.heap; rw [ht]; exact hH.1⟩, hH.2.F ht⟩) hH.2.2.2 hdg
theorem e_D {post : UInt64 → AH → Prop} {v : UInt64} (C0 : CX p l s m args meth c cc nL own G A) (hr : meth.sig.returnType = some .double) (hH : HS G.1 G.2.1 A s.heap h H locs) (hp : post v h) (hc : cells ≤ mc) (hs : slots ≤ ms) (hdg : decode cc pc = .ok (.dreturn, 1)) : W p l e R s m args below meth c H locs cells slots (MQ below (va_Qd post (fun h' t => HW G.1 G.2.1 A h' t.heap) A) args s mc ms A) (F0 m pc ls [.double v]) := by
  obtain ⟨hx, hb, hml, hown, hts, hK, hA, hG, hG2, hlocks⟩ := C0
  refine W.widen hc hs ?_
  exact W.dret hx hb hr (fun t ht hW => ⟨⟨v, h, rfl, hp, by show HW G.1 G.2.1 A h t.heap; rw [ht]; exact hH.1⟩, hH.2.F ht⟩) hH.2.2.2 hdg
end CALLS2

