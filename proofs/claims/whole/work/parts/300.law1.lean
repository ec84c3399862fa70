/-! THE LAW: its static methods, each with a table of handlers, that call the class and lay the answer into a row of one -/
abbrev wsH (y : MethodName) (b : ByteArray) (n : Nat) (hh : List (Nat × Nat × Nat × Nat)) : List Cond := Cond.codeWith y b n (Option.some FieldType.int) hh :: lw_all
def MSW (y : MethodName) (b : ByteArray) (n : Nat) (hh : List (Nat × Nat × Nat × Nat)) (k : Nat) : Prop := Cond.codeWith y b n (Option.some FieldType.int) hh ∈ lw_all ∧ Cond.static y ∈ lw_all ∧ Cond.initialized "RoutepostLaw" ∈ lw_all ∧ y.cls = "RoutepostLaw" ∧ plainM y k
theorem MSW.good {y : MethodName} {b : ByteArray} {n k idx : Nat} {hh : List (Nat × Nat × Nat × Nat)} (h : MSW y b n hh k) (hl : Cond.methodLink "RoutepostLaw" idx y ∈ lw_all) : GoodIn lw_all (va_wsS "RoutepostLaw" idx y (wsH y b n hh)) := by
  intro w hw
  unfold va_wsS at hw
  rcases List.mem_append.mp hw with hw | hw
  · simp only [List.mem_cons, List.not_mem_nil, or_false] at hw
    rcases hw with rfl | rfl | rfl
    · exact lw_good _ hl
    · exact lw_good _ h.2.1
    · rw [h.2.2.2.1]; exact lw_good _ h.2.2.1
  · exact (List.mem_cons.mp hw).elim (fun e => by rw [e]; exact lw_good _ h.1) (fun h => lw_good _ h)
/-- which exceptions are not which; the rows of one -/
def ncL : List (String × String) := [(iseC, iaeC), (iseC, nseC), (iaeC, nseC), (iobC, nseC), (iobC, iseC)]
def LK (cL cD : ClassId) (U : State) : Prop := (ArrOfT U cL .long ∧ ArrOfT U cD .double) ∧ ∀ q ∈ ncL, va_Nc q.1 q.2 U
theorem LK.moved {cL cD : ClassId} {u U : State} (hvm : u.vm.Alike U.vm) (h : LK cL cD u) : LK cL cD U := ⟨⟨arrOfT_moved hvm h.1.1, arrOfT_moved hvm h.1.2⟩, fun q hq => (h.2 q hq).moved hvm⟩
def OC (c : ClassId) (o : Nat) (v : Value) (H : Heap) : Prop := H[o]? = some (arrV c 1 (fun _ => v))
theorem OC.lt {c : ClassId} {o : Nat} {v : Value} {H : Heap} (h : OC c o v H) : o < H.size := (Array.getElem?_eq_some_iff.mp h).1
theorem arrV_one (c : ClassId) (v x : Value) : (arrV c 1 (fun _ => v)).setSlot 0 x = arrV c 1 (fun _ => x) := by
  rw [arrV_store]
  unfold arrV
  congr 1
def WX (G : GT) (A : Nat → Prop) (h : AH) (cL cD c : ClassId) (o : Nat) (v : Value) (U : State) : Prop := WP G A h U ∧ LK cL cD U ∧ OC c o v U.heap ∧ ¬ A o
theorem WX.blind {G : GT} {A : Nat → Prop} {h : AH} {cL cD c : ClassId} {o : Nat} {v : Value} {av : List Value} : FrameBlind (va_Pc av (WX G A h cL cD c o v)) := by
  intro a U g mk q
  obtain ⟨h0, ⟨h1, h2, h3, h4, h5⟩, h6, h7, h8⟩ := q
  exact ⟨h0, ⟨h1, h2, va_K.moved (u := U) (U := U.calling g mk a) (Vm.Alike.refl U.vm) h3, KSv.same (s := U) (U := U.calling g mk a) rfl h4, KSh.moved (u := U) (U := U.calling g mk a) (Vm.Alike.refl U.vm) h5⟩, LK.moved (u := U) (U := U.calling g mk a) (Vm.Alike.refl U.vm) h6, h7, h8⟩
def Aw (A : Nat → Prop) (o : Nat) : Nat → Prop := fun q => A q ∨ q = o
abbrev QW (G : GT) (A : Nat → Prop) (c : ClassId) (o : Nat) (post : Int32 → AH × Value → Prop) : Array Value → State → Outcome → State → Prop := va_Qi post (fun u t => HW G.1 G.2.1 A u.1 t.heap ∧ OC c o u.2 t.heap) (Aw A o)
abbrev cwM (l : Launch) (G : GT) (A : Nat → Prop) (y : MethodName) (b : ByteArray) (n : Nat) (hh : List (Nat × Nat × Nat × Nat)) (fr lo mc ms : Nat) (av : List Value) (h : AH) (cL cD c : ClassId) (o : Nat) (v : Value) (post : Int32 → AH × Value → Prop) : Prop := Met l y (wsH y b n hh) (rmm fr lo mc ms) (va_Pc av (WX G A h cL cD c o v)) (QW G A c o post) mc ms (Aw A o)
/-- a contract out of the walk of its body -/
theorem cw_of {l : Launch} {G : GT} {A : Nat → Prop} {y : MethodName} {b : ByteArray} {n k : Nat} {hh : List (Nat × Nat × Nat × Nat)} {rm : Room} {av : List Value} {h : AH} {cL cD c : ClassId} {o : Nat} {v : Value} {Qc : Array Value → State → Outcome → State → Prop} {mc ms : Nat} {free : Addr → Prop} (hm : MSW y b n hh k) (hlen : (lg_sl av).length ≤ n)
    (body : ∀ (p : Program) (e : Env) (s : State) (m : MethodId) (below : List Frame) (meth : Method) (c9 : Code), CX p l s m av.toArray meth c9 b n "RoutepostLaw" G A → c9.exceptionTable.toList = tableOf hh → meth.sig.returnType = some .int → HS G.1 G.2.1 A s.heap h s.heap [] → LK cL cD s → OC c o v s.heap → ¬ A o → ∀ ls : Array Slot, lv_has ls n (lv_args 0 av) → W p l e rm s m av.toArray below meth c9 s.heap [] 0 0 (MQ below Qc av.toArray s mc ms free) (F0 m 0 ls [])) :
    Met l y (wsH y b n hh) rm (va_Pc av (WX G A h cL cD c o v)) Qc mc ms free := by
  refine va_MetW (cc := b) (maxL := n) (ret := Option.some FieldType.int) (hh := hh) (by rw [hm.2.2.2.1]; decide) rfl ?_
  intro p e s m args below meth c9 s₁ B hml hv
  obtain ⟨rfl, ⟨hA, hH, hK, hG, hG2⟩, h6, h7, h8⟩ := hv
  have hts := atoms_spec (ws := wsH y b n hh) B.pre
  have hown : s.vm.findClass "RoutepostLaw" = some m.cls := by rw [← hm.2.2.2.1]; exact findClass_of_methodNamed B.named
  have hl := lv_entry av (n := n) hlen
  rw [lg_entry_eq]
  exact body p e s m below meth c9 ⟨B.exec, B.bytes, hml, hown, fun w hw => hts w (List.mem_cons_of_mem _ hw), hK, hA, hG, hG2, B.notSynchronized⟩ (vx_table (x := y) B (hts _ List.mem_cons_self)) B.returns ⟨hH, va_S.rf⟩ h6 h7 h8 _ hl
section LAWROWS
variable {p : Program} {l : Launch} {e : Env} {R : Room} {s : State} {m : MethodId} {args : Array Value} {below : List Frame} {meth : Method} {c : Code} {H : Heap} {locs : List Loc} {cells slots : Nat} {Q : State → Prop}
variable {cc : ByteArray} {pc nL index : Nat} {ls : Array Slot} {rest stk : List Value} {G : GT} {A : Nat → Prop} {h : AH} {xp : String → AH → Prop} {mc ms : Nat} {cL cD cA : ClassId} {o : Nat} {v : Value} {post : Int32 → AH × Value → Prop} {hh : List (Nat × Nat × Nat × Nat)}
theorem k_wi {post : Int32 → AH → Prop} {a : Array Value} (hH : HS G.1 G.2.1 A s.heap h H locs) (hr : vx_Run p l e R s m args below meth c H locs cells slots mc ms (F0 m pc ls stk) rest (va_Qi post (fun h' t => HW G.1 G.2.1 A h' t.heap) A a) (xcP G A xp) A)
    (kx : ∀ (E : String) (ce : Cell) (q9 : Addr) (h' : AH) (H1 : Heap) (locs1 : List Loc), xp E h' → HS G.1 G.2.1 A s.heap h' H1 locs1 → H1[q9]? = some ce → ce.vm = .none → s.vm.findClass E = some ce.cls → vx_W p l e R s m args below meth c H1 locs1 (cells + mc) (slots + ms) Q (F0 m pc ls rest) q9)
    (kk : ∀ (r : Int32) (h' : AH) (H1 : Heap) (locs1 : List Loc), post r h' → HS G.1 G.2.1 A s.heap h' H1 locs1 → W p l e R s m args below meth c H1 locs1 (cells + mc) (slots + ms) Q (F0 m (pc + 3) ls (.int r :: rest))) : W p l e R s m args below meth c H locs cells slots Q (F0 m pc ls stk) :=
  vx_calli hr hH.2 (fun _ _ q => q) (fun _ q => q) (fun _ _ q => q) (fun E ce q9 u t H1 locs1 ht hvm _ hB hz hk hS1 hce hcv hcl => kx E ce q9 u H1 locs1 hB.1 ⟨by rw [← ht]; exact hB.2, hS1⟩ hce hcv hcl)
    (fun r h' t H1 locs1 ht hvm hp hB hz hk hS1 => kk r h' H1 locs1 hp ⟨by rw [← ht]; exact hB, hS1⟩)
theorem k_wf {post : UInt32 → AH → Prop} {a : Array Value} (hH : HS G.1 G.2.1 A s.heap h H locs) (hr : vx_Run p l e R s m args below meth c H locs cells slots mc ms (F0 m pc ls stk) rest (va_Qf post (fun h' t => HW G.1 G.2.1 A h' t.heap) A a) (xcP G A xp) A)
    (kx : ∀ (E : String) (ce : Cell) (q9 : Addr) (h' : AH) (H1 : Heap) (locs1 : List Loc), xp E h' → HS G.1 G.2.1 A s.heap h' H1 locs1 → H1[q9]? = some ce → ce.vm = .none → s.vm.findClass E = some ce.cls → vx_W p l e R s m args below meth c H1 locs1 (cells + mc) (slots + ms) Q (F0 m pc ls rest) q9)
    (kk : ∀ (r : UInt32) (h' : AH) (H1 : Heap) (locs1 : List Loc), post r h' → HS G.1 G.2.1 A s.heap h' H1 locs1 → W p l e R s m args below meth c H1 locs1 (cells + mc) (slots + ms) Q (F0 m (pc + 3) ls (.float r :: rest))) : W p l e R s m args below meth c H locs cells slots Q (F0 m pc ls stk) :=
  vx_callf hr hH.2 (fun _ _ q => q) (fun _ q => q) (fun _ _ q => q) (fun E ce q9 u t H1 locs1 ht hvm _ hB hz hk hS1 hce hcv hcl => kx E ce q9 u H1 locs1 hB.1 ⟨by rw [← ht]; exact hB.2, hS1⟩ hce hcv hcl)
    (fun r h' t H1 locs1 ht hvm hp hB hz hk hS1 => kk r h' H1 locs1 hp ⟨by rw [← ht]; exact hB, hS1⟩)
theorem k_wd {post : UInt64 → AH → Prop} {a : Array Value} (hH : HS G.1 G.2.1 A s.heap h H locs) (hr : vx_Run p l e R s m args below meth c H locs cells slots mc ms (F0 m pc ls stk) rest (va_Qd post (fun h' t => HW G.1 G.2.1 A h' t.heap) A a) (xcP G A xp) A)
    (kx : ∀ (E : String) (ce : Cell) (q9 : Addr) (h' : AH) (H1 : Heap) (locs1 : List Loc), xp E h' → HS G.1 G.2.1 A s.heap h' H1 locs1 → H1[q9]? = some ce → ce.vm = .none → s.vm.findClass E = some ce.cls → vx_W p l e R s m args below meth c H1 locs1 (cells + mc) (slots + ms) Q (F0 m pc ls rest) q9)
    (kk : ∀ (r : UInt64) (h' : AH) (H1 : Heap) (locs1 : List Loc), post r h' → HS G.1 G.2.1 A s.heap h' H1 locs1 → W p l e R s m args below meth c H1 locs1 (cells + mc) (slots + ms) Q (F0 m (pc + 3) ls (.double r :: rest))) : W p l e R s m args below meth c H locs cells slots Q (F0 m pc ls stk) :=
  vx_calld hr hH.2 (fun _ _ q => q) (fun _ q => q) (fun _ _ q => q) (fun E ce q9 u t H1 locs1 ht hvm _ hB hz hk hS1 hce hcv hcl => kx E ce q9 u H1 locs1 hB.1 ⟨by rw [← ht]; exact hB.2, hS1⟩ hce hcv hcl)
    (fun r h' t H1 locs1 ht hvm hp hB hz hk hS1 => kk r h' H1 locs1 hp ⟨by rw [← ht]; exact hB, hS1⟩)
/-- the i-th handler takes it -/
theorem k_catch {E : String} {ce : Cell} {q : Addr} {hp hs : List (Nat × Nat × Nat × Nat)} {x : Nat × Nat × Nat × Nat} (C0 : CX p l s m args meth c cc nL "RoutepostLaw" G A) (hK : LK cL cD s) (hT : c.exceptionTable.toList = tableOf (hp ++ x :: hs))
    (hpass : ∀ z ∈ hp, z.2.2.2 ≠ 0 ∧ ∃ nm : String, Cond.classLink "RoutepostLaw" z.2.2.2 nm ∈ lw_all ∧ (E, nm) ∈ ncL) (hx : covers (⟨x.1, x.2.1, x.2.2.1, x.2.2.2⟩ : ExceptionTableEntry) pc = true) (h0 : x.2.2.2 ≠ 0)
    (hlink : Cond.classLink "RoutepostLaw" x.2.2.2 E ∈ lw_all) (hcast : Cond.castable E E ∈ lw_kt) (hcell : H[q]? = some ce) (hv : ce.vm = .none) (hcl : s.vm.findClass E = some ce.cls)
    (kk : W p l e R s m args below meth c H locs cells slots Q (F0 m x.2.2.1 ls [.ref q])) : vx_W p l e R s m args below meth c H locs cells slots Q (F0 m pc ls rest) q := by
  obtain ⟨hx0, hb, hml, hown, hts, hKK, hA, hG, hG2, hlocks⟩ := C0
  refine vx_catch (own := "RoutepostLaw") (name := E) hown (tableOf hp) ⟨x.1, x.2.1, x.2.2.1, x.2.2.2⟩ (tableOf hs) (by rw [hT]; unfold tableOf; rw [List.map_append]; rfl) (fun z hz => ?_) hx h0 (hts _ hlink) (va_Nw.use rfl (hG.1 _ hcast)) hcell hv hcl kk
  obtain ⟨w, hw, e⟩ := List.mem_map.mp hz
  obtain ⟨z1, nm, z2, z3⟩ := hpass w hw
  refine Or.inr ⟨by rw [← e]; exact z1, nm, ?_, hK.2 _ z3⟩
  rw [← e]
  exact hts _ z2
theorem k_last {cA : ClassId} {x : Int64} (C0 : CX p l s m args meth c cc nL "RoutepostLaw" G A) (hH : HS G.1 G.2.1 A s.heap h H locs) (hL : ArrOfT s cA .long) (ho : OC cA o v H) (hoA : ¬ A o) (hdg : decode cc pc = .ok (.lastore, 1))
    (kk : ∀ (H1 : Heap) (locs1 : List Loc), HW G.1 G.2.1 A h H1 → va_S (Aw A o) s.heap H1 locs1 → OC cA o (.long x) H1 → W p l e R s m args below meth c H1 locs1 cells slots Q (F0 m (pc + 1) ls rest)) : W p l e R s m args below meth c H locs cells slots Q (F0 m pc ls (.long x :: .int 0 :: .ref o :: rest)) := by
  obtain ⟨hx0, hb, -⟩ := C0
  obtain ⟨hW, hS⟩ := hH
  refine W.last (j := 0) hx0 hb ho (hL 1 _) (fun q => by cases q) (by show ¬ ((0 : Int32) < 0 ∨ (arrV _ _ _).slots.size ≤ _); rw [arrV_size]; decide) rfl rfl hdg (fun H1 e1 z1 o1 => kk H1 _ (hW.kept (fun q _ hq => o1 q (fun z => hoA (by rw [← z]; exact hq)))) ⟨by rw [z1]; exact hS.1, fun q hq hA => ?_, fun x hx => ?_⟩ ?_)
  · rw [o1 q (fun z => hA (Or.inr z))]
    exact hS.2.1 q hq (fun z => hA (Or.inl z))
  · rcases List.mem_append.mp hx with h1 | h1
    · exact Or.inl (hS.2.2 x h1)
    · rw [List.mem_singleton.mp h1]; exact Or.inr rfl
  · unfold OC
    rw [e1]
    exact congrArg some (arrV_one cA v (.long x))
theorem k_dast {cA : ClassId} {x : UInt64} (C0 : CX p l s m args meth c cc nL "RoutepostLaw" G A) (hH : HS G.1 G.2.1 A s.heap h H locs) (hL : ArrOfT s cA .double) (ho : OC cA o v H) (hoA : ¬ A o) (hdg : decode cc pc = .ok (.dastore, 1))
    (kk : ∀ (H1 : Heap) (locs1 : List Loc), HW G.1 G.2.1 A h H1 → va_S (Aw A o) s.heap H1 locs1 → OC cA o (.double x) H1 → W p l e R s m args below meth c H1 locs1 cells slots Q (F0 m (pc + 1) ls rest)) : W p l e R s m args below meth c H locs cells slots Q (F0 m pc ls (.double x :: .int 0 :: .ref o :: rest)) := by
  obtain ⟨hx0, hb, -⟩ := C0
  obtain ⟨hW, hS⟩ := hH
  refine W.dast (j := 0) hx0 hb ho (hL 1 _) (fun q => by cases q) (by show ¬ ((0 : Int32) < 0 ∨ (arrV _ _ _).slots.size ≤ _); rw [arrV_size]; decide) rfl rfl hdg (fun H1 e1 z1 o1 => kk H1 _ (hW.kept (fun q _ hq => o1 q (fun z => hoA (by rw [← z]; exact hq)))) ⟨by rw [z1]; exact hS.1, fun q hq hA => ?_, fun x hx => ?_⟩ ?_)
  · rw [o1 q (fun z => hA (Or.inr z))]
    exact hS.2.1 q hq (fun z => hA (Or.inl z))
  · rcases List.mem_append.mp hx with h1 | h1
    · exact Or.inl (hS.2.2 x h1)
    · rw [List.mem_singleton.mp h1]; exact Or.inr rfl
  · unfold OC
    rw [e1]
    exact congrArg some (arrV_one cA v (.double x))
theorem OC.kept (ho : OC cA o v s.heap) (hoA : ¬ A o) (hS : va_S A s.heap H locs) : OC cA o v H := by
  unfold OC
  rw [hS.2.1 o ho.lt hoA]
  exact ho
theorem va_S.aw (hS : va_S A s.heap H locs) : va_S (Aw A o) s.heap H locs := ⟨hS.1, fun q hq hA => hS.2.1 q hq (fun z => hA (Or.inl z)), fun x hx => Or.inl (hS.2.2 x hx)⟩
/-- the end: k, the world, the row -/
theorem k_wend {k : Int32} (C0 : CX p l s m args meth c cc nL "RoutepostLaw" G A) (hr : meth.sig.returnType = some .int) (hW : HW G.1 G.2.1 A h H) (hS : va_S (Aw A o) s.heap H locs) (ho : OC cA o v H) (hp : post k (h, v)) (hc : cells ≤ mc) (hs : slots ≤ ms) (hdg : decode cc pc = .ok (.ireturn, 1)) :
    W p l e R s m args below meth c H locs cells slots (MQ below (QW G A cA o post) args s mc ms (Aw A o)) (F0 m pc ls [.int k]) := by
  obtain ⟨hx, hb, hml, hown, hts, hK, hA, hG, hG2, hlocks⟩ := C0
  refine W.widen hc hs ?_
  exact W.iret hx hb hr (fun t ht hW' => ⟨⟨k, (h, v), rfl, hp, by show HW G.1 G.2.1 A h t.heap; rw [ht]; exact hW, by show OC cA o v t.heap; rw [ht]; exact ho⟩, hS.F ht⟩) hS.2.2 hdg
end LAWROWS
