/-! THE LAW: its contracts: the joint world, the script, which exceptions are not which -/
def ncL : List (String × String) := [(iseC, iaeC), (iaeC, nseC), (iseC, nseC), (iobC, nseC)]
abbrev SCR : Type := Nat × Nat × (Nat → Int32)
def LX (Sc : SCR) (A : Nat → Prop) (U : State) : Prop := (∀ q ∈ ncL, va_Nc q.1 q.2 U) ∧ va_T .int Sc.1 Sc.2.1 (fun j => .int (Sc.2.2 j)) A U U.heap ∧ Sc.2.1 ≤ 260
def WL (Sc : SCR) (G : GT) (A : Nat → Prop) (h : AH) (U : State) : Prop := WP G A h U ∧ LX Sc A U
theorem WL.blind {Sc : SCR} {G : GT} {A : Nat → Prop} {h : AH} {av : List Value} : FrameBlind (va_Pc av (WL Sc G A h)) := by
  intro a U g mk q
  obtain ⟨h0, ⟨h1, h2, h3, h4, h5⟩, h6, h7, h8⟩ := q
  have hvm : U.vm.Alike (U.calling g mk a).vm := Vm.Alike.refl U.vm
  exact ⟨h0, ⟨h1, h2, va_K.moved (u := U) (U := U.calling g mk a) hvm h3, KSv.same (s := U) (U := U.calling g mk a) rfl h4, KSh.moved (u := U) (U := U.calling g mk a) hvm h5⟩, fun q hq => (h6 q hq).moved (u := U) (U := U.calling g mk a) hvm, va_T.moved (u := U) (U := U.calling g mk a) hvm h7, h8⟩
abbrev lcI (l : Launch) (Sc : SCR) (G : GT) (A : Nat → Prop) (y : MethodName) (b : ByteArray) (n : Nat) (ret : Option FieldType) (fr lo mc ms : Nat) (av : List Value) (h : AH) (post : Int32 → AH → Prop) : Prop := Met l y (ws_ y b n ret) (rmm fr lo mc ms) (va_Pc av (WL Sc G A h)) (va_Qi post (fun h' t => HW G.1 G.2.1 A h' t.heap) A) mc ms A
abbrev lcV (l : Launch) (Sc : SCR) (G : GT) (A : Nat → Prop) (y : MethodName) (b : ByteArray) (n : Nat) (fr lo mc ms : Nat) (av : List Value) (h : AH) (post : AH → Prop) : Prop := Met l y (ws_ y b n none) (rmm fr lo mc ms) (va_Pc av (WL Sc G A h)) (va_Qv post (fun h' t => HW G.1 G.2.1 A h' t.heap) A) mc ms A
abbrev lcQ (l : Launch) (Sc : SCR) (G : GT) (A : Nat → Prop) (y : MethodName) (b : ByteArray) (n : Nat) (ret : Option FieldType) (fr lo mc ms : Nat) (av : List Value) (h : AH) (post : Option Nat → AH → Prop) : Prop := Met l y (ws_ y b n ret) (rmm fr lo mc ms) (va_Pc av (WL Sc G A h)) (va_Qq post (fun h' t => HW G.1 G.2.1 A h' t.heap) A) mc ms A
abbrev wsHh (y : MethodName) (b : ByteArray) (n : Nat) (ret : Option FieldType) (hh : List (Nat × Nat × Nat × Nat)) : List Cond := Cond.codeWith y b n ret hh :: lw_all
abbrev lhI (l : Launch) (Sc : SCR) (G : GT) (A : Nat → Prop) (y : MethodName) (b : ByteArray) (n : Nat) (ret : Option FieldType) (hh : List (Nat × Nat × Nat × Nat)) (fr lo mc ms : Nat) (av : List Value) (h : AH) (post : Int32 → AH → Prop) : Prop := Met l y (wsHh y b n ret hh) (rmm fr lo mc ms) (va_Pc av (WL Sc G A h)) (va_Qi post (fun h' t => HW G.1 G.2.1 A h' t.heap) A) mc ms A
abbrev lhF (l : Launch) (Sc : SCR) (G : GT) (A : Nat → Prop) (y : MethodName) (b : ByteArray) (n : Nat) (ret : Option FieldType) (hh : List (Nat × Nat × Nat × Nat)) (fr lo mc ms : Nat) (av : List Value) (h : AH) (post : UInt32 → AH → Prop) : Prop := Met l y (wsHh y b n ret hh) (rmm fr lo mc ms) (va_Pc av (WL Sc G A h)) (va_Qf post (fun h' t => HW G.1 G.2.1 A h' t.heap) A) mc ms A
abbrev lhD (l : Launch) (Sc : SCR) (G : GT) (A : Nat → Prop) (y : MethodName) (b : ByteArray) (n : Nat) (ret : Option FieldType) (hh : List (Nat × Nat × Nat × Nat)) (fr lo mc ms : Nat) (av : List Value) (h : AH) (post : UInt64 → AH → Prop) : Prop := Met l y (wsHh y b n ret hh) (rmm fr lo mc ms) (va_Pc av (WL Sc G A h)) (va_Qd post (fun h' t => HW G.1 G.2.1 A h' t.heap) A) mc ms A
theorem MSH.good {y : MethodName} {b : ByteArray} {n k idx : Nat} {ret : Option FieldType} {hh : List (Nat × Nat × Nat × Nat)} (h : MSH y b n ret hh k) (hl : Cond.methodLink "RoutepostLaw" idx y ∈ lw_all) : GoodIn lw_all (va_wsS "RoutepostLaw" idx y (wsHh y b n ret hh)) := by
  intro w hw
  unfold va_wsS at hw
  rcases List.mem_append.mp hw with hw | hw
  · simp only [List.mem_cons, List.not_mem_nil, or_false] at hw
    rcases hw with rfl | rfl | rfl
    · exact lw_good _ hl
    · exact lw_good _ h.2.1
    · rw [h.2.2.2.1]; exact lw_good _ h.2.2.1
  · exact (List.mem_cons.mp hw).elim (fun e => by rw [e]; exact lw_good _ h.1) (fun h => lw_good _ h)
/-- a contract out of the walk of its body -/
theorem lm_of {l : Launch} {Sc : SCR} {G : GT} {A : Nat → Prop} {y : MethodName} {b : ByteArray} {n : Nat} {ret : Option FieldType} {rm : Room} {av : List Value} {h : AH} {Qc : Array Value → State → Outcome → State → Prop} {mc ms : Nat} (ho : y.cls = "RoutepostLaw") (hlen : (lg_sl av).length ≤ n)
    (body : ∀ (p : Program) (e : Env) (s : State) (m : MethodId) (below : List Frame) (meth : Method) (c : Code), CX p l s m av.toArray meth c b n "RoutepostLaw" G A → LX Sc A s → meth.sig.returnType = ret → HS G.1 G.2.1 A s.heap h s.heap [] → ∀ ls : Array Slot, lv_has ls n (lv_args 0 av) → W p l e rm s m av.toArray below meth c s.heap [] 0 0 (MQ below Qc av.toArray s mc ms A) (F0 m 0 ls [])) :
    Met l y (ws_ y b n ret) rm (va_Pc av (WL Sc G A h)) Qc mc ms A := by
  refine Met.ofW (cc := b) (maxL := n) (ret := ret) (by rw [ho]; decide) rfl ?_
  intro p e s m args below meth c s₁ B hml hv
  obtain ⟨rfl, ⟨hA, hH, hK, hG, hG2⟩, hN⟩ := hv
  have hts := atoms_spec (ws := ws_ y b n ret) B.pre
  have hown : s.vm.findClass "RoutepostLaw" = some m.cls := by rw [← ho]; exact findClass_of_methodNamed B.named
  have hl := lv_entry av (n := n) hlen
  rw [lg_entry_eq]
  exact body p e s m below meth c ⟨B.exec, B.bytes, hml, hown, fun w hw => hts w (List.mem_cons_of_mem _ hw), hK, hA, hG, hG2, B.notSynchronized⟩ hN B.returns ⟨hH, va_S.rf⟩ _ hl
theorem lh_of {l : Launch} {Sc : SCR} {G : GT} {A : Nat → Prop} {y : MethodName} {b : ByteArray} {n k : Nat} {ret : Option FieldType} {hh : List (Nat × Nat × Nat × Nat)} {rm : Room} {av : List Value} {h : AH} {Qc : Array Value → State → Outcome → State → Prop} {mc ms : Nat} (hm : MSH y b n ret hh k) (hlen : (lg_sl av).length ≤ n)
    (body : ∀ (p : Program) (e : Env) (s : State) (m : MethodId) (below : List Frame) (meth : Method) (c : Code), CX p l s m av.toArray meth c b n "RoutepostLaw" G A → LX Sc A s → c.exceptionTable.toList = tableOf hh → meth.sig.returnType = ret → HS G.1 G.2.1 A s.heap h s.heap [] → ∀ ls : Array Slot, lv_has ls n (lv_args 0 av) → W p l e rm s m av.toArray below meth c s.heap [] 0 0 (MQ below Qc av.toArray s mc ms A) (F0 m 0 ls [])) :
    Met l y (wsHh y b n ret hh) rm (va_Pc av (WL Sc G A h)) Qc mc ms A := by
  refine va_MetW (cc := b) (maxL := n) (ret := ret) (hh := hh) (by rw [hm.2.2.2.1]; decide) rfl ?_
  intro p e s m args below meth c s₁ B hml hv
  obtain ⟨rfl, ⟨hA, hH, hK, hG, hG2⟩, hN⟩ := hv
  have hts := atoms_spec (ws := wsHh y b n ret hh) B.pre
  have hown : s.vm.findClass "RoutepostLaw" = some m.cls := by rw [← hm.2.2.2.1]; exact findClass_of_methodNamed B.named
  have hl := lv_entry av (n := n) hlen
  rw [lg_entry_eq]
  exact body p e s m below meth c ⟨B.exec, B.bytes, hml, hown, fun w hw => hts w (List.mem_cons_of_mem _ hw), hK, hA, hG, hG2, B.notSynchronized⟩ hN (vx_table (x := y) B (hts _ List.mem_cons_self)) B.returns ⟨hH, va_S.rf⟩ _ hl
/-- the handlers: each lays the exception aside and answers its number -/
def HRw (cc : ByteArray) (nL pci : Nat) (x : Nat × Nat × Nat × Nat) (nm : String) (v : Int32) : Prop :=
  covers (⟨x.1, x.2.1, x.2.2.1, x.2.2.2⟩ : ExceptionTableEntry) pci = true ∧ x.2.2.2 ≠ 0 ∧ Cond.classLink "RoutepostLaw" x.2.2.2 nm ∈ lw_all ∧ Cond.castable nm nm ∈ lw_kt ∧
  ∃ (j d kc : Nat), j < nL ∧ ((∃ f : Fin 4, (f : Nat) = j ∧ decode cc x.2.2.1 = .ok (.astore_n f, 1) ∧ d = 1) ∨ (decode cc x.2.2.1 = .ok (.astore j, 2) ∧ d = 2)) ∧ Cond.constant "RoutepostLaw" kc v ∈ lw_all ∧ decode cc (x.2.2.1 + d) = .ok (.ldc kc, 2) ∧ decode cc (x.2.2.1 + d + 2) = .ok (.ireturn, 1)
def HRws (cc : ByteArray) (nL pci : Nat) : List (Nat × Nat × Nat × Nat) → List (String × Int32) → Prop
  | [], [] => True
  | x :: xs, q :: ns => HRw cc nL pci x q.1 q.2 ∧ (∀ E ∈ ns, (E.1, q.1) ∈ ncL) ∧ HRws cc nL pci xs ns
  | _, _ => False
/-- what a wrapper answers for the exception E -/
def kdL (E : String) : List (String × Int32) → Int32
  | [] => 0
  | q :: l => if E = q.1 then q.2 else kdL E l
section LAWW
variable {p : Program} {l : Launch} {e : Env} {R : Room} {s : State} {m : MethodId} {args : Array Value} {below : List Frame} {meth : Method} {c : Code} {H : Heap} {locs : List Loc} {cells slots : Nat} {Q : State → Prop}
variable {cc : ByteArray} {pc nL index : Nat} {ls : Array Slot} {rest stk : List Value} {G : GT} {A : Nat → Prop} {h : AH} {Sc : SCR} {hh : List (Nat × Nat × Nat × Nat)}
variable {y : MethodName} {bytes : ByteArray} {maxL n fr lo mc ms : Nat} {ret : Option FieldType} {Qc : Array Value → State → Outcome → State → Prop} {As : List Value}
theorem WL.at (C0 : CX p l s m args meth c cc nL "RoutepostLaw" G A) (hN : LX Sc A s) (hH : HS G.1 G.2.1 A s.heap h H locs) (U : State) (hU : U.heap = H) (hW : s.WarmedH U.vm) : WL Sc G A h U := by
  refine ⟨WP.at C0 hH U hU hW, fun q hq => (hN.1 q hq).moved hW.alike, ?_, hN.2.2⟩
  rw [hU]
  exact (hN.2.1.moved hW.alike).kept (fun a ha hA => hH.2.2.1 a ha hA)
/-- the law calls one of its own methods -/
theorem k_lS (C0 : CX p l s m args meth c cc nL "RoutepostLaw" G A) (hN : LX Sc A s) (hH : HS G.1 G.2.1 A s.heap h H locs) (hM : Met l y (ws_ y bytes maxL ret) (rmm fr lo mc ms) (va_Pc As (WL Sc G A h)) Qc mc ms A) (mv : MS y bytes maxL ret n "RoutepostLaw") (hl : Cond.methodLink "RoutepostLaw" index y ∈ lw_all) (hAs : As.length = n) (hR : fr + 1 ≤ R.frames ∧ 8 + (maxL + 11) + lo ≤ R.locals) (hls : ls.size = nL) (hstk : stk = As.reverse ++ rest) (hst : (rest.map fun v => v.category).sum ≤ 8) (hdg : decode cc pc = .ok (.invokestatic index, 3)) (hf : cells + mc ≤ R.cells ∧ slots + ms ≤ R.slots) :
    va_Run p l e R s m args below meth c H locs cells slots mc ms (F0 m pc ls stk) rest (Qc As.toArray) A := by
  have hw := fun U hU hW => WL.at C0 hN hH U hU hW
  obtain ⟨hx, hb, hml, hown, hts, -⟩ := C0
  exact va_runS ⟨hx, hb, hml, hown, hts⟩ hM (va_cwS n hts (mv.good hl) rfl rfl rfl mv.2.2.2.2 hR) ⟨WL.blind, fun U hU hW => ⟨rfl, hw U hU hW⟩⟩ rfl hAs hls hstk (lv_room hst) hdg hf
/-- .. one with handlers -/
theorem k_lW (C0 : CX p l s m args meth c cc nL "RoutepostLaw" G A) (hN : LX Sc A s) (hH : HS G.1 G.2.1 A s.heap h H locs) (hM : Met l y (wsHh y bytes maxL ret hh) (rmm fr lo mc ms) (va_Pc As (WL Sc G A h)) Qc mc ms A) (mv : MSH y bytes maxL ret hh n) (hl : Cond.methodLink "RoutepostLaw" index y ∈ lw_all) (hAs : As.length = n) (hR : fr + 1 ≤ R.frames ∧ 8 + (maxL + 11) + lo ≤ R.locals) (hls : ls.size = nL) (hstk : stk = As.reverse ++ rest) (hst : (rest.map fun v => v.category).sum ≤ 8) (hdg : decode cc pc = .ok (.invokestatic index, 3)) (hf : cells + mc ≤ R.cells ∧ slots + ms ≤ R.slots) :
    va_Run p l e R s m args below meth c H locs cells slots mc ms (F0 m pc ls stk) rest (Qc As.toArray) A := by
  have hw := fun U hU hW => WL.at C0 hN hH U hU hW
  obtain ⟨hx, hb, hml, hown, hts, -⟩ := C0
  exact vx_runSW (Ts := lw_all) (own := "RoutepostLaw") ⟨hx, hb, hml, hown, hts⟩ hM (vx_cwSW n hts (mv.good hl) rfl rfl rfl mv.2.2.2.2 hR) ⟨WL.blind, fun U hU hW => ⟨rfl, hw U hU hW⟩⟩ rfl hAs hls hstk (lv_room hst) hdg hf
theorem k_lf {post : UInt32 → AH → Prop} {a : Array Value} (hH : HS G.1 G.2.1 A s.heap h H locs) (hr : va_Run p l e R s m args below meth c H locs cells slots mc ms (F0 m pc ls stk) rest (va_Qf post (fun h' t => HW G.1 G.2.1 A h' t.heap) A a) A)
    (kk : ∀ (r : UInt32) (h' : AH) (H1 : Heap) (locs1 : List Loc), post r h' → HS G.1 G.2.1 A s.heap h' H1 locs1 → W p l e R s m args below meth c H1 locs1 (cells + mc) (slots + ms) Q (F0 m (pc + 3) ls (.float r :: rest))) : W p l e R s m args below meth c H locs cells slots Q (F0 m pc ls stk) :=
  va_callf hr hH.2 (fun _ _ q => q) (fun _ q => q) (fun r h' t H1 locs1 ht hvm hp hB hz hk hS1 => kk r h' H1 locs1 hp ⟨by rw [← ht]; exact hB, hS1⟩)
theorem k_ld {post : UInt64 → AH → Prop} {a : Array Value} (hH : HS G.1 G.2.1 A s.heap h H locs) (hr : va_Run p l e R s m args below meth c H locs cells slots mc ms (F0 m pc ls stk) rest (va_Qd post (fun h' t => HW G.1 G.2.1 A h' t.heap) A a) A)
    (kk : ∀ (r : UInt64) (h' : AH) (H1 : Heap) (locs1 : List Loc), post r h' → HS G.1 G.2.1 A s.heap h' H1 locs1 → W p l e R s m args below meth c H1 locs1 (cells + mc) (slots + ms) Q (F0 m (pc + 3) ls (.double r :: rest))) : W p l e R s m args below meth c H locs cells slots Q (F0 m pc ls stk) :=
  va_calld hr hH.2 (fun _ _ q => q) (fun _ q => q) (fun r h' t H1 locs1 ht hvm hp hB hz hk hS1 => kk r h' H1 locs1 hp ⟨by rw [← ht]; exact hB, hS1⟩)
/-- the i-th handler takes it -/
theorem l_catch {E : String} {ce : Cell} {q : Addr} {hp hs : List (Nat × Nat × Nat × Nat)} {x : Nat × Nat × Nat × Nat} (C0 : CX p l s m args meth c cc nL "RoutepostLaw" G A) (hN : ∀ q ∈ ncL, va_Nc q.1 q.2 s) (hT : c.exceptionTable.toList = tableOf (hp ++ x :: hs))
    (hpass : ∀ z ∈ hp, z.2.2.2 ≠ 0 ∧ ∃ nm : String, Cond.classLink "RoutepostLaw" z.2.2.2 nm ∈ lw_all ∧ (E, nm) ∈ ncL) (hx : covers (⟨x.1, x.2.1, x.2.2.1, x.2.2.2⟩ : ExceptionTableEntry) pc = true) (h0 : x.2.2.2 ≠ 0)
    (hlink : Cond.classLink "RoutepostLaw" x.2.2.2 E ∈ lw_all) (hcast : Cond.castable E E ∈ lw_kt) (hcell : H[q]? = some ce) (hv : ce.vm = .none) (hcl : s.vm.findClass E = some ce.cls)
    (kk : W p l e R s m args below meth c H locs cells slots Q (F0 m x.2.2.1 ls [.ref q])) : vx_W p l e R s m args below meth c H locs cells slots Q (F0 m pc ls rest) q := by
  obtain ⟨hx0, hb, hml, hown, hts, hKK, hA, hG, hG2, hlocks⟩ := C0
  refine vx_catch (own := "RoutepostLaw") (name := E) hown (tableOf hp) ⟨x.1, x.2.1, x.2.2.1, x.2.2.2⟩ (tableOf hs) (by rw [hT]; unfold tableOf; rw [List.map_append]; rfl) (fun z hz => ?_) hx h0 (hts _ hlink) (va_Nw.use rfl (hG.1 _ hcast)) hcell hv hcl kk
  obtain ⟨w, hw, e⟩ := List.mem_map.mp hz
  obtain ⟨z1, nm, z2, z3⟩ := hpass w hw
  refine Or.inr ⟨by rw [← e]; exact z1, nm, ?_, hN _ z3⟩
  rw [← e]
  exact hts _ z2
theorem l_hands {E : String} {ce : Cell} {q : Addr} (C0 : CX p l s m args meth c cc nL "RoutepostLaw" G A) (hN : ∀ q ∈ ncL, va_Nc q.1 q.2 s) (hl : lv_has ls nL []) (hT : c.exceptionTable.toList = tableOf hh) (hcell : H[q]? = some ce) (hv : ce.vm = .none) (hcl : s.vm.findClass E = some ce.cls) :
    ∀ (xs : List (Nat × Nat × Nat × Nat)) (ns : List (String × Int32)) (hp : List (Nat × Nat × Nat × Nat)), hh = hp ++ xs → HRws cc nL pc xs ns → (∃ v, (E, v) ∈ ns) → (∀ z ∈ hp, z.2.2.2 ≠ 0 ∧ ∃ nm : String, Cond.classLink "RoutepostLaw" z.2.2.2 nm ∈ lw_all ∧ (E, nm) ∈ ncL) →
      (∀ (pc' : Nat) (ls' : Array Slot), decode cc pc' = .ok (.ireturn, 1) → W p l e R s m args below meth c H locs cells slots Q (F0 m pc' ls' [.int (kdL E ns)])) → vx_W p l e R s m args below meth c H locs cells slots Q (F0 m pc ls rest) q := by
  have hxb := C0
  obtain ⟨hx, hb, hml, hown, hts, -⟩ := hxb
  intro xs
  induction xs with
  | nil =>
    intro ns hp _ hr hE _ _
    cases ns with
    | nil => obtain ⟨v, hv⟩ := hE; cases hv
    | cons a b => exact hr.elim
  | cons x xs ih =>
    intro ns hp hhe hr hE hpass kk
    cases ns with
    | nil => obtain ⟨v, hv⟩ := hE; cases hv
    | cons nq ns =>
      obtain ⟨nm, v⟩ := nq
      obtain ⟨⟨h1, h2, h3, h4, j, d, kc, hj, hd, hkc, hd1, hd2⟩, h6, h7⟩ := hr
      by_cases z : E = nm
      · subst z
        refine l_catch (hp := hp) (hs := xs) (x := x) C0 hN (by rw [hT, hhe]) hpass h1 h2 h3 h4 hcell hv hcl ?_
        have key : ∀ ls' : Array Slot, W p l e R s m args below meth c H locs cells slots Q (F0 m (x.2.2.1 + d) ls' []) := fun ls' => by
          refine lv_ldc hx hb hown (hts _ hkc) hd1 ?_
          have := kk (x.2.2.1 + d + 2) ls' hd2
          rw [show kdL E ((E, v) :: ns) = v from if_pos rfl] at this
          exact this
        rcases hd with ⟨f, hf, hd, rfl⟩ | ⟨hd, rfl⟩
        · exact lv_astore_n (lv := []) (lv' := _) hx hb hd hf hl hj rfl (fun ls' _ => key ls')
        · exact lv_astore (lv := []) (lv' := _) hx hb hd hl hj rfl (fun ls' _ => key ls')
      · obtain ⟨v', hv'⟩ := hE
        have hE' : (E, v') ∈ ns := (List.mem_cons.mp hv').elim (fun e => absurd (Prod.mk.inj e).1 z) id
        refine ih ns (hp ++ [x]) (by rw [hhe, List.append_assoc]; rfl) h7 ⟨v', hE'⟩ (fun w hw => ?_) (fun pc' ls' hd => ?_)
        · rcases List.mem_append.mp hw with hw | hw
          · exact hpass w hw
          · rw [List.mem_singleton.mp hw]
            exact ⟨h2, nm, h3, h6 _ hE'⟩
        · have := kk pc' ls' hd
          rw [show kdL E ((nm, v) :: ns) = kdL E ns from if_neg z] at this
          exact this
end LAWW
def Pushes (l : Launch) (b : ByteArray) (n : Nat) (lv : List (Nat × Value)) (pc0 pc1 : Nat) (st0 st1 : List Value) : Prop := ∀ (p : Program) (e : Env) (R : Room) (s : State) (m : MethodId) (args : Array Value) (below : List Frame) (meth : Method) (c9 : Code) (H : Heap) (locs : List Loc) (cells slots : Nat) (Q : State → Prop) (ls : Array Slot), p.tables.exec = Jvm.exec → c9.code = b → lv_has ls n lv → W p l e R s m args below meth c9 H locs cells slots Q (F0 m pc1 ls st1) → W p l e R s m args below meth c9 H locs cells slots Q (F0 m pc0 ls st0)
/-- a wrapper: what the class answers, or the number of what it throws -/
theorem lh_core {l : Launch} {Sc : SCR} {G : GT} {A : Nat → Prop} {h : AH} {O : Nat → Bool} {As av : List Value} {y y9 : MethodName} {b b9 : ByteArray} {n n9 k k9 fr lo mc ms idx pci r9 : Nat} {ret9 : Option FieldType} {hh : List (Nat × Nat × Nat × Nat)} {nms : List (String × Int32)} {P : Int32 → AH → Prop} {xp : String → AH → Prop}
    (hm : MSH y b n (Option.some FieldType.int) hh k) (mv : MV y9 b9 n9 ret9 k9 "Routepost") (hl : Cond.methodLink "RoutepostLaw" idx y9 ∈ lw_all) (hAs : As.length = k9) (hlen : (lg_sl av).length ≤ n)
    (d_inv : decode b pci = .ok (.invokevirtual idx, 3)) (d_r : decode b (pci + 3) = .ok (.ireturn, 1)) (hrows : HRws b n pci hh nms)
    (entry : Pushes l b n (lv_args 0 av) 0 pci [] (As.reverse ++ [.ref r9])) (hO : ∀ q, O q = true → aK h q ≠ 0) (hk : aK h r9 = 14)
    (cX : cxI l G (aO A O) y9 b9 n9 ret9 fr lo mc ms (.ref r9 :: As) (rO O h) P xp) (hin : ∀ E h', xp E h' → ∃ v, (E, v) ∈ nms) :
    lhI l Sc G A y b n (Option.some FieldType.int) hh (fr + 1) (8 + (n9 + 11) + lo) mc ms av h (fun r h' => ∃ h1, (P r h1 ∨ ∃ E, xp E h1 ∧ r = kdL E nms) ∧ h' = jO O h1 h ∧ ∀ q, aK h1 q ≠ 0 → O q = false) := by
  refine lh_of hm hlen ?_
  intro p e s m below meth c9 C0 hN hT hr hH ls hl9
  have hxb := C0
  obtain ⟨hx, hb, -⟩ := hxb
  refine entry p e _ s m _ below meth c9 _ _ _ _ _ ls hx hb hl9 ?_
  refine k_fxi (rest := []) hH (k_fX C0 hH hO cX mv hl ci_14 hk hAs ⟨Nat.le_refl _, Nat.le_refl _⟩ hl9.1 rfl (Nat.zero_le _) d_inv ⟨by show 0 + mc ≤ mc; omega, by show 0 + ms ≤ ms; omega⟩) ?_ ?_
  · intro E ce q9 h1 H1 locs1 hx1 hH1 hq1 hce hcv hcl
    refine l_hands C0 hN.1 (lv_sub hl9 [] rfl) hT hce hcv hcl hh nms [] rfl hrows (hin E h1 hx1) (fun z hz => by cases hz) (fun pc' ls' hd => ?_)
    exact e_I C0 hr hH1 ⟨h1, Or.inr ⟨E, hx1, rfl⟩, rfl, hq1⟩ (by omega) (by omega) hd
  · intro r h1 H1 locs1 hp1 hH1 hq1
    exact e_I C0 hr hH1 ⟨h1, Or.inl hp1, rfl, hq1⟩ (by omega) (by omega) d_r
