/-! words that the tables decide and a warmer table keeps, but which are no good words -/
def isKT (w : Cond) : Bool := match w with
  | .castable _ _ => true
  | .arrayOver (.object _) => true
  | .arrayOver (.array _) => true
  | .declares _ => true
  | .methodLinkNest _ _ _ _ => true
  | .privateMethod _ => true
  | _ => false
/-- arrays of arrays -/
theorem va_AA.moved {ty : FieldType} {u U : State} (hvm : u.vm.Alike U.vm) (h : va_Nw (.arrayOver (.array ty)) u) : va_Nw (.arrayOver (.array ty)) U := by
  show (Cond.arrayOver (.array ty)).before #[] (u.setVm U.vm) = true
  rw [Cond.arrayOver_setVmC hvm]
  exact h
theorem KT_alike {w : Cond} (h : isKT w = true) {s U : State} (hW : s.WarmedH U.vm) (hZ : va_Nw w s) : va_Nw w U := by
  unfold isKT at h
  split at h
  · exact va_Nw.warmC hW hZ
  · exact va_AO.moved hW.alike hZ
  · exact va_AA.moved hW.alike hZ
  · exact va_tabs rfl (rfl : (s.setVm U.vm).vm = U.vm) (by rw [Cond.declares_setVm hW.alike]; exact hZ)
  · exact va_Nw.warmM hW hZ
  · exact va_tabs rfl (rfl : (s.setVm U.vm).vm = U.vm) (by rw [Cond.privateMethod_setVm hW.alike]; exact hZ)
  · cases h
theorem KT_same {w : Cond} (h : isKT w = true) {s U : State} (hv : s.vm = U.vm) (hZ : va_Nw w s) : va_Nw w U := by
  unfold isKT at h
  split at h
  · exact va_Nw.same rfl hv hZ
  · exact va_AO.moved (by rw [hv]; exact Vm.Alike.refl U.vm) hZ
  · exact va_AA.moved (by rw [hv]; exact Vm.Alike.refl U.vm) hZ
  · exact va_Nw.same rfl hv hZ
  · exact va_Nw.same rfl hv hZ
  · exact va_Nw.same rfl hv hZ
  · cases h
def lw_kt : List Cond := tables_1.filter isKT
theorem lw_ktIn {w : Cond} (i : Nat) (h : tables_1[i]? = some w) (g : isKT w = true) : w ∈ lw_kt := List.mem_filter.mpr ⟨List.mem_of_getElem? h, g⟩
def lw_strs : List (String × Nat × String) := [("Routepost", 70, "no code or no cutoff"), ("Routepost", 85, "code taken or too many hubs"), ("Routepost", 364, "no such hub"), ("Routepost", 103, "no such line can be"), ("Routepost", 105, "too many lines"), ("Routepost", 367, "no such line"), ("Routepost", 369, "it is closed"), ("Routepost", 158, "no address, no volume or no service"), ("Routepost", 160, "no hub for it or too many parcels"), ("Routepost$History", 37, "asmludfrh"), ("Routepost", 371, "no such parcel"), ("Routepost", 194, "it does not travel any more"), ("Routepost", 210, "it is not scanned at its destination"), ("Routepost", 233, "not so many minutes can pass"), ("java/util/ArrayList", 201, "Index: "), ("java/util/ArrayList", 203, ", Size: "), ("java/util/Arrays", 337, " > "), ("Routepost", 134, "no address"), ("Routepost", 373, "it is not scanned at a hub"), ("Routepost", 241, "it is on a truck"), ("Routepost", 247, "it is on no truck"), ("Routepost", 225, "it is a return already"), ("Routepost", 306, "no such rank"), ("Routepost", 328, "no such bag"), ("Routepost", 354, "no parcels"), ("Routepost", 360, "none has been delivered")]
/-- what is the same in every state of a run: the class and slot numbers, the array classes, the empty array of lists, the letters' text and its bytes -/
abbrev GT : Type := va_G × (Nat → ClassId) × Nat × Nat × Nat
def KSv (G : GT) (U : State) : Prop := (∀ w ∈ lw_kt, va_Nw w U) ∧ (∀ q ∈ lw_strs, ∃ a : Nat, vk_R q.1 q.2.1 q.2.2 a U) ∧ vk_R "Routepost$History" 37 "asmludfrh" G.2.2.2.1 U ∧ va_Mi "[Ljava/lang/Object;" (G.2.1 99) U
def lw_letters : List Int32 := [97, 115, 109, 108, 117, 100, 102, 114, 104]
def KSh (G : GT) (A : Nat → Prop) (U : State) (H : Heap) : Prop :=
  vx_Zq Bundle.tN "UNASSIGNED_STACK" Bundle.steD A U H ∧ vx_Zq Bundle.tN "SUPPRESSED_SENTINEL" Bundle.listD A U H ∧
  va_Z "java/util/ArrayList" "DEFAULTCAPACITY_EMPTY_ELEMENTDATA" "[Ljava/lang/Object;" (.ref G.2.2.1) A U H ∧ va_T (.object "java/lang/Object") G.2.2.1 0 (fun _ => .null) A U H ∧
  va_O "java/lang/String" G.2.2.2.1 A U H ∧ va_OF "java/lang/String" "coder" "B" (.int 0) G.2.2.2.1 A U H ∧ va_OF "java/lang/String" "value" "[B" (.ref G.2.2.2.2) G.2.2.2.1 A U H ∧ va_T .byte G.2.2.2.2 9 (fun j => .int (lw_letters.getD j 0)) A U H ∧
  va_Z "java/lang/String" "COMPACT_STRINGS" "Z" (.int 1) A U H
theorem KSv.warm {G : GT} {s U : State} (hW : s.WarmedH U.vm) (h : KSv G s) : KSv G U := by
  obtain ⟨h1, h2, h3, h4⟩ := h
  refine ⟨fun w hw => KT_alike (List.mem_filter.mp hw).2 hW (h1 w hw), fun q hq => ?_, h3.warm hW, h4.moved hW.alike⟩
  obtain ⟨a, ha⟩ := h2 q hq
  exact ⟨a, ha.warm hW⟩
theorem KSv.same {G : GT} {s U : State} (hv : U.vm = s.vm) (h : KSv G s) : KSv G U := by
  obtain ⟨h1, h2, h3, h4⟩ := h
  refine ⟨fun w hw => KT_same (List.mem_filter.mp hw).2 hv.symm (h1 w hw), fun q hq => ?_, h3.same hv, h4.moved (by rw [hv]; exact Vm.Alike.refl s.vm)⟩
  obtain ⟨a, ha⟩ := h2 q hq
  exact ⟨a, ha.same hv⟩
theorem KSh.moved {G : GT} {A : Nat → Prop} {u U : State} {H : Heap} (hvm : u.vm.Alike U.vm) (h : KSh G A u H) : KSh G A U H := by
  obtain ⟨h1, h2, h3, h4, h5, h6, h7, h8, h9⟩ := h
  exact ⟨h1.moved hvm, h2.moved hvm, h3.moved hvm, h4.moved hvm, h5.moved hvm, h6.moved hvm, h7.moved hvm, h8.moved hvm, h9.moved hvm⟩
theorem KSh.kept {G : GT} {A : Nat → Prop} {U : State} {H H1 : Heap} (h : KSh G A U H) (hq : ∀ a : Nat, a < H.size → ¬ A a → H1[a]? = H[a]?) : KSh G A U H1 := by
  obtain ⟨h1, h2, h3, h4, h5, h6, h7, h8, h9⟩ := h
  exact ⟨h1.kept hq, h2.kept hq, h3.kept hq, h4.kept hq, h5.kept hq, h6.kept hq, h7.kept hq, h8.kept hq, h9.kept hq⟩
theorem KSh.narrow {G : GT} {A B : Nat → Prop} {U : State} {H : Heap} (h : KSh G A U H) (hAB : ∀ q, B q → A q) : KSh G B U H := by
  obtain ⟨h1, h2, h3, h4, h5, h6, h7, h8, h9⟩ := h
  exact ⟨h1.narrow hAB, h2.narrow hAB, h3.narrow hAB, h4.narrow hAB, h5.narrow hAB, h6.narrow hAB, h7.narrow hAB, h8.narrow hAB, h9.narrow hAB⟩
/-- what a contract asks of the state: the world h at addresses of A, and all that stays -/
def WP (G : GT) (A : Nat → Prop) (h : AH) (U : State) : Prop := (∀ q, U.heap.size ≤ q → A q) ∧ HW G.1 G.2.1 A h U.heap ∧ va_K G.1 vwCl (tyA G.2.1) U ∧ KSv G U ∧ KSh G A U U.heap
theorem WP.blind {G : GT} {A : Nat → Prop} {h : AH} {av : List Value} : FrameBlind (va_Pc av (WP G A h)) := by
  intro a U g mk q
  obtain ⟨h0, h1, h2, h3, h4, h5⟩ := q
  exact ⟨h0, h1, h2, va_K.moved (u := U) (U := U.calling g mk a) (Vm.Alike.refl U.vm) h3, KSv.same (s := U) (U := U.calling g mk a) rfl h4, KSh.moved (u := U) (U := U.calling g mk a) (Vm.Alike.refl U.vm) h5⟩
/-- where a method's body stands -/
def CX (p : Program) (l : Launch) (s : State) (m : MethodId) (args : Array Value) (meth : Method) (c : Code) (cc : ByteArray) (nL : Nat) (own : String) (G : GT) (A : Nat → Prop) : Prop :=
  p.tables.exec = Jvm.exec ∧ c.code = cc ∧ c.maxLocals = nL ∧ s.vm.findClass own = some m.cls ∧ (∀ w ∈ lw_all, w.before args s = true) ∧ va_K G.1 vwCl (tyA G.2.1) s ∧ (∀ q, s.heap.size ≤ q → A q) ∧ KSv G s ∧ KSh G A s s.heap ∧ meth.locks = false
theorem WP.at {p : Program} {l : Launch} {s : State} {m : MethodId} {args : Array Value} {meth : Method} {c : Code} {cc : ByteArray} {nL : Nat} {own : String} {G : GT} {A : Nat → Prop} {h : AH} {H : Heap} {locs : List Loc} (C0 : CX p l s m args meth c cc nL own G A) (hH : HS G.1 G.2.1 A s.heap h H locs) (U : State) (hU : U.heap = H) (hW : s.WarmedH U.vm) : WP G A h U := by
  obtain ⟨-, -, -, -, -, hK, hA, hG, hG2, -⟩ := C0
  obtain ⟨hH, hS⟩ := hH
  refine ⟨fun q hq => hA q (Nat.le_trans hS.1 (by rw [hU] at hq; exact hq)), by rw [hU]; exact hH, va_K.moved hW.alike hK, hG.warm hW, ?_⟩
  rw [hU]
  exact (hG2.moved hW.alike).kept hS.2.1
abbrev rmm (fr lo mc ms : Nat) : Room := { frames := fr, cells := mc, slots := ms, locals := lo }
/-! contracts: the method y, from the world h, answers r with the world h' such that post r h' -/
abbrev cmI (l : Launch) (G : GT) (A : Nat → Prop) (y : MethodName) (b : ByteArray) (n : Nat) (ret : Option FieldType) (fr lo mc ms : Nat) (av : List Value) (h : AH) (post : Int32 → AH → Prop) : Prop := Met l y (ws_ y b n ret) (rmm fr lo mc ms) (va_Pc av (WP G A h)) (va_Qi post (fun h' t => HW G.1 G.2.1 A h' t.heap) A) mc ms A
abbrev cmV (l : Launch) (G : GT) (A : Nat → Prop) (y : MethodName) (b : ByteArray) (n : Nat) (fr lo mc ms : Nat) (av : List Value) (h : AH) (post : AH → Prop) : Prop := Met l y (ws_ y b n none) (rmm fr lo mc ms) (va_Pc av (WP G A h)) (va_Qv post (fun h' t => HW G.1 G.2.1 A h' t.heap) A) mc ms A
abbrev cmQ (l : Launch) (G : GT) (A : Nat → Prop) (y : MethodName) (b : ByteArray) (n : Nat) (ret : Option FieldType) (fr lo mc ms : Nat) (av : List Value) (h : AH) (post : Option Nat → AH → Prop) : Prop := Met l y (ws_ y b n ret) (rmm fr lo mc ms) (va_Pc av (WP G A h)) (va_Qq post (fun h' t => HW G.1 G.2.1 A h' t.heap) A) mc ms A
/-- .. or throws E with the world h'' such that xp E h'' -/
abbrev xcP (G : GT) (A : Nat → Prop) (xp : String → AH → Prop) : String → State → State → Prop := vx_X (fun _ : AH => True) (fun E h' t => xp E h' ∧ HW G.1 G.2.1 A h' t.heap) A
abbrev cxI (l : Launch) (G : GT) (A : Nat → Prop) (y : MethodName) (b : ByteArray) (n : Nat) (ret : Option FieldType) (fr lo mc ms : Nat) (av : List Value) (h : AH) (post : Int32 → AH → Prop) (xp : String → AH → Prop) : Prop := vx_Met l y (ws_ y b n ret) (rmm fr lo mc ms) (va_Pc av (WP G A h)) (va_Qi post (fun h' t => HW G.1 G.2.1 A h' t.heap) A) (xcP G A xp) mc ms A
abbrev cxQ (l : Launch) (G : GT) (A : Nat → Prop) (y : MethodName) (b : ByteArray) (n : Nat) (ret : Option FieldType) (fr lo mc ms : Nat) (av : List Value) (h : AH) (post : Option Nat → AH → Prop) (xp : String → AH → Prop) : Prop := vx_Met l y (ws_ y b n ret) (rmm fr lo mc ms) (va_Pc av (WP G A h)) (va_Qq post (fun h' t => HW G.1 G.2.1 A h' t.heap) A) (xcP G A xp) mc ms A
/-- a contract out of the walk of its body -/
theorem cm_of {l : Launch} {G : GT} {A : Nat → Prop} {y : MethodName} {b : ByteArray} {n : Nat} {ret : Option FieldType} {rm : Room} {av : List Value} {h : AH} {Qc : Array Value → State → Outcome → State → Prop} {mc ms : Nat} (own : String) (ho : y.cls = own) (hy : plainName y.cls = true) (hlen : (lg_sl av).length ≤ n)
    (body : ∀ (p : Program) (e : Env) (s : State) (m : MethodId) (below : List Frame) (meth : Method) (c : Code), CX p l s m av.toArray meth c b n own G A → meth.sig.returnType = ret → meth.name = y.name → HS G.1 G.2.1 A s.heap h s.heap [] → ∀ ls : Array Slot, lv_has ls n (lv_args 0 av) → W p l e rm s m av.toArray below meth c s.heap [] 0 0 (MQ below Qc av.toArray s mc ms A) (F0 m 0 ls [])) :
    Met l y (ws_ y b n ret) rm (va_Pc av (WP G A h)) Qc mc ms A := by
  refine Met.ofW (cc := b) (maxL := n) (ret := ret) hy rfl ?_
  intro p e s m args below meth c s₁ B hml hv
  obtain ⟨rfl, hA, hH, hK, hG, hG2⟩ := hv
  have hts := atoms_spec (ws := ws_ y b n ret) B.pre
  have hown : s.vm.findClass own = some m.cls := by rw [← ho]; exact findClass_of_methodNamed B.named
  have hl := lv_entry av (n := n) hlen
  rw [lg_entry_eq]
  exact body p e s m below meth c ⟨B.exec, B.bytes, hml, hown, fun w hw => hts w (List.mem_cons_of_mem _ hw), hK, hA, hG, hG2, B.notSynchronized⟩ B.returns (name_of_methodNamed B.named B.method).1 ⟨hH, va_S.rf⟩ _ hl
theorem cx_of {l : Launch} {G : GT} {A : Nat → Prop} {y : MethodName} {b : ByteArray} {n : Nat} {ret : Option FieldType} {rm : Room} {av : List Value} {h : AH} {Qc : Array Value → State → Outcome → State → Prop} {XC : String → State → State → Prop} {mc ms : Nat} (own : String) (ho : y.cls = own) (hy : plainName y.cls = true) (hlen : (lg_sl av).length ≤ n)
    (body : ∀ (p : Program) (e : Env) (s : State) (m : MethodId) (below : List Frame) (meth : Method) (c : Code), CX p l s m av.toArray meth c b n own G A → (∀ x ∈ c.exceptionTable.toList, False) → meth.sig.returnType = ret → HS G.1 G.2.1 A s.heap h s.heap [] → ∀ ls : Array Slot, lv_has ls n (lv_args 0 av) → W p l e rm s m av.toArray below meth c s.heap [] 0 0 (vx_MQ below Qc XC av.toArray s mc ms A) (F0 m 0 ls [])) :
    vx_Met l y (ws_ y b n ret) rm (va_Pc av (WP G A h)) Qc XC mc ms A := by
  refine vx_ofW (cc := b) (maxL := n) (ret := ret) hy rfl ?_
  intro p e s m args below meth c s₁ B hml hxt hv
  obtain ⟨rfl, hA, hH, hK, hG, hG2⟩ := hv
  have hts := atoms_spec (ws := ws_ y b n ret) B.pre
  have hown : s.vm.findClass own = some m.cls := by rw [← ho]; exact findClass_of_methodNamed B.named
  have hl := lv_entry av (n := n) hlen
  rw [lg_entry_eq]
  exact body p e s m below meth c ⟨B.exec, B.bytes, hml, hown, fun w hw => hts w (List.mem_cons_of_mem _ hw), hK, hA, hG, hG2, B.notSynchronized⟩ hxt B.returns ⟨hH, va_S.rf⟩ _ hl
/-! a method's own words -/
def plainM (y : MethodName) (k : Nat) : Prop := y.cls ≠ "java/lang/invoke/MethodHandle" ∧ y.cls ≠ "java/lang/invoke/VarHandle" ∧ (parseMethodDescriptor y.desc).map (fun d => d.parameters.length) = some k
def MV (y : MethodName) (b : ByteArray) (n : Nat) (ret : Option FieldType) (k : Nat) (C : String) : Prop := Cond.code y b n ret ∈ lw_all ∧ Cond.instanceMethod y ∈ lw_all ∧ Cond.selects C y y ∈ lw_all ∧ Cond.initialized C ∈ lw_all ∧ y.cls = C ∧ plainM y k
def MS (y : MethodName) (b : ByteArray) (n : Nat) (ret : Option FieldType) (k : Nat) (C : String) : Prop := Cond.code y b n ret ∈ lw_all ∧ Cond.static y ∈ lw_all ∧ Cond.initialized C ∈ lw_all ∧ y.cls = C ∧ plainM y k
def MI (y : MethodName) (b : ByteArray) (n : Nat) (k : Nat) : Prop := Cond.code y b n none ∈ lw_all ∧ Cond.instanceMethod y ∈ lw_all ∧ Cond.initialized y.cls ∈ lw_all ∧ y.name = "<init>" ∧ plainM y k
theorem MV.good {y : MethodName} {b : ByteArray} {n : Nat} {ret : Option FieldType} {k : Nat} {C own : String} {idx : Nat} (h : MV y b n ret k C) (hl : Cond.methodLink own idx y ∈ lw_all) : GoodIn lw_all (wsV own idx C y (ws_ y b n ret)) := by
  intro w hw
  unfold wsV at hw
  rcases List.mem_append.mp hw with hw | hw
  · simp only [List.mem_cons, List.not_mem_nil, or_false] at hw
    rcases hw with rfl | rfl | rfl | rfl
    · exact lw_good _ hl
    · exact lw_good _ h.2.1
    · exact lw_good _ h.2.2.1
    · exact lw_good _ h.2.2.2.1
  · exact ws_good h.1 w hw
theorem MS.good {y : MethodName} {b : ByteArray} {n : Nat} {ret : Option FieldType} {k : Nat} {C own : String} {idx : Nat} (h : MS y b n ret k C) (hl : Cond.methodLink own idx y ∈ lw_all) : GoodIn lw_all (va_wsS own idx y (ws_ y b n ret)) := by
  intro w hw
  unfold va_wsS at hw
  rcases List.mem_append.mp hw with hw | hw
  · simp only [List.mem_cons, List.not_mem_nil, or_false] at hw
    rcases hw with rfl | rfl | rfl
    · exact lw_good _ hl
    · exact lw_good _ h.2.1
    · rw [h.2.2.2.1]; exact lw_good _ h.2.2.1
  · exact ws_good h.1 w hw
section CALLS
variable {p : Program} {l : Launch} {e : Env} {R : Room} {s : State} {m : MethodId} {args : Array Value} {below : List Frame} {meth : Method} {c : Code} {H : Heap} {locs : List Loc} {cells slots : Nat} {Q : State → Prop}
variable {cc : ByteArray} {pc nL index : Nat} {ls : Array Slot} {rest stk : List Value} {G : GT} {A : Nat → Prop} {h : AH} {own : String}
variable {y : MethodName} {bytes : ByteArray} {maxL n fr lo mc ms : Nat} {ret : Option FieldType} {Qc : Array Value → State → Outcome → State → Prop} {XC : String → State → State → Prop} {As : List Value} {b K N : Nat} {C : String} {T : u_T} {ty : Nat → FieldType}
theorem k_recv (C0 : CX p l s m args meth c cc nL own G A) (hH : HS G.1 G.2.1 A s.heap h H locs) (hC : CI K C T ty N) (hk : aK h b = K) : ∃ cell : Cell, H[b]? = some cell ∧ cell.vm.isStatics = false ∧ s.vm.findClass C = some cell.cls := by
  obtain ⟨-, -, -, -, -, hK, -⟩ := C0
  obtain ⟨⟨L, hP, hD, hL⟩, hS⟩ := hH
  obtain ⟨c1, c2, c3, -⟩ := hC
  obtain ⟨k, hk'⟩ := va_pl_get (X := []) (f := ent G.2.1 h) (hL b (by rw [hk]; omega))
  rw [ent_o hk c3] at hk'
  exact va_recv hK hP c1 hk'
theorem k_runV (C0 : CX p l s m args meth c cc nL own G A) (hH : HS G.1 G.2.1 A s.heap h H locs) (hM : Met l y (ws_ y bytes maxL ret) (rmm fr lo mc ms) (va_Pc (.ref b :: As) (WP G A h)) Qc mc ms A) (mv : MV y bytes maxL ret n C) (hl : Cond.methodLink own index y ∈ lw_all) (hC : CI K C T ty N) (hk : aK h b = K) (hAs : As.length = n) (hR : fr + 1 ≤ R.frames ∧ 8 + (maxL + 11) + lo ≤ R.locals) (hls : ls.size = nL) (hstk : stk = As.reverse ++ .ref b :: rest) (hst : (rest.map fun v => v.category).sum ≤ 8) (hdg : decode cc pc = .ok (.invokevirtual index, 3)) (hf : cells + mc ≤ R.cells ∧ slots + ms ≤ R.slots) :
    va_Run p l e R s m args below meth c H locs cells slots mc ms (F0 m pc ls stk) rest (Qc (Value.ref b :: As).toArray) A := by
  have hr := k_recv C0 hH hC hk
  have hw := fun U hU hW => WP.at C0 hH U hU hW
  obtain ⟨hx, hb, hml, hown, hts, -⟩ := C0
  exact va_runV (C := C) ⟨hx, hb, hml, hown, hts⟩ hM (cwV n hts (mv.good hl) rfl rfl rfl ⟨mv.2.2.2.2.1, mv.2.2.2.2.2⟩ hR) ⟨WP.blind, hr, fun U hU hW => ⟨rfl, hw U hU hW⟩⟩ rfl hAs hls hstk (lv_room hst) hdg hf
theorem k_runS (C0 : CX p l s m args meth c cc nL own G A) (hH : HS G.1 G.2.1 A s.heap h H locs) (hM : Met l y (ws_ y bytes maxL ret) (rmm fr lo mc ms) (va_Pc As (WP G A h)) Qc mc ms A) (mv : MS y bytes maxL ret n C) (hl : Cond.methodLink own index y ∈ lw_all) (hAs : As.length = n) (hR : fr + 1 ≤ R.frames ∧ 8 + (maxL + 11) + lo ≤ R.locals) (hls : ls.size = nL) (hstk : stk = As.reverse ++ rest) (hst : (rest.map fun v => v.category).sum ≤ 8) (hdg : decode cc pc = .ok (.invokestatic index, 3)) (hf : cells + mc ≤ R.cells ∧ slots + ms ≤ R.slots) :
    va_Run p l e R s m args below meth c H locs cells slots mc ms (F0 m pc ls stk) rest (Qc As.toArray) A := by
  have hw := fun U hU hW => WP.at C0 hH U hU hW
  obtain ⟨hx, hb, hml, hown, hts, -⟩ := C0
  exact va_runS ⟨hx, hb, hml, hown, hts⟩ hM (va_cwS n hts (mv.good hl) rfl rfl rfl mv.2.2.2.2 hR) ⟨WP.blind, fun U hU hW => ⟨rfl, hw U hU hW⟩⟩ rfl hAs hls hstk (lv_room hst) hdg hf
theorem k_runI (C0 : CX p l s m args meth c cc nL own G A) (hH : HS G.1 G.2.1 A s.heap h H locs) (hM : Met l y (ws_ y bytes maxL none) (rmm fr lo mc ms) (va_Pc (.ref b :: As) (WP G A h)) Qc mc ms A) (mv : MI y bytes maxL n) (hl : Cond.methodLink own index y ∈ lw_all) (hAs : As.length = n) (hR : fr + 1 ≤ R.frames ∧ 8 + (maxL + 11) + lo ≤ R.locals) (hls : ls.size = nL) (hstk : stk = As.reverse ++ .ref b :: rest) (hst : (rest.map fun v => v.category).sum ≤ 8) (hdg : decode cc pc = .ok (.invokespecial index, 3)) (hf : cells + mc ≤ R.cells ∧ slots + ms ≤ R.slots) :
    va_Run p l e R s m args below meth c H locs cells slots mc ms (F0 m pc ls stk) rest (Qc (Value.ref b :: As).toArray) A := by
  have hw := fun U hU hW => WP.at C0 hH U hU hW
  obtain ⟨hx, hb, hml, hown, hts, -⟩ := C0
  exact va_runI ⟨hx, hb, hml, hown, hts⟩ hM (cwI n hts (ws_good mv.1) rfl rfl rfl (hts _ mv.2.2.1) (hts _ hl) (hts _ mv.2.1) mv.2.2.2.1 mv.2.2.2.2 hR) ⟨WP.blind, fun U hU hW => ⟨rfl, hw U hU hW⟩⟩ rfl hAs hls hstk (lv_room hst) hdg hf
theorem k_runIN {host : String} (C0 : CX p l s m args meth c cc nL own G A) (hH : HS G.1 G.2.1 A s.heap h H locs) (hM : Met l y (ws_ y bytes maxL none) (rmm fr lo mc ms) (va_Pc (.ref b :: As) (WP G A h)) Qc mc ms A) (mv : MI y bytes maxL n) (hl : Cond.methodLinkNest own index y host ∈ lw_kt) (hAs : As.length = n) (hR : fr + 1 ≤ R.frames ∧ 8 + (maxL + 11) + lo ≤ R.locals) (hls : ls.size = nL) (hstk : stk = As.reverse ++ .ref b :: rest) (hst : (rest.map fun v => v.category).sum ≤ 8) (hdg : decode cc pc = .ok (.invokespecial index, 3)) (hf : cells + mc ≤ R.cells ∧ slots + ms ≤ R.slots) :
    va_Run p l e R s m args below meth c H locs cells slots mc ms (F0 m pc ls stk) rest (Qc (Value.ref b :: As).toArray) A := by
  have hw := fun U hU hW => WP.at C0 hH U hU hW
  obtain ⟨hx, hb, hml, hown, hts, -, -, hG, -⟩ := C0
  exact va_runIN ⟨hx, hb, hml, hown, hts⟩ hM ⟨va_cnB n hts (ws_good mv.1) rfl rfl rfl (hG.1 _ hl) (hts _ mv.2.2.1) mv.2.2.2.2 hR, mv.2.2.2.1, hts _ mv.2.1⟩ ⟨WP.blind, fun U hU hW => ⟨rfl, hw U hU hW⟩⟩ rfl hAs hls hstk (lv_room hst) hdg hf
theorem k_i {post : Int32 → AH → Prop} {a : Array Value} (hH : HS G.1 G.2.1 A s.heap h H locs) (hr : va_Run p l e R s m args below meth c H locs cells slots mc ms (F0 m pc ls stk) rest (va_Qi post (fun h' t => HW G.1 G.2.1 A h' t.heap) A a) A)
    (kk : ∀ (r : Int32) (h' : AH) (H1 : Heap) (locs1 : List Loc), post r h' → HS G.1 G.2.1 A s.heap h' H1 locs1 → W p l e R s m args below meth c H1 locs1 (cells + mc) (slots + ms) Q (F0 m (pc + 3) ls (.int r :: rest))) : W p l e R s m args below meth c H locs cells slots Q (F0 m pc ls stk) :=
  va_calli hr hH.2 (fun _ _ q => q) (fun _ q => q) (fun r h' t H1 locs1 ht hvm hp hB hz hk hS1 => kk r h' H1 locs1 hp ⟨by rw [← ht]; exact hB, hS1⟩)
theorem k_v {post : AH → Prop} {a : Array Value} (hH : HS G.1 G.2.1 A s.heap h H locs) (hr : va_Run p l e R s m args below meth c H locs cells slots mc ms (F0 m pc ls stk) rest (va_Qv post (fun h' t => HW G.1 G.2.1 A h' t.heap) A a) A)
    (kk : ∀ (h' : AH) (H1 : Heap) (locs1 : List Loc), post h' → HS G.1 G.2.1 A s.heap h' H1 locs1 → W p l e R s m args below meth c H1 locs1 (cells + mc) (slots + ms) Q (F0 m (pc + 3) ls rest)) : W p l e R s m args below meth c H locs cells slots Q (F0 m pc ls stk) :=
  va_callv hr hH.2 (fun _ _ q => q) (fun _ q => q) (fun h' t H1 locs1 ht hvm hp hB hz hk hS1 => kk h' H1 locs1 hp ⟨by rw [← ht]; exact hB, hS1⟩)
theorem k_q {post : Option Nat → AH → Prop} {a : Array Value} (hH : HS G.1 G.2.1 A s.heap h H locs) (hr : va_Run p l e R s m args below meth c H locs cells slots mc ms (F0 m pc ls stk) rest (va_Qq post (fun h' t => HW G.1 G.2.1 A h' t.heap) A a) A)
    (kk : ∀ (r : Option Nat) (h' : AH) (H1 : Heap) (locs1 : List Loc), post r h' → HS G.1 G.2.1 A s.heap h' H1 locs1 → W p l e R s m args below meth c H1 locs1 (cells + mc) (slots + ms) Q (F0 m (pc + 3) ls (va_rf r :: rest))) : W p l e R s m args below meth c H locs cells slots Q (F0 m pc ls stk) :=
  va_callq hr hH.2 (fun _ _ q => q) (fun _ q => q) (fun r h' t H1 locs1 ht hvm hp hB hz hk hS1 => kk r h' H1 locs1 hp ⟨by rw [← ht]; exact hB, hS1⟩)
/-! ends -/
theorem e_I {post : Int32 → AH → Prop} {v : Int32} (C0 : CX p l s m args meth c cc nL own G A) (hr : meth.sig.returnType = some .int) (hH : HS G.1 G.2.1 A s.heap h H locs) (hp : post v h) (hc : cells ≤ mc) (hs : slots ≤ ms) (hdg : decode cc pc = .ok (.ireturn, 1)) : W p l e R s m args below meth c H locs cells slots (MQ below (va_Qi post (fun h' t => HW G.1 G.2.1 A h' t.heap) A) args s mc ms A) (F0 m pc ls [.int v]) := by
  obtain ⟨hx, hb, hml, hown, hts, hK, hA, hG, hG2, hlocks⟩ := C0
  refine W.widen hc hs ?_
  exact W.iret hx hb hr (fun t ht hW => ⟨⟨v, h, rfl, hp, by show HW G.1 G.2.1 A h t.heap; rw [ht]; exact hH.1⟩, hH.2.F ht⟩) hH.2.2.2 hdg
theorem e_Z {post : Int32 → AH → Prop} {v : Int32} {rt : FieldType} (C0 : CX p l s m args meth c cc nL own G A) (hr : meth.sig.returnType = some rt) (hn : narrow rt (.int v) = .int v) (hH : HS G.1 G.2.1 A s.heap h H locs) (hp : post v h) (hc : cells ≤ mc) (hs : slots ≤ ms) (hdg : decode cc pc = .ok (.ireturn, 1)) : W p l e R s m args below meth c H locs cells slots (MQ below (va_Qi post (fun h' t => HW G.1 G.2.1 A h' t.heap) A) args s mc ms A) (F0 m pc ls [.int v]) := by
  obtain ⟨hx, hb, hml, hown, hts, hK, hA, hG, hG2, hlocks⟩ := C0
  refine W.widen hc hs ?_
  exact W.zret hx hb hr hn (fun t ht hW => ⟨⟨v, h, rfl, hp, by show HW G.1 G.2.1 A h t.heap; rw [ht]; exact hH.1⟩, hH.2.F ht⟩) hH.2.2.2 hdg
theorem e_V {post : AH → Prop} (C0 : CX p l s m args meth c cc nL own G A) (hr : meth.sig.returnType = none) (hH : HS G.1 G.2.1 A s.heap h H locs) (hp : post h) (hc : cells ≤ mc) (hs : slots ≤ ms) (hdg : decode cc pc = .ok (.return_, 1)) : W p l e R s m args below meth c H locs cells slots (MQ below (va_Qv post (fun h' t => HW G.1 G.2.1 A h' t.heap) A) args s mc ms A) (F0 m pc ls []) := by
  obtain ⟨hx, hb, hml, hown, hts, hK, hA, hG, hG2, hlocks⟩ := C0
  refine W.widen hc hs ?_
  exact W.vret hx hb hr (fun t ht hW => ⟨⟨h, rfl, hp, by show HW G.1 G.2.1 A h t.heap; rw [ht]; exact hH.1⟩, hH.2.F ht⟩) hH.2.2.2 hdg
theorem e_Q {post : Option Nat → AH → Prop} {v : Option Nat} {rt : FieldType} (C0 : CX p l s m args meth c cc nL own G A) (hr : meth.sig.returnType = some rt) (hrt : (∃ n, rt = .object n) ∨ ∃ t, rt = .array t) (hH : HS G.1 G.2.1 A s.heap h H locs) (hp : post v h) (hc : cells ≤ mc) (hs : slots ≤ ms) (hdg : decode cc pc = .ok (.areturn, 1)) : W p l e R s m args below meth c H locs cells slots (MQ below (va_Qq post (fun h' t => HW G.1 G.2.1 A h' t.heap) A) args s mc ms A) (F0 m pc ls [va_rf v]) := by
  obtain ⟨hx, hb, hml, hown, hts, hK, hA, hG, hG2, hlocks⟩ := C0
  refine W.widen hc hs ?_
  exact W.aret hx hb hr hrt (va_rf_or v) (fun t ht hW => ⟨⟨v, h, rfl, hp, by show HW G.1 G.2.1 A h t.heap; rw [ht]; exact hH.1⟩, hH.2.F ht⟩) hH.2.2.2 hdg
end CALLS

