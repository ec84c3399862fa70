/-! THE LAW's own rows beside the class's world: one heap, h; O tells the law's addresses. A call of the class is made on the rest of it. -/
def aO (A : Nat → Prop) (O : Nat → Bool) : Nat → Prop := fun q => A q ∧ O q = false
def rO (O : Nat → Bool) (h : AH) : AH := (fun a => if O a = true then 0 else aK h a, h.2)
def jO (O : Nat → Bool) (h1 h : AH) : AH := (fun a => if O a = true then aK h a else aK h1 a, fun j a => if O a = true then aI h j a else aI h1 j a, fun j a => if O a = true then aR h j a else aR h1 j a, fun a => if O a = true then aN h a else aN h1 a, aG h1)
theorem aK_rO (O : Nat → Bool) (h : AH) (a : Nat) : aK (rO O h) a = if O a = true then 0 else aK h a := rfl
theorem aK_jO (O : Nat → Bool) (h1 h : AH) (a : Nat) : aK (jO O h1 h) a = if O a = true then aK h a else aK h1 a := rfl
theorem aI_jO (O : Nat → Bool) (h1 h : AH) (j a : Nat) : aI (jO O h1 h) j a = if O a = true then aI h j a else aI h1 j a := rfl
theorem aR_jO (O : Nat → Bool) (h1 h : AH) (j a : Nat) : aR (jO O h1 h) j a = if O a = true then aR h j a else aR h1 j a := rfl
theorem aN_jO (O : Nat → Bool) (h1 h : AH) (a : Nat) : aN (jO O h1 h) a = if O a = true then aN h a else aN h1 a := rfl
theorem ff_nt {x : Bool} (h : x = false) : ¬ x = true := by rw [h]; decide
theorem ent_rO {cy : Nat → ClassId} {O : Nat → Bool} {h : AH} {a : Nat} (ho : O a = false) : ent cy (rO O h) a = ent cy h a := ent_ext (if_neg (ff_nt ho)) (fun _ => rfl) (fun _ => rfl) rfl
theorem ent_jO1 {cy : Nat → ClassId} {O : Nat → Bool} {h1 h : AH} {a : Nat} (ho : O a = false) : ent cy (jO O h1 h) a = ent cy h1 a := ent_ext (if_neg (ff_nt ho)) (fun _ => if_neg (ff_nt ho)) (fun _ => if_neg (ff_nt ho)) (if_neg (ff_nt ho))
theorem ent_jO2 {cy : Nat → ClassId} {O : Nat → Bool} {h1 h : AH} {a : Nat} (ho : O a = true) : ent cy (jO O h1 h) a = ent cy h a := ent_ext (if_pos ho) (fun _ => if_pos ho) (fun _ => if_pos ho) (if_pos ho)
theorem HW.out {D : va_G} {cy : Nat → ClassId} {A : Nat → Prop} {h : AH} {H : Heap} (hW : HW D cy A h H) : ∃ L : List Nat, L.Nodup ∧ (∀ a ∈ L, va_at D vwCl (a, ent cy h a) H ∧ A a ∧ a < H.size) ∧ ∀ a, aK h a ≠ 0 → a ∈ L := by
  obtain ⟨L, hP, hD, hL⟩ := hW
  refine ⟨L, ?_, fun a ha => ?_, hL⟩
  · refine List.nodup_iff_pairwise_ne.mpr (List.pairwise_iff_getElem.mpr (fun i j hi hj hij e => ?_))
    have key : ∀ k (hk : k < L.length), ([] ++ va_pl L (ent cy h))[k]? = some (L[k], ent cy h L[k]) := fun k hk => by
      show (L.map _)[k]? = _
      rw [List.getElem?_map, List.getElem?_eq_getElem hk]
      rfl
    have := hD.1 i j _ _ (key i hi) (key j hj) e
    omega
  · obtain ⟨k, hk⟩ := va_pl_get (X := []) (f := ent cy h) ha
    exact ⟨hP k _ hk, hD.2 k _ hk, (hP k _ hk).lt⟩
theorem HW.into {D : va_G} {cy : Nat → ClassId} {A : Nat → Prop} {h : AH} {H : Heap} (L : List Nat) (hn : L.Nodup) (hx : ∀ a ∈ L, va_at D vwCl (a, ent cy h a) H ∧ A a) (hL : ∀ a, aK h a ≠ 0 → a ∈ L) : HW D cy A h H := by
  have key : ∀ (k : Nat) (q : Nat × va_E), ([] ++ va_pl L (ent cy h))[k]? = some q → ∃ a, L[k]? = some a ∧ q = (a, ent cy h a) := fun k q hk => by
    have hk' : (L.map (fun a => (a, ent cy h a)))[k]? = some q := hk
    rw [List.getElem?_map] at hk'
    obtain ⟨a, ha, e⟩ := Option.map_eq_some_iff.mp hk'
    exact ⟨a, ha, e.symm⟩
  refine ⟨L, fun k q hk => ?_, ⟨fun i j p q hi hj e => ?_, fun k q hk => ?_⟩, hL⟩
  · obtain ⟨a, ha, rfl⟩ := key k q hk
    exact (hx a (List.mem_of_getElem? ha)).1
  · obtain ⟨a, ha, rfl⟩ := key i p hi
    obtain ⟨b, hb, rfl⟩ := key j q hj
    have e' : a = b := e
    exact (List.getElem?_inj (List.getElem?_eq_some_iff.mp ha).1 hn).mp (by rw [ha, hb, e'])
  · obtain ⟨a, ha, rfl⟩ := key k q hk
    exact (hx a (List.mem_of_getElem? ha)).2
/-- the class's part of the world -/
theorem HW.rest {D : va_G} {cy : Nat → ClassId} {A : Nat → Prop} {O : Nat → Bool} {h : AH} {H : Heap} (hW : HW D cy A h H) : HW D cy (aO A O) (rO O h) H := by
  obtain ⟨L, h1, h2, h3⟩ := hW.out
  refine HW.into (L.filter (fun a => !O a)) (List.Pairwise.filter _ h1) (fun a ha => ?_) (fun a ha => ?_)
  · obtain ⟨m1, m2⟩ := List.mem_filter.mp ha
    have m3 : O a = false := by simpa using m2
    rw [ent_rO m3]
    exact ⟨(h2 a m1).1, (h2 a m1).2.1, m3⟩
  · rw [aK_rO] at ha
    by_cases z : O a = true
    · rw [if_pos z] at ha; exact absurd rfl ha
    · rw [if_neg z] at ha
      exact List.mem_filter.mpr ⟨h3 a ha, by simpa using z⟩
/-- both parts together again -/
theorem HW.joined {D : va_G} {cy : Nat → ClassId} {A : Nat → Prop} {O : Nat → Bool} {h h1 : AH} {H H1 : Heap} (hW : HW D cy A h H) (hW1 : HW D cy (aO A O) h1 H1) (hk : ∀ q : Nat, q < H.size → ¬ aO A O q → H1[q]? = H[q]?) : HW D cy A (jO O h1 h) H1 := by
  obtain ⟨L, a1, a2, a3⟩ := hW.out
  obtain ⟨L1, b1, b2, b3⟩ := hW1.out
  have hd : ∀ a ∈ L1, O a = false := fun a ha => (b2 a ha).2.1.2
  refine HW.into (L1 ++ L.filter O) (List.nodup_append.mpr ⟨b1, List.Pairwise.filter _ a1, fun a ha b hb e => ?_⟩) (fun a ha => ?_) (fun a ha => ?_)
  · subst e
    have h1 := hd a ha
    have h2 := (List.mem_filter.mp hb).2
    rw [h1] at h2
    cases h2
  · rcases List.mem_append.mp ha with m | m
    · rw [ent_jO1 (hd a m)]
      exact ⟨(b2 a m).1, (b2 a m).2.1.1⟩
    · obtain ⟨m1, m2⟩ := List.mem_filter.mp m
      rw [ent_jO2 m2]
      obtain ⟨c1, c2, c3⟩ := a2 a m1
      exact ⟨c1.kept (hk a c3 (fun z => by rw [z.2] at m2; cases m2)), c2⟩
  · rw [aK_jO] at ha
    by_cases z : O a = true
    · rw [if_pos z] at ha
      exact List.mem_append_right _ (List.mem_filter.mpr ⟨a3 a ha, z⟩)
    · rw [if_neg z] at ha
      exact List.mem_append_left _ (b3 a ha)
section FRAMED
variable {p : Program} {l : Launch} {e : Env} {R : Room} {s : State} {m : MethodId} {args : Array Value} {below : List Frame} {meth : Method} {c : Code} {H : Heap} {locs : List Loc} {cells slots : Nat} {Q : State → Prop}
variable {cc : ByteArray} {pc nL index : Nat} {ls : Array Slot} {rest stk : List Value} {G : GT} {A : Nat → Prop} {h : AH} {own : String} {O : Nat → Bool}
variable {y : MethodName} {bytes : ByteArray} {maxL n fr lo mc ms : Nat} {ret : Option FieldType} {Qc : Array Value → State → Outcome → State → Prop} {XC : String → State → State → Prop} {As : List Value} {b K N : Nat} {C : String} {T : u_T} {ty : Nat → FieldType} {xp : String → AH → Prop}
theorem WP.atO (C0 : CX p l s m args meth c cc nL own G A) (hH : HS G.1 G.2.1 A s.heap h H locs) (hO : ∀ q, O q = true → aK h q ≠ 0) (U : State) (hU : U.heap = H) (hW : s.WarmedH U.vm) : WP G (aO A O) (rO O h) U := by
  obtain ⟨h1, h2, h3, h4, h5⟩ := WP.at C0 hH U hU hW
  refine ⟨fun q hq => ⟨h1 q hq, ?_⟩, h2.rest, h3, h4, h5.narrow (fun q hq => hq.1)⟩
  cases z : O q with
  | false => rfl
  | true =>
    have := (h2.lt (hO q z)).1
    omega
/-- a call of the class that ends -/
theorem k_fV (C0 : CX p l s m args meth c cc nL own G A) (hH : HS G.1 G.2.1 A s.heap h H locs) (hO : ∀ q, O q = true → aK h q ≠ 0) (hM : Met l y (ws_ y bytes maxL ret) (rmm fr lo mc ms) (va_Pc (.ref b :: As) (WP G (aO A O) (rO O h))) Qc mc ms (aO A O)) (mv : MV y bytes maxL ret n C) (hl : Cond.methodLink own index y ∈ lw_all) (hC : CI K C T ty N) (hk : aK h b = K) (hAs : As.length = n) (hR : fr + 1 ≤ R.frames ∧ 8 + (maxL + 11) + lo ≤ R.locals) (hls : ls.size = nL) (hstk : stk = As.reverse ++ .ref b :: rest) (hst : (rest.map fun v => v.category).sum ≤ 8) (hdg : decode cc pc = .ok (.invokevirtual index, 3)) (hf : cells + mc ≤ R.cells ∧ slots + ms ≤ R.slots) :
    va_Run p l e R s m args below meth c H locs cells slots mc ms (F0 m pc ls stk) rest (Qc (Value.ref b :: As).toArray) (aO A O) := by
  have hr := k_recv C0 hH hC hk
  have hw := fun U hU hW => WP.atO C0 hH hO U hU hW
  obtain ⟨hx, hb, hml, hown, hts, -⟩ := C0
  exact va_runV (C := C) ⟨hx, hb, hml, hown, hts⟩ hM (cwV n hts (mv.good hl) rfl rfl rfl ⟨mv.2.2.2.2.1, mv.2.2.2.2.2⟩ hR) ⟨WP.blind, hr, fun U hU hW => ⟨rfl, hw U hU hW⟩⟩ rfl hAs hls hstk (lv_room hst) hdg hf
/-- .. or throws -/
theorem k_fX (C0 : CX p l s m args meth c cc nL own G A) (hH : HS G.1 G.2.1 A s.heap h H locs) (hO : ∀ q, O q = true → aK h q ≠ 0) (hM : vx_Met l y (ws_ y bytes maxL ret) (rmm fr lo mc ms) (va_Pc (.ref b :: As) (WP G (aO A O) (rO O h))) Qc XC mc ms (aO A O)) (mv : MV y bytes maxL ret n C) (hl : Cond.methodLink own index y ∈ lw_all) (hC : CI K C T ty N) (hk : aK h b = K) (hAs : As.length = n) (hR : fr + 1 ≤ R.frames ∧ 8 + (maxL + 11) + lo ≤ R.locals) (hls : ls.size = nL) (hstk : stk = As.reverse ++ .ref b :: rest) (hst : (rest.map fun v => v.category).sum ≤ 8) (hdg : decode cc pc = .ok (.invokevirtual index, 3)) (hf : cells + mc ≤ R.cells ∧ slots + ms ≤ R.slots) :
    vx_Run p l e R s m args below meth c H locs cells slots mc ms (F0 m pc ls stk) rest (Qc (Value.ref b :: As).toArray) XC (aO A O) := by
  have hr := k_recv C0 hH hC hk
  have hw := fun U hU hW => WP.atO C0 hH hO U hU hW
  obtain ⟨hx, hb, hml, hown, hts, -⟩ := C0
  exact vx_runV (C := C) ⟨hx, hb, hml, hown, hts⟩ hM (cwV n hts (mv.good hl) rfl rfl rfl ⟨mv.2.2.2.2.1, mv.2.2.2.2.2⟩ hR) ⟨WP.blind, hr, fun U hU hW => ⟨rfl, hw U hU hW⟩⟩ rfl hAs hls hstk (lv_room hst) hdg hf
theorem hs_join {h1 : AH} {H1 : Heap} {locs1 : List Loc} (hH : HS G.1 G.2.1 A s.heap h H locs) (hB : HW G.1 G.2.1 (aO A O) h1 H1) (hk : ∀ q : Nat, q < H.size → ¬ aO A O q → H1[q]? = H[q]?) (hS1 : va_S A s.heap H1 locs1) : HS G.1 G.2.1 A s.heap (jO O h1 h) H1 locs1 ∧ ∀ q, aK h1 q ≠ 0 → O q = false := ⟨⟨hH.1.joined hB hk, hS1⟩, fun _ hq => (hB.lt hq).2.2⟩
theorem k_fi {post : Int32 → AH → Prop} {a : Array Value} (hH : HS G.1 G.2.1 A s.heap h H locs) (hr : va_Run p l e R s m args below meth c H locs cells slots mc ms (F0 m pc ls stk) rest (va_Qi post (fun h' t => HW G.1 G.2.1 (aO A O) h' t.heap) (aO A O) a) (aO A O))
    (kk : ∀ (r : Int32) (h1 : AH) (H1 : Heap) (locs1 : List Loc), post r h1 → HS G.1 G.2.1 A s.heap (jO O h1 h) H1 locs1 → (∀ q, aK h1 q ≠ 0 → O q = false) → W p l e R s m args below meth c H1 locs1 (cells + mc) (slots + ms) Q (F0 m (pc + 3) ls (.int r :: rest))) : W p l e R s m args below meth c H locs cells slots Q (F0 m pc ls stk) :=
  va_calli hr hH.2 (fun _ _ q => q.1) (fun _ q => q.1) (fun r h1 t H1 locs1 ht hvm hp hB hz hk hS1 => by
    rw [ht] at hB
    exact kk r h1 H1 locs1 hp (hs_join hH hB hk hS1).1 (hs_join hH hB hk hS1).2)
theorem k_fxi {post : Int32 → AH → Prop} {a : Array Value} (hH : HS G.1 G.2.1 A s.heap h H locs) (hr : vx_Run p l e R s m args below meth c H locs cells slots mc ms (F0 m pc ls stk) rest (va_Qi post (fun h' t => HW G.1 G.2.1 (aO A O) h' t.heap) (aO A O) a) (xcP G (aO A O) xp) (aO A O))
    (kx : ∀ (E : String) (ce : Cell) (q9 : Addr) (h1 : AH) (H1 : Heap) (locs1 : List Loc), xp E h1 → HS G.1 G.2.1 A s.heap (jO O h1 h) H1 locs1 → (∀ q, aK h1 q ≠ 0 → O q = false) → H1[q9]? = some ce → ce.vm = .none → s.vm.findClass E = some ce.cls → vx_W p l e R s m args below meth c H1 locs1 (cells + mc) (slots + ms) Q (F0 m pc ls rest) q9)
    (kk : ∀ (r : Int32) (h1 : AH) (H1 : Heap) (locs1 : List Loc), post r h1 → HS G.1 G.2.1 A s.heap (jO O h1 h) H1 locs1 → (∀ q, aK h1 q ≠ 0 → O q = false) → W p l e R s m args below meth c H1 locs1 (cells + mc) (slots + ms) Q (F0 m (pc + 3) ls (.int r :: rest))) : W p l e R s m args below meth c H locs cells slots Q (F0 m pc ls stk) :=
  vx_calli hr hH.2 (fun _ _ q => q.1) (fun _ q => q.1) (fun _ _ q => q.1) (fun E ce q9 h1 t H1 locs1 ht hvm _ hB hz hk hS1 hce hcv hcl => by
    rw [ht] at hB
    exact kx E ce q9 h1 H1 locs1 hB.1 (hs_join hH hB.2 hk hS1).1 (hs_join hH hB.2 hk hS1).2 hce hcv hcl)
    (fun r h1 t H1 locs1 ht hvm hp hB hz hk hS1 => by
    rw [ht] at hB
    exact kk r h1 H1 locs1 hp (hs_join hH hB hk hS1).1 (hs_join hH hB hk hS1).2)
theorem k_fxf {post : UInt32 → AH → Prop} {a : Array Value} (hH : HS G.1 G.2.1 A s.heap h H locs) (hr : vx_Run p l e R s m args below meth c H locs cells slots mc ms (F0 m pc ls stk) rest (va_Qf post (fun h' t => HW G.1 G.2.1 (aO A O) h' t.heap) (aO A O) a) (xcP G (aO A O) xp) (aO A O))
    (kx : ∀ (E : String) (ce : Cell) (q9 : Addr) (h1 : AH) (H1 : Heap) (locs1 : List Loc), xp E h1 → HS G.1 G.2.1 A s.heap (jO O h1 h) H1 locs1 → (∀ q, aK h1 q ≠ 0 → O q = false) → H1[q9]? = some ce → ce.vm = .none → s.vm.findClass E = some ce.cls → vx_W p l e R s m args below meth c H1 locs1 (cells + mc) (slots + ms) Q (F0 m pc ls rest) q9)
    (kk : ∀ (r : UInt32) (h1 : AH) (H1 : Heap) (locs1 : List Loc), post r h1 → HS G.1 G.2.1 A s.heap (jO O h1 h) H1 locs1 → (∀ q, aK h1 q ≠ 0 → O q = false) → W p l e R s m args below meth c H1 locs1 (cells + mc) (slots + ms) Q (F0 m (pc + 3) ls (.float r :: rest))) : W p l e R s m args below meth c H locs cells slots Q (F0 m pc ls stk) :=
  vx_callf hr hH.2 (fun _ _ q => q.1) (fun _ q => q.1) (fun _ _ q => q.1) (fun E ce q9 h1 t H1 locs1 ht hvm _ hB hz hk hS1 hce hcv hcl => by
    rw [ht] at hB
    exact kx E ce q9 h1 H1 locs1 hB.1 (hs_join hH hB.2 hk hS1).1 (hs_join hH hB.2 hk hS1).2 hce hcv hcl)
    (fun r h1 t H1 locs1 ht hvm hp hB hz hk hS1 => by
    rw [ht] at hB
    exact kk r h1 H1 locs1 hp (hs_join hH hB hk hS1).1 (hs_join hH hB hk hS1).2)
theorem k_fxd {post : UInt64 → AH → Prop} {a : Array Value} (hH : HS G.1 G.2.1 A s.heap h H locs) (hr : vx_Run p l e R s m args below meth c H locs cells slots mc ms (F0 m pc ls stk) rest (va_Qd post (fun h' t => HW G.1 G.2.1 (aO A O) h' t.heap) (aO A O) a) (xcP G (aO A O) xp) (aO A O))
    (kx : ∀ (E : String) (ce : Cell) (q9 : Addr) (h1 : AH) (H1 : Heap) (locs1 : List Loc), xp E h1 → HS G.1 G.2.1 A s.heap (jO O h1 h) H1 locs1 → (∀ q, aK h1 q ≠ 0 → O q = false) → H1[q9]? = some ce → ce.vm = .none → s.vm.findClass E = some ce.cls → vx_W p l e R s m args below meth c H1 locs1 (cells + mc) (slots + ms) Q (F0 m pc ls rest) q9)
    (kk : ∀ (r : UInt64) (h1 : AH) (H1 : Heap) (locs1 : List Loc), post r h1 → HS G.1 G.2.1 A s.heap (jO O h1 h) H1 locs1 → (∀ q, aK h1 q ≠ 0 → O q = false) → W p l e R s m args below meth c H1 locs1 (cells + mc) (slots + ms) Q (F0 m (pc + 3) ls (.double r :: rest))) : W p l e R s m args below meth c H locs cells slots Q (F0 m pc ls stk) :=
  vx_calld hr hH.2 (fun _ _ q => q.1) (fun _ q => q.1) (fun _ _ q => q.1) (fun E ce q9 h1 t H1 locs1 ht hvm _ hB hz hk hS1 hce hcv hcl => by
    rw [ht] at hB
    exact kx E ce q9 h1 H1 locs1 hB.1 (hs_join hH hB.2 hk hS1).1 (hs_join hH hB.2 hk hS1).2 hce hcv hcl)
    (fun r h1 t H1 locs1 ht hvm hp hB hz hk hS1 => by
    rw [ht] at hB
    exact kk r h1 H1 locs1 hp (hs_join hH hB hk hS1).1 (hs_join hH hB hk hS1).2)
end FRAMED
/-! the law's rows: of numbers (L), of rows (M); their addresses, lengths, what they hold -/
abbrev LNum : Type := Nat → Option (Nat × (Nat → Int32))
abbrev LRef : Type := Nat → Option (Nat × (Nat → Option Nat))
def oLM (L : LNum) (M : LRef) (a : Nat) : Bool := (L a).isSome || (M a).isSome
def JW (E : Nat) (h : AH) (b : BA) (c : MM) (L : LNum) (M : LRef) : Prop :=
  RC E h b c ∧ (∀ a n f, L a = some (n, f) → aK h a = 20 ∧ aN h a = n ∧ (∀ i, i < n → aI h i a = f i) ∧ ∀ K i, ok c K i → b K i ≠ a) ∧ (∀ a n f, M a = some (n, f) → aK h a = 32 ∧ aN h a = n ∧ ∀ i, i < n → aR h i a = f i)
theorem JW.rc {E : Nat} {h : AH} {b : BA} {c : MM} {L : LNum} {M : LRef} (hJ : JW E h b c L M) : RC E h b c := hJ.1
theorem oLM_t {L : LNum} {M : LRef} {a : Nat} (h : oLM L M a = true) : (∃ n f, L a = some (n, f)) ∨ ∃ n f, M a = some (n, f) := by
  unfold oLM at h
  cases e : L a with
  | some x => exact Or.inl ⟨x.1, x.2, rfl⟩
  | none =>
    cases e2 : M a with
    | some x => exact Or.inr ⟨x.1, x.2, rfl⟩
    | none => rw [e, e2] at h; cases h
theorem oLM_L {L : LNum} {M : LRef} {a : Nat} {x : Nat × (Nat → Int32)} (h : L a = some x) : oLM L M a = true := by unfold oLM; rw [h]; rfl
theorem oLM_M {L : LNum} {M : LRef} {a : Nat} {x : Nat × (Nat → Option Nat)} (h : M a = some x) : oLM L M a = true := by unfold oLM; rw [h]; cases L a <;> rfl
theorem JW.own {E : Nat} {h : AH} {b : BA} {c : MM} {L : LNum} {M : LRef} (hJ : JW E h b c L M) : ∀ q, oLM L M q = true → aK h q ≠ 0 := fun q hq => by
  rcases oLM_t hq with ⟨n, f, e⟩ | ⟨n, f, e⟩
  · rw [(hJ.2.1 q n f e).1]; decide
  · rw [(hJ.2.2 q n f e).1]; decide
theorem ok_32 {c : MM} {K i : Nat} (h : ok c K i) : K ≠ 32 := by
  intro e
  subst e
  exact h
theorem JW.off {E : Nat} {h : AH} {b : BA} {c : MM} {L : LNum} {M : LRef} (hJ : JW E h b c L M) {K i : Nat} (hk : ok c K i) : oLM L M (b K i) = false := by
  cases z : oLM L M (b K i) with
  | false => rfl
  | true =>
    rcases oLM_t z with ⟨n, f, e⟩ | ⟨n, f, e⟩
    · exact absurd rfl ((hJ.2.1 _ n f e).2.2.2 K i hk)
    · have h1 := (hJ.2.2 _ n f e).1
      rw [hJ.1.kind hk] at h1
      exact absurd h1 (ok_32 hk)
/-- what a call of the class stands on -/
theorem JW.rest {E : Nat} {h : AH} {b : BA} {c : MM} {L : LNum} {M : LRef} (hJ : JW E h b c L M) : RC E (rO (oLM L M) h) b c :=
  hJ.1.same (P := fun y => oLM L M y = true) (fun y hy => ⟨if_neg hy, fun _ => rfl, fun _ => rfl, rfl⟩) (fun K i hk => ff_nt (hJ.off hk))
/-- .. and behind it -/
theorem JW.back {E : Nat} {h h1 : AH} {b b1 : BA} {c c1 : MM} {L : LNum} {M : LRef} (hJ : JW E h b c L M) (hR : RC E h1 b1 c1) (hq : ∀ q, aK h1 q ≠ 0 → oLM L M q = false) : JW E (jO (oLM L M) h1 h) b1 c1 L M := by
  have hoff : ∀ K i, ok c1 K i → oLM L M (b1 K i) = false := fun K i hk => hq _ (by rw [hR.kind hk]; exact RC.pos hk)
  refine ⟨hR.same (P := fun y => oLM L M y = true) (fun y hy => ⟨if_neg hy, fun _ => if_neg hy, fun _ => if_neg hy, if_neg hy⟩) (fun K i hk => ff_nt (hoff K i hk)), fun a n f e => ?_, fun a n f e => ?_⟩
  · obtain ⟨x1, x2, x3, x4⟩ := hJ.2.1 a n f e
    have z := oLM_L (M := M) e
    refine ⟨by rw [aK_jO, if_pos z]; exact x1, by rw [aN_jO, if_pos z]; exact x2, fun i hi => by rw [aI_jO, if_pos z]; exact x3 i hi, fun K i hk y => ?_⟩
    have := hoff K i hk
    rw [y, z] at this
    cases this
  · obtain ⟨x1, x2, x3⟩ := hJ.2.2 a n f e
    have z := oLM_M (L := L) e
    exact ⟨by rw [aK_jO, if_pos z]; exact x1, by rw [aN_jO, if_pos z]; exact x2, fun i hi => by rw [aR_jO, if_pos z]; exact x3 i hi⟩
/-- a row with one number changed -/
def upF (f : Nat → Int32) (i : Nat) (x : Int32) : Nat → Int32 := fun k => if k = i then x else f k
def setL (L : LNum) (a n : Nat) (f : Nat → Int32) : LNum := fun q => if q = a then some (n, f) else L q
def setM (M : LRef) (a n : Nat) (f : Nat → Option Nat) : LRef := fun q => if q = a then some (n, f) else M q
theorem setL_s (L : LNum) (a n : Nat) (f : Nat → Int32) : setL L a n f a = some (n, f) := if_pos rfl
theorem setL_o {L : LNum} {a n : Nat} {f : Nat → Int32} {q : Nat} (h : q ≠ a) : setL L a n f q = L q := if_neg h
theorem setL_2 (L : LNum) (a n : Nat) (f g : Nat → Int32) (k : Nat) : setL (setL L a k g) a n f = setL L a n f := funext fun q => by
  unfold setL
  by_cases z : q = a
  · rw [if_pos z, if_pos z]
  · rw [if_neg z, if_neg z, if_neg z]
theorem JW.st {E : Nat} {h : AH} {b : BA} {c : MM} {L : LNum} {M : LRef} (hJ : JW E h b c L M) {a n i : Nat} {f : Nat → Int32} {x : Int32} (e : L a = some (n, f)) : JW E (pI h i a x) b c (setL L a n (upF f i x)) M := by
  obtain ⟨x1, x2, x3, x4⟩ := hJ.2.1 a n f e
  refine ⟨hJ.1.same (SameX.pI h i a x) (fun K k hk => x4 K k hk), fun a' n' f' e' => ?_, fun a' n' f' e' => ?_⟩
  · by_cases z : a' = a
    · subst z
      rw [setL_s] at e'
      cases e'
      exact ⟨x1, x2, fun k hk => by rw [aI_pI]; unfold upF; by_cases w : k = i; (· rw [if_pos ⟨w, rfl⟩, if_pos w]); (· rw [if_neg (fun q => w q.1), if_neg w]; exact x3 k hk), x4⟩
    · rw [setL_o z] at e'
      obtain ⟨y1, y2, y3, y4⟩ := hJ.2.1 a' n' f' e'
      exact ⟨y1, y2, fun k hk => by rw [aI_pI, if_neg (fun q => z q.2)]; exact y3 k hk, y4⟩
  · exact hJ.2.2 a' n' f' e'
theorem JW.newL {E : Nat} {h : AH} {b : BA} {c : MM} {L : LNum} {M : LRef} (hJ : JW E h b c L M) {q n : Nat} (hq : aK h q = 0) : JW E (pN h q 20 n) b c (setL L q n (fun _ => 0)) M ∧ L q = none ∧ M q = none := by
  refine ⟨⟨hJ.1.same (SameX.pN h q 20 n) (fun K i hk => hJ.1.free hq hk), fun a n' f' e' => ?_, fun a n' f' e' => ?_⟩, ?_, ?_⟩
  · by_cases z : a = q
    · subst z
      rw [setL_s] at e'
      cases e'
      exact ⟨by rw [aK_pN, if_pos rfl], by rw [aN_pN, if_pos rfl], fun i _ => by rw [aI_pN, if_pos rfl], fun K i hk => hJ.1.free hq hk⟩
    · rw [setL_o z] at e'
      obtain ⟨y1, y2, y3, y4⟩ := hJ.2.1 a n' f' e'
      exact ⟨by rw [aK_pN, if_neg z]; exact y1, by rw [aN_pN, if_neg z]; exact y2, fun k hk => by rw [aI_pN, if_neg z]; exact y3 k hk, y4⟩
  · obtain ⟨y1, y2, y3⟩ := hJ.2.2 a n' f' e'
    have z : a ≠ q := fun w => by rw [w, hq] at y1; cases y1
    exact ⟨by rw [aK_pN, if_neg z]; exact y1, by rw [aN_pN, if_neg z]; exact y2, fun k hk => by rw [aR_pN, if_neg z]; exact y3 k hk⟩
  · cases e : L q with
    | none => rfl
    | some x => have := (hJ.2.1 q x.1 x.2 e).1; rw [hq] at this; cases this
  · cases e : M q with
    | none => rfl
    | some x => have := (hJ.2.2 q x.1 x.2 e).1; rw [hq] at this; cases this
theorem JW.newM {E : Nat} {h : AH} {b : BA} {c : MM} {L : LNum} {M : LRef} (hJ : JW E h b c L M) {q n : Nat} (hq : aK h q = 0) : JW E (pN h q 32 n) b c L (setM M q n (fun _ => none)) := by
  refine ⟨hJ.1.same (SameX.pN h q 32 n) (fun K i hk => hJ.1.free hq hk), fun a n' f' e' => ?_, fun a n' f' e' => ?_⟩
  · obtain ⟨y1, y2, y3, y4⟩ := hJ.2.1 a n' f' e'
    have z : a ≠ q := fun w => by rw [w, hq] at y1; cases y1
    exact ⟨by rw [aK_pN, if_neg z]; exact y1, by rw [aN_pN, if_neg z]; exact y2, fun k hk => by rw [aI_pN, if_neg z]; exact y3 k hk, y4⟩
  · by_cases z : a = q
    · subst z
      rw [show setM M a n (fun _ => none) a = some (n, fun _ => none) from if_pos rfl] at e'
      cases e'
      exact ⟨by rw [aK_pN, if_pos rfl], by rw [aN_pN, if_pos rfl], fun i _ => by rw [aR_pN, if_pos rfl]⟩
    · rw [show setM M q n (fun _ => none) a = M a from if_neg z] at e'
      obtain ⟨y1, y2, y3⟩ := hJ.2.2 a n' f' e'
      exact ⟨by rw [aK_pN, if_neg z]; exact y1, by rw [aN_pN, if_neg z]; exact y2, fun k hk => by rw [aR_pN, if_neg z]; exact y3 k hk⟩
/-- a row, or none, is laid into a row of rows -/
theorem JW.stM {E : Nat} {h : AH} {b : BA} {c : MM} {L : LNum} {M : LRef} (hJ : JW E h b c L M) {a n i : Nat} {f : Nat → Option Nat} {x : Option Nat} (e : M a = some (n, f)) : JW E (pR h i a x) b c L (setM M a n (fun k => if k = i then x else f k)) := by
  obtain ⟨x1, x2, x3⟩ := hJ.2.2 a n f e
  refine ⟨hJ.1.same (SameX.pR h i a x) (fun K k hk z => ?_), fun a' n' f' e' => ?_, fun a' n' f' e' => ?_⟩
  · have := hJ.1.kind hk
    rw [z, x1] at this
    exact ok_32 hk this.symm
  · exact hJ.2.1 a' n' f' e'
  · by_cases z : a' = a
    · subst z
      rw [show setM M a' n _ a' = some (n, _) from if_pos rfl] at e'
      cases e'
      exact ⟨x1, x2, fun k hk => by rw [aR_pR]; show _ = if k = i then x else f k; by_cases w : k = i; (· rw [if_pos ⟨w, rfl⟩, if_pos w]); (· rw [if_neg (fun q => w q.1), if_neg w]; exact x3 k hk)⟩
    · rw [show setM M a n _ a' = M a' from if_neg z] at e'
      obtain ⟨y1, y2, y3⟩ := hJ.2.2 a' n' f' e'
      exact ⟨y1, y2, fun k hk => by rw [aR_pR, if_neg (fun q => z q.2)]; exact y3 k hk⟩
