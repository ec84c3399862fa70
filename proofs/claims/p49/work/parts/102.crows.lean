/-! ROWS of the class side over the abstract heap -/
def pF (h : AH) (a : Nat) (f : Nat → Option Nat) : AH := (h.1, h.2.1, fun j' a' => if a' = a then f j' else h.2.2.1 j' a', h.2.2.2)
theorem aK_pF (h : AH) (a : Nat) (f : Nat → Option Nat) : aK (pF h a f) = aK h := rfl
theorem aI_pF (h : AH) (a : Nat) (f : Nat → Option Nat) : aI (pF h a f) = aI h := rfl
theorem aN_pF (h : AH) (a : Nat) (f : Nat → Option Nat) : aN (pF h a f) = aN h := rfl
theorem aR_pF (h : AH) (a : Nat) (f : Nat → Option Nat) (j' a' : Nat) : aR (pF h a f) j' a' = if a' = a then f j' else aR h j' a' := rfl
theorem ent_aF {cy : Nat → ClassId} {h : AH} {a K : Nat} {f : Nat → Option Nat} (hk : aK h a = K) (h1 : 30 ≤ K) (b : Nat) : va_up (ent cy h) a (.inl (cy K, aN h a, .inr (.inr (.inr (.inr f))))) b = ent cy (pF h a f) b := by
  by_cases e : b = a
  · subst e
    rw [va_up_self, ent_q (h := pF h b f) hk h1]
    refine congrArg (fun f => (Sum.inl (cy K, aN h b, Sum.inr (Sum.inr (Sum.inr (Sum.inr f)))) : va_E)) (funext fun i' => ?_)
    rw [aR_pF, if_pos rfl]
  · rw [va_up_ne _ _ e]
    exact ent_ext rfl (fun _ => rfl) (fun i => (if_neg e).symm) rfl
def obK (K : Nat) : Prop := K = 5 ∨ K = 7 ∨ K = 8 ∨ K = 9 ∨ K = 10
def getClassN : MethodName := ⟨"java/lang/Object", "getClass", "()Ljava/lang/Class;"⟩
section CROWS
variable {p : Program} {l : Launch} {e : Env} {R : Room} {s : State} {m : MethodId} {args : Array Value} {below : List Frame} {meth : Method} {c : Code} {H : Heap} {locs : List Loc} {cells slots : Nat} {Q : State → Prop}
variable {cc : ByteArray} {pc nL index : Nat} {ls : Array Slot} {rest : List Value} {G : GT} {A : Nat → Prop} {h : AH} {own : String} {a : Nat}
theorem k_chk {K N : Nat} {C : String} {T : u_T} {ty : Nat → FieldType} (C0 : CX p l s m args meth c cc nL own G A) (hH : HS G.1 G.2.1 A s.heap h H locs) (hC : CI K C T ty N) (hk : aK h a = K) (hl : Cond.classLink own index C ∈ lw_all) (hdg : decode cc pc = .ok (.checkcast index, 3))
    (kk : W p l e R s m args below meth c H locs cells slots Q (F0 m (pc + 3) ls (.ref a :: rest))) : W p l e R s m args below meth c H locs cells slots Q (F0 m pc ls (.ref a :: rest)) := by
  have hr := k_recv C0 hH hC hk
  obtain ⟨hx, hb, hml, hown, hts, hK, -⟩ := C0
  exact va_castS hx hb hown (hts _ hl) (hK.1 K _ hC.1).2 hr hdg kk
theorem k_gets0 (C0 : CX p l s m args meth c cc nL own G A) (hH : HS G.1 G.2.1 A s.heap h H locs) (hl : Cond.fieldLink own index "java/util/ArrayList" "DEFAULTCAPACITY_EMPTY_ELEMENTDATA" "[Ljava/lang/Object;" ∈ lw_all) (hdg : decode cc pc = .ok (.getstatic index, 3))
    (kk : W p l e R s m args below meth c H locs cells slots Q (F0 m (pc + 3) ls (.ref G.2.2.1 :: rest))) : W p l e R s m args below meth c H locs cells slots Q (F0 m pc ls rest) := by
  obtain ⟨hx, hb, hml, hown, hts, hK, hA, hG, hG2, -⟩ := C0
  exact va_gets hx hb hG2.2.2.1 hH.2 hown (hts _ hl) (fun x e => e) hdg kk
theorem k_alen0 (C0 : CX p l s m args meth c cc nL own G A) (hH : HS G.1 G.2.1 A s.heap h H locs) (hdg : decode cc pc = .ok (.arraylength, 1))
    (kk : W p l e R s m args below meth c H locs cells slots Q (F0 m (pc + 1) ls (.int 0 :: rest))) : W p l e R s m args below meth c H locs cells slots Q (F0 m pc ls (.ref G.2.2.1 :: rest)) := by
  obtain ⟨hx, hb, hml, hown, hts, hK, hA, hG, hG2, -⟩ := C0
  exact va_tlen hx hb hG2.2.2.2.1 hH.2 rfl hdg kk
theorem k_any (C0 : CX p l s m args meth c cc nL own G A) (hH : HS G.1 G.2.1 A s.heap h H locs) {v : Nat} (hv : obK (aK h v)) : va_Any "java/lang/Object" s H v := by
  have key : ∀ {K N : Nat} {C : String} {T : u_T} {ty : Nat → FieldType}, CI K C T ty N → aK h v = K → Cond.castable C "java/lang/Object" ∈ lw_kt → va_Any "java/lang/Object" s H v := by
    intro K N C T ty hC hk hw
    obtain ⟨cell, h1, h2, h3⟩ := k_recv C0 hH hC hk
    obtain ⟨-, -, -, -, -, hK, -, hG, -⟩ := C0
    obtain ⟨e1, kC, e2, -⟩ := (hK.1 K _ hC.1).2
    refine ⟨cell, h1, h2, ⟨kC, ?_⟩, fun comp hc => vb_asgC (hG.1 _ hw) comp _ hc h3⟩
    rw [← Option.some.inj (e1.symm.trans h3)]
    exact e2
  rcases hv with h5 | h7 | h8 | h9 | h10
  · exact key ci_5 h5 ca_1488
  · exact key ci_7 h7 ca_1473
  · exact key ci_8 h8 ca_1484
  · exact key ci_9 h9 ca_1486
  · exact key ci_10 h10 ca_1478
theorem k_astO (C0 : CX p l s m args meth c cc nL own G A) (hH : HS G.1 G.2.1 A s.heap h H locs) (hk : aK h a = 31) {i : Int32} {n v : Nat} (hn : aN h a = n) (hin : vp_in i n) (hv : obK (aK h v)) (hdg : decode cc pc = .ok (.aastore, 1))
    (kk : ∀ (H1 : Heap) (locs1 : List Loc), HS G.1 G.2.1 A s.heap (pR h i.toNatClampNeg a (some v)) H1 locs1 → W p l e R s m args below meth c H1 locs1 cells slots Q (F0 m (pc + 1) ls rest)) : W p l e R s m args below meth c H locs cells slots Q (F0 m pc ls (.ref v :: .int i :: .ref a :: rest)) := by
  have hany := k_any C0 hH hv
  obtain ⟨hx, hb, hml, hown, hts, hK, -⟩ := C0
  obtain ⟨⟨L, hP, hD, hL⟩, hS⟩ := hH
  have hi := hL a (by rw [hk]; omega)
  obtain ⟨k, hk'⟩ := va_pl_get (X := []) (f := ent G.2.1 h) hi
  have hk2 := hk'
  rw [ent_q hk (by omega)] at hk2
  subst hn
  refine va_astqM hx hb hK hP hD hS k 4 hk2 rfl hany hin hdg (fun H1 locs1 hP1 hD1 hS1 => kk H1 locs1 ⟨⟨L, ?_, ?_, hL⟩, hS1⟩)
  · rw [va_pl_set hD hi hk', va_pl_congr (ent_aR hk (by omega))] at hP1
    exact hP1
  · rw [va_pl_set hD hi hk', va_pl_congr (ent_aR hk (by omega))] at hD1
    exact hD1
theorem k_astN (C0 : CX p l s m args meth c cc nL own G A) (hH : HS G.1 G.2.1 A s.heap h H locs) (hk : aK h a = 31) {i : Int32} {n : Nat} (hn : aN h a = n) (hin : vp_in i n) (hdg : decode cc pc = .ok (.aastore, 1))
    (kk : ∀ (H1 : Heap) (locs1 : List Loc), HS G.1 G.2.1 A s.heap (pR h i.toNatClampNeg a none) H1 locs1 → W p l e R s m args below meth c H1 locs1 cells slots Q (F0 m (pc + 1) ls rest)) : W p l e R s m args below meth c H locs cells slots Q (F0 m pc ls (.null :: .int i :: .ref a :: rest)) := by
  obtain ⟨hx, hb, hml, hown, hts, hK, -⟩ := C0
  obtain ⟨⟨L, hP, hD, hL⟩, hS⟩ := hH
  have hi := hL a (by rw [hk]; omega)
  obtain ⟨k, hk'⟩ := va_pl_get (X := []) (f := ent G.2.1 h) hi
  have hk2 := hk'
  rw [ent_q hk (by omega)] at hk2
  subst hn
  refine va_astqN hx hb hK hP hD hS k 4 hk2 rfl hin hdg (fun H1 locs1 hP1 hD1 hS1 => kk H1 locs1 ⟨⟨L, ?_, ?_, hL⟩, hS1⟩)
  · rw [va_pl_set hD hi hk', va_pl_congr (ent_aR hk (by omega))] at hP1
    exact hP1
  · rw [va_pl_set hD hi hk', va_pl_congr (ent_aR hk (by omega))] at hD1
    exact hD1
theorem copyW : Cond.native arraycopyName ∈ lw_all ∧ Cond.static arraycopyName ∈ lw_all ∧ Cond.initialized "java/lang/System" ∈ lw_all := ⟨nt_257, lw_in 256 (by decide +kernel) (by decide +kernel), lw_in1 11 (by decide +kernel) (by decide +kernel)⟩
theorem k_copyO (C0 : CX p l s m args meth c cc nL own G A) (hH : HS G.1 G.2.1 A s.heap h H locs) (hl : Cond.methodLink own index arraycopyName ∈ lw_all) (hls : ls.size = nL) {a0 n0 n1 : Nat} (hk0 : aK h a0 = 31) (hk1 : aK h a = 31) (e0 : aN h a0 = n0) (e1 : aN h a = n1) {sp dp n : Int32} (h1 : ¬ sp < 0) (h2 : ¬ dp < 0) (h3 : ¬ n < 0) (h4 : sp.toNatClampNeg + n.toNatClampNeg ≤ n0) (h5 : dp.toNatClampNeg + n.toNatClampNeg ≤ n1)
    (hel : ∀ i : Nat, i < n.toNatClampNeg → ∀ y : Nat, aR h (sp.toNatClampNeg + i) a0 = some y → obK (aK h y)) (hf : 1 ≤ R.frames) (hlo : (rest.map fun v => v.category).sum + (nativeFrameWords "java/lang/System" "arraycopy" 5 + 11) ≤ R.locals) (hdg : decode cc pc = .ok (.invokestatic index, 3))
    (kk : ∀ (H1 : Heap) (locs1 : List Loc), HS G.1 G.2.1 A s.heap (pF h a (va_cpy (fun i => aR h i a0) (fun i => aR h i a) sp.toNatClampNeg dp.toNatClampNeg n.toNatClampNeg)) H1 locs1 → W p l e R s m args below meth c H1 locs1 cells slots Q (F0 m (pc + 3) ls rest)) : W p l e R s m args below meth c H locs cells slots Q (F0 m pc ls (.int n :: .int dp :: .ref a :: .int sp :: .ref a0 :: rest)) := by
  have hany := fun i hi y hy => k_any C0 hH (hel i hi y hy)
  obtain ⟨hx, hb, hml, hown, hts, hK, -⟩ := C0
  obtain ⟨⟨L, hP, hD, hL⟩, hS⟩ := hH
  have hi0 := hL a0 (by rw [hk0]; omega)
  have hi := hL a (by rw [hk1]; omega)
  obtain ⟨k0, hk0'⟩ := va_pl_get (X := []) (f := ent G.2.1 h) hi0
  obtain ⟨k, hk'⟩ := va_pl_get (X := []) (f := ent G.2.1 h) hi
  have hk2 := hk'
  rw [ent_q hk1 (by omega)] at hk2
  rw [ent_q hk0 (by omega)] at hk0'
  subst e0; subst e1
  refine va_copyM hx hb (hml.trans hls.symm) hown (hts _ hl) (hts _ copyW.1) (hts _ copyW.2.1) (hts _ copyW.2.2) hK hP hD hS k0 k 4 4 hk0' hk2 rfl rfl h1 h2 h3 h4 h5 hany hf hlo hdg (fun H1 locs1 hP1 hD1 hS1 => kk H1 locs1 ⟨⟨L, ?_, ?_, hL⟩, hS1⟩)
  · rw [va_pl_set hD hi hk', va_pl_congr (ent_aF hk1 (by omega))] at hP1
    exact hP1
  · rw [va_pl_set hD hi hk', va_pl_congr (ent_aF hk1 (by omega))] at hD1
    exact hD1
/-- new Object[n], new Hub[n] -/
theorem k_newq {K t0 : Nat} {C : String} (C0 : CX p l s m args meth c cc nL own G A) (hH : HS G.1 G.2.1 A s.heap h H locs) (hcl : Cond.classLink own index C ∈ lw_all) (hao : Cond.arrayOver (.object C) ∈ lw_kt) (ht : (tyA G.2.1)[t0]? = some (G.2.1 K, .object C)) (hK1 : 30 ≤ K)
    {n : Int32} {N' : Nat} (hn : ¬ n < 0) (hN : n.toNatClampNeg = N') (hbytes : N' * 4 ≤ 536870912) (hcells : cells + 1 ≤ R.cells) (hslots : slots + N' ≤ R.slots) (hdg : decode cc pc = .ok (.anewarray index, 3))
    (kk : ∀ (q : Nat) (H1 : Heap), aK h q = 0 → HS G.1 G.2.1 A s.heap (pN h q K N') H1 locs → W p l e R s m args below meth c H1 locs (cells + 1) (slots + N') Q (F0 m (pc + 3) ls (.ref q :: rest))) : W p l e R s m args below meth c H locs cells slots Q (F0 m pc ls (.int n :: rest)) := by
  obtain ⟨hx, hb, hml, hown, hts, hK, hA, hG, -⟩ := C0
  obtain ⟨⟨L, hP, hD, hL⟩, hS⟩ := hH
  refine va_newq hx hb hown (hts _ hcl) (hG.1 _ hao) hK hP hD hS hA hn hN hbytes hcells hslots hdg (fun q cA H1 hK1' hP1 hD1 hS1 => ?_)
  have e1 := (hK1'.2 (tyA G.2.1).length (cA, .object C) (by rw [List.getElem?_append_right (Nat.le_refl _), Nat.sub_self]; rfl)).2
  have e2 := (hK.2 t0 (G.2.1 K, .object C) ht).2
  have e3 : cA = G.2.1 K := va_RA_one e1 e2
  subst e3
  have hq0 : aK h q = 0 := by
    by_cases z : aK h q = 0
    · exact z
    · exact absurd (hL q z) (va_pl_fresh2 hD1)
  have hB := HW.born (n := N') (k := K) L hP hL hP1 hD1 (by rw [ent_q (K := K) (by rw [aK_pN, if_pos rfl]) hK1, aN_pN, if_pos rfl]; exact congrArg (fun f => (Sum.inl (G.2.1 K, N', Sum.inr (Sum.inr (Sum.inr (Sum.inr f)))) : va_E)) (funext fun i => by rw [aR_pN, if_pos rfl]))
  exact kk q H1 hq0 ⟨hB.1, hS1⟩
theorem minW : Cond.code Lib.Math.min.name Lib.Math.min.code 2 (some .int) ∈ lw_all ∧ Cond.static Lib.Math.min.name ∈ lw_all := ⟨by decide +kernel, by decide +kernel⟩
theorem o_mmin (C0 : CX p l s m args meth c cc nL own G A) (hl : Cond.methodLink own index Lib.Math.min.name ∈ lw_all) (hls : ls.size = nL) {x y : Int32} (hdg : decode cc pc = .ok (.invokestatic index, 3)) (hf : 1 ≤ R.frames) (hlo : (rest.map fun v => v.category).sum + 13 ≤ R.locals) (hcs : cells ≤ R.cells ∧ slots ≤ R.slots)
    (kk : W p l e R s m args below meth c H locs cells slots Q (F0 m (pc + 3) ls (.int (if y < x then y else x) :: rest))) : W p l e R s m args below meth c H locs cells slots Q (F0 m pc ls (.int y :: .int x :: rest)) := by
  obtain ⟨hx, hb, hml, hown, hts, -⟩ := C0
  exact va_mmin hx hb (hml.trans hls.symm) hown (hts _ hl) (hts _ minW.2) (hts _ maxW.2.2) (hts _ minW.1) hf hlo hcs.1 hcs.2 hdg kk
theorem objW : Cond.instanceMethod Lib.objectInit ∈ lw_all ∧ Cond.code Lib.objectInit ⟨#[0xb1]⟩ 1 none ∈ lw_all := ⟨by decide +kernel, by decide +kernel⟩
theorem o_objI (C0 : CX p l s m args meth c cc nL own G A) (hl : Cond.methodLink own index Lib.objectInit ∈ lw_all) (hls : ls.size = nL) (hdg : decode cc pc = .ok (.invokespecial index, 3)) (hf : 1 ≤ R.frames) (hlo : (rest.map fun v => v.category).sum + 12 ≤ R.locals)
    (kk : W p l e R s m args below meth c H locs cells slots Q (F0 m (pc + 3) ls rest)) : W p l e R s m args below meth c H locs cells slots Q (F0 m pc ls (.ref a :: rest)) := by
  obtain ⟨hx, hb, hml, hown, hts, -⟩ := C0
  exact W.objInit hx hb hown (hts _ hl) (hts _ objW.1) (hts _ objW.2) rfl (hls.trans hml.symm) rfl hdg hf (by show 2 * 0 + _ + 12 ≤ _; omega) kk
/-! references that may be null, in locals and on the stack -/
theorem o_aload_n_q (hx : p.tables.exec = Jvm.exec) (hb : c.code = cc) {k : Fin 4} {i : Nat} {r : Option Nat} (hdg : decode cc pc = .ok (.aload_n k, 1)) (hi : (k : Nat) = i) (hl : ls[i]? = some (.val (va_rf r)))
    (kk : W p l e R s m args below meth c H locs cells slots Q (F0 m (pc + 1) ls (va_rf r :: rest))) : W p l e R s m args below meth c H locs cells slots Q (F0 m pc ls rest) := by
  cases r with
  | none => exact lv_aload_nN hx hb hdg hi hl kk
  | some x => exact lv_aload_n hx hb hdg hi hl kk
theorem o_aload_q (hx : p.tables.exec = Jvm.exec) (hb : c.code = cc) {i : Nat} {r : Option Nat} (hdg : decode cc pc = .ok (.aload i, 2)) (hl : ls[i]? = some (.val (va_rf r)))
    (kk : W p l e R s m args below meth c H locs cells slots Q (F0 m (pc + 2) ls (va_rf r :: rest))) : W p l e R s m args below meth c H locs cells slots Q (F0 m pc ls rest) := by
  cases r with
  | none => exact lv_aloadN hx hb hdg hl kk
  | some x => exact lv_aload hx hb hdg hl kk
theorem o_astore_n_q (hx : p.tables.exec = Jvm.exec) (hb : c.code = cc) {k : Fin 4} {i nL : Nat} {r : Option Nat} {lv lv' : List (Nat × Value)} (hdg : decode cc pc = .ok (.astore_n k, 1)) (hi : (k : Nat) = i) (hh : lv_has ls nL lv) (hn : i < nL) (hl : (i, va_rf r) :: lv.filter (fun q => !(q.1 == i) && !(q.1 + 1 == i && q.2.category == 2)) = lv')
    (kk : ∀ ls' : Array Slot, lv_has ls' nL lv' → W p l e R s m args below meth c H locs cells slots Q (F0 m (pc + 1) ls' rest)) : W p l e R s m args below meth c H locs cells slots Q (F0 m pc ls (va_rf r :: rest)) := by
  cases r with
  | none => exact lv_astore_nN hx hb hdg hi hh hn hl kk
  | some x => exact lv_astore_n hx hb hdg hi hh hn hl kk
theorem o_astore_q (hx : p.tables.exec = Jvm.exec) (hb : c.code = cc) {i nL : Nat} {r : Option Nat} {lv lv' : List (Nat × Value)} (hdg : decode cc pc = .ok (.astore i, 2)) (hh : lv_has ls nL lv) (hn : i < nL) (hl : (i, va_rf r) :: lv.filter (fun q => !(q.1 == i) && !(q.1 + 1 == i && q.2.category == 2)) = lv')
    (kk : ∀ ls' : Array Slot, lv_has ls' nL lv' → W p l e R s m args below meth c H locs cells slots Q (F0 m (pc + 2) ls' rest)) : W p l e R s m args below meth c H locs cells slots Q (F0 m pc ls (va_rf r :: rest)) := by
  cases r with
  | none => exact lv_astoreN hx hb hdg hh hn hl kk
  | some x => exact lv_astore hx hb hdg hh hn hl kk
theorem o_ifnull_q (hx : p.tables.exec = Jvm.exec) (hb : c.code = cc) {r : Option Nat} {off : Int} {tgt : Nat} (hdg : decode cc pc = .ok (.ifnull off, 3)) (ht : (pc : Int) + off = (tgt : Int))
    (kn : r = none → W p l e R s m args below meth c H locs cells slots Q (F0 m tgt ls rest)) (ks : ∀ x, r = some x → W p l e R s m args below meth c H locs cells slots Q (F0 m (pc + 3) ls rest)) : W p l e R s m args below meth c H locs cells slots Q (F0 m pc ls (va_rf r :: rest)) := by
  cases r with
  | none => exact lv_ifnullN hx hb hdg ht (kn rfl)
  | some x => exact lv_ifnull hx hb hdg (ks x rfl)
theorem o_ifnonnull_q (hx : p.tables.exec = Jvm.exec) (hb : c.code = cc) {r : Option Nat} {off : Int} {tgt : Nat} (hdg : decode cc pc = .ok (.ifnonnull off, 3)) (ht : (pc : Int) + off = (tgt : Int))
    (kn : r = none → W p l e R s m args below meth c H locs cells slots Q (F0 m (pc + 3) ls rest)) (ks : ∀ x, r = some x → W p l e R s m args below meth c H locs cells slots Q (F0 m tgt ls rest)) : W p l e R s m args below meth c H locs cells slots Q (F0 m pc ls (va_rf r :: rest)) := by
  cases r with
  | none => exact lv_ifnonnullN hx hb hdg (kn rfl)
  | some x => exact lv_ifnonnull hx hb hdg ht (ks x rfl)
/-- the mirror of Object[]: of a row, and as a constant -/
theorem k_ldcM (C0 : CX p l s m args meth c cc nL own G A) (hl : Cond.classLink own index "[Ljava/lang/Object;" ∈ lw_all) (hdg : decode cc pc = .ok (.ldc index, 2))
    (kk : W p l e R s m args below meth c H locs cells slots Q (F0 m (pc + 2) ls (.ref (G.2.1 99) :: rest))) : W p l e R s m args below meth c H locs cells slots Q (F0 m pc ls rest) := by
  obtain ⟨hx, hb, hml, hown, hts, hK, hA, hG, -⟩ := C0
  exact va_ldcM hx hb hown (hts _ hl) hG.2.2.2 hdg kk
theorem gcW : Cond.selects "[Ljava/lang/Object;" getClassN getClassN ∈ lw_all ∧ Cond.instanceMethod getClassN ∈ lw_all ∧ Cond.native getClassN ∈ lw_all ∧ Cond.declares getClassN ∈ lw_kt := ⟨by decide +kernel, by decide +kernel, nt_245, by decide +kernel⟩
theorem k_getC (C0 : CX p l s m args meth c cc nL own G A) (hH : HS G.1 G.2.1 A s.heap h H locs) (hls : ls.size = nL) (hk : aK h a = 31) (hl : Cond.methodLink own index getClassN ∈ lw_all) (hf : 1 ≤ R.frames) (hlo : (rest.map fun v => v.category).sum + 14 ≤ R.locals) (hdg : decode cc pc = .ok (.invokevirtual index, 3))
    (kk : W p l e R s m args below meth c H locs cells slots Q (F0 m (pc + 3) ls (.ref (G.2.1 99) :: rest))) : W p l e R s m args below meth c H locs cells slots Q (F0 m pc ls (.ref a :: rest)) := by
  obtain ⟨hx, hb, hml, hown, hts, hK, hA, hG, -⟩ := C0
  obtain ⟨⟨L, hP, hD, hL⟩, hS⟩ := hH
  obtain ⟨k, hk'⟩ := va_pl_get (X := []) (f := ent G.2.1 h) (hL a (by rw [hk]; omega))
  rw [ent_q hk (by omega)] at hk'
  have hra := (hK.2 4 _ (rfl : (tyA G.2.1)[4]? = some (G.2.1 31, .object "java/lang/Object"))).2
  obtain ⟨_, _, _, _, _, e1⟩ := hra
  refine va_getC (C := "[Ljava/lang/Object;") hx hb (hml.trans hls.symm) hown (hts _ hl) (va_Nw.use rfl (hG.1 _ gcW.2.2.2)) (hts _ gcW.1) (hts _ gcW.2.1) (hts _ gcW.2.2.1) hG.2.2.2 ⟨_, hP k _ hk', rfl, ?_⟩ hf hlo hdg kk
  exact e1
end CROWS

