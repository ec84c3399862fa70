/-! rows for the JDK's own methods, over the abstract heap; fields of a list -/
theorem ty3_nf : ∀ j, j < 3 → (TJx4a65c j).2.2.2 = false := by decide
section JROWS
variable {p : Program} {l : Launch} {e : Env} {R : Room} {s : State} {m : MethodId} {args : Array Value} {below : List Frame} {meth : Method} {c : Code} {H : Heap} {locs : List Loc} {cells slots : Nat} {Q : State → Prop}
variable {cc : ByteArray} {pc nL index : Nat} {ls : Array Slot} {rest : List Value} {G : GT} {A : Nat → Prop} {h : AH} {own : String} {a : Nat}
theorem hsame3 {s : State} {args : Array Value} (hts : ∀ w ∈ lw_all, w.before args s = true) {j : Nat} {ref : String} (hr : ref = (TJx4a65c j).1 ∨ j = 0 ∧ ref = "java/util/ArrayList") : ∀ x, s.fieldFound? (TJx4a65c j).1 (TJx4a65c j).2.1 (TJx4a65c j).2.2.1 = some x → s.fieldFound? ref (TJx4a65c j).2.1 (TJx4a65c j).2.2.1 = some x := by
  rcases hr with rfl | ⟨rfl, rfl⟩
  · exact fun x e => e
  · exact fun x e => u_same (hts _ sf_487) x e
theorem j_getI (C0 : CX p l s m args meth c cc nL own G A) (hH : HS G.1 G.2.1 A s.heap h H locs) (hk : aK h a = 3) (j : Nat) (hj : (tyl 3)[j]? = some false) (ref : String) (hr : ref = (TJx4a65c j).1 ∨ j = 0 ∧ ref = "java/util/ArrayList") (hl : Cond.fieldLink own index ref (TJx4a65c j).2.1 (TJx4a65c j).2.2.1 ∈ lw_all) {v : Int32} (hv : aI h j a = v) (hdg : decode cc pc = .ok (.getfield index, 3))
    (kk : W p l e R s m args below meth c H locs cells slots Q (F0 m (pc + 3) ls (.int v :: rest))) : W p l e R s m args below meth c H locs cells slots Q (F0 m pc ls (.ref a :: rest)) := by
  obtain ⟨hx, hb, hml, hown, hts, hK, -⟩ := C0
  obtain ⟨⟨L, hP, hD, hL⟩, hS⟩ := hH
  obtain ⟨c1, c2, c3, c4, c5, c6, c7⟩ := ci_3
  obtain ⟨k, hk'⟩ := va_pl_get (X := []) (f := ent G.2.1 h) (hL a (by rw [hk]; omega))
  rw [ent_o hk c3] at hk'
  have hjN : j < 3 := by rw [← c7]; exact (List.getElem?_eq_some_iff.mp hj).1
  refine va_get hx hb hts c4 hown hK hP k hk' c1 j hjN (hts _ hl) (hsame3 hts hr) (v := .int v) ?_ hdg kk
  rw [fsl_get, hj, ← hv]
  simp [fv]
theorem j_getR (C0 : CX p l s m args meth c cc nL own G A) (hH : HS G.1 G.2.1 A s.heap h H locs) (hk : aK h a = 3) (hl : Cond.fieldLink own index "java/util/ArrayList" "elementData" "[Ljava/lang/Object;" ∈ lw_all) {v : Option Nat} (hv : aR h 1 a = v) (hdg : decode cc pc = .ok (.getfield index, 3))
    (kk : W p l e R s m args below meth c H locs cells slots Q (F0 m (pc + 3) ls (va_rf v :: rest))) : W p l e R s m args below meth c H locs cells slots Q (F0 m pc ls (.ref a :: rest)) := by
  obtain ⟨hx, hb, hml, hown, hts, hK, -⟩ := C0
  exact o_getR hx hb hts hown hK hH ci_3 hk rfl rfl hl hv hdg kk
theorem j_putI (C0 : CX p l s m args meth c cc nL own G A) (hH : HS G.1 G.2.1 A s.heap h H locs) (hk : aK h a = 3) (j : Nat) (hj : (tyl 3)[j]? = some false) (hj2 : tyJx4a65c j = .int) (ref : String) (hr : ref = (TJx4a65c j).1 ∨ j = 0 ∧ ref = "java/util/ArrayList") (hl : Cond.fieldLink own index ref (TJx4a65c j).2.1 (TJx4a65c j).2.2.1 ∈ lw_all) {x : Int32} (hdg : decode cc pc = .ok (.putfield index, 3))
    (kk : ∀ (H1 : Heap) (locs1 : List Loc), HS G.1 G.2.1 A s.heap (pI h j a x) H1 locs1 → W p l e R s m args below meth c H1 locs1 cells slots Q (F0 m (pc + 3) ls rest)) : W p l e R s m args below meth c H locs cells slots Q (F0 m pc ls (.int x :: .ref a :: rest)) := by
  obtain ⟨hx, hb, hml, hown, hts, hK, -⟩ := C0
  obtain ⟨⟨L, hP, hD, hL⟩, hS⟩ := hH
  obtain ⟨c1, c2, c3, c4, c5, c6, c7⟩ := ci_3
  have hin := hL a (by rw [hk]; omega)
  obtain ⟨k, hk'⟩ := va_pl_get (X := []) (f := ent G.2.1 h) hin
  have hk2 := hk'
  rw [ent_o hk c3] at hk2
  have hjN : j < 3 := by rw [← c7]; exact (List.getElem?_eq_some_iff.mp hj).1
  refine va_put hx hb hts c4 tyJx4a65c c5 c6 hown hK hP hD hS k hk2 c1 j hjN (hts _ hl) (hsame3 hts hr) (ty3_nf j hjN) (c5 j hjN) (by rw [hj2]; rfl) (by rw [hj2]; rfl) (by rw [fsl_len, c7]; exact hjN) hdg (fun H1 locs1 hP1 hD1 hS1 => kk H1 locs1 ⟨⟨L, ?_, ?_, hL⟩, hS1⟩)
  · rw [va_pl_set hD hin hk', va_pl_congr (ent_pI hk c3 hj)] at hP1
    exact hP1
  · rw [va_pl_set hD hin hk', va_pl_congr (ent_pI hk c3 hj)] at hD1
    exact hD1
theorem j_putR (C0 : CX p l s m args meth c cc nL own G A) (hH : HS G.1 G.2.1 A s.heap h H locs) (hk : aK h a = 3) (hl : Cond.fieldLink own index "java/util/ArrayList" "elementData" "[Ljava/lang/Object;" ∈ lw_all) {q : Nat} (hdg : decode cc pc = .ok (.putfield index, 3))
    (kk : ∀ (H1 : Heap) (locs1 : List Loc), HS G.1 G.2.1 A s.heap (pR h 1 a (some q)) H1 locs1 → W p l e R s m args below meth c H1 locs1 cells slots Q (F0 m (pc + 3) ls rest)) : W p l e R s m args below meth c H locs cells slots Q (F0 m pc ls (.ref q :: .ref a :: rest)) := by
  obtain ⟨hx, hb, hml, hown, hts, hK, -⟩ := C0
  exact o_putR hx hb hts hown hK hH ci_3 hk rfl rfl hl rfl (fun x => by cases x <;> exact ⟨rfl, rfl⟩) hdg kk
theorem j_aald (C0 : CX p l s m args meth c cc nL own G A) (hH : HS G.1 G.2.1 A s.heap h H locs) (hk : aK h a = 31) {i n : Nat} (hn : aN h a = n) (hi : i < n) (hn2 : n < 2 ^ 31) {v : Option Nat} (hv : aR h i a = v) (hdg : decode cc pc = .ok (.aaload, 1))
    (kk : W p l e R s m args below meth c H locs cells slots Q (F0 m (pc + 1) ls (va_rf v :: rest))) : W p l e R s m args below meth c H locs cells slots Q (F0 m pc ls (.int (nI i) :: .ref a :: rest)) := by
  obtain ⟨hx, hb, hml, hown, hts, hK, -⟩ := C0
  exact o_aald hx hb hK hH hk (Or.inr rfl) hn (vp_in_nI hi hn2) (by rw [nI_clamp (by omega)]; exact hv) hdg kk
theorem j_alen (C0 : CX p l s m args meth c cc nL own G A) (hH : HS G.1 G.2.1 A s.heap h H locs) (hk : aK h a = 31) {n : Nat} (hn : aN h a = n) (hdg : decode cc pc = .ok (.arraylength, 1))
    (kk : W p l e R s m args below meth c H locs cells slots Q (F0 m (pc + 1) ls (.int (nI n) :: rest))) : W p l e R s m args below meth c H locs cells slots Q (F0 m pc ls (.ref a :: rest)) := by
  obtain ⟨hx, hb, hml, hown, hts, hK, -⟩ := C0
  exact o_alen hx hb hK hH 4 (ty := .object "java/lang/Object") (by rw [hk]; rfl) (by omega) (by rw [hn]; rfl) hdg kk
theorem k_alen0e (C0 : CX p l s m args meth c cc nL own G A) (hH : HS G.1 G.2.1 A s.heap h H locs) (he : a = G.2.2.1) (hdg : decode cc pc = .ok (.arraylength, 1))
    (kk : W p l e R s m args below meth c H locs cells slots Q (F0 m (pc + 1) ls (.int 0 :: rest))) : W p l e R s m args below meth c H locs cells slots Q (F0 m pc ls (.ref a :: rest)) := by
  subst he
  exact k_alen0 C0 hH hdg kk
end JROWS

