section NEWA
variable {p : Program} {l : Launch} {e : Env} {R : Room} {s : State} {m : MethodId} {args : Array Value} {below : List Frame} {meth : Method} {c : Code} {H : Heap} {locs : List Loc} {cells slots : Nat} {Q : State → Prop}
variable {cc : ByteArray} {pc nL index : Nat} {ls : Array Slot} {rest : List Value} {G : GT} {A : Nat → Prop} {h : AH} {own : String}
/-- new int[n], new char[n], new boolean[n] -/
theorem o_newP {atype : ArrayType} {K t0 : Nat} {ty : FieldType} (C0 : CX p l s m args meth c cc nL own G A) (hH : HS G.1 G.2.1 A s.heap h H locs) (hw : Cond.arrayClass ty ∈ lw_all) (hty : newarray.typeOf atype = ty) (ht : (tyA G.2.1)[t0]? = some (G.2.1 K, ty)) (hK1 : 20 ≤ K) (hK2 : K < 30)
    {n : Int32} {N' : Nat} (hd : ∀ cA : ClassId, vp_cell cA (N', .inl (fun _ => 0)) = arrV cA N' (fun _ => defaultValue ty)) (hn : ¬ n < 0) (hN : n.toNatClampNeg = N') (hbytes : N' * componentBytes ty ≤ 536870912) (hcells : cells + 1 ≤ R.cells) (hslots : slots + N' ≤ R.slots) (hdg : decode cc pc = .ok (.newarray atype, 2))
    (kk : ∀ (q : Nat) (H1 : Heap), aK h q = 0 → HS G.1 G.2.1 A s.heap (pN h q K N') H1 locs → W p l e R s m args below meth c H1 locs (cells + 1) (slots + N') Q (F0 m (pc + 2) ls (.ref q :: rest))) : W p l e R s m args below meth c H locs cells slots Q (F0 m pc ls (.int n :: rest)) := by
  obtain ⟨hx, hb, hml, hown, hts, hK, hA, -⟩ := C0
  obtain ⟨⟨L, hP, hD, hL⟩, hS⟩ := hH
  refine va_newa (atype := atype) hx hb (by rw [hty]; exact hts _ hw) hty hK hP hD hS hA (a0 := (N', .inl (fun _ => 0))) hd hn hN hbytes hcells hslots hdg (fun q cA H1 hK1' hP1 hD1 hS1 => ?_)
  have e1 := (hK1'.2 (tyA G.2.1).length (cA, ty) (by rw [List.getElem?_append_right (Nat.le_refl _), Nat.sub_self]; rfl)).2
  have e2 := (hK.2 t0 (G.2.1 K, ty) ht).2
  have e3 : cA = G.2.1 K := va_RA_one e1 e2
  subst e3
  have hq0 : aK h q = 0 := by
    by_cases z : aK h q = 0
    · exact z
    · exact absurd (hL q z) (va_pl_fresh2 hD1)
  have hB := HW.born (n := N') (k := K) L hP hL hP1 hD1 (by rw [ent_i (K := K) (by rw [aK_pN, if_pos rfl]) hK1 hK2, aN_pN, if_pos rfl]; exact congrArg (fun f => (Sum.inl (G.2.1 K, N', Sum.inl f) : va_E)) (funext fun i => by rw [aI_pN, if_pos rfl]))
  exact kk q H1 hq0 ⟨hB.1, hS1⟩
end NEWA

