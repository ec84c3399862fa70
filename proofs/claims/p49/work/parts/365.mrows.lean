/-! rows of rows -/
section MROWS
variable {p : Program} {l : Launch} {e : Env} {R : Room} {s : State} {m9 : MethodId} {args : Array Value} {below : List Frame} {meth : Method} {c9 : Code} {H : Heap} {locs : List Loc} {cells slots : Nat} {Q : State → Prop}
variable {cc : ByteArray} {pc nL index E0 : Nat} {ls : Array Slot} {rest : List Value} {G : GT} {A : Nat → Prop} {h : AH} {b : BA} {c : MM} {L : LNum} {M : LRef}
theorem self_ok (vm : Vm) (x : ClassId) : vm.assignable x x = true := by
  show vm.assignableAux (255 + 1) x x = true
  rw [Vm.assignableAux]
  simp
theorem c_32 (C0 : CX p l s m9 args meth c9 cc nL "RoutepostLaw" G A) : ∃ kA : Class, s.vm.classes[G.2.1 32]? = some kA ∧ kA.kind = .array (G.2.1 20) (.array .int) := by
  obtain ⟨hx, hb, hml, hown, hts, hK, hA, hG, -⟩ := C0
  obtain ⟨comp, cA, kA, h1, -, h3, h4, h5⟩ := arrayOverA_spec (show (Cond.arrayOver (.array .int)).before args s = true from hG.1 _ ao_rowI)
  have e32 : s.vm.findClass ("[" ++ (FieldType.array .int).toString) = some (G.2.1 32) := (hK.2 5 _ rfl).2
  have e20 : s.vm.findClass ("[" ++ FieldType.int.toString) = some (G.2.1 20) := (hK.2 0 _ rfl).2
  have q1 : cA = G.2.1 32 := Option.some.inj (h5.symm.trans e32)
  have q2 : comp = G.2.1 20 := Option.some.inj (h1.symm.trans e20)
  rw [q1] at h3
  rw [q2] at h4
  exact ⟨kA, h3, h4⟩
theorem j_newM (C0 : CX p l s m9 args meth c9 cc nL "RoutepostLaw" G A) (hH : HS G.1 G.2.1 A s.heap h H locs) (hJ : JW E0 h b c L M) {k : Nat} (hk : k ≤ 1000) (hcl : Cond.classLink "RoutepostLaw" index "[I" ∈ lw_all) (hdg : decode cc pc = .ok (.anewarray index, 3)) (hcells : cells + 1 ≤ R.cells) (hslots : slots + k ≤ R.slots)
    (kk : ∀ (q : Nat) (h : AH) (H : Heap) (locs : List Loc), HS G.1 G.2.1 A s.heap h H locs → JW E0 h b c L (setM M q k (fun _ => none)) → L q = none → M q = none → W p l e R s m9 args below meth c9 H locs (cells + 1) (slots + k) Q (F0 m9 (pc + 3) ls (.ref q :: rest))) : W p l e R s m9 args below meth c9 H locs cells slots Q (F0 m9 pc ls (.int (nI k) :: rest)) := by
  obtain ⟨hx, hb, hml, hown, hts, hK, hA, hG, -⟩ := C0
  obtain ⟨⟨Ls, hP, hD, hL⟩, hS⟩ := hH
  have hkk : (nI k).toNatClampNeg = k := nI_clamp (by omega)
  refine W.anewA (t := .int) hx hb hown (hts _ hcl) (show (Cond.arrayOver (.array .int)).before args s = true from hG.1 _ ao_rowI) rfl hdg rfl (nI_pos (by omega)) (by rw [hkk]; omega) hcells (by rw [hkk]; exact hslots) (fun cA kA comp f1 f2 f3 f4 => ?_)
  rw [hkk]
  have e32 : s.vm.findClass ("[" ++ (FieldType.array .int).toString) = some (G.2.1 32) := (hK.2 5 _ rfl).2
  have ec : cA = G.2.1 32 := Option.some.inj (f1.symm.trans e32)
  rw [ec]
  obtain ⟨H1, hH1⟩ : ∃ z, z = H.push ({ cls := G.2.1 32, slots := Array.replicate k .null, vm := .none } : Cell) := ⟨_, rfl⟩
  rw [← hH1]
  have z1 : H1.size = H.size + 1 := by rw [hH1, Array.size_push]
  have e1 : H1[H.size]? = some (arrV (G.2.1 32) k (fun _ => .null)) := by rw [hH1, Array.getElem?_push_size, ← arrV_new]
  have o1 : ∀ q : Nat, q < H.size → H1[q]? = H[q]? := fun q hq => by rw [hH1, Array.getElem?_push, if_neg (Nat.ne_of_lt hq)]
  have hnew : va_P G.1 vwCl [(H.size, .inl (G.2.1 32, k, .inr (.inr (.inr (.inr (fun _ => none))))))] H1 := fun j x hx' => by
    have hz : j < 1 := (List.getElem?_eq_some_iff.mp hx').1
    rw [show j = 0 by omega] at hx'
    cases hx'
    exact e1
  have hP1 := (hP.kept (fun j x hx' => o1 x.1 (hP j x hx').lt)).app hnew
  have hD1 := hD.push (e := .inl (G.2.1 32, k, .inr (.inr (.inr (.inr (fun _ => none)))))) hP rfl (hA _ hS.1)
  have hB := HW.born (n := k) (k := 32) Ls hP hL hP1 hD1 (by rw [ent_q (K := 32) (by rw [aK_pN, if_pos rfl]) (by omega), aN_pN, if_pos rfl]; exact congrArg (fun f => (Sum.inl (G.2.1 32, k, Sum.inr (Sum.inr (Sum.inr (Sum.inr f)))) : va_E)) (funext fun i => by rw [aR_pN, if_pos rfl]))
  obtain ⟨-, g2, g3⟩ := hJ.newL (n := k) hB.2
  exact kk H.size _ H1 locs ⟨hB.1, Nat.le_trans hS.1 (by omega), fun x h1 h2 => (o1 x (Nat.lt_of_lt_of_le h1 hS.1)).trans (hS.2.1 x h1 h2), hS.2.2⟩ (hJ.newM (n := k) hB.2) g2 g3
theorem j_ldM (C0 : CX p l s m9 args meth c9 cc nL "RoutepostLaw" G A) (hH : HS G.1 G.2.1 A s.heap h H locs) (hJ : JW E0 h b c L M) {a k ix : Nat} {f : Nat → Option Nat} {v : Option Nat} (e1 : M a = some (k, f)) (hlt : ix < k) (hk : k < 2 ^ 31) (hv : f ix = v) (hdg : decode cc pc = .ok (.aaload, 1))
    (kk : W p l e R s m9 args below meth c9 H locs cells slots Q (F0 m9 (pc + 1) ls (va_rf v :: rest))) : W p l e R s m9 args below meth c9 H locs cells slots Q (F0 m9 pc ls (.int (nI ix) :: .ref a :: rest)) := by
  obtain ⟨y1, y2, y3⟩ := hJ.2.2 a k f e1
  obtain ⟨hx, hb, hml, hown, hts, hK, hA, hG, -⟩ := C0
  obtain ⟨⟨Ls, hP, hD, hL⟩, hS⟩ := hH
  obtain ⟨j, hj⟩ := va_pl_get (X := []) (f := ent G.2.1 h) (hL a (by rw [y1]; omega))
  rw [ent_q y1 (by omega), y2] at hj
  have hc : (nI ix).toNatClampNeg = ix := nI_clamp (by omega)
  exact W.aald (v := va_rf v) (ty := .array .int) hx hb (hP j _ hj) ((hK.2 5 _ rfl).1 k (fun j => va_rf (aR h j a))) rfl (fun q => by cases q) (by show ¬ (nI ix < 0 ∨ (arrV _ _ _).slots.size ≤ _); rw [arrV_size, hc]; exact fun q => q.elim (nI_pos (by omega)) (fun q => absurd (show k ≤ ix from q) (by omega))) (by show (arrV _ _ _).slots[_]? = _; rw [hc, arrV_read _ _ hlt]; show some (va_rf (aR h ix a)) = _; rw [y3 ix hlt, hv]) rfl rfl hdg kk
theorem j_stM (C0 : CX p l s m9 args meth c9 cc nL "RoutepostLaw" G A) (hH : HS G.1 G.2.1 A s.heap h H locs) (hJ : JW E0 h b c L M) {a k ix v n0 : Nat} {f : Nat → Option Nat} {f0 : Nat → Int32} (e1 : M a = some (k, f)) (hlt : ix < k) (hk : k < 2 ^ 31) (hv : L v = some (n0, f0)) (hdg : decode cc pc = .ok (.aastore, 1))
    (kk : ∀ (h : AH) (H : Heap) (locs : List Loc), HS G.1 G.2.1 A s.heap h H locs → JW E0 h b c L (setM M a k (fun j => if j = ix then some v else f j)) → W p l e R s m9 args below meth c9 H locs cells slots Q (F0 m9 (pc + 1) ls rest)) : W p l e R s m9 args below meth c9 H locs cells slots Q (F0 m9 pc ls (.ref v :: .int (nI ix) :: .ref a :: rest)) := by
  obtain ⟨kA, k1, k2⟩ := c_32 C0
  obtain ⟨y1, y2, y3⟩ := hJ.2.2 a k f e1
  obtain ⟨v1, -⟩ := hJ.2.1 v n0 f0 hv
  obtain ⟨hx, hb, hml, hown, hts, hK, hA, hG, -⟩ := C0
  obtain ⟨⟨Ls, hP, hD, hL⟩, hS⟩ := hH
  have hi := hL a (by rw [y1]; omega)
  obtain ⟨j, hj⟩ := va_pl_get (X := []) (f := ent G.2.1 h) hi
  have hj2 := hj
  rw [ent_q y1 (by omega)] at hj2
  obtain ⟨jv, hjv⟩ := va_pl_get (X := []) (f := ent G.2.1 h) (hL v (by rw [v1]; omega))
  rw [ent_i v1 (by omega) (by omega)] at hjv
  have hc : (nI ix).toNatClampNeg = ix := nI_clamp (by omega)
  have g1 := hP jv _ hjv
  have g0 := hP j _ hj2
  have hkE : ∃ kE : Class, s.vm.classes[G.2.1 20]? = some kE := by
    have := ((hK.2 0 _ rfl).1 0 (fun _ => .null)).2
    obtain ⟨kE, h9, -⟩ := this
    exact ⟨kE, h9⟩
  obtain ⟨kE, hkE⟩ := hkE
  refine W.aast (kv := kE) (kcomp := kE) hx hb g0 (fun q h => by cases h) (fun h => by cases h) k1 k2 rfl hkE ⟨nI_pos (by omega), by show _ < (arrV _ _ _).slots.size; rw [arrV_size, hc, y2]; exact hlt⟩ g1 (fun q h => by cases h) hkE (self_ok _ _) rfl rfl hdg fun H1 e0 z oq => ?_
  have hup : va_up (ent G.2.1 h) a (.inl (G.2.1 32, aN h a, .inr (.inr (.inr (.inr (va_up (fun i => aR h i a) ix (some v))))))) = ent G.2.1 (pR h ix a (some v)) := funext fun b' => ent_aR y1 (by omega) b'
  have hat : va_at G.1 vwCl (a, .inl (G.2.1 32, aN h a, .inr (.inr (.inr (.inr (va_up (fun i => aR h i a) ix (some v))))))) H1 := by
    show H1[a]? = some (vp_cell _ _)
    rw [e0, hc, vp_cell_q, vp_cell_q, arrV_store]
    congr 2
    funext q
    by_cases hq : q = ix
    · subst hq
      simp [updV, va_up, va_rf]
    · simp [updV, va_up, hq]
  have hP1 := hP.set hD hj hat oq
  have hD1 := hD.set (e := .inl (G.2.1 32, aN h a, .inr (.inr (.inr (.inr (va_up (fun i => aR h i a) ix (some v))))))) hj
  rw [va_pl_set hD hi hj, hup] at hP1 hD1
  exact kk _ H1 _ ⟨⟨Ls, hP1, hD1, hL⟩, hS.put z oq (hD.2 j _ hj2)⟩ (hJ.stM e1)
end MROWS
