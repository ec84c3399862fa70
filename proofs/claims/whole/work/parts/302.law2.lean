/-! a wrapper's walk: the call, its handlers, the row -/
def HRow (cc : ByteArray) (nL pci k : Nat) (x : Nat × Nat × Nat × Nat) (nm : String) : Prop :=
  covers (⟨x.1, x.2.1, x.2.2.1, x.2.2.2⟩ : ExceptionTableEntry) pci = true ∧ x.2.2.2 ≠ 0 ∧ Cond.classLink "RoutepostLaw" x.2.2.2 nm ∈ lw_all ∧ Cond.castable nm nm ∈ lw_kt ∧
  ∃ (j d : Nat), j < nL ∧ ((∃ f : Fin 4, (f : Nat) = j ∧ decode cc x.2.2.1 = .ok (.astore_n f, 1) ∧ d = 1) ∨ (decode cc x.2.2.1 = .ok (.astore j, 2) ∧ d = 2)) ∧ ∃ v : Int, Int32.ofInt v = nI (k + 1) ∧ decode cc (x.2.2.1 + d) = .ok (.iconst v, 1) ∧ decode cc (x.2.2.1 + d + 1) = .ok (.ireturn, 1)
def HRows (cc : ByteArray) (nL pci : Nat) : Nat → List (Nat × Nat × Nat × Nat) → List String → Prop
  | _, [], [] => True
  | k, x :: xs, nm :: ns => HRow cc nL pci k x nm ∧ (∀ E ∈ ns, (E, nm) ∈ ncL) ∧ HRows cc nL pci (k + 1) xs ns
  | _, _, _ => False
section LAWHANDS
variable {p : Program} {l : Launch} {e : Env} {R : Room} {s : State} {m : MethodId} {args : Array Value} {below : List Frame} {meth : Method} {c : Code} {H : Heap} {locs : List Loc} {cells slots : Nat} {Q : State → Prop}
variable {cc : ByteArray} {pc nL : Nat} {ls : Array Slot} {rest : List Value} {G : GT} {A : Nat → Prop} {cL cD : ClassId} {hh : List (Nat × Nat × Nat × Nat)}
theorem k_hands {E : String} {ce : Cell} {q : Addr} (C0 : CX p l s m args meth c cc nL "RoutepostLaw" G A) (hK : LK cL cD s) (hl : lv_has ls nL []) (hT : c.exceptionTable.toList = tableOf hh) (hcell : H[q]? = some ce) (hv : ce.vm = .none) (hcl : s.vm.findClass E = some ce.cls) :
    ∀ (xs : List (Nat × Nat × Nat × Nat)) (ns : List String) (k : Nat) (hp : List (Nat × Nat × Nat × Nat)), hh = hp ++ xs → HRows cc nL pc k xs ns → E ∈ ns → (∀ z ∈ hp, z.2.2.2 ≠ 0 ∧ ∃ nm : String, Cond.classLink "RoutepostLaw" z.2.2.2 nm ∈ lw_all ∧ (E, nm) ∈ ncL) →
      (∀ (pc' : Nat) (ls' : Array Slot), decode cc pc' = .ok (.ireturn, 1) → W p l e R s m args below meth c H locs cells slots Q (F0 m pc' ls' [.int (kodF E k ns)])) → vx_W p l e R s m args below meth c H locs cells slots Q (F0 m pc ls rest) q := by
  have hxb := C0
  obtain ⟨hx, hb, -⟩ := hxb
  intro xs
  induction xs with
  | nil =>
    intro ns k hp _ hr hE _ _
    cases ns with
    | nil => cases hE
    | cons a b => exact hr.elim
  | cons x xs ih =>
    intro ns k hp hhe hr hE hpass kk
    cases ns with
    | nil => cases hE
    | cons nm ns =>
      obtain ⟨⟨h1, h2, h3, h4, j, d, hj, hd, v, hvv, hd1, hd2⟩, h6, h7⟩ := hr
      by_cases z : E = nm
      · subst z
        refine k_catch (hp := hp) (hs := xs) (x := x) C0 hK (by rw [hT, hhe]) hpass h1 h2 h3 h4 hcell hv hcl ?_
        have key : ∀ ls' : Array Slot, W p l e R s m args below meth c H locs cells slots Q (F0 m (x.2.2.1 + d) ls' []) := fun ls' => by
          refine lv_iconst (v := nI (k + 1)) hx hb hd1 hvv ?_
          have := kk (x.2.2.1 + d + 1) ls' hd2
          rw [show kodF E k (E :: ns) = nI (k + 1) from if_pos rfl] at this
          exact this
        rcases hd with ⟨f, hf, hd, rfl⟩ | ⟨hd, rfl⟩
        · exact lv_astore_n (lv := []) (lv' := _) hx hb hd hf hl hj rfl (fun ls' _ => key ls')
        · exact lv_astore (lv := []) (lv' := _) hx hb hd hl hj rfl (fun ls' _ => key ls')
      · have hE' : E ∈ ns := (List.mem_cons.mp hE).elim (fun e => absurd e z) id
        refine ih ns (k + 1) (hp ++ [x]) (by rw [hhe, List.append_assoc]; rfl) h7 hE' (fun w hw => ?_) (fun pc' ls' hd => ?_)
        · rcases List.mem_append.mp hw with hw | hw
          · exact hpass w hw
          · rw [List.mem_singleton.mp hw]
            exact ⟨h2, nm, h3, h6 E hE'⟩
        · have := kk pc' ls' hd
          rw [show kodF E k (nm :: ns) = kodF E (k + 1) ns from if_neg z] at this
          exact this
end LAWHANDS
def WPost (E0 : Nat) (u : MM) (b0 : BA) (c' : MM) (nms : List String) (X : Option String) (vf : Value) : Int32 → AH × Value → Prop := fun k hv => k = kod nms X ∧ (X = none → hv.2 = vf) ∧ ∃ b', BE u b0 b' ∧ RC E0 hv.1 b' c' ∧ WFc c'
def Pushes (l : Launch) (b : ByteArray) (n : Nat) (lv : List (Nat × Value)) (pc0 pc1 : Nat) (st0 st1 : List Value) : Prop := ∀ (p : Program) (e : Env) (R : Room) (s : State) (m : MethodId) (args : Array Value) (below : List Frame) (meth : Method) (c9 : Code) (H : Heap) (locs : List Loc) (cells slots : Nat) (Q : State → Prop) (ls : Array Slot), p.tables.exec = Jvm.exec → c9.code = b → lv_has ls n lv → W p l e R s m args below meth c9 H locs cells slots Q (F0 m pc1 ls st1) → W p l e R s m args below meth c9 H locs cells slots Q (F0 m pc0 ls st0)
theorem cW_core {l : Launch} {G : GT} {A : Nat → Prop} {h : AH} {b0 : BA} {u c' : MM} {X : Option String} {R : Int32} {vf : Int64} {As av : List Value} {y y9 : MethodName} {b b9 : ByteArray} {n n9 k k9 fr lo mc ms idx pci pcs pce : Nat} {off : Int} {ret9 : Option FieldType} {hh : List (Nat × Nat × Nat × Nat)} {nms : List String} {P : Int32 → AH → Prop} {xp : String → AH → Prop} {cL cD : ClassId} {o : Nat} {v0 : Value}
    (hm : MSW y b n hh k) (mv : MV y9 b9 n9 ret9 k9 "Routepost") (hl : Cond.methodLink "RoutepostLaw" idx y9 ∈ lw_all) (hAs : As.length = k9) (hlen : (lg_sl av).length ≤ n)
    (d_inv : decode b pci = .ok (.invokevirtual idx, 3)) (d_st : decode b pcs = .ok (.lastore, 1)) (d_go : decode b (pcs + 1) = .ok (.goto off, 3)) (hgo : ((pcs + 1 : Nat) : Int) + off = (pce : Int)) (d_0 : decode b pce = .ok (.iconst 0, 1)) (d_r : decode b (pce + 1) = .ok (.ireturn, 1)) (hrows : HRows b n pci 0 hh nms)
    (entry : Pushes l b n (lv_args 0 av) 0 pci [] (As.reverse ++ .ref (b0 14 0) :: [.int 0, .ref o])) (mid : Pushes l b n (lv_args 0 av) (pci + 3) pcs [.int R, .int 0, .ref o] [.long vf, .int 0, .ref o])
    (hR : RC G.2.2.1 h b0 u) (cX : cxI l G A y9 b9 n9 ret9 fr lo mc ms (.ref (b0 14 0) :: As) h P xp)
    (hin : ∀ E, X = some E → E ∈ nms) (hP : ∀ r h', P r h' → X = none ∧ r = R ∧ ∃ b', BE u b0 b' ∧ RC G.2.2.1 h' b' c' ∧ WFc c') (hxp : ∀ E h', xp E h' → X = some E ∧ ∃ b', BE u b0 b' ∧ RC G.2.2.1 h' b' c' ∧ WFc c') :
    cwM l G A y b n hh (fr + 1) (8 + (n9 + 11) + lo) mc ms av h cL cD cL o v0 (WPost G.2.2.1 u b0 c' nms X (.long vf)) := by
  refine cw_of hm hlen ?_
  intro p e s m below meth c9 C0 hT hr hH hK ho hoA ls hl9
  have hxb := C0
  obtain ⟨hx, hb, -⟩ := hxb
  refine entry p e _ s m _ below meth c9 _ _ _ _ _ ls hx hb hl9 ?_
  refine k_wi (rest := [.int 0, .ref o]) hH (k_xrunV C0 hH cX mv hl ci_14 (hR.kind (K := 14) (i := 0) rfl) hAs ⟨Nat.le_refl _, Nat.le_refl _⟩ hl9.1 rfl (by show (1 + (1 + 0) : Nat) ≤ 8; decide) d_inv ⟨by show 0 + mc ≤ mc; omega, by show 0 + ms ≤ ms; omega⟩) ?_ ?_
  · intro E ce q9 h' H1 locs1 hx1 hH1 hce hcv hcl
    obtain ⟨hX, hb'⟩ := hxp E h' hx1
    refine k_hands C0 hK (lv_sub hl9 [] rfl) hT hce hcv hcl hh nms 0 [] rfl hrows (hin E hX) (fun z hz => by cases hz) (fun pc' ls' hd => ?_)
    exact k_wend C0 hr hH1.1 hH1.2.aw (ho.kept hoA hH1.2) (show WPost G.2.2.1 u b0 c' nms X (.long vf) _ (h', v0) from ⟨by rw [hX]; rfl, fun e9 => (by rw [hX] at e9; cases e9), hb'⟩) (by omega) (by omega) hd
  · intro r h' H1 locs1 hp1 hH1
    obtain ⟨hX, rfl, hb'⟩ := hP r h' hp1
    refine mid p e _ s m _ below meth c9 _ _ _ _ _ ls hx hb hl9 ?_
    refine k_last C0 hH1 hK.1.1 (ho.kept hoA hH1.2) hoA d_st ?_
    intro H2 locs2 hW2 hS2 ho2
    refine lv_goto hx hb d_go hgo ?_
    refine lv_iconst (v := 0) hx hb d_0 (by decide) ?_
    exact k_wend C0 hr hW2 hS2 ho2 (show WPost G.2.2.1 u b0 c' nms X (.long vf) _ (h', .long vf) from ⟨by rw [hX]; rfl, fun _ => rfl, hb'⟩) (by omega) (by omega) d_r
