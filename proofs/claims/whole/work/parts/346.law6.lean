/-! the law's state: the class's world and the reference's, one beside the other -/
/-- what stays while the law runs -/
def LwF (p : Program) (s : State) (m : MethodId) (c : Code) (b L : Nat) (xs : Nat → Int32) (G : GT) (cL cD : ClassId) (oL oD : Nat) : Prop :=
  (p.tables.exec = Jvm.exec ∧ c.code = code ∧ c.maxLocals = 9 ∧ s.vm.findClass "RoutepostLaw" = some m.cls ∧ (∀ w ∈ lw_all, w.before #[Value.ref b] s = true)) ∧ (va_X b L xs s s.heap ∧ b < s.heap.size) ∧ (va_K G.1 vwCl (tyA G.2.1) s ∧ KSv G s ∧ KSh G (fun q => s.heap.size ≤ q) s s.heap) ∧ LK cL cD s ∧ oL ≠ oD ∧ s.heap.size ≤ oL ∧ s.heap.size ≤ oD
def LwI (s : State) (G : GT) (cL cD : ClassId) (oL oD : Nat) (hc hr : AH) (vL vD : Value) (H : Heap) : Prop :=
  ∃ Ac Ar : Nat → Prop, (∀ q, Ac q → s.heap.size ≤ q ∧ q < H.size ∧ ¬ Ar q ∧ q ≠ oL ∧ q ≠ oD) ∧ (∀ q, Ar q → s.heap.size ≤ q ∧ q < H.size ∧ ¬ Ac q ∧ q ≠ oL ∧ q ≠ oD) ∧ HW G.1 G.2.1 Ac hc H ∧ HW G.1 G.2.1 Ar hr H ∧ OC cL oL vL H ∧ OC cD oD vD H ∧ va_S (fun q => s.heap.size ≤ q) s.heap H []
theorem LwI.swap {s : State} {G : GT} {cL cD : ClassId} {oL oD : Nat} {hc hr : AH} {vL vD : Value} {H : Heap} (h : LwI s G cL cD oL oD hc hr vL vD H) : LwI s G cL cD oL oD hr hc vL vD H := by
  obtain ⟨Ac, Ar, h1, h2, h3, h4, h5⟩ := h
  exact ⟨Ar, Ac, h2, h1, h4, h3, h5⟩
theorem LwI.after {s : State} {G : GT} {cL cD : ClassId} {oL oD : Nat} {hr h' : AH} {vL vD vL' vD' : Value} {H H1 : Heap} {locs1 : List Loc} {Ac Ar : Nat → Prop} (h1 : ∀ q, Ac q → s.heap.size ≤ q ∧ q < H.size ∧ ¬ Ar q ∧ q ≠ oL ∧ q ≠ oD) (h2 : ∀ q, Ar q → s.heap.size ≤ q ∧ q < H.size ∧ ¬ Ac q ∧ q ≠ oL ∧ q ≠ oD) (h4 : HW G.1 G.2.1 Ar hr H) (h5 : OC cL oL vL H) (h6 : OC cD oD vD H) (h7 : va_S (fun q => s.heap.size ≤ q) s.heap H [])
    (hB : HW G.1 G.2.1 (fun q => Ac q ∨ H.size ≤ q) h' H1) (hz : H.size ≤ H1.size) (hk : ∀ q : Nat, q < H.size → ¬ (Ac q ∨ q = oL ∨ q = oD) → H1[q]? = H[q]?) (g5 : OC cL oL vL' H1) (g6 : OC cD oD vD' H1) (hS1 : va_S (fun q => s.heap.size ≤ q) s.heap H1 locs1) : LwI s G cL cD oL oD h' hr vL' vD' H1 := by
  have l5 := h5.lt
  have l6 := h6.lt
  refine ⟨fun q => q < H1.size ∧ (Ac q ∨ H.size ≤ q), Ar, fun q hq => ?_, fun q hq => ?_, hB.weaken (fun q z1 z2 => ⟨z1, z2⟩), h4.kept (fun q hq ha => hk q hq (fun z => ?_)), g5, g6, hS1.1, hS1.2.1, fun _ z => by cases z⟩
  · rcases hq.2 with z | z
    · obtain ⟨a1, a2, a3, a4, a5⟩ := h1 q z
      exact ⟨a1, hq.1, a3, a4, a5⟩
    · exact ⟨Nat.le_trans h7.1 z, hq.1, fun y => absurd (h2 q y).2.1 (by omega), by omega, by omega⟩
  · obtain ⟨a1, a2, a3, a4, a5⟩ := h2 q hq
    exact ⟨a1, by omega, fun y => y.2.elim a3 (fun y => by omega), a4, a5⟩
  · obtain ⟨a1, a2, a3, a4, a5⟩ := h2 q ha
    rcases z with z | z | z
    · exact a3 z
    · exact a4 z
    · exact a5 z
theorem HW.recv {U : State} {D : va_G} {cy : Nat → ClassId} {A : Nat → Prop} {h : AH} {H : Heap} {K N b : Nat} {C : String} {T : u_T} {ty : Nat → FieldType} (hK : va_K D vwCl (tyA cy) U) (hW : HW D cy A h H) (hC : CI K C T ty N) (hk : aK h b = K) : ∃ cell : Cell, H[b]? = some cell ∧ cell.vm.isStatics = false ∧ U.vm.findClass C = some cell.cls := by
  obtain ⟨L, hP, hD, hL⟩ := hW
  obtain ⟨c1, c2, c3, -⟩ := hC
  obtain ⟨k, hk'⟩ := va_pl_get (X := []) (f := ent cy h) (hL b (by rw [hk]; omega))
  rw [ent_o hk c3] at hk'
  exact va_recv hK hP c1 hk'
section LAWCALLS
variable {p : Program} {l : Launch} {e : Env} {s : State} {m : MethodId} {below : List Frame} {meth : Method} {c : Code} {b L : Nat} {xs : Nat → Int32} {G : GT} {cL cD : ClassId} {oL oD : Nat} {hc hr : AH} {vL vD : Value} {H : Heap} {cells slots : Nat} {Q : State → Prop} {pc idx : Nat} {ls : Array Slot} {stk rest : List Value}
theorem LwF.wp {A : Nat → Prop} {h : AH} (F : LwF p s m c b L xs G cL cD oL oD) (h7 : va_S (fun q => s.heap.size ≤ q) s.heap H []) (hA : ∀ q, A q → s.heap.size ≤ q) (hA2 : ∀ q, H.size ≤ q → A q) (hW : HW G.1 G.2.1 A h H) (U : State) (hU : U.heap = H) (hWm : s.WarmedH U.vm) : WP G A h U := by
  obtain ⟨-, -, ⟨hK, hG, hG2⟩, -⟩ := F
  refine ⟨fun q hq => hA2 q (by rw [← hU]; exact hq), by rw [hU]; exact hW, va_K.moved hWm.alike hK, hG.warm hWm, ?_⟩
  rw [hU]
  exact ((hG2.moved hWm.alike).kept h7.2.1).narrow hA
theorem k_wrapL {y : MethodName} {b9 : ByteArray} {n k fr lo mc ms : Nat} {hh : List (Nat × Nat × Nat × Nat)} {av : List Value} {post : Int32 → AH × Value → Prop} (F : LwF p s m c b L xs G cL cD oL oD) (I : LwI s G cL cD oL oD hc hr vL vD H)
    (hM : ∀ A, cwM l G A y b9 n hh fr lo mc ms av hc cL cD cL oL vL post) (hm : MSW y b9 n hh k) (hl : Cond.methodLink "RoutepostLaw" idx y ∈ lw_all) (hav : av.length = k) (hR : fr + 1 ≤ 2048 ∧ 8 + (n + 11) + lo ≤ 94400) (hls : ls.size = 9) (hstk : stk = av.reverse ++ rest) (hst : (rest.map fun v => v.category).sum ≤ 8) (hdg : decode code pc = .ok (.invokestatic idx, 3)) (hf : cells + mc ≤ 603072 ∧ slots + ms ≤ 7207017)
    (kk : ∀ (r : Int32) (u : AH × Value) (H1 : Heap), post r u → LwI s G cL cD oL oD u.1 hr u.2 vD H1 → W p l e room_1 s m #[Value.ref b] below meth c H1 [] (cells + mc) (slots + ms) Q (F0 m (pc + 3) ls (.int r :: rest))) :
    W p l e room_1 s m #[Value.ref b] below meth c H [] cells slots Q (F0 m pc ls stk) := by
  have F' := F
  obtain ⟨⟨hx, hb, hml, hown, hts⟩, -, -, hLK, hne, zL, zD⟩ := F'
  obtain ⟨Ac, Ar, h1, h2, h3, h4, h5, h6, h7⟩ := I
  have l5 := h5.lt
  have l6 := h6.lt
  have hA : ∀ q, (Ac q ∨ H.size ≤ q) → s.heap.size ≤ q := fun q z => z.elim (fun z => (h1 q z).1) (fun z => Nat.le_trans h7.1 z)
  have hoA : ¬ (Ac oL ∨ H.size ≤ oL) := fun z => z.elim (fun z => (h1 oL z).2.2.2.1 rfl) (fun z => by omega)
  have hW1 : HW G.1 G.2.1 (fun q => Ac q ∨ H.size ≤ q) hc H := h3.weaken (fun _ _ z => Or.inl z)
  refine va_calli (A0 := fun q => s.heap.size ≤ q) (H0 := s.heap) (vx_runSW (Ts := lw_all) (own := "RoutepostLaw") (rest := rest) (cc := code) ⟨hx, hb, hml, hown, hts⟩ (hM (fun q => Ac q ∨ H.size ≤ q)) (vx_cwSW k hts (hm.good hl) rfl rfl rfl hm.2.2.2.2 hR) ⟨WX.blind, fun U hU hWm => ⟨rfl, F.wp h7 hA (fun q z => Or.inr z) hW1 U hU hWm, LK.moved hWm.alike hLK, by rw [hU]; exact h5, hoA⟩⟩ rfl hav hls hstk (lv_room hst) hdg hf) h7
    (fun q hq z => z.elim (hA q) (fun z => by rw [z]; exact zL)) (fun q z => z.elim (hA q) (fun z => by rw [z]; exact zL)) (fun r u t H1 locs1 ht hvm hp hB hz hk hS1 => ?_)
  rw [ht] at hB
  refine va_forget hS1.2.2 (kk r u H1 hp ?_)
  refine LwI.after h1 h2 h4 h5 h6 h7 hB.1 hz (fun q hq z => hk q hq (fun y => z (y.elim (fun y => y.elim Or.inl (fun y => by omega)) (fun y => Or.inr (Or.inl y))))) hB.2 ?_ hS1
  unfold OC
  rw [hk oD l6 (fun y => y.elim (fun y => y.elim (fun y => (h1 oD y).2.2.2.2 rfl) (fun y => by omega)) (fun y => hne y.symm))]
  exact h6
theorem k_wrapD {y : MethodName} {b9 : ByteArray} {n k fr lo mc ms : Nat} {hh : List (Nat × Nat × Nat × Nat)} {av : List Value} {post : Int32 → AH × Value → Prop} (F : LwF p s m c b L xs G cL cD oL oD) (I : LwI s G cL cD oL oD hc hr vL vD H)
    (hM : ∀ A, cwM l G A y b9 n hh fr lo mc ms av hc cL cD cD oD vD post) (hm : MSW y b9 n hh k) (hl : Cond.methodLink "RoutepostLaw" idx y ∈ lw_all) (hav : av.length = k) (hR : fr + 1 ≤ 2048 ∧ 8 + (n + 11) + lo ≤ 94400) (hls : ls.size = 9) (hstk : stk = av.reverse ++ rest) (hst : (rest.map fun v => v.category).sum ≤ 8) (hdg : decode code pc = .ok (.invokestatic idx, 3)) (hf : cells + mc ≤ 603072 ∧ slots + ms ≤ 7207017)
    (kk : ∀ (r : Int32) (u : AH × Value) (H1 : Heap), post r u → LwI s G cL cD oL oD u.1 hr vL u.2 H1 → W p l e room_1 s m #[Value.ref b] below meth c H1 [] (cells + mc) (slots + ms) Q (F0 m (pc + 3) ls (.int r :: rest))) :
    W p l e room_1 s m #[Value.ref b] below meth c H [] cells slots Q (F0 m pc ls stk) := by
  have F' := F
  obtain ⟨⟨hx, hb, hml, hown, hts⟩, -, -, hLK, hne, zL, zD⟩ := F'
  obtain ⟨Ac, Ar, h1, h2, h3, h4, h5, h6, h7⟩ := I
  have l5 := h5.lt
  have l6 := h6.lt
  have hA : ∀ q, (Ac q ∨ H.size ≤ q) → s.heap.size ≤ q := fun q z => z.elim (fun z => (h1 q z).1) (fun z => Nat.le_trans h7.1 z)
  have hoA : ¬ (Ac oD ∨ H.size ≤ oD) := fun z => z.elim (fun z => (h1 oD z).2.2.2.2 rfl) (fun z => by omega)
  have hW1 : HW G.1 G.2.1 (fun q => Ac q ∨ H.size ≤ q) hc H := h3.weaken (fun _ _ z => Or.inl z)
  refine va_calli (A0 := fun q => s.heap.size ≤ q) (H0 := s.heap) (vx_runSW (Ts := lw_all) (own := "RoutepostLaw") (rest := rest) (cc := code) ⟨hx, hb, hml, hown, hts⟩ (hM (fun q => Ac q ∨ H.size ≤ q)) (vx_cwSW k hts (hm.good hl) rfl rfl rfl hm.2.2.2.2 hR) ⟨WX.blind, fun U hU hWm => ⟨rfl, F.wp h7 hA (fun q z => Or.inr z) hW1 U hU hWm, LK.moved hWm.alike hLK, by rw [hU]; exact h6, hoA⟩⟩ rfl hav hls hstk (lv_room hst) hdg hf) h7
    (fun q hq z => z.elim (hA q) (fun z => by rw [z]; exact zD)) (fun q z => z.elim (hA q) (fun z => by rw [z]; exact zD)) (fun r u t H1 locs1 ht hvm hp hB hz hk hS1 => ?_)
  rw [ht] at hB
  refine va_forget hS1.2.2 (kk r u H1 hp ?_)
  refine LwI.after h1 h2 h4 h5 h6 h7 hB.1 hz (fun q hq z => hk q hq (fun y => z (y.elim (fun y => y.elim Or.inl (fun y => by omega)) (fun y => Or.inr (Or.inr y))))) ?_ hB.2 hS1
  unfold OC
  rw [hk oL l5 (fun y => y.elim (fun y => y.elim (fun y => (h1 oL y).2.2.2.1 rfl) (fun y => by omega)) (fun y => hne y))]
  exact h5
/-- a virtual call on the first world -/
theorem k_virt {y : MethodName} {b9 : ByteArray} {n k fr lo mc ms K N r9 : Nat} {ret : Option FieldType} {As : List Value} {Qc : (Nat → Prop) → Array Value → State → Outcome → State → Prop} {C : String} {T : u_T} {ty : Nat → FieldType} {Ac Ar : Nat → Prop} (F : LwF p s m c b L xs G cL cD oL oD)
    (h1 : ∀ q, Ac q → s.heap.size ≤ q ∧ q < H.size ∧ ¬ Ar q ∧ q ≠ oL ∧ q ≠ oD) (h3 : HW G.1 G.2.1 Ac hc H) (h7 : va_S (fun q => s.heap.size ≤ q) s.heap H [])
    (hM : ∀ A, Met l y (ws_ y b9 n ret) (rmm fr lo mc ms) (va_Pc (.ref r9 :: As) (WP G A hc)) (Qc A) mc ms A) (mv : MV y b9 n ret k C) (hl : Cond.methodLink "RoutepostLaw" idx y ∈ lw_all) (hC : CI K C T ty N) (hk : aK hc r9 = K) (hav : As.length = k) (hR : fr + 1 ≤ 2048 ∧ 8 + (n + 11) + lo ≤ 94400) (hls : ls.size = 9) (hstk : stk = As.reverse ++ .ref r9 :: rest) (hst : (rest.map fun v => v.category).sum ≤ 8) (hdg : decode code pc = .ok (.invokevirtual idx, 3)) (hf : cells + mc ≤ 603072 ∧ slots + ms ≤ 7207017) :
    va_Run p l e room_1 s m #[Value.ref b] below meth c H [] cells slots mc ms (F0 m pc ls stk) rest (Qc (fun q => Ac q ∨ H.size ≤ q) (Value.ref r9 :: As).toArray) (fun q => Ac q ∨ H.size ≤ q) := by
  have F' := F
  obtain ⟨⟨hx, hb, hml, hown, hts⟩, -, ⟨hK, -⟩, -⟩ := F'
  have hA : ∀ q, (Ac q ∨ H.size ≤ q) → s.heap.size ≤ q := fun q z => z.elim (fun z => (h1 q z).1) (fun z => Nat.le_trans h7.1 z)
  have hW1 : HW G.1 G.2.1 (fun q => Ac q ∨ H.size ≤ q) hc H := h3.weaken (fun _ _ z => Or.inl z)
  exact va_runV (Ts := lw_all) (own := "RoutepostLaw") (C := C) (cc := code) ⟨hx, hb, hml, hown, hts⟩ (hM (fun q => Ac q ∨ H.size ≤ q)) (cwV k hts (mv.good hl) rfl rfl rfl ⟨mv.2.2.2.2.1, mv.2.2.2.2.2⟩ hR) ⟨WP.blind, h3.recv hK hC hk, fun U hU hWm => ⟨rfl, F.wp h7 hA (fun q z => Or.inr z) hW1 U hU hWm⟩⟩ rfl hav hls hstk (lv_room hst) hdg hf
theorem LwI.called {h' : AH} {H1 : Heap} {locs1 : List Loc} {Ac Ar : Nat → Prop} (h1 : ∀ q, Ac q → s.heap.size ≤ q ∧ q < H.size ∧ ¬ Ar q ∧ q ≠ oL ∧ q ≠ oD) (h2 : ∀ q, Ar q → s.heap.size ≤ q ∧ q < H.size ∧ ¬ Ac q ∧ q ≠ oL ∧ q ≠ oD) (h4 : HW G.1 G.2.1 Ar hr H) (h5 : OC cL oL vL H) (h6 : OC cD oD vD H) (h7 : va_S (fun q => s.heap.size ≤ q) s.heap H [])
    (hB : HW G.1 G.2.1 (fun q => Ac q ∨ H.size ≤ q) h' H1) (hz : H.size ≤ H1.size) (hk : ∀ q : Nat, q < H.size → ¬ (Ac q ∨ H.size ≤ q) → H1[q]? = H[q]?) (hS1 : va_S (fun q => s.heap.size ≤ q) s.heap H1 locs1) : LwI s G cL cD oL oD h' hr vL vD H1 := by
  have l5 := h5.lt
  have l6 := h6.lt
  refine LwI.after h1 h2 h4 h5 h6 h7 hB hz (fun q hq z => hk q hq (fun y => z (y.elim Or.inl (fun y => by omega)))) ?_ ?_ hS1
  · unfold OC
    rw [hk oL l5 (fun y => y.elim (fun y => (h1 oL y).2.2.2.1 rfl) (fun y => by omega))]
    exact h5
  · unfold OC
    rw [hk oD l6 (fun y => y.elim (fun y => (h1 oD y).2.2.2.2 rfl) (fun y => by omega))]
    exact h6
theorem k_virtI {y : MethodName} {b9 : ByteArray} {n k fr lo mc ms K N r9 : Nat} {ret : Option FieldType} {As : List Value} {post : Int32 → AH → Prop} {C : String} {T : u_T} {ty : Nat → FieldType} (F : LwF p s m c b L xs G cL cD oL oD) (I : LwI s G cL cD oL oD hc hr vL vD H)
    (hM : ∀ A, cmI l G A y b9 n ret fr lo mc ms (.ref r9 :: As) hc post) (mv : MV y b9 n ret k C) (hl : Cond.methodLink "RoutepostLaw" idx y ∈ lw_all) (hC : CI K C T ty N) (hk : aK hc r9 = K) (hav : As.length = k) (hR : fr + 1 ≤ 2048 ∧ 8 + (n + 11) + lo ≤ 94400) (hls : ls.size = 9) (hstk : stk = As.reverse ++ .ref r9 :: rest) (hst : (rest.map fun v => v.category).sum ≤ 8) (hdg : decode code pc = .ok (.invokevirtual idx, 3)) (hf : cells + mc ≤ 603072 ∧ slots + ms ≤ 7207017)
    (kk : ∀ (r : Int32) (h' : AH) (H1 : Heap), post r h' → LwI s G cL cD oL oD h' hr vL vD H1 → W p l e room_1 s m #[Value.ref b] below meth c H1 [] (cells + mc) (slots + ms) Q (F0 m (pc + 3) ls (.int r :: rest))) :
    W p l e room_1 s m #[Value.ref b] below meth c H [] cells slots Q (F0 m pc ls stk) := by
  obtain ⟨Ac, Ar, h1, h2, h3, h4, h5, h6, h7⟩ := I
  have hA : ∀ q, (Ac q ∨ H.size ≤ q) → s.heap.size ≤ q := fun q z => z.elim (fun z => (h1 q z).1) (fun z => Nat.le_trans h7.1 z)
  refine va_calli (A0 := fun q => s.heap.size ≤ q) (H0 := s.heap) (k_virt (Qc := fun A => va_Qi post (fun h' t => HW G.1 G.2.1 A h' t.heap) A) F h1 h3 h7 hM mv hl hC hk hav hR hls hstk hst hdg hf) h7 (fun q _ z => hA q z) (fun q z => hA q z) (fun r u t H1 locs1 ht hvm hp hB hz hk9 hS1 => ?_)
  rw [ht] at hB
  exact va_forget hS1.2.2 (kk r u H1 hp (LwI.called h1 h2 h4 h5 h6 h7 hB hz hk9 hS1))
theorem k_virtF {y : MethodName} {b9 : ByteArray} {n k fr lo mc ms K N r9 : Nat} {ret : Option FieldType} {As : List Value} {post : UInt32 → AH → Prop} {C : String} {T : u_T} {ty : Nat → FieldType} (F : LwF p s m c b L xs G cL cD oL oD) (I : LwI s G cL cD oL oD hc hr vL vD H)
    (hM : ∀ A, cmF l G A y b9 n ret fr lo mc ms (.ref r9 :: As) hc post) (mv : MV y b9 n ret k C) (hl : Cond.methodLink "RoutepostLaw" idx y ∈ lw_all) (hC : CI K C T ty N) (hk : aK hc r9 = K) (hav : As.length = k) (hR : fr + 1 ≤ 2048 ∧ 8 + (n + 11) + lo ≤ 94400) (hls : ls.size = 9) (hstk : stk = As.reverse ++ .ref r9 :: rest) (hst : (rest.map fun v => v.category).sum ≤ 8) (hdg : decode code pc = .ok (.invokevirtual idx, 3)) (hf : cells + mc ≤ 603072 ∧ slots + ms ≤ 7207017)
    (kk : ∀ (r : UInt32) (h' : AH) (H1 : Heap), post r h' → LwI s G cL cD oL oD h' hr vL vD H1 → W p l e room_1 s m #[Value.ref b] below meth c H1 [] (cells + mc) (slots + ms) Q (F0 m (pc + 3) ls (.float r :: rest))) :
    W p l e room_1 s m #[Value.ref b] below meth c H [] cells slots Q (F0 m pc ls stk) := by
  obtain ⟨Ac, Ar, h1, h2, h3, h4, h5, h6, h7⟩ := I
  have hA : ∀ q, (Ac q ∨ H.size ≤ q) → s.heap.size ≤ q := fun q z => z.elim (fun z => (h1 q z).1) (fun z => Nat.le_trans h7.1 z)
  refine va_callf (A0 := fun q => s.heap.size ≤ q) (H0 := s.heap) (k_virt (Qc := fun A => va_Qf post (fun h' t => HW G.1 G.2.1 A h' t.heap) A) F h1 h3 h7 hM mv hl hC hk hav hR hls hstk hst hdg hf) h7 (fun q _ z => hA q z) (fun q z => hA q z) (fun r u t H1 locs1 ht hvm hp hB hz hk9 hS1 => ?_)
  rw [ht] at hB
  exact va_forget hS1.2.2 (kk r u H1 hp (LwI.called h1 h2 h4 h5 h6 h7 hB hz hk9 hS1))
theorem k_virtD {y : MethodName} {b9 : ByteArray} {n k fr lo mc ms K N r9 : Nat} {ret : Option FieldType} {As : List Value} {post : UInt64 → AH → Prop} {C : String} {T : u_T} {ty : Nat → FieldType} (F : LwF p s m c b L xs G cL cD oL oD) (I : LwI s G cL cD oL oD hc hr vL vD H)
    (hM : ∀ A, cmD l G A y b9 n ret fr lo mc ms (.ref r9 :: As) hc post) (mv : MV y b9 n ret k C) (hl : Cond.methodLink "RoutepostLaw" idx y ∈ lw_all) (hC : CI K C T ty N) (hk : aK hc r9 = K) (hav : As.length = k) (hR : fr + 1 ≤ 2048 ∧ 8 + (n + 11) + lo ≤ 94400) (hls : ls.size = 9) (hstk : stk = As.reverse ++ .ref r9 :: rest) (hst : (rest.map fun v => v.category).sum ≤ 8) (hdg : decode code pc = .ok (.invokevirtual idx, 3)) (hf : cells + mc ≤ 603072 ∧ slots + ms ≤ 7207017)
    (kk : ∀ (r : UInt64) (h' : AH) (H1 : Heap), post r h' → LwI s G cL cD oL oD h' hr vL vD H1 → W p l e room_1 s m #[Value.ref b] below meth c H1 [] (cells + mc) (slots + ms) Q (F0 m (pc + 3) ls (.double r :: rest))) :
    W p l e room_1 s m #[Value.ref b] below meth c H [] cells slots Q (F0 m pc ls stk) := by
  obtain ⟨Ac, Ar, h1, h2, h3, h4, h5, h6, h7⟩ := I
  have hA : ∀ q, (Ac q ∨ H.size ≤ q) → s.heap.size ≤ q := fun q z => z.elim (fun z => (h1 q z).1) (fun z => Nat.le_trans h7.1 z)
  refine va_calld (A0 := fun q => s.heap.size ≤ q) (H0 := s.heap) (k_virt (Qc := fun A => va_Qd post (fun h' t => HW G.1 G.2.1 A h' t.heap) A) F h1 h3 h7 hM mv hl hC hk hav hR hls hstk hst hdg hf) h7 (fun q _ z => hA q z) (fun q z => hA q z) (fun r u t H1 locs1 ht hvm hp hB hz hk9 hS1 => ?_)
  rw [ht] at hB
  exact va_forget hS1.2.2 (kk r u H1 hp (LwI.called h1 h2 h4 h5 h6 h7 hB hz hk9 hS1))
end LAWCALLS
