/-! rows of the class side over its state -/
theorem vp_ex {x : Int32} {n : Nat} (h : vp_in x n) (hn : n < 2 ^ 31) : ∃ v, v < n ∧ x = nI v := by
  obtain ⟨j, hj, e⟩ := vp_in_of h hn
  exact ⟨j, hj, e⟩
theorem WFc.exH {u : MM} (hw : WFc u) {x : Int32} (h : vp_in x (nhN u)) : ∃ v, v < nhN u ∧ x = nI v := vp_ex h (by have := hw.nh; omega)
theorem WFc.exP {u : MM} (hw : WFc u) {x : Int32} (h : vp_in x (npN u)) : ∃ v, v < npN u ∧ x = nI v := vp_ex h (by have := hw.np; omega)
theorem WFc.exL {u : MM} (hw : WFc u) {x : Int32} (h : RG u 8 x) : x = -1 ∨ ∃ v, v < nlN u ∧ x = nI v := h.elim Or.inl (fun z => Or.inr (vp_ex z (by have : cnt u 8 = nlN u := rfl; have := hw.nl; omega)))
theorem RG_v {u : MM} {T v : Nat} (h : v < cnt u T) (hn : cnt u T ≤ 40) : RG u T (nI v) := Or.inr (vp_in_nI h (by omega))
theorem tyI_ok : ∀ K, K < 20 → ∀ j, j < 20 → True := fun _ _ _ _ => trivial
section CR2
variable {p : Program} {l : Launch} {e : Env} {R : Room} {s : State} {m : MethodId} {args : Array Value} {below : List Frame} {meth : Method} {c : Code} {H : Heap} {locs : List Loc} {cells slots : Nat} {Q : State → Prop}
variable {cc : ByteArray} {pc nL index : Nat} {ls : Array Slot} {rest : List Value} {G : GT} {A : Nat → Prop} {h : AH} {own : String} {b : BA} {u : MM}
variable {K N i j : Nat} {C : String} {T : u_T} {ty : Nat → FieldType}
theorem c_getI (C0 : CX p l s m args meth c cc nL own G A) (hH : HS G.1 G.2.1 A s.heap h H locs) (hR : RC G.2.2.1 h b u) (hC : CI K C T ty N) (hok : ok u K i) (hj : (tyl K)[j]? = some false) (h8 : kyI K j ≠ 998) (hd : (T j).1 = C) (hl : Cond.fieldLink own index C (T j).2.1 (T j).2.2.1 ∈ lw_all) {v : Int32} (hv : cI u K j i = v) (hdg : decode cc pc = .ok (.getfield index, 3))
    (kk : W p l e R s m args below meth c H locs cells slots Q (F0 m (pc + 3) ls (.int v :: rest))) : W p l e R s m args below meth c H locs cells slots Q (F0 m pc ls (.ref (b K i) :: rest)) := by
  obtain ⟨hx, hb, hml, hown, hts, hK, -⟩ := C0
  exact o_getI hx hb hts hown hK hH hC (hR.kind hok) hj hd hl ((hR.fI hC.2.2.1 hok hj h8).trans hv) hdg kk
theorem c_getR (C0 : CX p l s m args meth c cc nL own G A) (hH : HS G.1 G.2.1 A s.heap h H locs) (hR : RC G.2.2.1 h b u) (hC : CI K C T ty N) (hok : ok u K i) (hj : (tyl K)[j]? = some true) (h3 : K ≠ 3) (hd : (T j).1 = C) (hl : Cond.fieldLink own index C (T j).2.1 (T j).2.2.1 ∈ lw_all) {v : Option Nat} (hv : cR b u K j i = v) (hdg : decode cc pc = .ok (.getfield index, 3))
    (kk : W p l e R s m args below meth c H locs cells slots Q (F0 m (pc + 3) ls (va_rf v :: rest))) : W p l e R s m args below meth c H locs cells slots Q (F0 m pc ls (.ref (b K i) :: rest)) := by
  obtain ⟨hx, hb, hml, hown, hts, hK, -⟩ := C0
  exact o_getR hx hb hts hown hK hH hC (hR.kind hok) hj hd hl ((hR.fR hC.2.2.1 hok hj h3).trans hv) hdg kk
theorem c_putI (C0 : CX p l s m args meth c cc nL own G A) (hH : HS G.1 G.2.1 A s.heap h H locs) (hR : RC G.2.2.1 h b u) (hC : CI K C T ty N) (hok : ok u K i) (hj : (tyl K)[j]? = some false) {k : Nat} (hk : kyI K j = k) (hk9 : k ≠ 999) (h3 : K ≠ 3) (hd : (T j).1 = C) (hl : Cond.fieldLink own index C (T j).2.1 (T j).2.2.1 ∈ lw_all) (hf : (T j).2.2.2 = false) {x : Int32} (hn : narrow (ty j) (.int x) = .int x) (hfit : fits (ty j) (.int x) = true) (hdg : decode cc pc = .ok (.putfield index, 3))
    (kk : ∀ (h' : AH) (H1 : Heap) (locs1 : List Loc), HS G.1 G.2.1 A s.heap h' H1 locs1 → RC G.2.2.1 h' b (up u k i x) → W p l e R s m args below meth c H1 locs1 cells slots Q (F0 m (pc + 3) ls rest)) : W p l e R s m args below meth c H locs cells slots Q (F0 m pc ls (.int x :: .ref (b K i) :: rest)) := by
  obtain ⟨hx, hb, hml, hown, hts, hK, -⟩ := C0
  exact o_putI hx hb hts hown hK hH hC (hR.kind hok) hj hd hl hf hn hfit hdg (fun H1 locs1 hH1 => kk _ H1 locs1 hH1 (hR.putI hC.2.2.1 h3 hok hj hk hk9 x))
theorem c_putR (C0 : CX p l s m args meth c cc nL own G A) (hH : HS G.1 G.2.1 A s.heap h H locs) (hR : RC G.2.2.1 h b u) (hC : CI K C T ty N) (hok : ok u K i) (hj : (tyl K)[j]? = some true) {k : Nat} (hk : kyR K j = k) (hk9 : k ≠ 999) (hd : (T j).1 = C) (hl : Cond.fieldLink own index C (T j).2.1 (T j).2.2.1 ∈ lw_all) (hf : (T j).2.2.2 = false) (hty : ∃ n, ty j = .object n) (x : Int32) {v : Option Nat} (hv : v = dec b (rfT k) x) (hdg : decode cc pc = .ok (.putfield index, 3))
    (kk : ∀ (h' : AH) (H1 : Heap) (locs1 : List Loc), HS G.1 G.2.1 A s.heap h' H1 locs1 → RC G.2.2.1 h' b (up u k i x) → W p l e R s m args below meth c H1 locs1 cells slots Q (F0 m (pc + 3) ls rest)) : W p l e R s m args below meth c H locs cells slots Q (F0 m pc ls (va_rf v :: .ref (b K i) :: rest)) := by
  obtain ⟨hx, hb, hml, hown, hts, hK, -⟩ := C0
  obtain ⟨n, hty⟩ := hty
  exact o_putR hx hb hts hown hK hH hC (hR.kind hok) hj hd hl hf (fun x => by rw [hty]; cases x <;> exact ⟨rfl, rfl⟩) hdg (fun H1 locs1 hH1 => kk _ H1 locs1 hH1 (hR.putR hC.2.2.1 hok hj hk hk9 x hv))
/-! rows of numbers, of hubs -/
theorem c_ld20 (C0 : CX p l s m args meth c cc nL own G A) (hH : HS G.1 G.2.1 A s.heap h H locs) (hR : RC G.2.2.1 h b u) (hok : ok u 20 i) {x : Int32} {k : Nat} (hx2 : x = nI k) (hk : k < len20 i) {v : Int32} (hv : c20 u i k = v) (hdg : decode cc pc = .ok (.iaload, 1))
    (kk : W p l e R s m args below meth c H locs cells slots Q (F0 m (pc + 1) ls (.int v :: rest))) : W p l e R s m args below meth c H locs cells slots Q (F0 m pc ls (.int x :: .ref (b 20 i) :: rest)) := by
  obtain ⟨hx, hb, hml, hown, hts, hK, -⟩ := C0
  have hl : len20 i ≤ 40 := by unfold len20; split <;> omega
  subst hx2
  exact o_iald hx hb hK hH (hR.kind hok) (hR.a20 hok).1 (vp_in_nI hk (by omega)) (by rw [nI_clamp (by omega), (hR.a20 hok).2 k hk]; exact hv) hdg kk
theorem c_st20 (C0 : CX p l s m args meth c cc nL own G A) (hH : HS G.1 G.2.1 A s.heap h H locs) (hR : RC G.2.2.1 h b u) (hw : WFc u) (hok : ok u 20 i) {x : Int32} {k k0 i0 : Nat} (hx2 : x = nI k) (hk : k < len20 i) (hk0 : k0 = if i < 13 then 10 else if i = 13 then 160 else 161) (hi0 : i0 = if i < 13 then 40 * i + k else k) {v : Int32} (hdg : decode cc pc = .ok (.iastore, 1))
    (kk : ∀ (h' : AH) (H1 : Heap) (locs1 : List Loc), HS G.1 G.2.1 A s.heap h' H1 locs1 → RC G.2.2.1 h' b (up u k0 i0 v) → W p l e R s m args below meth c H1 locs1 cells slots Q (F0 m (pc + 1) ls rest)) : W p l e R s m args below meth c H locs cells slots Q (F0 m pc ls (.int v :: .int x :: .ref (b 20 i) :: rest)) := by
  obtain ⟨hx, hb, hml, hown, hts, hK, -⟩ := C0
  have hl : len20 i ≤ 40 := by unfold len20; split <;> omega
  subst hx2
  exact o_iast hx hb hK hH (hR.kind hok) (hR.a20 hok).1 (vp_in_nI hk (by omega)) hdg (fun H1 locs1 hH1 => kk _ H1 locs1 hH1 (by rw [nI_clamp (by omega)]; exact hR.put20 hok hk hk0 hi0 hw.nl v))
theorem c_len20 (C0 : CX p l s m args meth c cc nL own G A) (hH : HS G.1 G.2.1 A s.heap h H locs) (hR : RC G.2.2.1 h b u) (hok : ok u 20 i) (hdg : decode cc pc = .ok (.arraylength, 1))
    (kk : W p l e R s m args below meth c H locs cells slots Q (F0 m (pc + 1) ls (.int (nI (len20 i)) :: rest))) : W p l e R s m args below meth c H locs cells slots Q (F0 m pc ls (.ref (b 20 i) :: rest)) := by
  obtain ⟨hx, hb, hml, hown, hts, hK, -⟩ := C0
  have hk := hR.kind hok
  exact o_alen hx hb hK hH 0 (ty := .int) (by rw [hk]; rfl) (by omega) (by rw [(hR.a20 hok).1]; rfl) hdg kk
theorem c_ld30 (C0 : CX p l s m args meth c cc nL own G A) (hH : HS G.1 G.2.1 A s.heap h H locs) (hR : RC G.2.2.1 h b u) (hok : ok u 4 i) {x : Int32} {k : Nat} (hx2 : x = nI k) (hk : k < len20 i) {v : Option Nat} (hv : dec b 7 (u 111 (40 * i + k)) = v) (hdg : decode cc pc = .ok (.aaload, 1))
    (kk : W p l e R s m args below meth c H locs cells slots Q (F0 m (pc + 1) ls (va_rf v :: rest))) : W p l e R s m args below meth c H locs cells slots Q (F0 m pc ls (.int x :: .ref (b 30 i) :: rest)) := by
  obtain ⟨hx, hb, hml, hown, hts, hK, -⟩ := C0
  have hl : len20 i ≤ 40 := by unfold len20; split <;> omega
  subst hx2
  exact o_aald hx hb hK hH (hR.kind (K := 30) hok) (Or.inl rfl) (hR.a30 hok).1 (vp_in_nI hk (by omega)) (by rw [nI_clamp (by omega), (hR.a30 hok).2 k hk]; exact hv) hdg kk
theorem c_st30 (C0 : CX p l s m args meth c cc nL own G A) (hH : HS G.1 G.2.1 A s.heap h H locs) (hR : RC G.2.2.1 h b u) (hw : WFc u) (hok : ok u 4 i) {x : Int32} {k v : Nat} (hx2 : x = nI k) (hk : k < len20 i) (hv : v < nhN u) (hdg : decode cc pc = .ok (.aastore, 1))
    (kk : ∀ (h' : AH) (H1 : Heap) (locs1 : List Loc), HS G.1 G.2.1 A s.heap h' H1 locs1 → RC G.2.2.1 h' b (up u 111 (40 * i + k) (nI v)) → W p l e R s m args below meth c H1 locs1 cells slots Q (F0 m (pc + 1) ls rest)) : W p l e R s m args below meth c H locs cells slots Q (F0 m pc ls (.ref (b 7 v) :: .int x :: .ref (b 30 i) :: rest)) := by
  obtain ⟨hx, hb, hml, hown, hts, hK, -⟩ := C0
  have hl : len20 i ≤ 40 := by unfold len20; split <;> omega
  have := hw.nh
  subst hx2
  exact o_astH hx hb hK hH (hR.kind (K := 30) hok) (hR.a30 hok).1 (vp_in_nI hk (by omega)) (hR.kind (K := 7) hv) hdg (fun H1 locs1 hH1 => kk _ H1 locs1 hH1 (by rw [nI_clamp (by omega)]; exact hR.put30 hok hk hw.nl (nI v) (dec_nI (by omega)).symm))
theorem c_len30 (C0 : CX p l s m args meth c cc nL own G A) (hH : HS G.1 G.2.1 A s.heap h H locs) (hR : RC G.2.2.1 h b u) (hok : ok u 4 i) (hdg : decode cc pc = .ok (.arraylength, 1))
    (kk : W p l e R s m args below meth c H locs cells slots Q (F0 m (pc + 1) ls (.int (nI (len20 i)) :: rest))) : W p l e R s m args below meth c H locs cells slots Q (F0 m pc ls (.ref (b 30 i) :: rest)) := by
  obtain ⟨hx, hb, hml, hown, hts, hK, -⟩ := C0
  have hk := hR.kind (K := 30) hok
  exact o_alen hx hb hK hH 3 (ty := .object "Routepost$Hub") (by rw [hk]; rfl) (by omega) (by rw [(hR.a30 hok).1]; rfl) hdg kk
end CR2
/-! the lists' methods over the state -/
theorem cL_size (l : Launch) (G : GT) (A : Nat → Prop) (h : AH) (b : BA) (u : MM) (hR : RC G.2.2.1 h b u) (hw : WFc u) (q : Nat) (hq : ok u 3 q) : cmI l G A yJx4a65c_size_8abf5 cJx4a65c_size_8abf5 1 (Option.some FieldType.int) 0 0 0 0 [.ref (b 3 q)] h (fun r h' => r = nI (szN u q) ∧ h' = h) := cJ_Jx4a65c_size_8abf5 l G A h (b 3 q) (szN u q) (hR.kind hq) (hR.lsh hw hq).2.1

