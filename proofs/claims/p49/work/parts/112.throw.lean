/-! the class's own throws -/
def thrN : List String := ["java/lang/RuntimeException", "java/lang/Exception"]
def thrE (cls : String) (ik ic : Nat) : Prop := Bundle.fit cls = true ∧ (∀ n ∈ thrN, Bundle.fit n = true) ∧ Cond.classLink "Routepost" ik cls ∈ lw_all ∧ Cond.initialized cls ∈ lw_all ∧ (∀ w ∈ vx_atS "Routepost" ic cls thrN, w ∈ tables_1) ∧ (∀ w ∈ vx_atS "Routepost" ic cls thrN, (goodWord w || isKT w) = true) ∧ ∀ w ∈ Cond.classLink "Routepost" ik cls :: Cond.initialized cls :: vx_atS "Routepost" ic cls thrN, vx_ot w = true
theorem thr_IAE : thrE "java/lang/IllegalArgumentException" 68 72 := ⟨by decide +kernel, by decide +kernel, by decide +kernel, by decide +kernel, by decide +kernel, by decide +kernel, by decide +kernel⟩
theorem thr_ISE : thrE "java/lang/IllegalStateException" 83 87 := ⟨by decide +kernel, by decide +kernel, by decide +kernel, by decide +kernel, by decide +kernel, by decide +kernel, by decide +kernel⟩
theorem thr_IOB : thrE "java/lang/IndexOutOfBoundsException" 281 285 := ⟨by decide +kernel, by decide +kernel, by decide +kernel, by decide +kernel, by decide +kernel, by decide +kernel, by decide +kernel⟩
theorem thr_AE : thrE "java/lang/ArithmeticException" 352 356 := ⟨by decide +kernel, by decide +kernel, by decide +kernel, by decide +kernel, by decide +kernel, by decide +kernel, by decide +kernel⟩
def nse6 : ByteArray := ⟨#[0x2a, 0x2b, 0xb7, 0x00, 0x0d, 0xb1]⟩
abbrev nseC : String := "java/util/NoSuchElementException"
abbrev nseR : String := "java/lang/RuntimeException"
abbrev nseL : List Cond := (vn_own "Routepost" 366 nseC nseR 13 nse6 ["java/lang/Exception"]).filter vx_no
theorem nse_1 : ∀ w ∈ nseL, w ∈ tables_1 := by decide +kernel
theorem nse_2 : ∀ w ∈ nseL, (goodWord w || isKT w) = true := by decide +kernel
theorem nse_3 : ∀ w ∈ Cond.classLink "Routepost" 362 nseC :: Cond.initialized nseC :: nseL, vx_ot w = true := by decide +kernel
theorem nse_4 : Cond.classLink "Routepost" 362 nseC ∈ lw_all ∧ Cond.initialized nseC ∈ lw_all := ⟨by decide +kernel, by decide +kernel⟩
theorem nse_5 : decode nse6 0 = .ok (.aload_n 0, 1) ∧ decode nse6 1 = .ok (.aload_n 1, 1) ∧ decode nse6 2 = .ok (.invokespecial 13, 3) ∧ decode nse6 5 = .ok (.return_, 1) := ⟨by decide +kernel, by decide +kernel, by decide +kernel, by decide +kernel⟩
section THROW
variable {p : Program} {l : Launch} {e : Env} {R : Room} {s : State} {m : MethodId} {args : Array Value} {below : List Frame} {meth : Method} {c : Code} {H : Heap} {locs : List Loc} {cells slots : Nat}
variable {cc : ByteArray} {pc nL : Nat} {ls : Array Slot} {rest : List Value} {G : GT} {A : Nat → Prop} {h : AH} {Qc : Array Value → State → Outcome → State → Prop} {xp : String → AH → Prop} {cls text : String} {ik is ic mc ms : Nat}
theorem thr_hat0 (C0 : CX p l s m args meth c cc nL "Routepost" G A) {L : List Cond} (T1 : ∀ w ∈ L, w ∈ tables_1) (T2 : ∀ w ∈ L, (goodWord w || isKT w) = true) (T3 : ∀ w ∈ L, vx_ot w = true) : ∀ w ∈ L, w.before args s = true := by
  intro w hw
  obtain ⟨hx, hb, hml, hown, hts, hK, hA, hG, -⟩ := C0
  have h1 := T1 w hw
  have h2 := T2 w hw
  by_cases g : goodWord w = true
  · exact hts w (List.mem_filter.mpr ⟨List.mem_append_right _ h1, g⟩)
  · have h3 : isKT w = true := by
      cases hgw : goodWord w with
      | true => exact absurd hgw g
      | false => rw [hgw] at h2; exact h2
    have h4 := hG.1 w (List.mem_filter.mpr ⟨h1, h3⟩)
    have h5 : w.onTables = true := by
      have := T3 w hw
      simp only [vx_ot, Bool.or_eq_true] at this
      exact this.elim id (fun z => absurd z g)
    exact va_Nw.use h5 h4
theorem thr_hat (C0 : CX p l s m args meth c cc nL "Routepost" G A) (T : thrE cls ik ic) : ∀ w ∈ vx_atS "Routepost" ic cls thrN, w.before args s = true := thr_hat0 C0 T.2.2.2.2.1 T.2.2.2.2.2.1 (fun w hw => T.2.2.2.2.2.2 w (List.mem_cons_of_mem _ (List.mem_cons_of_mem _ hw)))
theorem thr_post (C0 : CX p l s m args meth c cc nL "Routepost" G A) (hH : HS G.1 G.2.1 A s.heap h H locs) (hx : xp cls h) : ∀ t : State, s.vm.Alike t.vm → H.size ≤ t.heap.size → (∀ q : Nat, q < H.size → t.heap[q]? = H[q]?) → xcP G A xp cls s t := by
  intro t _ h1 h2
  obtain ⟨hW, hS⟩ := hH
  refine ⟨h, trivial, ⟨hx, hW.kept (fun q hq _ => h2 q hq)⟩, Nat.le_trans hS.1 h1, fun q hq hA => ?_⟩
  rw [h2 q (Nat.lt_of_lt_of_le hq hS.1)]
  exact hS.2.1 q hq hA
theorem k_throwS (C0 : CX p l s m args meth c cc nL "Routepost" G A) (hxt : ∀ x ∈ c.exceptionTable.toList, False) (hlt : l.stackTraces = false) (hH : HS G.1 G.2.1 A s.heap h H locs) (T : thrE cls ik ic) (hstr : ("Routepost", is, text) ∈ lw_strs) (hls : ls.size = nL)
    (d0 : decode cc pc = .ok (.new ik, 3)) (d3 : decode cc (pc + 3) = .ok (.dup, 1)) (d4 : decode cc (pc + 4) = .ok (.ldc is, 2)) (d6 : decode cc (pc + 6) = .ok (.invokespecial ic, 3)) (d9 : decode cc (pc + 9) = .ok (.athrow, 1))
    (hRf : 5 < R.frames) (hRl : (rest.map fun v => v.category).sum + 82 ≤ R.locals) (hRc : cells + 1 ≤ R.cells) (hRs : slots + 6 ≤ R.slots) (hx : xp cls h) (hc : cells + 1 ≤ mc) (hs : slots + 6 ≤ ms) :
    W p l e R s m args below meth c H locs cells slots (vx_MQ below Qc (xcP G A xp) args s mc ms A) (F0 m pc ls rest) := by
  have hat := thr_hat C0 T
  have hpo := thr_post C0 hH hx
  obtain ⟨hx0, hb, hml, hown, hts, hK, hA, hG, hG2, hlocks⟩ := C0
  obtain ⟨sa, hsa⟩ := hG.2.1 _ hstr
  exact vx_throwS hx0 hb hlt hown T.1 T.2.1 (hts _ T.2.2.1) (hts _ T.2.2.2.1) hsa hat T.2.2.2.2.2.2 hG2.1 hG2.2.1 hH.2 (hls.trans hml.symm) d0 d3 d4 d6 d9 (fun x h => (hxt x h).elim) hRf hRl hRc hRs hlocks hpo hH.2.2.2 hc hs
theorem k_throwSW (C0 : CX p l s m args meth c cc nL "Routepost" G A) (hxt : ∀ x ∈ c.exceptionTable.toList, False) (hlt : l.stackTraces = false) (hH : HS G.1 G.2.1 A s.heap h H locs) (T : thrE cls ik ic) (hstr : ("Routepost", is, text) ∈ lw_strs) (hls : ls.size = nL)
    (d0 : decode cc pc = .ok (.new ik, 3)) (d3 : decode cc (pc + 3) = .ok (.dup, 1)) (d4 : decode cc (pc + 4) = .ok (.ldc_w is, 3)) (d6 : decode cc (pc + 7) = .ok (.invokespecial ic, 3)) (d9 : decode cc (pc + 10) = .ok (.athrow, 1))
    (hRf : 5 < R.frames) (hRl : (rest.map fun v => v.category).sum + 82 ≤ R.locals) (hRc : cells + 1 ≤ R.cells) (hRs : slots + 6 ≤ R.slots) (hx : xp cls h) (hc : cells + 1 ≤ mc) (hs : slots + 6 ≤ ms) :
    W p l e R s m args below meth c H locs cells slots (vx_MQ below Qc (xcP G A xp) args s mc ms A) (F0 m pc ls rest) := by
  have hat := thr_hat C0 T
  have hpo := thr_post C0 hH hx
  obtain ⟨hx0, hb, hml, hown, hts, hK, hA, hG, hG2, hlocks⟩ := C0
  obtain ⟨sa, hsa⟩ := hG.2.1 _ hstr
  exact vx_throwSW hx0 hb hlt hown T.1 T.2.1 (hts _ T.2.2.1) (hts _ T.2.2.2.1) hsa hat T.2.2.2.2.2.2 hG2.1 hG2.2.1 hH.2 (hls.trans hml.symm) d0 d3 d4 d6 d9 (fun x h => (hxt x h).elim) hRf hRl hRc hRs hlocks hpo hH.2.2.2 hc hs
theorem k_throwN (C0 : CX p l s m args meth c cc nL "Routepost" G A) (hxt : ∀ x ∈ c.exceptionTable.toList, False) (hlt : l.stackTraces = false) (hH : HS G.1 G.2.1 A s.heap h H locs) (hstr : ("Routepost", is, text) ∈ lw_strs) (hls : ls.size = nL)
    (d0 : decode cc pc = .ok (.new 362, 3)) (d3 : decode cc (pc + 3) = .ok (.dup, 1)) (d4 : decode cc (pc + 4) = .ok (.ldc_w is, 3)) (d6 : decode cc (pc + 7) = .ok (.invokespecial 366, 3)) (d9 : decode cc (pc + 10) = .ok (.athrow, 1))
    (hRf : 5 < R.frames) (hRl : (rest.map fun v => v.category).sum + 82 ≤ R.locals) (hRc : cells + 1 ≤ R.cells) (hRs : slots + 6 ≤ R.slots) (hx : xp nseC h) (hc : cells + 1 ≤ mc) (hs : slots + 6 ≤ ms) :
    W p l e R s m args below meth c H locs cells slots (vx_MQ below Qc (xcP G A xp) args s mc ms A) (F0 m pc ls rest) := by
  have hat := thr_hat0 C0 nse_1 nse_2 (fun w hw => nse_3 w (List.mem_cons_of_mem _ (List.mem_cons_of_mem _ hw)))
  have hpo := thr_post C0 hH hx
  obtain ⟨hx0, hb, hml, hown, hts, hK, hA, hG, hG2, hlocks⟩ := C0
  obtain ⟨sa, hsa⟩ := hG.2.1 _ hstr
  exact vn_throwSW hx0 hb hlt (by decide) nse_5.1 nse_5.2.1 nse_5.2.2.1 nse_5.2.2.2 hown (by decide) (by decide) (hts _ nse_4.1) (hts _ nse_4.2) hsa hat nse_3 hG2.1 hG2.2.1 hH.2 (hls.trans hml.symm) d0 d3 d4 d6 d9 (fun x h => (hxt x h).elim) hRf hRl hRc hRs hlocks hpo hH.2.2.2 hc hs
end THROW

