/-! asking for routes -/
theorem notSc_no {m : MM} (hw : WFa m) {x : Int32} (z : ¬ vp_in x (npN m)) : fNotSc m x = (1, thr m 1 1) := by
  unfold fNotSc
  simp only
  rw [fNone_no hw z]
  dsimp only
  rw [if_pos (by decide)]
theorem notSc_yes {m : MM} (hw : WFa m) {x : Int32} (z : vp_in x (npN m)) : fNotSc m x = (bi (¬ m 28 x.toNatClampNeg = 115), thr (thr m 0 1) (bi (¬ m 28 x.toNatClampNeg = 115)) 2) := by
  unfold fNotSc
  simp only
  rw [fNone_yes hw z]
  dsimp only
  rw [if_neg (fun q => q rfl)]
/-- the three cases of a call that asks of a scanned parcel -/
theorem sc_cases {n : Nat} {c m : MM} (h : Sim n c m) (hw : WFa m) (hc : WFc c) (x : Int32) : (vp_in x (npN m) ∧ m 28 x.toNatClampNeg = 115 ∧ xSc c x = none ∧ fNotSc m x = (0, thr (thr m 0 1) 0 2)) ∨
    (∃ e M, xSc c x = some e ∧ fNotSc m x = (1, M) ∧ Sim n c M ∧ M 45 0 = kodF e 0 [nseC, iseC] ∧ M 45 0 = kodF e 0 [nseC, iseC, iobC]) := by
  have hpa := h.pa hc (x := x)
  by_cases z : vp_in x (npN m)
  · have g := (h.1.2.2.1 _ (vp_nat z)).1.1
    have hX : xSc c x = if m 28 x.toNatClampNeg = 115 then none else some iseC := by
      unfold xSc
      rw [hpa.mpr z, g 28 rfl]
      rfl
    by_cases y : m 28 x.toNatClampNeg = 115
    · exact Or.inl ⟨z, y, by rw [hX, if_pos y], by rw [notSc_yes hw z, bi_f (fun q => q y)]⟩
    · refine Or.inr ⟨iseC, thr (thr m 0 1) 1 2, by rw [hX, if_neg y], by rw [notSc_yes hw z, bi_t y], (h.thr _ _).thr _ _, ?_, ?_⟩
      · rw [thr45, kd_s2]; rfl
      · rw [thr45, show kodF iseC 0 [nseC, iseC, iobC] = 2 by decide]; rfl
  · refine Or.inr ⟨nseC, thr m 1 1, by unfold xSc; rw [xPa_ns (fun q => z (hpa.mp q))]; rfl, notSc_no hw z, h.thr _ _, ?_, ?_⟩
    · rw [thr45, kd_n2]; rfl
    · rw [thr45, show kodF nseC 0 [nseC, iseC, iobC] = 1 by decide]; rfl
theorem call_nextLine {n : Nat} {c m : MM} (h : Sim n c m) (hw : WFa m) (hc : WFc c) (x : Int32) : CallOK n [nseC, iseC] c (xSc c x) (c 19 x.toNatClampNeg) (fNxL m x) := by
  rcases sc_cases h hw hc x with ⟨z, y, hX, hf⟩ | ⟨e, M, hX, hf, hS, h45, -⟩
  · have e : fNxL m x = (m 19 x.toNatClampNeg, thr (thr m 0 1) 0 2) := by unfold fNxL; simp only; rw [hf]; dsimp only; rw [if_neg (fun q => q rfl)]
    rw [e, hX]
    exact CallOK.ask (by dsimp only; rw [thr45]; rfl) (fun _ => (h.1.2.2.1 _ (vp_nat z)).1.1 19 rfl) ((h.thr _ _).thr _ _)
  · have e2 : fNxL m x = (0, M) := by unfold fNxL; simp only; rw [hf]; dsimp only; rw [if_pos (by decide)]
    rw [e2, hX]
    exact CallOK.ask h45 (fun q => (nomatch q)) hS
/-- the searches are noise -/
theorem Sim.lays {n : Nat} {c m : MM} (h : Sim n c m) (p : Nat) : Sim n c (fLays m p) := h.ext (fun _ _ => rfl) (fun _ => rfl) (fun k hk => fLays_key m p (by unfold mK at hk; unfold kTry; omega))
theorem Sim.noise {n : Nat} {c c' m : MM} (h : Sim n c m) (e : ∀ k, ¬ (130 ≤ k ∧ k ≤ 161) → c' k = c k) : Sim n c' m := h.ext (fun k hk => e k (by unfold cK at hk; omega)) (fun p => by rw [e 171 (by omega)]) (fun _ _ => rfl)
/-- what both find for a scanned parcel -/
theorem Sim.found {n : Nat} {c m : MM} (h : Sim n c m) {p : Nat} (hp : p < npN m) : BRes c (psP m p) (cBp c p (c 41 0)) (plR m p) ∧ (∀ k, ¬ kPth k → (cBp c p (c 41 0)).2 k = c k) ∧ RB (fLays m p) (plR m p) := by
  have hq := h.1.2.2.1 p hp
  obtain ⟨h1, h2⟩ := plan_res h.1.1 h.1.2.1 hq.1 hq.2
  exact ⟨h1, h2, lays_RB h.1.2.1.1 h.1.2.1.2.1 (hq.2.pkp h.1.2.1)⟩
theorem Sim.srch {n : Nat} {c m : MM} (h : Sim n c m) {x : Int32} (z : vp_in x (npN m)) (hX : xSc c x = none) : Sim n (cSr c x) m := by
  unfold cSr
  rw [if_pos hX]
  exact h.noise (fun k hk => (h.found (vp_nat z)).2.1 k (by unfold kPth; omega))
theorem srch_no {c : MM} {x : Int32} {e : String} (hX : xSc c x = some e) : cSr c x = c := by
  unfold cSr
  rw [hX]
  exact if_neg (fun q => (nomatch q))
theorem call_pathSize {n : Nat} {c m : MM} (h : Sim n c m) (hw : WFa m) (hc : WFc c) (x : Int32) : CallOK n [nseC, iseC] (cSr c x) (xSc c x) (cPsz c x) (fPaS m x) := by
  rcases sc_cases h hw hc x with ⟨z, y, hX, hf⟩ | ⟨e, M, hX, hf, hS, h45, -⟩
  · have h2 := (h.thr 0 1).thr 0 2
    have e : fPaS m x = (if hasP (fLays (thr (thr m 0 1) 0 2) x.toNatClampNeg) then fLays (thr (thr m 0 1) 0 2) x.toNatClampNeg 43 0 else 0, fLays (thr (thr m 0 1) 0 2) x.toNatClampNeg) := by
      unfold fPaS; simp only; rw [hf]; dsimp only; rw [if_neg (fun q => q rfl)]
    rw [e]
    have hf2 := h2.found (vp_nat (a := npN (thr (thr m 0 1) 0 2)) z)
    have hS := (h2.srch (n := n) z hX).lays x.toNatClampNeg
    rw [hX]
    refine CallOK.ask ?_ (fun _ => ?_) hS
    · show fLays _ _ 45 0 = 0
      rw [fLays_key _ _ (by unfold kTry; omega), thr45]
      rfl
    · show _ = (if _ then _ else _)
      rw [hf2.2.2.sz]
      exact hf2.1.sz
  · have e2 : fPaS m x = (0, M) := by unfold fPaS; simp only; rw [hf]; dsimp only; rw [if_pos (by decide)]
    rw [e2, srch_no hX, hX]
    exact CallOK.ask h45 (fun q => (nomatch q)) hS
theorem call_arrival {n : Nat} {c m : MM} (h : Sim n c m) (hw : WFa m) (hc : WFc c) (x : Int32) : CallOK n [nseC, iseC] (cSr c x) (xSc c x) (cArv c x) (fArv m x) := by
  rcases sc_cases h hw hc x with ⟨z, y, hX, hf⟩ | ⟨e, M, hX, hf, hS, h45, -⟩
  · have h2 := (h.thr 0 1).thr 0 2
    have e : fArv m x = (if hasP (fLays (thr (thr m 0 1) 0 2) x.toNatClampNeg) then fLays (thr (thr m 0 1) 0 2) x.toNatClampNeg 42 0 else -1, fLays (thr (thr m 0 1) 0 2) x.toNatClampNeg) := by
      unfold fArv; simp only; rw [hf]; dsimp only; rw [if_neg (fun q => q rfl)]
    rw [e]
    have hf2 := h2.found (vp_nat (a := npN (thr (thr m 0 1) 0 2)) z)
    have hS := (h2.srch (n := n) z hX).lays x.toNatClampNeg
    rw [hX]
    refine CallOK.ask ?_ (fun _ => ?_) hS
    · show fLays _ _ 45 0 = 0
      rw [fLays_key _ _ (by unfold kTry; omega), thr45]
      rfl
    · show _ = (if _ then _ else _)
      rw [hf2.2.2.ar]
      exact hf2.1.ar
  · have e2 : fArv m x = (0, M) := by unfold fArv; simp only; rw [hf]; dsimp only; rw [if_pos (by decide)]
    rw [e2, srch_no hX, hX]
    exact CallOK.ask h45 (fun q => (nomatch q)) hS

