/-! what the class answers, in the words of the reference's state -/
theorem Sim.low {n k : Nat} {c c' m : MM} (h : Sim n c m) (h2 : Sim k c' m) : Sim n c' m := ⟨h2.1, h.2⟩
/-- the state behind a call, back to the m ahead of it -/
theorem Sim.same {n k : Nat} {c c' m m' : MM} (h : Sim n c m) (h2 : Sim k c' m') (e : ∀ q, mK q ∨ q = 30 → m' q = m q) : Sim n c' m := h.low (h2.ext (fun _ _ => rfl) (fun _ => rfl) (fun q hq => (e q hq).symm))
section VALS
variable {n : Nat} {c m : MM} {p l : Nat}
theorem v_pX (h : Sim n c m) (hw : WFa m) (hc : WFc c) (hp : p < npN m) : xPa c (nI p) = none := (h.pa hc).mpr (vp_in_nI hp (by have := hw.np.2; omega))
theorem v_pC (hw : WFa m) (hp : p < npN m) : (nI p).toNatClampNeg = p := nI_clamp (by have := hw.np.2; omega)
theorem v_pk (h : Sim n c m) (hw : WFa m) (hp : p < npN m) {k : Nat} (hk : pk k = true) : c k (nI p).toNatClampNeg = m k p := by rw [v_pC hw hp]; exact (h.1.2.2.1 p hp).1.1 k hk
theorem v_sc (h : Sim n c m) (hw : WFa m) (hc : WFc c) (hp : p < npN m) (h28 : m 28 p = 115) : xSc c (nI p) = none := by
  unfold xSc
  rw [v_pX h hw hc hp, v_pk h hw hp (k := 28) rfl, if_pos h28]
  rfl
theorem v_at (h : Sim n c m) (hw : WFa m) (hc : WFc c) (hp : p < npN m) (h28 : ¬ m 28 p = 116) : xAt c (nI p) = none := by
  unfold xAt
  rw [v_pX h hw hc hp, v_pk h hw hp (k := 28) rfl, if_neg h28]
  rfl
theorem v_atX (h : Sim n c m) (hw : WFa m) (hc : WFc c) (hp : p < npN m) (h28 : m 28 p = 116) : xAt c (nI p) = some iseC := by
  unfold xAt
  rw [v_pX h hw hc hp, v_pk h hw hp (k := 28) rfl, if_pos h28]
  rfl
theorem v_16 (h : Sim n c m) (hw : WFa m) (hp : p < npN m) (h28 : m 28 p = 116) : c 116 (nI p).toNatClampNeg = m 16 p := by rw [v_pC hw hp]; exact (h.1.2.2.1 p hp).1.2 h28
theorem v_rd (h : Sim n c m) (hw : WFa m) (hc : WFc c) (hp : p < npN m) (h28 : m 28 p = 116) : xRd c (nI p) = none := by
  have v16 := (hw.pa hp).2.2.2.2.1 h28
  unfold xRd
  rw [v_pX h hw hc hp, v_pk h hw hp (k := 28) rfl, v_16 h hw hp h28, if_pos ⟨h28, fun q => by rw [q] at v16; exact vp_nn v16 (by decide)⟩]
  rfl
theorem v_rdX (h : Sim n c m) (hw : WFa m) (hc : WFc c) (hp : p < npN m) (h28 : ¬ m 28 p = 116) : xRd c (nI p) = some iseC := by
  unfold xRd
  rw [v_pX h hw hc hp, v_pk h hw hp (k := 28) rfl, if_neg (fun q => h28 q.1)]
  rfl
theorem v_late (h : Sim n c m) (hw : WFa m) (hp : p < npN m) : cMiss c (nI p).toNatClampNeg (c 41 0) = bi (late m p) := by rw [v_pC hw hp]; exact late_iff h hp
theorem v_lC (hw : WFa m) (hl : l < nlN m) : (nI l).toNatClampNeg = l := nI_clamp (by have := hw.nl.2; omega)
theorem v_lX (h : Sim n c m) (hw : WFa m) (hc : WFc c) (hl : l < nlN m) : xLn c (nI l) = none := (h.ln hc).mpr (vp_in_nI hl (by have := hw.nl.2; omega))
theorem v_opn (h : Sim n c m) (hw : WFa m) (hc : WFc c) (hl : l < nlN m) (h9 : m 9 l = 0) : xOpn c (nI l) = none := by
  have f2 := (h.1.1.2.2.2 l hl).2
  unfold xOpn
  rw [v_lX h hw hc hl, v_lC hw hl, if_neg (fun q => (f2.mp q) h9)]
  rfl
theorem v_opnX (h : Sim n c m) (hw : WFa m) (hc : WFc c) (hl : l < nlN m) (h9 : ¬ m 9 l = 0) : xOpn c (nI l) = some iseC := by
  have f2 := (h.1.1.2.2.2 l hl).2
  unfold xOpn
  rw [v_lX h hw hc hl, v_lC hw hl, if_pos (f2.mpr h9)]
  rfl
theorem v_dep (h : Sim n c m) (hw : WFa m) (hc : WFc c) (hl : l < nlN m) (h9 : m 9 l = 0) : cDep c (nI l).toNatClampNeg (c 41 0 + 1) = lvs m l (m 41 0 + 1) := by
  have q := (call_nextDeparture h hw hc (nI l)).2.1 (v_opn h hw hc hl h9)
  rw [q]
  rcases ln_cases h hw hc (nI l) with ⟨z, hX, hf⟩ | ⟨z, hX, hf⟩
  · unfold fNext
    simp only
    rw [hf]
    dsimp only
    rw [if_neg (fun q => q rfl), v_lC hw hl, if_neg (fun q => q h9)]
  · exact absurd (vp_in_nI hl (by have := hw.nl.2; omega)) z
theorem v_wait (h : Sim n c m) (x : Int32) : cCw c x = waits m x := h.waitsC x
theorem v_row (h : Sim n c m) (hw : WFa m) (hc : WFc c) (hl : l < nlN m) : cWt c (nI l) = cQu c (nI l) ∧ QE (nI l) (npN m) (fLin m (nI l)).1 (cQu c (nI l)) (fLin m (nI l)).2 ∧ Sim n (cQu c (nI l)) m := by
  refine ⟨by unfold cWt; rw [if_pos (v_lX h hw hc hl)], QE.full (QK.of h.1.2.2.1) hw.np.2 h.1.1.1.2.2 _, ?_⟩
  exact h.same (h.queue hw (nI l)) (fun q hq => (fLin_ok hw (nI l)).2.1 (by unfold mK at hq; omega))
theorem v_wt (h : Sim n c m) (hw : WFa m) (hc : WFc c) (hl : l < nlN m) {i : Nat} (hi : i < (fLin m (nI l)).1) : xWat c (nI l) (nI i) = none ∧ cQu c (nI l) 36 (nI i).toNatClampNeg = (fLin m (nI l)).2 36 i := by
  obtain ⟨-, ⟨q1, q2, q3, -⟩, -⟩ := v_row h hw hc hl
  have n40 := hw.np.2
  constructor
  · unfold xWat
    rw [v_lX h hw hc hl, q1, if_neg (fun q => q.elim (nI_pos (by omega)) (fun z => z (nI_lt hi (by omega))))]
    rfl
  · rw [nI_clamp (by omega)]; exact (q3 i hi).1
theorem v_wtX (h : Sim n c m) (hw : WFa m) (hc : WFc c) (hl : l < nlN m) : xWat c (nI l) (nI (fLin m (nI l)).1) = some iobC := by
  obtain ⟨-, ⟨q1, q2, q3, -⟩, -⟩ := v_row h hw hc hl
  have n40 := hw.np.2
  unfold xWat
  rw [v_lX h hw hc hl, q1, if_pos (Or.inr (nI_nlt (Nat.le_refl _) (by omega)))]
  rfl
theorem v_bn (h : Sim n c m) (hw : WFa m) (hc : WFc c) (hl : l < nlN m) : cBn c (nI l) 8 12 = (fBgN m (nI l)).1 := (call_bagsNeeded h hw hc (nI l)).2.1 (v_lX h hw hc hl)
theorem bgN_key {k : Nat} (hk : k ≠ 34 ∧ k ≠ 35 ∧ k ≠ 44) : ∀ (j i : Nat) (a : Int32) (u : MM), (bgN j i a u).2 k = u k := by
  intro j
  induction j with
  | zero => intro i a u; rfl
  | succ j ih => intro i a u; simp only [bgN]; rw [ih]; exact put_key u _ _ hk
theorem fBgN_key (hw : WFa m) (x : Int32) {k : Nat} (hk : mK k ∨ k = 30) : (fBgN m x).2 k = m k := by
  have e1 : (fNoLine m x).2 k = m k := thrk m _ _ (by unfold mK at hk; omega)
  have w1 : WFa (fNoLine m x).2 := hw.thr _ _
  unfold fBgN
  simp only
  split
  · exact e1
  · dsimp only
    rw [bgN_key (by unfold mK at hk; omega), up_key (by unfold mK at hk; omega), (fLin_ok w1 x).2.1 (by unfold mK at hk; omega)]
    exact e1
theorem v_bnS (h : Sim n c m) (hw : WFa m) (hc : WFc c) (x : Int32) : Sim n (cBn c x) m := h.same (call_bagsNeeded h hw hc x).2.2 (fun _ hq => fBgN_key hw x hq)
theorem v_bal (h : Sim n c m) (hw : WFa m) (hc : WFc c) (hl : l < nlN m) : cBaL c (nI l) (nhN c) 0 0 = (fBgA m (nI l)).1 := (call_bagsAtLeast h hw hc (nI l)).2.1 (v_lX h hw hc hl)
theorem v_bags (h : Sim n c m) (hw : WFa m) (hl : l < nlN m) : c 8 (nI l).toNatClampNeg = m 8 l := by rw [v_lC hw hl]; exact (h.1.2.2.2.1 l hl).1
theorem v_8 (hw : WFa m) (hl : l < nlN m) : m 8 l = nI (vN (m 8 l)) ∧ vN (m 8 l) < 5 := by
  have g := (hw.ln hl).2.2.2.1
  exact ⟨vp_nI g (by omega), vp_nat g⟩
theorem v_bvH (h : Sim n c m) (hw : WFa m) (hl : l < nlN m) {k : Nat} (hk : k < vN (m 8 l)) : cHas c (nI l).toNatClampNeg 40 (nI k) = 1 := by
  obtain ⟨g1, g2⟩ := v_8 hw hl
  unfold cHas
  rw [v_bags h hw hl, g1]
  exact bi_t ⟨nI_pos' (by omega), nI_lt (by omega) (by omega), nI_lt (by omega) (by omega)⟩
theorem v_bv (h : Sim n c m) (hw : WFa m) (hc : WFc c) (hl : l < nlN m) {k : Nat} (hk : k < vN (m 8 l)) : xBv c (nI l) (nI k) = none ∧ cVol c (nI l).toNatClampNeg 40 (nI k) = m 10 (4 * l + k) := by
  obtain ⟨g1, g2⟩ := v_8 hw hl
  have hh := v_bvH h hw hl hk
  constructor
  · unfold xBv
    rw [v_lX h hw hc hl, hh]
    rfl
  · unfold cVol
    rw [hh, if_pos (by decide), v_lC hw hl, nI_clamp (by omega)]
    exact (h.1.2.2.2.1 l hl).2 k hk (by omega)
theorem v_bvX (h : Sim n c m) (hw : WFa m) (hc : WFc c) (hl : l < nlN m) : xBv c (nI l) (nI (vN (m 8 l))) = some iobC := by
  obtain ⟨g1, g2⟩ := v_8 hw hl
  have hh : cHas c (nI l).toNatClampNeg 40 (nI (vN (m 8 l))) = 0 := by
    unfold cHas
    rw [v_bags h hw hl]
    refine bi_f (fun q => ?_)
    have q2 := q.2.1
    rw [← g1] at q2
    exact Int32.lt_irrefl q2
  unfold xBv
  rw [v_lX h hw hc hl, hh]
  rfl
theorem v_rdg (h : Sim n c m) (x : Int32) : cRdL c x (npN c) 0 0 = rdL m x (npN m) 0 0 := by
  rw [h.1.1.1.2.2]
  exact rd_eq h x _ 0 0 (by omega)
/-- the plan as of now -/
theorem v_arv (h : Sim n c m) (hw : WFa m) (hc : WFc c) (hp : p < npN m) (h28 : m 28 p = 115) : cArv c (nI p) = bAr (plR m p) ∧ Sim n (cSr c (nI p)) m := by
  refine ⟨?_, h.srch (vp_in_nI hp (by have := hw.np.2; omega)) (v_sc h hw hc hp h28)⟩
  have := (h.found hp).1.ar
  unfold cArv cBq
  rw [v_pC hw hp]
  exact this
theorem v_nxP (h : Sim n c m) (hw : WFa m) (hc : WFc c) (hp : p < npN m) (h28 : m 28 p = 115) : cAll c (nI p).toNatClampNeg (c 41 0) 154 0 = bHd (plR m p) ∧ Sim n (cTr c (nI p)) m := by
  refine ⟨?_, h.trys (v_sc h hw hc hp h28)⟩
  rw [v_pC hw hp]
  exact (h.tried hp).hd.1
theorem v_min (h : Sim n c m) : c 41 0 = m 41 0 := h.1.1.2.1
theorem v_nh (h : Sim n c m) : nI (nhN c) = nI (nhN m) := by rw [h.1.1.1.1]
theorem v_nl (h : Sim n c m) : nI (nlN c) = nI (nlN m) := by rw [h.1.1.1.2.1]
theorem v_np (h : Sim n c m) : nI (npN c) = nI (npN m) := by rw [h.1.1.1.2.2]
theorem v_nar28 (h : Sim n c m) (hw : WFa m) (hp : p < npN m) : narrow .char (.int (c 28 (nI p).toNatClampNeg)) = .int (c 28 (nI p).toNatClampNeg) := by
  rw [v_pk h hw hp (k := 28) rfl]
  rcases (hw.pa hp).2.2.2.2.2 with e | e | e | e | e <;> rw [e] <;> decide
theorem v_nar29 (h : Sim n c m) (hw : WFa m) (hp : p < npN m) : narrow .boolean (.int (c 29 (nI p).toNatClampNeg)) = .int (c 29 (nI p).toNatClampNeg) := by
  rw [v_pk h hw hp (k := 29) rfl]
  rcases h.2.2.2.2.2.2.1 p hp with e | e <;> rw [e] <;> decide
end VALS
