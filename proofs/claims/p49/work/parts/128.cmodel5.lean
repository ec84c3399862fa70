/-! plans -/
theorem PathOK.ext0 {u : MM} {md : Nat} (hp : PathOK u md) (hl : ∀ l, l < nlN u → vp_in (u 3 l) (nhN u)) (i : Nat) (rd : Int32) : ∃ md', PathOK (cExt u i rd) md' := by
  unfold cExt
  have n1 : nhN (up u 136 i 1) = nhN u := nhN_up (by omega)
  refine PathOK.extL _ _ _ md ?_ (fun k _ h2 => ?_)
  · unfold PathOK
    rw [n1, up_k (by omega), up_key (by omega)]
    exact hp
  · rw [n1, up_key (by omega)]
    exact hl k (by omega)
theorem cBpL_key (p : Nat) (rd : Int32) : ∀ (n : Nat) (u : MM) {k : Nat}, (k < 130 ∨ 140 < k) → (cBpL p rd n u).2 k = u k := by
  intro n
  induction n with
  | zero => intro u k _; rfl
  | succ n ih =>
    intro u k hk
    simp only [cBpL]
    split
    · rfl
    · rw [ih _ hk, cExt_key _ _ _ hk]
theorem cBp_key (u : MM) (p : Nat) (now : Int32) {k : Nat} (hk : k < 130 ∨ 140 < k) : (cBp u p now).2 k = u k := by
  unfold cBp
  rw [cBpL_key _ _ _ _ hk, up_key (by omega), cBegin_k _ _ _ _ (by omega)]
theorem cBp_n (u : MM) (p : Nat) (now : Int32) : nhN (cBp u p now).2 = nhN u ∧ nlN (cBp u p now).2 = nlN u ∧ npN (cBp u p now).2 = npN u := ⟨nhN_ext (cBp_key u p now (by omega)), nlN_ext (cBp_key u p now (by omega)), npN_ext (cBp_key u p now (by omega))⟩
theorem cBpL_ok (p : Nat) (rd : Int32) : ∀ (n : Nat) (u : MM) (md : Nat), PathOK u md → (∀ l, l < nlN u → vp_in (u 3 l) (nhN u)) → ((cBpL p rd n u).1 = -1 ∨ ∃ v, v < 266 ∧ (cBpL p rd n u).1 = nI v) := by
  intro n
  induction n with
  | zero => intro u md _ _; exact Or.inl rfl
  | succ n ih =>
    intro u md hp hl
    simp only [cBpL]
    split
    · rcases cBte_ok hp 266 0 (-1) (by omega) (Or.inl rfl) with e | ⟨v, hv, e⟩
      · exact Or.inl e
      · exact Or.inr ⟨v, by have := hp.2.2.1; omega, e⟩
    · obtain ⟨md', hp'⟩ := hp.ext0 hl (cBte u 266 0 (-1)).toNatClampNeg (cRdI u (cBte u 266 0 (-1)).toNatClampNeg rd)
      refine ih _ md' hp' (fun l h => ?_)
      rw [cExt_key _ _ _ (by omega), nhN_ext (cExt_key _ _ _ (by omega))]
      rw [nlN_ext (cExt_key _ _ _ (by omega))] at h
      exact hl l h
theorem cBp_ok {u : MM} (hw : WFc u) {p : Nat} (hp : p < npN u) (now : Int32) : (cBp u p now).1 = -1 ∨ ∃ v, v < 266 ∧ (cBp u p now).1 = nI v := by
  have hb := beg_n u (u 15 p) now
  refine cBpL_ok p _ 266 _ 1 (PathOK.begin (hw.pa hp).2.2) (fun l h => ?_)
  rw [hb.2.1] at h
  rw [hb.1, up_key (by omega), cBegin_k _ _ _ _ (by omega)]
  exact (hw.ln h).2
def cPlan (u : MM) (p : Nat) : MM := up (cBp u p (u 41 0)).2 19 p (if (cBp u p (u 41 0)).1 = -1 then -1 else (cBp u p (u 41 0)).2 131 (cBp u p (u 41 0)).1.toNatClampNeg)
def cPlanP (u : MM) (p : Nat) : MM := up (cPlan u p) 20 p (if (cBp u p (u 41 0)).1 = -1 then -1 else (cBp u p (u 41 0)).2 132 (cBp u p (u 41 0)).1.toNatClampNeg)
theorem cPlan_key (u : MM) (p : Nat) {k : Nat} (hk : k < 130 ∨ 140 < k) (h : k ≠ 19) : cPlan u p k = u k := by
  unfold cPlan
  rw [up_key h, cBp_key _ _ _ hk]
theorem cPlan_n (u : MM) (p : Nat) : nhN (cPlan u p) = nhN u ∧ nlN (cPlan u p) = nlN u ∧ npN (cPlan u p) = npN u := ⟨nhN_ext (cPlan_key u p (by omega) (by omega)), nlN_ext (cPlan_key u p (by omega) (by omega)), npN_ext (cPlan_key u p (by omega) (by omega))⟩
theorem cPlanP_key (u : MM) (p : Nat) {k : Nat} (hk : k < 130 ∨ 140 < k) (h : k ≠ 19) (h2 : k ≠ 20) : cPlanP u p k = u k := by
  unfold cPlanP
  rw [up_key h2, cPlan_key _ _ hk h]
theorem cPlanP_n (u : MM) (p : Nat) : nhN (cPlanP u p) = nhN u ∧ nlN (cPlanP u p) = nlN u ∧ npN (cPlanP u p) = npN u := ⟨nhN_ext (cPlanP_key u p (by omega) (by omega) (by omega)), nlN_ext (cPlanP_key u p (by omega) (by omega) (by omega)), npN_ext (cPlanP_key u p (by omega) (by omega) (by omega))⟩
def cPlL : Nat → Nat → MM → MM
  | 0, _, u => u
  | k + 1, p, u => cPlL k (p + 1) (if u 28 p = 115 then cPlan u p else u)
def cPlA (u : MM) : MM := cPlL (npN u) 0 u
def cBq (u : MM) (x : Int32) : Int32 × MM := cBp u x.toNatClampNeg (u 41 0)
def cSr (u : MM) (x : Int32) : MM := if xSc u x = none then (cBq u x).2 else u
def cPsz (u : MM) (x : Int32) : Int32 := if (cBq u x).1 = -1 then 0 else (cBq u x).2 133 (cBq u x).1.toNatClampNeg
def cArv (u : MM) (x : Int32) : Int32 := if (cBq u x).1 = -1 then -1 else (cBq u x).2 132 (cBq u x).1.toNatClampNeg
def xPaA (u : MM) (x i : Int32) : Option String := xo (xSc u x) (if ¬ (cBq u x).1 = -1 ∧ ¬ i < 0 ∧ i < (cBq u x).2 133 (cBq u x).1.toNatClampNeg then none else some iobC)
def cTr (u : MM) (x : Int32) : MM := if xSc u x = none then cAll u x.toNatClampNeg (u 41 0) else u
def cSm (u : MM) (x : Int32) : MM := if xSc u x = none then (cFa u x.toNatClampNeg (u 41 0)).2 else u
theorem ev_ok {u : MM} (hw : WFc u) {v j : Nat} (hv : v < npN u) (hj : j < szN u (6 + v)) : ok u 5 (1024 * v + j) := by
  obtain ⟨h1, h2⟩ := hw.sz6 hv
  have e1 : (1024 * v + j) / 1024 = v := by omega
  have e2 : (1024 * v + j) % 1024 = j := by omega
  show _ / 1024 < npN u ∧ _ % 1024 < evN u _
  rw [e1, e2, h2]
  exact ⟨hv, hj⟩
theorem xEv_vi {u : MM} (hw : WFc u) {x i : Int32} (h : xEv u x i = none) : vp_in x (npN u) ∧ vp_in i (szN u (6 + x.toNatClampNeg)) := by
  have h1 := xEv_vp hw h
  have h2 := hw.sz6 (vp_nat h1)
  refine ⟨h1, ?_⟩
  have h3 := xo_r h
  by_cases z : i < 0 ∨ ¬ i < nI (szN u (6 + x.toNatClampNeg))
  · rw [if_pos z] at h3; exact nomatch h3
  · exact vp_of (by omega) (fun y => z (Or.inl y)) (Decidable.byContradiction fun y => z (Or.inr y))

