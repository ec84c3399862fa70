theorem passL_ok : ∀ (k l : Nat) (m : MM), WFa m → l + k ≤ nlN m → logN m + 40 * k ≤ 2 ^ 21 → WFa (passL k l m) ∧ Gr (40 * k) m (passL k l m) := by
  intro k
  induction k with
  | zero => intro l m hw _ _; exact ⟨hw, Gr.refl _ _⟩
  | succ k ih =>
    intro l m hw hl hU
    unfold passL
    split
    · have h1 := fLoads_ok hw (show l < nlN m by omega) (by omega)
      have l1 := h1.2.lg
      have n1 := h1.2.nl
      have h2 := ih (l + 1) (fLoads m l) h1.1 (by omega) (by omega)
      exact ⟨h2.1, (h1.2.trans h2.2).mono (by omega)⟩
    · have h2 := ih (l + 1) m hw (by omega) (by omega)
      exact ⟨h2.1, h2.2.mono (by omega)⟩
theorem leftL_ok : ∀ (k p : Nat) (m : MM), WFa m → WFa (leftL k p m) ∧ Gr 0 m (leftL k p m) := by
  intro k
  induction k with
  | zero => intro p m hw; exact ⟨hw, Gr.refl _ _⟩
  | succ k ih =>
    intro p m hw
    unfold leftL
    split
    · have w1 : WFa (fPlans (up m 30 p 0) p) := WFa.plans (hw.upx (by unfold kWF; omega)) p
      have g1 : Gr 0 m (fPlans (up m 30 p 0) p) := (Gr.up (by omega)).trans (Gr.plans _ p)
      have h2 := ih (p + 1) _ w1
      exact ⟨h2.1, (g1.trans h2.2).mono (by omega)⟩
    · exact ih (p + 1) m hw
theorem fMin_ok {m : MM} (hw : WFa m) (hU : logN m + 520 ≤ 2 ^ 21) : WFa (fMin m).2 ∧ Gr 520 m (fMin m).2 := by
  have w1 : WFa (up m 41 0 (m 41 0 + 1)) := hw.upx (by unfold kWF; omega)
  have g1 : Gr 0 m (up m 41 0 (m 41 0 + 1)) := Gr.up (by omega)
  have l1 := g1.lg
  have h2 := fArr_ok w1 (by omega)
  have l2 := h2.2.lg
  have hnl := h2.1.nl
  have h3 := passL_ok (nlN (fArr (up m 41 0 (m 41 0 + 1))).2) 0 _ h2.1 (by omega) (by omega)
  have h4 := leftL_ok (npN (passL (nlN (fArr (up m 41 0 (m 41 0 + 1))).2) 0 (fArr (up m 41 0 (m 41 0 + 1))).2)) 0 _ h3.1
  exact ⟨h4.1, (((g1.trans h2.2).trans h3.2).trans h4.2).mono (by omega)⟩
set_option maxRecDepth 100000 in
theorem minL_ok : ∀ (k : Nat) (n : Int32) (m : MM), WFa m → logN m + 520 * k ≤ 2 ^ 21 → WFa (minL k n m).2 ∧ Gr (520 * k) m (minL k n m).2 := by
  intro k
  induction k with
  | zero => intro n m hw _; exact ⟨hw, Gr.refl _ _⟩
  | succ k ih =>
    intro n m hw hU
    have h1 := fMin_ok hw (by omega)
    have l1 := h1.2.lg
    have h2 := ih (n + (fMin m).1) (fMin m).2 h1.1 (by omega)
    exact ⟨h2.1, (h1.2.trans h2.2).mono (by omega)⟩
set_option maxRecDepth 100000 in
theorem pass_in {x : Int32} (h : inn x 1 120 = true) : ∃ N, N ≤ 120 ∧ x = nI N := by
  have h1 : 1 ≤ x ∧ x ≤ 120 := by simpa [inn] using h
  have h2 := Int32.le_iff_toInt_le.mp h1.2
  have e : (120 : Int32).toInt = 120 := rfl
  have e2 : x.toInt.toNat = x.toNatClampNeg := rfl
  refine ⟨x.toNatClampNeg, by omega, ?_⟩
  exact vp_nI (a := 121) (fun q => q.elim (fun z => Int32.lt_irrefl (Int32.lt_of_lt_of_le z (Int32.le_trans (by decide : (0 : Int32) ≤ 1) h1.1))) (fun z => by omega)) (by decide)
set_option maxRecDepth 100000 in
theorem fPass_eq {m : MM} {x : Int32} (h : inn x 1 120 = true) : fPass m x = minL x.toNatClampNeg 0 (thr m 0 1) := by
  have e1 : bi (¬ inn x 1 120 = true) = 0 := bi_0.mpr (fun q => q h)
  unfold fPass
  simp only [e1]
  exact if_neg (fun q => q trivial)

