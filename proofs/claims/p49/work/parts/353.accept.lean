/-! accepting, laying, opening, closing -/
def AcP (m m' : MM) (hb d v sv : Int32) : Prop :=
  let p := npN m
  m' 39 0 = nI (p + 1) ∧ (∀ k, oK k ∧ k ≠ 45 ∧ k ≠ 39 → m' k = m k) ∧ (∀ k i, 11 ≤ k ∧ k ≤ 29 → i ≠ p → m' k i = m k i) ∧
  m' 11 p = v ∧ m' 12 p = sv ∧ m' 13 p = hb ∧ m' 14 p = d ∧ m' 15 p = hb ∧ m' 18 p = m 41 0 ∧ m' 25 p = m 41 0 ∧ m' 28 p = 115 ∧ m' 21 p = (if hb = d then m 41 0 else -1) ∧ m' 20 p = bAr (plR m' p) ∧ m' 19 p = bHd (plR m' p) ∧ m' 22 p = 0 ∧ m' 24 p = 0 ∧ m' 29 p = 0
theorem acc_keys {N F : MM} {hb d v sv : Int32} (hF : F = fHap (fProm (mAcc N hb d v sv (N 41 0)) (npN N)) (npN N) 97 (-1)) (hm : ML F) (hP : MP F (npN N)) (hFR : FR N) : AcP N F hb d v sv := by
  obtain ⟨p, hp⟩ : ∃ p, p = npN N := ⟨_, rfl⟩
  obtain ⟨X0, hX0⟩ : ∃ X, X = mAcc N hb d v sv (N 41 0) := ⟨_, rfl⟩
  obtain ⟨X, hX⟩ : ∃ X, X = fProm0 X0 p := ⟨_, rfl⟩
  have e : F = fHap (fPlans (fProm1 X p) p) p 97 (-1) := by rw [hF, hX, hX0, hp]; rfl
  have p1 : ∀ k, ¬ kTry k → k ≠ 20 → fProm1 X p k = X k := fun k hk h20 => by unfold fProm1; rw [up_key h20, fLays_key X p hk]
  have kF : ∀ k, k ≤ 26 ∨ k = 28 ∨ k = 29 ∨ (37 ≤ k ∧ k ≤ 39) ∨ k = 41 → k ≠ 19 → F k = fProm1 X p k := fun k hk h19 => by rw [e, hpl_key _ _ _ _ hk h19]
  have kX : ∀ k, k ≤ 26 ∨ k = 28 ∨ k = 29 ∨ (37 ≤ k ∧ k ≤ 39) ∨ k = 41 → k ≠ 19 → k ≠ 20 → F k = X k := fun k hk h19 h20 => by rw [kF k hk h19, p1 k (by unfold kTry; omega) h20]
  have k0 : ∀ k, k ≠ 21 → X k = X0 k := fun k hk => by rw [hX]; unfold fProm0; rw [up_key hk]
  rw [← hp] at hP
  have eX : X0 = mAcc N hb d v sv (N 41 0) := hX0
  obtain ⟨f17, f22, f23, f24, f26, f27, f29⟩ := hFR p (by omega)
  unfold AcP
  rw [← hp]
  have x15 : X0 15 p = hb := by rw [eX, hp]; simp [mAcc, up]
  have x14 : X0 14 p = d := by rw [eX, hp]; simp [mAcc, up]
  have x41 : X0 41 0 = N 41 0 := by rw [eX]; simp [mAcc, up]
  refine ⟨?_, fun k hk => ?_, fun k i hk hi => ?_, ?_, ?_, ?_, ?_, ?_, ?_, ?_, ?_, ?_, ?_, ?_, ?_, ?_, ?_⟩
  · rw [kX 39 (by omega) (by omega) (by omega), k0 39 (by omega), eX, hp]; simp [mAcc, up]
  · have hx0 : X0 k = N k := by
      rw [eX]
      unfold oK at hk
      unfold mAcc
      rw [up_key (by omega), up_key (by omega), up_key (by omega), up_key (by omega), up_key (by omega), up_key (by omega), up_key (by omega), up_key (by omega), up_key (by omega)]
    by_cases z : k = 30
    · rw [z] at hx0 ⊢
      rw [e, hap_pk (by omega) (by omega) (by omega) (by omega), fPlans_key _ _ (by unfold kTry; omega) (by omega), p1 30 (by unfold kTry; omega) (by omega), k0 30 (by omega), hx0]
    · unfold oK at hk
      rw [kX k (by omega) (by omega) (by omega), k0 k (by omega), hx0]
  · have hx0 : ∀ k, 11 ≤ k ∧ k ≤ 29 → X0 k i = N k i := fun k hk => by
      have hi2 : i ≠ npN N := by rw [← hp]; exact hi
      have h39 : k ≠ 39 := by omega
      rw [eX]
      simp [mAcc, up, hi2, h39]
    by_cases z : k = 27
    · subst z
      have hap : F 27 i = fPlans (fProm1 X p) p 27 i := by
        rw [e]
        unfold fHap fHap1
        rw [up_i hi, up_k (by omega), up_k (by omega), up_k (by omega), up_k (by omega), up_k (by omega), fHap0_key _ (by omega) (by omega)]
      rw [hap, fPlans_key _ _ (by unfold kTry; omega) (by omega), p1 27 (by unfold kTry; omega) (by omega), k0 27 (by omega)]
      exact hx0 27 (by omega)
    · by_cases y19 : k = 19
      · subst y19
        rw [e, hap_pk (by omega) (by omega) (by omega) (by omega)]
        show up (fLays (fProm1 X p) p) 19 p _ 19 i = _
        rw [up_i hi, fLays_key _ _ (by unfold kTry; omega), p1 19 (by unfold kTry; omega) (by omega), k0 19 (by omega)]
        exact hx0 19 (by omega)
      · by_cases y20 : k = 20
        · subst y20
          rw [kF 20 (by omega) (by omega)]
          show up (fLays X p) 20 p _ 20 i = _
          rw [up_i hi, fLays_key _ _ (by unfold kTry; omega), k0 20 (by omega)]
          exact hx0 20 (by omega)
        · rw [kX k (by omega) y19 y20]
          by_cases y21 : k = 21
          · subst y21
            rw [hX]
            unfold fProm0
            rw [up_i hi]
            exact hx0 21 (by omega)
          · rw [k0 k y21]
            exact hx0 k hk
  · rw [kX 11 (by omega) (by omega) (by omega), k0 11 (by omega), eX, hp]; simp [mAcc, up]
  · rw [kX 12 (by omega) (by omega) (by omega), k0 12 (by omega), eX, hp]; simp [mAcc, up]
  · rw [kX 13 (by omega) (by omega) (by omega), k0 13 (by omega), eX, hp]; simp [mAcc, up]
  · rw [kX 14 (by omega) (by omega) (by omega), k0 14 (by omega), x14]
  · rw [kX 15 (by omega) (by omega) (by omega), k0 15 (by omega), x15]
  · rw [kX 18 (by omega) (by omega) (by omega), k0 18 (by omega), eX, hp]; simp [mAcc, up]
  · rw [kX 25 (by omega) (by omega) (by omega), k0 25 (by omega), eX, hp]; simp [mAcc, up]
  · rw [kX 28 (by omega) (by omega) (by omega), k0 28 (by omega), eX, hp]; simp [mAcc, up]
  · rw [kX 21 (by omega) (by omega) (by omega), hX]
    unfold fProm0
    rw [up_s, x15, x14, x41]
  · rw [kF 20 (by omega) (by omega), ← lays_by (Y := X) hm hP (fun q hq => (kX q (by unfold lnKey at hq; omega) (by unfold lnKey at hq; omega) (by unfold lnKey at hq; omega)).symm) (by rw [kX 14 (by omega) (by omega) (by omega)]) (by rw [kX 15 (by omega) (by omega) (by omega)]) (by rw [kX 18 (by omega) (by omega) (by omega)])]
    exact up_s _ _ _ _
  · rw [← fPlan_by (Y := fProm1 X p) hm hP (fun q hq => (kF q (by unfold lnKey at hq; omega) (by unfold lnKey at hq; omega)).symm) (by rw [kF 14 (by omega) (by omega)]) (by rw [kF 15 (by omega) (by omega)]) (by rw [kF 18 (by omega) (by omega)]), e, hap_pk (by omega) (by omega) (by omega) (by omega)]
    exact up_s _ _ _ _
  · rw [kX 22 (by omega) (by omega) (by omega), k0 22 (by omega), eX]; simp [mAcc, up, f22]
  · rw [kX 24 (by omega) (by omega) (by omega), k0 24 (by omega), eX]; simp [mAcc, up, f24]
  · rw [kX 29 (by omega) (by omega) (by omega), k0 29 (by omega), eX]; simp [mAcc, up, f29]
/-- all plans anew -/
theorem pl19 {M : MM} (hm : ML M) (hP : ∀ q, q < npN M → MP M q) : ∀ (k p : Nat) (Y : MM), (∀ j, ¬ kTry j → j ≠ 19 → Y j = M j) → p + k ≤ npN M → ∀ q, plAll k p Y 19 q = if p ≤ q ∧ q < p + k ∧ M 28 q = 115 then bHd (plR M q) else Y 19 q := by
  intro k
  induction k with
  | zero => intro p Y _ _ q; rw [if_neg (by omega)]; rfl
  | succ k ih =>
    intro p Y hY hk q
    have y28 : Y 28 = M 28 := hY 28 (by unfold kTry; omega) (by omega)
    simp only [plAll]
    rw [ih (p + 1) _ (fun j a b => ?_) (by omega) q]
    · by_cases z : p + 1 ≤ q ∧ q < p + 1 + k ∧ M 28 q = 115
      · rw [if_pos z, if_pos ⟨by omega, by omega, z.2.2⟩]
      · rw [if_neg z]
        by_cases w : p ≤ q ∧ q < p + (k + 1) ∧ M 28 q = 115
        · have e : q = p := by
            rcases Nat.lt_or_ge p q with y | y
            · exact absurd ⟨y, by omega, w.2.2⟩ z
            · omega
          subst e
          rw [if_pos w, y28, if_pos w.2.2]
          show up (fLays Y q) 19 q (fPlan Y q) 19 q = _
          rw [up_s]
          exact fPlan_by hm (hP q (by omega)) (fun j hj => hY j (by unfold lnKey at hj; unfold kTry; omega) (by unfold lnKey at hj; omega)) (by rw [hY 14 (by unfold kTry; omega) (by omega)]) (by rw [hY 15 (by unfold kTry; omega) (by omega)]) (by rw [hY 18 (by unfold kTry; omega) (by omega)])
        · rw [if_neg w]
          split
          · next y =>
            have : q ≠ p := fun e => w (by subst e; exact ⟨Nat.le_refl _, by omega, by rw [← y28]; exact y⟩)
            show up (fLays Y p) 19 p (fPlan Y p) 19 q = _
            rw [up_i this, fLays_key Y p (by unfold kTry; omega)]
          · rfl
    · split
      · rw [fPlans_key Y p a b]; exact hY j a b
      · exact hY j a b
