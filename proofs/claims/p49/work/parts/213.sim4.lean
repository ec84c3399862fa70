/-! plans, on both sides -/
theorem up_eq {a b : MM} {k i k' : Nat} {x : Int32} (h : a k' = b k') : up a k i x k' = up b k i x k' := by
  funext i'
  simp only [up]
  rw [h]
theorem plR_ext {m m' : MM} {p : Nat} (e : ∀ k, lnKey k ∨ k = 9 → m' k = m k) (e14 : m' 14 p = m 14 p) (e15 : m' 15 p = m 15 p) (e18 : m' 18 p = m 18 p) : plR m' p = plR m p := by
  have h1 : pdR m' = pdR m := by
    unfold pdR pdM
    rw [e 9 (by omega), e 2 (by unfold lnKey; omega), e 3 (by unfold lnKey; omega), e 4 (by unfold lnKey; omega), e 5 (by unfold lnKey; omega), e 6 (by unfold lnKey; omega), e 1 (by unfold lnKey; omega), nlN_ext (e 38 (by unfold lnKey; omega))]
  unfold plR psP psAt
  rw [h1, e14, e15, e18, e 41 (by unfold lnKey; omega), e 1 (by unfold lnKey; omega)]
theorem cPlan_eq {c m : MM} {p : Nat} (h : SL c m) (hm : ML m) (hp : SP c m p) (hP : MP m p) {k : Nat} (hk : ¬ kPth k) : cPlan c p k = up c 19 p (bHd (plR m p)) k := by
  obtain ⟨h1, h2⟩ := plan_res h hm hp hP
  unfold cPlan
  rw [h1.hd]
  exact up_eq (h2 k hk)
theorem cPlanP_eq {c m : MM} {p : Nat} (h : SL c m) (hm : ML m) (hp : SP c m p) (hP : MP m p) {k : Nat} (hk : ¬ kPth k) : cPlanP c p k = up (up c 19 p (bHd (plR m p))) 20 p (bAr (plR m p)) k := by
  obtain ⟨h1, h2⟩ := plan_res h hm hp hP
  unfold cPlanP
  rw [h1.ar]
  exact up_eq (cPlan_eq h hm hp hP hk)
theorem fPlans_eq {m : MM} {p : Nat} (hm : ML m) (hP : MP m p) {k : Nat} (hk : ¬ kTry k) : fPlans m p k = up m 19 p (bHd (plR m p)) k := by
  unfold fPlans
  rw [fPlan_hd hm.1 hm.2.1 (hP.pkp hm)]
  exact up_eq (fLays_key m p hk)
theorem fProm1_eq {m : MM} {p : Nat} (hm : ML m) (hP : MP m p) {k : Nat} (hk : ¬ kTry k) : fProm1 m p k = up m 20 p (bAr (plR m p)) k := by
  unfold fProm1
  rw [(lays_RB hm.1 hm.2.1 (hP.pkp hm)).ar]
  exact up_eq (fLays_key m p hk)
theorem bAr_ok {m : MM} {p : Nat} (hm : ML m) (hP : MP m p) : bAr (plR m p) = -1 ∨ isN (bAr (plR m p)) 0 (2 ^ 24) := by
  have h := lays_RB hm.1 hm.2.1 (hP.pkp hm)
  cases hc : plR m p with
  | none => exact Or.inl rfl
  | some x =>
    obtain ⟨a, q⟩ := x
    rw [hc] at h
    have h2 := h.2.1
    refine Or.inr ?_
    show isN (nI a) 0 (2 ^ 24)
    unfold isN
    rw [nI_clamp (by omega)]
    exact ⟨rfl, Nat.zero_le _, by omega⟩
/-- what MP asks: six numbers -/
def mpk (k : Nat) : Prop := k = 13 ∨ k = 14 ∨ k = 15 ∨ k = 18 ∨ k = 20 ∨ k = 21
theorem MP.oth {m : MM} {k i p : Nat} {x : Int32} (h : MP m p) (hk : ¬ mpk k) (h37 : k ≠ 37) : MP (up m k i x) p := by
  unfold mpk at hk
  unfold MP
  rw [nhN_up h37, up_key (k' := 13) (by omega), up_key (k' := 14) (by omega), up_key (k' := 15) (by omega), up_key (k' := 18) (by omega), up_key (k' := 20) (by omega), up_key (k' := 21) (by omega)]
  exact h
theorem MP.up20 {m : MM} {p : Nat} {x : Int32} (h : MP m p) (hx : x = -1 ∨ isN x 0 (2 ^ 24)) : MP (up m 20 p x) p := by
  obtain ⟨a1, a2, a3, a4⟩ := h
  unfold MP
  rw [nhN_up (by omega), up_key (k' := 13) (by omega), up_key (k' := 14) (by omega), up_key (k' := 15) (by omega), up_key (k' := 18) (by omega), up_key (k' := 21) (by omega), up_s]
  exact ⟨a1, a2, hx, a4⟩
theorem Sm.plan {c m : MM} (h : Sm c m) {q : Nat} (hq : q < npN m) : Sm (cPlan c q) (fPlans m q) ∧ NX (fPlans m q) q := by
  have hq2 := h.2.2.1 q hq
  have h1 := h.set (k := 19) (q := q) (x := bHd (plR m q)) rfl (by omega) (fun _ => hq2.2.oth (by unfold mpk; omega) (by omega))
  refine ⟨h1.ext (fun k hk => cPlan_eq h.1 h.2.1 hq2.1 hq2.2 (by unfold cK at hk; unfold kPth; omega)) (fun p => by rw [cPlan_eq h.1 h.2.1 hq2.1 hq2.2 (by unfold kPth; omega)]) (fun k hk => fPlans_eq h.2.1 hq2.2 (by unfold mK at hk; unfold kTry; omega)), ?_⟩
  intro h28 l hl h19
  rw [nlN_ext (fPlans_key m q (by unfold kTry; omega) (by omega))] at hl
  rw [fPlans_eq h.2.1 hq2.2 (by unfold kTry; omega), up_s] at h19
  rw [fPlans_eq h.2.1 hq2.2 (by unfold kTry; omega), fPlans_eq h.2.1 hq2.2 (by unfold kTry; omega), up_k (by omega), up_k (by omega)]
  exact plR_from h.2.1 hq2.2 hl h19
/-- first the event, then the plan: as if the other way round -/
theorem fHap0_congr {a b : MM} (e : ∀ k, ¬ kTry k → a k = b k) {k : Nat} (hk : ¬ kTry k) : fHap0 a k = fHap0 b k := by
  have e46 := e 46 (by unfold kTry; omega)
  have e40 := e 40 (by unfold kTry; omega)
  have e31 := e 31 (by unfold kTry; omega)
  unfold fHap0
  rw [LLm_ext e46, e40]
  split
  · funext i
    unfold grw
    rw [LLm_ext e46, e40, e31, e k hk]
  · exact e k hk
theorem fHap_congr {a b : MM} (e : ∀ k, ¬ kTry k → a k = b k) (p : Nat) (kind l : Int32) {k : Nat} (hk : ¬ kTry k) : fHap a p kind l k = fHap b p kind l k := by
  have e0 := fun (k : Nat) (hk : ¬ kTry k) => fHap0_congr e hk
  unfold fHap fHap1
  rw [e0 40 (by unfold kTry; omega), e0 41 (by unfold kTry; omega), e0 15 (by unfold kTry; omega)]
  have x1 : ∀ (a b : MM) (g x4 x5 : Int32) (i1 i2 i3 i4 : Nat) (x1 x2 x3 : Int32), (∀ k, ¬ kTry k → a k = b k) → ∀ k, ¬ kTry k → up (up (up (up (up a 31 i1 x1) 31 i2 x2) 31 i3 x3) 31 i4 x4) 40 0 x5 k = up (up (up (up (up b 31 i1 x1) 31 i2 x2) 31 i3 x3) 31 i4 x4) 40 0 x5 k := fun a b g x4 x5 i1 i2 i3 i4 x1 x2 x3 h k hk => up_eq (up_eq (up_eq (up_eq (up_eq (h k hk)))))
  have x2 := x1 (fHap0 a) (fHap0 b) 0
  rw [e0 27 (by unfold kTry; omega)]
  exact up_eq (x2 _ _ _ _ _ _ _ _ _ e0 k hk)
theorem fHap_up {m : MM} {k i : Nat} {v : Int32} (h : k ≠ 15 ∧ k ≠ 27 ∧ k ≠ 31 ∧ k ≠ 40 ∧ k ≠ 41 ∧ k ≠ 46) (p : Nat) (kind l : Int32) : fHap (up m k i v) p kind l = up (fHap m p kind l) k i v := by
  obtain ⟨h15, h27, h31, h40, h41, h46⟩ := h
  have hl : LLm (up m k i v) = LLm m := LLm_ext (up_key (Ne.symm h46))
  have e0 : fHap0 (up m k i v) = up (fHap0 m) k i v := by
    unfold fHap0
    rw [hl, up_k (Ne.symm h40)]
    split
    · funext k' i'
      unfold grw
      rw [hl, up_k (k' := 40) (Ne.symm h40), up_k (k' := 31) (Ne.symm h31)]
      by_cases w : k' = k ∧ i' = i
      · obtain ⟨rfl, rfl⟩ := w
        rw [up_s, up_s, if_neg h46, if_neg h31]
      · simp only [up, if_neg w]
    · rfl
  unfold fHap
  rw [e0]
  unfold fHap1
  simp only
  rw [up_k (k' := 40) (Ne.symm h40), up_k (k' := 41) (Ne.symm h41), up_k (k' := 15) (Ne.symm h15)]
  have x1 : ∀ (a : MM) (x1 x2 x3 x4 x5 : Int32) (i1 i2 i3 i4 : Nat), up (up (up (up (up (up a k i v) 31 i1 x1) 31 i2 x2) 31 i3 x3) 31 i4 x4) 40 0 x5 = up (up (up (up (up (up a 31 i1 x1) 31 i2 x2) 31 i3 x3) 31 i4 x4) 40 0 x5) k i v := by
    intro a x1 x2 x3 x4 x5 i1 i2 i3 i4
    funext k' i'
    by_cases w : k' = k ∧ i' = i
    · obtain ⟨rfl, rfl⟩ := w
      simp [up, h31, h40]
    · simp [up, w]
  rw [up_k (k' := 27) (Ne.symm h27), x1]
  funext k' i'
  by_cases w : k' = k ∧ i' = i
  · obtain ⟨rfl, rfl⟩ := w
    simp [up, h27]
  · simp [up, w]

