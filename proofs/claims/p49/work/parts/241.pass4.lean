/-! arrivals -/
theorem bud_v : bud 115 = 0 ∧ bud 116 = 1 ∧ bud 117 = 2 := by decide
theorem un_one {n t : Nat} {c m : MM} (h : Sm c m) (hP : PM n t m) (hn : n < 512) {p : Nat} (hp : p < npN m) :
    (cUnC c p ↔ m 28 p = 116 ∧ m 17 p = m 41 0) ∧ (m 28 p = 116 ∧ m 17 p = m 41 0 → Sm (cUn1 c p) (fHap (up (up m 28 p 117) 15 p (m 3 (m 16 p).toNatClampNeg)) p 117 (m 16 p)) ∧ PM n t (fHap (up (up m 28 p 117) 15 p (m 3 (m 16 p).toNatClampNeg)) p 117 (m 16 p))) := by
  have hw := hP.1
  have np40 := hw.np.2
  have nl12 := hw.nl.2
  have nh6 := hw.nh.2
  obtain ⟨hS, hM⟩ := h.2.2.1 p hp
  obtain ⟨g, g116⟩ := hS
  obtain ⟨-, b2, b3, b4⟩ := h.1
  have k28 : c 28 p = m 28 p := g 28 rfl
  have k17 : c 17 p = m 17 p := g 17 rfl
  have hC : cUnC c p ↔ m 28 p = 116 ∧ m 17 p = m 41 0 := by
    unfold cUnC
    rw [k28, k17, b2]
    constructor
    · exact fun z => ⟨z.1, z.2.2⟩
    · intro z
      have v16 := (hw.pa hp).2.2.2.2.1 z.1
      refine ⟨z.1, fun y => ?_, z.2⟩
      rw [g116 z.1] at y
      rw [y] at v16
      exact vp_nn v16 (by decide)
  refine ⟨hC, fun z => ?_⟩
  have v16 := (hw.pa hp).2.2.2.2.1 z.1
  have e116 := g116 z.1
  have e3 : c 3 (m 16 p).toNatClampNeg = m 3 (m 16 p).toNatClampNeg := (b4 _ (vp_nat v16)).1 3 (by omega) (by omega)
  have vH := (hw.ln (vp_nat v16)).2.1
  have wA := arr1_wf hw hp z.1
  obtain ⟨H, hH⟩ : ∃ q, q = m 3 (m 16 p).toNatClampNeg := ⟨_, rfl⟩
  have eU : cUn1 c p = cNote (up (up (up c 116 p (-1)) 15 p H) 28 p 117) p 4 (c 41 0) H.toNatClampNeg (m 16 p) := by
    unfold cUn1
    rw [if_pos (hC.mpr z), e116, e3, ← hH]
  rw [← hH] at vH wA ⊢
  rw [eU]
  clear eU e3 hH
  obtain ⟨A, hA⟩ : ∃ q, q = up (up m 28 p 117) 15 p H := ⟨_, rfl⟩
  rw [← hA] at wA ⊢
  have kA : ∀ k, k ≠ 28 → k ≠ 15 → A k = m k := fun k z1 z2 => by rw [hA, up_key z2, up_key z1]
  have oA : ∀ k i, i ≠ p → A k i = m k i := fun k i y => by rw [hA, up_i y, up_i y]
  have a28 : A 28 p = 117 := by rw [hA, up_k (by omega), up_s]
  have a15 : A 15 p = H := by rw [hA, up_s]
  have hn3 : npN A = npN m := npN_ext (kA 39 (by omega) (by omega))
  have s1 : Sm (up (up (up c 116 p (-1)) 15 p H) 28 p 117) A := by
    rw [hA]
    refine h.atq (q := p) ((((Cq.refl p c).put (by omega) _).put (by omega) _).put (by omega) _) (((Mq.refl p m).put (by omega) _).put (by omega) _) (fun _ => ⟨⟨fun k hk => ?_, fun y => ?_⟩, (hM.oth (by unfold mpk; omega) (by omega)).up15 (by rw [nhN_up (by omega)]; exact vH)⟩)
    · have hk2 := pk_ne hk
      have z116 : ¬ k = 116 := by omega
      have := g k hk
      by_cases z1 : k = 28
      · subst z1; simp [up]
      · by_cases z2 : k = 15
        · subst z2; simp [up]
        · simp [up, z1, z2, z116, this]
    · rw [up_k (by omega), up_s] at y; exact absurd y (by decide)
  have cA : ∀ q, cntE A q (logN A) = cntE m q (logN m) := fun q => cntE_m (kA 31 (by omega) (by omega)) (kA 40 (by omega) (by omega)) q
  have hcnt := hP.2.2.1 p (by omega)
  rw [z.1, bud_v.2.1] at hcnt
  have vHn := vp_nI vH (by omega)
  have s2 := s1.note wA (by rw [hn3]; exact hp) (jj := 4) (kind := 117) (l := m 16 p) (y := m 16 p) (t := c 41 0) (x := H.toNatClampNeg) (by rw [cA]; omega) rfl rfl (by rw [kA 41 (by omega) (by omega)]; exact b2) (by rw [a15]; exact vHn.symm) (Or.inr ⟨vp_nn v16, rfl⟩)
  have hLog := hP.log
  have wF : WFa (fHap A p 117 (m 16 p)) := wA.hap (by rw [hn3]; exact hp) rfl _ (by
    have : logN A = logN m := logN_ext (kA 40 (by omega) (by omega))
    omega)
  have f28 : fHap A p 117 (m 16 p) 28 p = 117 := by rw [hap_pk (by omega) (by omega) (by omega) (by omega), a28]
  have hcn := fun q (hq : q < 40) => hap_cntE wA p 117 (m 16 p) (by omega) (p := q) (by omega)
  refine ⟨s2, hP.chg wF hp (fun k hk => ?_) (fun k i z1 z2 z3 => ?_) (fun y => ?_) ?_ (fun q hq y => ?_) ?_ ?_ ?_⟩
  · rw [hap_pk (by omega) (by omega) (by omega) (by omega), kA k (by omega) (by omega)]
  · rw [fHap_i (by omega) (by omega) (by omega) z3, oA k i z3]
  · rw [f28] at y; exact absurd y (by decide)
  · have hX := (hP.2.1 p hp).2
    unfold MX
    rw [hap_pk (k := 22) (by omega) (by omega) (by omega) (by omega), kA 22 (by omega) (by omega)]
    exact Or.inr (hX.resolve_left (fun w => by rw [z.1] at w; exact absurd w (by decide)))
  · rw [hcn q hq, cA, if_neg y]; rfl
  · rw [hcn p (by omega), cA, if_pos rfl, f28, bud_v.2.2]
    omega
  · rw [hap_pk (by omega) (by omega) (by omega) (by omega), kA 29 (by omega) (by omega)]
  · rw [hap_pk (by omega) (by omega) (by omega) (by omega), kA 18 (by omega) (by omega)]
theorem un_all {n t : Nat} (hn : n < 512) : ∀ (k p : Nat) (a : Int32) (c m : MM), p + k = npN m → Sm c m → PM n t m →
    Sm (cUnL k p a c).2 (arrL k p a m).2 ∧ PM n t (arrL k p a m).2 ∧ (cUnL k p a c).1 = (arrL k p a m).1 ∧ (arrL k p a m).2 30 = m 30 ∧ (arrL k p a m).2 45 = m 45 ∧ nlN (arrL k p a m).2 = nlN m ∧ npN (arrL k p a m).2 = npN m := by
  intro k
  induction k with
  | zero => intro p a c m _ h hP; exact ⟨h, hP, rfl, rfl, rfl, rfl, rfl⟩
  | succ k ih =>
    intro p a c m hk h hP
    obtain ⟨u1, u2⟩ := un_one h hP hn (show p < npN m by omega)
    have e1 : cUnL (k + 1) p a c = cUnL k (p + 1) (if cUnC c p then a + 1 else a) (cUn1 c p) := rfl
    have e2 : arrL (k + 1) p a m = if m 28 p = 116 ∧ m 17 p = m 41 0 then arrL k (p + 1) (a + 1) (fHap (up (up m 28 p 117) 15 p (m 3 (m 16 p).toNatClampNeg)) p 117 (m 16 p)) else arrL k (p + 1) a m := rfl
    rw [e1, e2]
    by_cases z : m 28 p = 116 ∧ m 17 p = m 41 0
    · rw [if_pos z, if_pos (u1.mpr z)]
      obtain ⟨s1, s2⟩ := u2 z
      obtain ⟨F, hF⟩ : ∃ q, q = fHap (up (up m 28 p 117) 15 p (m 3 (m 16 p).toNatClampNeg)) p 117 (m 16 p) := ⟨_, rfl⟩
      have kF : ∀ k, k ≠ 28 → k ≠ 15 → k ≠ 31 → k ≠ 40 → k ≠ 27 → k ≠ 46 → F k = m k := fun k z1 z2 z3 z4 z5 z6 => by rw [hF, hap_pk z3 z4 z5 z6, up_key z2, up_key z1]
      rw [← hF] at s1 s2 ⊢
      have n3 : npN F = npN m := npN_ext (kF 39 (by omega) (by omega) (by omega) (by omega) (by omega) (by omega))
      have n2 : nlN F = nlN m := nlN_ext (kF 38 (by omega) (by omega) (by omega) (by omega) (by omega) (by omega))
      obtain ⟨r1, r2, r3, r4, r5, r6, r7⟩ := ih (p + 1) (a + 1) (cUn1 c p) F (by omega) s1 s2
      exact ⟨r1, r2, r3, by rw [r4, kF 30 (by omega) (by omega) (by omega) (by omega) (by omega) (by omega)], by rw [r5, kF 45 (by omega) (by omega) (by omega) (by omega) (by omega) (by omega)], by rw [r6, n2], by rw [r7, n3]⟩
    · have zc : ¬ cUnC c p := fun w => z (u1.mp w)
      have e3 : cUn1 c p = c := by unfold cUn1; exact if_neg zc
      rw [if_neg z, if_neg zc, e3]
      exact ih (p + 1) a c m (by omega) h hP
/-! those that were left are planned anew -/
def lS (c : MM) : Nat → Nat → Bool
  | 0, _ => false
  | k + 1, i => lS c k i || decide ((c 176 k).toNatClampNeg = i)
theorem lS_iff (c : MM) : ∀ k i, lS c k i = true ↔ ∃ j, j < k ∧ (c 176 j).toNatClampNeg = i := by
  intro k
  induction k with
  | zero => intro i; exact ⟨fun z => (nomatch z), fun ⟨j, hj, _⟩ => absurd hj (Nat.not_lt_zero _)⟩
  | succ k ih =>
    intro i
    show (lS c k i || decide ((c 176 k).toNatClampNeg = i)) = true ↔ _
    rw [Bool.or_eq_true, ih, decide_eq_true_iff]
    constructor
    · rintro (⟨j, a, b⟩ | b)
      · exact ⟨j, by omega, b⟩
      · exact ⟨k, by omega, b⟩
    · rintro ⟨j, a, b⟩
      by_cases z : j = k
      · exact Or.inr (by rw [← z]; exact b)
      · exact Or.inl ⟨j, by omega, b⟩
def pnS (S : Nat → Bool) (m : MM) : MM := fun k i => if k = 19 ∧ S i = true then bHd (plR m i) else m k i
theorem pnS_k {S : Nat → Bool} {m : MM} {k : Nat} (h : k ≠ 19) : pnS S m k = m k := by
  funext i
  unfold pnS
  rw [if_neg (fun z => h z.1)]
theorem lf_all {c m : MM} : ∀ (k i : Nat) (u : MM), Sm u (pnS (lS c i) m) → u 176 = c 176 → (∀ j, j < i + k → (c 176 j).toNatClampNeg < npN m) → Sm (cLfL k i u) (pnS (lS c (i + k)) m) := by
  intro k
  induction k with
  | zero => intro i u h _ _; exact h
  | succ k ih =>
    intro i u h h176 hv
    have e1 : cLfL (k + 1) i u = cLfL k (i + 1) (cPlan u (u 176 i).toNatClampNeg) := rfl
    rw [e1, h176, show i + (k + 1) = i + 1 + k by omega]
    have hvi := hv i (by omega)
    obtain ⟨v, hv'⟩ : ∃ z, z = (c 176 i).toNatClampNeg := ⟨_, rfl⟩
    rw [← hv'] at hvi ⊢
    obtain ⟨X, hX⟩ : ∃ z, z = pnS (lS c i) m := ⟨_, rfl⟩
    rw [← hX] at h
    have kX : ∀ k, k ≠ 19 → X k = m k := fun k hk => by rw [hX, pnS_k hk]
    have hvX : v < npN X := by rw [npN_ext (kX 39 (by omega))]; exact hvi
    have s1 := (h.plan hvX).1
    have hq2 := h.2.2.1 v hvX
    have eP : plR X v = plR m v := plR_ext (fun k hk => kX k (by unfold lnKey at hk; omega)) (by rw [kX 14 (by omega)]) (by rw [kX 15 (by omega)]) (by rw [kX 18 (by omega)])
    have s2 : Sm (cPlan u v) (pnS (lS c (i + 1)) m) := s1.ext (fun _ _ => rfl) (fun _ => rfl) (fun k hk => by
      rw [fPlans_eq h.2.1 hq2.2 (by unfold mK at hk; unfold kTry; omega), eP]
      funext j
      show (if k = 19 ∧ (lS c i j || decide ((c 176 i).toNatClampNeg = j)) = true then bHd (plR m j) else m k j) = _
      rw [← hv', hX]
      unfold up pnS
      by_cases z : k = 19
      · by_cases y : j = v
        · rw [if_pos ⟨z, by simp [y]⟩, if_pos ⟨z, y⟩, y]
        · have y' : ¬ v = j := fun w => y w.symm
          rw [if_neg (fun w => y w.2 : ¬ (k = 19 ∧ j = v))]
          simp [y']
      · rw [if_neg (fun w => z w.1), if_neg (fun w => z w.1), if_neg (fun w => z w.1)])
    refine ih (i + 1) _ s2 ?_ (fun j hj => hv j (by omega))
    rw [cPlan_key u v (by omega) (by omega)]; exact h176
theorem left_all {m : MM} (hm : ML m) (hM : ∀ p, p < npN m → MP m p) : ∀ (k p : Nat) (X : MM), p + k = npN m → (∀ key, ¬ kTry key → key ≠ 19 → key ≠ 30 → X key = m key) → (∀ i, p ≤ i → X 30 i = m 30 i) →
    (∀ key, ¬ kTry key → key ≠ 19 → key ≠ 30 → leftL k p X key = m key) ∧ (∀ i, leftL k p X 30 i = if p ≤ i ∧ i < p + k then 0 else X 30 i) ∧ ∀ i, leftL k p X 19 i = if (p ≤ i ∧ i < p + k) ∧ ¬ m 30 i = 0 then bHd (plR m i) else X 19 i := by
  intro k
  induction k with
  | zero =>
    intro p X _ h1 _
    exact ⟨h1, fun i => by rw [if_neg (by omega)]; rfl, fun i => by rw [if_neg (by omega)]; rfl⟩
  | succ k ih =>
    intro p X hk h1 h2
    have e : leftL (k + 1) p X = leftL k (p + 1) (if ¬ X 30 p = 0 then fPlans (up X 30 p 0) p else X) := rfl
    rw [e, h2 p (Nat.le_refl _)]
    by_cases z : m 30 p = 0
    · rw [if_neg (fun w => w z)]
      obtain ⟨i1, i2, i3⟩ := ih (p + 1) X (by omega) h1 (fun i hi => h2 i (by omega))
      refine ⟨i1, fun i => ?_, fun i => ?_⟩
      · rw [i2]
        by_cases y : i = p
        · rw [if_neg (by omega), if_pos (by omega), h2 i (by omega), y, z]
        · by_cases w : p + 1 ≤ i ∧ i < p + 1 + k
          · rw [if_pos w, if_pos (by omega)]
          · rw [if_neg w, if_neg (by omega)]
      · rw [i3]
        by_cases y : i = p
        · rw [if_neg (by omega), if_neg (fun w => w.2 (by rw [y]; exact z))]
        · by_cases w : p + 1 ≤ i ∧ i < p + 1 + k
          · by_cases x : m 30 i = 0
            · rw [if_neg (fun q => q.2 x), if_neg (fun q => q.2 x)]
            · rw [if_pos ⟨w, x⟩, if_pos ⟨by omega, x⟩]
          · rw [if_neg (fun q => w q.1), if_neg (fun q => w (by omega))]
    · rw [if_pos z]
      obtain ⟨A, hA⟩ : ∃ q, q = up X 30 p 0 := ⟨_, rfl⟩
      rw [← hA]
      have kA : ∀ key, ¬ kTry key → key ≠ 19 → key ≠ 30 → A key = m key := fun key z1 z2 z3 => by rw [hA, up_key z3, h1 key z1 z2 z3]
      have hp : p < npN m := by omega
      have mA : ML A := hm.ext (fun k hk => kA k (by unfold lnKey at hk; unfold kTry; omega) (by unfold lnKey at hk; omega) (by unfold lnKey at hk; omega))
      have pA : PKp A p := by
        obtain ⟨k1, k2, k3, k4⟩ := (hM p hp).pkp hm
        unfold PKp
        rw [nhN_ext (kA 37 (by unfold kTry; omega) (by omega) (by omega)), kA 15 (by unfold kTry; omega) (by omega) (by omega), kA 14 (by unfold kTry; omega) (by omega) (by omega), kA 18 (by unfold kTry; omega) (by omega) (by omega), kA 41 (by unfold kTry; omega) (by omega) (by omega)]
        exact ⟨k1, k2, k3, k4⟩
      have eP : plR A p = plR m p := plR_ext (fun k hk => kA k (by unfold lnKey at hk; unfold kTry; omega) (by unfold lnKey at hk; omega) (by unfold lnKey at hk; omega)) (by rw [kA 14 (by unfold kTry; omega) (by omega) (by omega)]) (by rw [kA 15 (by unfold kTry; omega) (by omega) (by omega)]) (by rw [kA 18 (by unfold kTry; omega) (by omega) (by omega)])
      have eF : ∀ key, ¬ kTry key → fPlans A p key = up A 19 p (bHd (plR m p)) key := fun key hk => by
        unfold fPlans
        rw [fPlan_hd mA.1 mA.2.1 pA, eP]
        exact up_eq (fLays_key A p hk)
      have f30 : fPlans A p 30 = A 30 := by rw [eF 30 (by unfold kTry; omega), up_key (by omega)]
      obtain ⟨i1, i2, i3⟩ := ih (p + 1) (fPlans A p) (by omega) (fun key z1 z2 z3 => by rw [eF key z1, up_key z2]; exact kA key z1 z2 z3) (fun i hi => by rw [f30, hA, up_i (by omega)]; exact h2 i (by omega))
      refine ⟨i1, fun i => ?_, fun i => ?_⟩
      · rw [i2, f30, hA]
        by_cases y : i = p
        · rw [if_neg (by omega), if_pos (by omega), y, up_s]
        · rw [up_i y]
          by_cases w : p + 1 ≤ i ∧ i < p + 1 + k
          · rw [if_pos w, if_pos (by omega)]
          · rw [if_neg w, if_neg (by omega)]
      · have f19 : fPlans A p 19 i = if i = p then bHd (plR m p) else X 19 i := by
          rw [eF 19 (by unfold kTry; omega)]
          by_cases y : i = p
          · rw [y, up_s, if_pos rfl]
          · rw [up_i y, if_neg y, hA, up_k (by omega)]
        rw [i3, f19]
        by_cases y : i = p
        · rw [if_neg (by omega), if_pos y, if_pos ⟨by omega, by rw [y]; exact z⟩, y]
        · rw [if_neg y]
          by_cases w : p + 1 ≤ i ∧ i < p + 1 + k
          · by_cases x : m 30 i = 0
            · rw [if_neg (fun q => q.2 x), if_neg (fun q => q.2 x)]
            · rw [if_pos ⟨w, x⟩, if_pos ⟨by omega, x⟩]
          · rw [if_neg (fun q => w q.1), if_neg (fun q => w (by omega))]
theorem PM.plan {n t : Nat} {m m' : MM} (h : PM n t m) (hw : WFa m') (e : ∀ k, mK k → k ≠ 19 → m' k = m k) (hN : ∀ p, p < npN m → NX m' p) : PM n t m' := by
  obtain ⟨h1, h2, h3, h4, h5, h6, h7⟩ := h
  have n3 : npN m' = npN m := npN_ext (e 39 (by unfold mK; omega) (by omega))
  refine ⟨hw, fun p hp => ?_, fun p hp => ?_, by rw [e 41 (by unfold mK; omega) (by omega)]; exact h4, fun p hp => ?_, fun p hp => ?_, h7.ext (e 37 (by unfold mK; omega) (by omega)) (e 39 (by unfold mK; omega) (by omega)) (e 0 (by unfold mK; omega) (by omega)) (e 41 (by unfold mK; omega) (by omega)) (fun p _ => Or.inl (by rw [e 18 (by unfold mK; omega) (by omega)]))⟩
  · rw [n3] at hp
    refine ⟨hN p hp, ?_⟩
    unfold MX
    rw [e 28 (by unfold mK; omega) (by omega), e 22 (by unfold mK; omega) (by omega)]
    exact (h2 p hp).2
  · rw [cntE_m (e 31 (by unfold mK; omega) (by omega)) (e 40 (by unfold mK; omega) (by omega)), e 28 (by unfold mK; omega) (by omega)]
    exact h3 p hp
  · rw [n3] at hp
    rw [e 17 (by unfold mK; omega) (by omega), e 22 (by unfold mK; omega) (by omega), e 23 (by unfold mK; omega) (by omega), e 24 (by unfold mK; omega) (by omega), e 26 (by unfold mK; omega) (by omega), e 27 (by unfold mK; omega) (by omega), e 29 (by unfold mK; omega) (by omega)]
    exact h5 p hp
  · rw [n3] at hp
    rw [e 29 (by unfold mK; omega) (by omega)]; exact h6 p hp
theorem left_eq {n t : Nat} {c m : MM} (h : Sm c m) (hP : PM n t m) (hL : LR c m) : Sm (cLfL (szN c 4) 0 c) (leftL (npN m) 0 m) ∧ PM n t (leftL (npN m) 0 m) ∧ (∀ p, leftL (npN m) 0 m 30 p = 0) ∧ leftL (npN m) 0 m 45 = m 45 := by
  have np40 := hP.1.np.2
  obtain ⟨r1, r2, r3⟩ := left_all h.2.1 (fun p hp => (h.2.2.1 p hp).2) (npN m) 0 m (by omega) (fun _ _ _ _ => rfl) (fun _ _ => rfl)
  have hv : ∀ j, j < szN c 4 → (c 176 j).toNatClampNeg < npN m := fun j hj => by
    obtain ⟨v, v1, v2, -⟩ := hL.1 j hj
    rw [v2, nI_clamp (by omega)]; exact v1
  have s0 : Sm c (pnS (lS c 0) m) := h.ext (fun _ _ => rfl) (fun _ => rfl) (fun k _ => by funext i; unfold pnS; rw [if_neg (fun z => (nomatch z.2))])
  have s1 := lf_all (c := c) (m := m) (szN c 4) 0 c s0 rfl (fun j hj => hv j (by omega))
  rw [Nat.zero_add] at s1
  have hS : ∀ i, lS c (szN c 4) i = true ↔ ¬ m 30 i = 0 := fun i => by
    rw [lS_iff]
    constructor
    · rintro ⟨j, j1, j2⟩
      obtain ⟨v, v1, v2, v3⟩ := hL.1 j j1
      rw [v2, nI_clamp (by omega)] at j2
      rw [← j2]; exact v3
    · intro z
      obtain ⟨j0, j, j1, j2⟩ := hL.2 i z
      exact ⟨j, j1, by rw [j2, nI_clamp (by omega)]⟩
  have w1 := (leftL_ok (npN m) 0 m hP.1).1
  obtain ⟨R, hR⟩ : ∃ q, q = leftL (npN m) 0 m := ⟨_, rfl⟩
  rw [← hR] at r1 r2 r3 w1 ⊢
  have kR : ∀ k, mK k → k ≠ 19 → R k = m k := fun k hk h19 => r1 k (by unfold mK at hk; unfold kTry; omega) h19 (by unfold mK at hk; omega)
  have s2 : Sm (cLfL (szN c 4) 0 c) R := s1.ext (fun _ _ => rfl) (fun _ => rfl) (fun k hk => by
    by_cases z : k = 19
    · subst z
      funext i
      rw [r3]
      unfold pnS
      by_cases y : m 30 i = 0
      · rw [if_neg (fun w => w.2 y), if_neg (fun w => (hS i).mp w.2 y)]
      · have := (hL.2 i y).1
        rw [if_pos ⟨by omega, y⟩, if_pos ⟨rfl, (hS i).mpr y⟩]
    · rw [pnS_k z]; exact kR k hk z)
  have n3 : npN R = npN m := npN_ext (kR 39 (by unfold mK; omega) (by omega))
  refine ⟨s2, hP.plan w1 kR (fun p hp => ?_), fun p => ?_, r1 45 (by unfold kTry; omega) (by omega) (by omega)⟩
  · by_cases y : m 30 p = 0
    · refine ((hP.2.1 p hp).1).ext (kR 38 (by unfold mK; omega) (by omega)) (kR 2 (by unfold mK; omega) (by omega)) (by rw [kR 28 (by unfold mK; omega) (by omega)]) ?_ (by rw [kR 15 (by unfold mK; omega) (by omega)])
      rw [r3, if_neg (fun w => w.2 y)]
    · refine NX.of s2.2.1 (s2.2.2.1 p (by rw [n3]; exact hp)).2 ?_
      rw [r3, if_pos ⟨by omega, y⟩]
      refine congrArg bHd (plR_ext (fun k hk => kR k (by unfold lnKey at hk; unfold mK; omega) (by unfold lnKey at hk; omega)) ?_ ?_ ?_).symm
      · rw [kR 14 (by unfold mK; omega) (by omega)]
      · rw [kR 15 (by unfold mK; omega) (by omega)]
      · rw [kR 18 (by unfold mK; omega) (by omega)]
  · rw [r2]
    by_cases y : m 30 p = 0
    · rw [y, ite_self]
    · have := (hL.2 p y).1
      rw [if_pos (by omega)]

