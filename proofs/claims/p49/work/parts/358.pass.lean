/-! the trucks of a minute -/
/-- the parcels of a line's row -/
def RowI (m : MM) (l : Nat) : Prop := (∀ i, i < rowC m l → rowN m l i < npN m ∧ (fLin m (nI l)).2 36 i = nI (rowN m l i) ∧ m 28 (rowN m l i) = 115 ∧ m 19 (rowN m l i) = nI l) ∧ ∀ i j, i < j → j < rowC m l → ¬ rowN m l i = rowN m l j
theorem Stt.row {n : Nat} {c m : MM} (h : Stt n c m) (hc : WFc c) {l : Nat} (hl : l < nlN m) : RowI m l ∧ rowC m l ≤ npN m := by
  obtain ⟨hS, hw, -⟩ := h
  obtain ⟨-, ⟨-, q2, q3, q4⟩, -⟩ := v_row hS hw hc hl
  have n40 := hw.np.2
  have k28 : (fLin m (nI l)).2 28 = m 28 := (fLin_ok hw (nI l)).2.1 (by omega)
  have k19 : (fLin m (nI l)).2 19 = m 19 := (fLin_ok hw (nI l)).2.1 (by omega)
  have hr : ∀ i, i < rowC m l → rowN m l i < npN m ∧ (fLin m (nI l)).2 36 i = nI (rowN m l i) ∧ m 28 (rowN m l i) = 115 ∧ m 19 (rowN m l i) = nI l := fun i hi => by
    obtain ⟨-, v, v1, v2, v3, v4⟩ := q3 i hi
    have e : rowN m l i = v := by
      unfold rowN
      rw [v2]
      exact nI_clamp (by omega)
    rw [e, ← k28, ← k19]
    exact ⟨v1, v2, v3, v4⟩
  exact ⟨⟨hr, fun i j hij hj e => q4 i j hij hj (by rw [(hr i (by omega)).2.1, (hr j hj).2.1, e])⟩, q2⟩
theorem load_all {m : MM} {l mo : Nat} {now : Int32} (h7 : m 7 l = nI mo) (hmo : mo ≤ 4) (hl : l < 12) (hnow : ¬ now < 0) (hn40 : npN m ≤ 40) (hr : RowI m l) : ∀ (k r b : Nat) (M : MM) (g R : Nat → Int32), r + k = rowC m l → MinR m now R M → BgR g M b → b ≤ mo → (∀ i, i < rowC m l → M 36 i = nI (rowN m l i)) → (∀ i, r ≤ i → i < rowC m l → R (rowN m l i) = 0) →
    MinR m now (bgL m now l mo k r (g, R)).2 (loadL l k r M) ∧ (∃ b', b' ≤ mo ∧ BgR (bgL m now l mo k r (g, R)).1 (loadL l k r M) b') ∧ (loadL l k r M 8 = M 8 ∧ loadL l k r M 10 = M 10) ∧ ∀ q, (bgL m now l mo k r (g, R)).2 q = R q ∨ ∃ i, r ≤ i ∧ i < rowC m l ∧ q = rowN m l i ∧ ((bgL m now l mo k r (g, R)).2 q = -1 ∨ (bgL m now l mo k r (g, R)).2 q = nI (1 + l)) := by
  intro k
  induction k with
  | zero => intro r b M g R hk hM hg hb h36 hR; exact ⟨hM, ⟨b, hb, hg⟩, ⟨rfl, rfl⟩, fun q => Or.inl rfl⟩
  | succ k ih =>
    intro r b M g R hk hM hg hb h36 hR
    obtain ⟨r1, r2, r3, r4⟩ := hr.1 r (by omega)
    have e36 : (M 36 r).toNatClampNeg = rowN m l r := by
      rw [h36 r (by omega)]
      exact nI_clamp (by omega)
    obtain ⟨o1, ⟨b', o2, o3⟩, o4, o5⟩ := load_one hM hg hb h7 hmo r1 r3 (hR r (Nat.le_refl _) (by omega)) hl hnow
    have eL : loadL l (k + 1) r M = loadL l k (r + 1) (load1 M l (rowN m l r)) := by
      show loadL l k (r + 1) (load1 M l (M 36 r).toNatClampNeg) = _
      rw [e36]
    have eB : bgL m now l mo (k + 1) r (g, R) = bgL m now l mo k (r + 1) (if bgC m now l (rowN m l r) then bgS m l mo (rowN m l r) (g, R) else (g, R)) := rfl
    rw [eL, eB]
    obtain ⟨x, hx⟩ : ∃ x, x = (if bgC m now l (rowN m l r) then bgS m l mo (rowN m l r) (g, R) else (g, R)) := ⟨_, rfl⟩
    rw [← hx] at o1 o3 o4 o5 ⊢
    have kk : ∀ k', k' = 36 ∨ k' = 8 ∨ k' = 10 → load1 M l (rowN m l r) k' = M k' := fun k' hk' => load1_key M l (rowN m l r) (by omega) (by omega) (by omega)
    obtain ⟨i1, i2, i3, i4⟩ := ih (r + 1) b' (load1 M l (rowN m l r)) x.1 x.2 (by omega) o1 o3 o2 (fun i hi => by rw [kk 36 (by omega)]; exact h36 i hi) (fun i hi hi2 => by
      rw [o4 _ (fun e => hr.2 r i (by omega) hi2 e.symm)]
      exact hR i (by omega) hi2)
    refine ⟨i1, i2, ⟨by rw [i3.1, kk 8 (by omega)], by rw [i3.2, kk 10 (by omega)]⟩, fun q => ?_⟩
    rcases i4 q with e | ⟨i, a1, a2, a3, a4⟩
    · by_cases z : q = rowN m l r
      · subst z
        have hx0 : (bgL m now l mo k (r + 1) (x.1, x.2)).2 (rowN m l r) = x.2 (rowN m l r) := e
        rcases o5 with y | y
        · exact Or.inl (by rw [hx0, y, hR r (Nat.le_refl _) (by omega)])
        · exact Or.inr ⟨r, Nat.le_refl _, by omega, rfl, by rw [hx0]; exact y⟩
      · exact Or.inl (e.trans (o4 q z))
    · exact Or.inr ⟨i, by omega, a2, a3, a4⟩
def depP (m : MM) (now : Int32) (l : Nat) : Prop := m 9 l = 0 ∧ lvs m l now = now
def minRt (m : MM) (now : Int32) : Nat → Nat → Int32
  | 0 => fun _ => 0
  | l + 1 => if m 9 l = 0 ∧ lvs m l now = now then (bgAll m now l (vN (m 7 l)) (minRt m now l)).2 else minRt m now l
def minBg (m : MM) (now : Int32) (l : Nat) : Nat → Int32 := (bgAll m now l (vN (m 7 l)) (minRt m now l)).1
def BgO (m : MM) (now : Int32) (L : Nat) (M : MM) : Prop := ∀ l, l < L → m 9 l = 0 ∧ lvs m l now = now → ∃ b, b ≤ 4 ∧ minBg m now l 0 = nI b ∧ (0 < b → M 8 l = nI b ∧ ∀ k, k < b → M 10 (4 * l + k) = minBg m now l (2 + 2 * k))
theorem line_one {m M : MM} {l : Nat} {now : Int32} (hw : WFa m) (hl : l < nlN m) (hr : RowI m l) (hrC : rowC m l ≤ npN m) (hnow : ¬ now < 0) (hM : MinR m now (minRt m now l) M) (hwM : WFa M) (hR : RoR m l (minRt m now l)) (hB : BgO m now l M) :
    MinR m now (minRt m now (l + 1)) (if M 9 l = 0 ∧ lvs M l (M 41 0) = M 41 0 then fLoads M l else M) ∧ RoR m (l + 1) (minRt m now (l + 1)) ∧ BgO m now (l + 1) (if M 9 l = 0 ∧ lvs M l (M 41 0) = M 41 0 then fLoads M l else M) := by
  have nl12 := hw.nl.2
  have n40 := hw.np.2
  obtain ⟨h1, h2, h3⟩ := id hM
  have k9 : M 9 l = m 9 l := by rw [h1 9 (Or.inr (Or.inl rfl))]
  have kl : lvs M l (M 41 0) = lvs m l now := by
    unfold lvs
    rw [h2, h1 4 (Or.inl (by omega)), h1 5 (Or.inl (by omega))]
  rw [k9, kl, h2]
  have eR : minRt m now (l + 1) = if m 9 l = 0 ∧ lvs m l now = now then (bgAll m now l (vN (m 7 l)) (minRt m now l)).2 else minRt m now l := rfl
  by_cases z : m 9 l = 0 ∧ lvs m l now = now
  · rw [if_pos z] at eR
    rw [if_pos z, eR]
    obtain ⟨mo, h7, mo1, hmo⟩ := mo_1 hw hl
    have v7 : vN (m 7 l) = mo := by rw [h7]; exact nI_clamp (by omega)
    -- the reference's row
    have n3 : npN M = npN m := npN_ext (h1 39 (Or.inr (Or.inr (by omega))))
    have hrow : (fLin M (nI l)).1 = rowC m l ∧ ∀ j, j < rowC m l → (fLin M (nI l)).2 36 j = nI (rowN m l j) := by
      have q := lin_ex2 (y := nI l) (N := npN m) (by omega) (npN m) 0 0 M m (by omega) (fun q hq => ?_) (fun j hj => absurd hj (Nat.not_lt_zero _))
      · refine ⟨?_, fun j hj => ?_⟩
        · unfold fLin rowC; rw [n3]; exact q.1
        · have := q.2 j hj
          rw [← (hr.1 j hj).2.1]
          unfold fLin; rw [n3]; exact this
      · have hq0 := h3 q hq
        have k19 : M 19 q = m 19 q := hq0.1 19 (by unfold pKp; omega)
        refine ⟨?_, hq0.1 12 (by unfold pKp; omega), hq0.1 20 (by unfold pKp; omega)⟩
        rw [k19]
        rcases hR q hq with e | ⟨e1, l', e2, e3, e4⟩
        · rw [e] at hq0
          have := hq0.2.1
          rw [if_neg irr0] at this
          rw [this]
          by_cases w : dueP m now q
          · rw [if_pos w]
            exact ⟨fun y => absurd y.1 (by decide), fun y => absurd w (due_no y.1)⟩
          · rw [if_neg w]
        · have ne : ¬ m 19 q = nI l := fun y => by rw [e3, nI_eq (by omega) (by omega)] at y; omega
          exact ⟨fun y => absurd y.2 ne, fun y => absurd y.2 ne⟩
    obtain ⟨Q, hQ⟩ : ∃ Q, Q = (fLin M (nI l)).2 := ⟨_, rfl⟩
    have kQ : ∀ k, k ≠ 36 → Q k = M k := fun k hk => by rw [hQ]; exact (fLin_ok hwM (nI l)).2.1 hk
    obtain ⟨N, hN⟩ : ∃ N, N = up Q 44 0 0 := ⟨_, rfl⟩
    have kN : ∀ k, k ≠ 36 → k ≠ 44 → N k = M k := fun k a b => by rw [hN, up_key b, kQ k a]
    have hMN : MinR m now (minRt m now l) N := ⟨fun k hk => by rw [kN k (by unfold mKk at hk; omega) (by unfold mKk at hk; omega)]; exact h1 k hk, by rw [kN 41 (by omega) (by omega)]; exact h2, fun q hq => (h3 q hq).ext (fun k hk => by rw [kN k (by omega) (by omega)])⟩
    have hR0 : ∀ i, 0 ≤ i → i < rowC m l → minRt m now l (rowN m l i) = 0 := fun i _ hi => by
      obtain ⟨a1, -, -, a4⟩ := hr.1 i hi
      refine (hR _ a1).resolve_right (fun ⟨_, l', e2, e3, _⟩ => ?_)
      rw [a4, nI_eq (by omega) (by omega)] at e3
      omega
    obtain ⟨L1, ⟨b, L2, L3⟩, L4, L5⟩ := load_all h7 hmo (by omega) hnow n40 hr (rowC m l) 0 0 N (fun _ => 0) (minRt m now l) (by omega) hMN (BgR.zero (by rw [hN, up_s])) (by omega) (fun i hi => by rw [hN, up_k (by omega), hQ]; exact hrow.2 i hi) hR0
    have eA : bgAll m now l (vN (m 7 l)) (minRt m now l) = bgL m now l mo (rowC m l) 0 (fun _ => 0, minRt m now l) := by unfold bgAll; rw [v7]
    have eg : minBg m now l = (bgL m now l mo (rowC m l) 0 (fun _ => 0, minRt m now l)).1 := by unfold minBg; rw [eA]
    rw [eA]
    have eF : fLoads M l = if 0 < loadL l (rowC m l) 0 N 44 0 then bagC l (bagsN (loadL l (rowC m l) 0 N)) 0 (up (loadL l (rowC m l) 0 N) 8 l (loadL l (rowC m l) 0 N 44 0)) else loadL l (rowC m l) 0 N := by
      unfold fLoads
      simp only
      rw [hrow.1, hN, hQ]
    rw [eF]
    generalize (bgL m now l mo (rowC m l) 0 (fun _ => 0, minRt m now l)).2 = R2 at *
    generalize (bgL m now l mo (rowC m l) 0 (fun _ => 0, minRt m now l)).1 = g2 at *
    generalize loadL l (rowC m l) 0 N = X at *
    obtain ⟨g0, g1, g2', g3, g4⟩ := id L3
    obtain ⟨-, nb⟩ := L3.nb
    have k8 : X 8 = M 8 := by rw [L4.1, kN 8 (by omega) (by omega)]
    have k10 : X 10 = M 10 := by rw [L4.2, kN 10 (by omega) (by omega)]
    refine ⟨?_, fun p hp => ?_, ?_⟩
    · split
      · obtain ⟨x1, x2, x3⟩ := L1
        have kk : ∀ k, k ≠ 8 → k ≠ 10 → bagC l (bagsN X) 0 (up X 8 l (X 44 0)) k = X k := fun k a b => by rw [bagC_key l _ _ _ b, up_key a]
        exact ⟨fun k hk => by rw [kk k (by unfold mKk at hk; omega) (by unfold mKk at hk; omega)]; exact x1 k hk, by rw [kk 41 (by omega) (by omega)]; exact x2, fun q hq => (x3 q hq).ext (fun k hk => by rw [kk k (by omega) (by omega)])⟩
      · exact L1
    · rcases L5 p with e | ⟨i, -, a2, a3, a4⟩
      · rcases hR p hp with y | ⟨y1, l', y2, y3, y4⟩
        · exact Or.inl (e.trans y)
        · exact Or.inr ⟨y1, l', by omega, y3, by rw [e]; exact y4⟩
      · obtain ⟨c1, c2, c3, c4⟩ := hr.1 i a2
        rw [a3]
        rw [a3] at a4
        exact Or.inr ⟨c3, l, by omega, c4, a4⟩
    · intro l' hl' hd
      rcases Nat.lt_succ_iff_lt_or_eq.mp hl' with y | y
      · obtain ⟨b', q1, q2, q3⟩ := hB l' y hd
        refine ⟨b', q1, q2, fun hb0 => ?_⟩
        obtain ⟨q4, q5⟩ := q3 hb0
        split
        · refine ⟨?_, fun k hk => ?_⟩
          · rw [bagC_key l _ _ _ (by omega), up_i (by omega), k8]; exact q4
          · rw [bagC_10, nb, if_neg (by omega), up_k (by omega), k10]; exact q5 k hk
        · exact ⟨by rw [k8]; exact q4, fun k hk => by rw [k10]; exact q5 k hk⟩
      · subst y
        refine ⟨b, by omega, by rw [eg]; exact g1, fun hb0 => ?_⟩
        rw [if_pos (show 0 < X 44 0 by rw [g2', show (0 : Int32) = nI 0 from rfl, nI_ltI (by omega) (by omega)]; exact hb0)]
        refine ⟨?_, fun k hk => ?_⟩
        · rw [bagC_key l' _ _ _ (by omega), up_s, g2']
        · rw [bagC_10, nb, if_pos (by omega), up_k (by omega), show 4 * l' + k - 4 * l' = k by omega, eg]
          exact (g3 k hk).2.symm
  · rw [if_neg z] at eR
    rw [if_neg z, eR]
    refine ⟨hM, fun p hp => ?_, fun l' hl' hd => ?_⟩
    · rcases hR p hp with y | ⟨y1, l', y2, y3, y4⟩
      · exact Or.inl y
      · exact Or.inr ⟨y1, l', by omega, y3, y4⟩
    · rcases Nat.lt_succ_iff_lt_or_eq.mp hl' with y | y
      · exact hB l' y hd
      · subst y; exact absurd hd z
theorem lines_all {m : MM} {now : Int32} (hw : WFa m) (hr : ∀ l, l < nlN m → RowI m l ∧ rowC m l ≤ npN m) (hnow : ¬ now < 0) : ∀ (k l : Nat) (M : MM), l + k = nlN m → MinR m now (minRt m now l) M → WFa M → logN M + 40 * k ≤ 2 ^ 21 → RoR m l (minRt m now l) → BgO m now l M →
    MinR m now (minRt m now (nlN m)) (passL k l M) ∧ RoR m (nlN m) (minRt m now (nlN m)) ∧ BgO m now (nlN m) (passL k l M) := by
  intro k
  induction k with
  | zero =>
    intro l M hk h1 _ _ h2 h3
    have e : l = nlN m := by omega
    subst e
    exact ⟨h1, h2, h3⟩
  | succ k ih =>
    intro l M hk h1 hwM hU h2 h3
    obtain ⟨a1, a2⟩ := hr l (by omega)
    obtain ⟨b1, b2, b3⟩ := line_one hw (by omega) a1 a2 hnow h1 hwM h2 h3
    have e : passL (k + 1) l M = passL k (l + 1) (if M 9 l = 0 ∧ lvs M l (M 41 0) = M 41 0 then fLoads M l else M) := rfl
    rw [e]
    have nl : nlN M = nlN m := nlN_ext (h1.1 38 (Or.inr (Or.inr (by omega))))
    have hF : WFa (if M 9 l = 0 ∧ lvs M l (M 41 0) = M 41 0 then fLoads M l else M) ∧ logN (if M 9 l = 0 ∧ lvs M l (M 41 0) = M 41 0 then fLoads M l else M) ≤ logN M + 40 := by
      split
      · obtain ⟨w, g⟩ := fLoads_ok hwM (l := l) (by omega) (by omega)
        have := g.lg
        exact ⟨w, by omega⟩
      · exact ⟨hwM, by omega⟩
    exact ih (l + 1) _ (by omega) b1 hF.1 (by have := hF.2; omega) b2 b3
/-- the plans of those left behind -/
theorem left19 {M : MM} (hm : ML M) (hP : ∀ q, q < npN M → MP M q) : ∀ (k p : Nat) (Y : MM), (∀ j, ¬ kTry j → j ≠ 19 → j ≠ 30 → Y j = M j) → p + k ≤ npN M → ∀ q, leftL k p Y 19 q = if p ≤ q ∧ q < p + k ∧ ¬ Y 30 q = 0 then bHd (plR M q) else Y 19 q := by
  intro k
  induction k with
  | zero => intro p Y _ _ q; rw [if_neg (by omega)]; rfl
  | succ k ih =>
    intro p Y hY hk q
    simp only [leftL]
    obtain ⟨Z, hZ⟩ : ∃ Z, Z = (if ¬ Y 30 p = 0 then fPlans (up Y 30 p 0) p else Y) := ⟨_, rfl⟩
    have z30 : ∀ q, q ≠ p → Z 30 q = Y 30 q := fun q hq => by
      rw [hZ]; split
      · rw [fPlans_key _ _ (by unfold kTry; omega) (by omega), up_i hq]
      · rfl
    rw [← hZ, ih (p + 1) Z (fun j a b c => ?_) (by omega) q]
    · by_cases z : p + 1 ≤ q ∧ q < p + 1 + k ∧ ¬ Z 30 q = 0
      · rw [if_pos z, if_pos ⟨by omega, by omega, by rw [← z30 q (by omega)]; exact z.2.2⟩]
      · rw [if_neg z]
        by_cases w : p ≤ q ∧ q < p + (k + 1) ∧ ¬ Y 30 q = 0
        · have e : q = p := by
            rcases Nat.lt_or_ge p q with y | y
            · exact absurd ⟨y, by omega, by rw [z30 q (by omega)]; exact w.2.2⟩ z
            · omega
          subst e
          rw [if_pos w, hZ, if_pos w.2.2]
          show up (fLays (up Y 30 q 0) q) 19 q (fPlan (up Y 30 q 0) q) 19 q = _
          rw [up_s]
          have kY : ∀ j, ¬ kTry j → j ≠ 19 → j ≠ 30 → up Y 30 q 0 j = M j := fun j a b c => by rw [up_key c]; exact hY j a b c
          exact fPlan_by hm (hP q (by omega)) (fun j hj => kY j (by unfold lnKey at hj; unfold kTry; omega) (by unfold lnKey at hj; omega) (by unfold lnKey at hj; omega)) (by rw [kY 14 (by unfold kTry; omega) (by omega) (by omega)]) (by rw [kY 15 (by unfold kTry; omega) (by omega) (by omega)]) (by rw [kY 18 (by unfold kTry; omega) (by omega) (by omega)])
        · rw [if_neg w, hZ]
          split
          · next y =>
            have : q ≠ p := fun e => w (by subst e; exact ⟨Nat.le_refl _, by omega, y⟩)
            show up (fLays (up Y 30 p 0) p) 19 p (fPlan (up Y 30 p 0) p) 19 q = _
            rw [up_i this, fLays_key _ p (by unfold kTry; omega), up_k (by omega)]
          · rfl
    · rw [hZ]; split
      · rw [fPlans_key _ _ a b, up_key c]; exact hY j a b c
      · exact hY j a b c
theorem leftL_key (k : Nat) {j : Nat} (a : ¬ kTry j) (b : j ≠ 19) (c : j ≠ 30) : ∀ (p : Nat) (Y : MM), leftL k p Y j = Y j := by
  induction k with
  | zero => intro p Y; rfl
  | succ k ih =>
    intro p Y
    simp only [leftL]
    rw [ih]
    split
    · rw [fPlans_key _ _ a b, up_key c]
    · rfl
/-- a parcel behind the minute -/
def PaT (m : MM) (now r : Int32) (M : MM) (p : Nat) : Prop :=
  (∀ k, pKp k → k ≠ 19 → M k p = m k p) ∧ M 28 p = (if 0 < r then 116 else if dueP m now p then 117 else m 28 p) ∧ M 16 p = (if 0 < r then r - 1 else m 16 p) ∧ M 17 p = (if 0 < r then now + m 6 (vN (r - 1)) else m 17 p) ∧ M 24 p = (if r < 0 then m 24 p + 1 else m 24 p) ∧ M 15 p = (if dueP m now p then m 3 (vN (m 16 p)) else m 15 p) ∧ M 19 p = (if r < 0 then bHd (plR M p) else m 19 p)
def MinT (m : MM) (now : Int32) (R : Nat → Int32) (M : MM) : Prop := (∀ k, mKk k → M k = m k) ∧ M 41 0 = now ∧ ∀ p, p < npN m → PaT m now (R p) M p
