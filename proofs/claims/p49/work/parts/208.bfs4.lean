/-! the search takes the least first, and so finds the best -/
theorem cBet_iff {m0 u : MM} {s0 : PS} (hF : BFix m0 s0) {R : Nat → List Nat} {S : Nat → PS} {md i j : Nat} (hP : PRep m0 s0 u R S md) (hi : i < md) (hj : j < md) : ¬ cBet u i j = 0 ↔ ¬ kle (keyD (S j) (R j)) (keyD (S i) (R i)) := by
  have hD := hF.D
  obtain ⟨-, -, p3, -, -⟩ := hP
  obtain ⟨hri, a1, a2, a3, a4, a5, -, -⟩ := p3 i hi
  obtain ⟨hrj, b1, b2, b3, b4, b5, -, -⟩ := p3 j hj
  obtain ⟨c1, c2, c3, c4, -⟩ := hF.rn _ _ hri
  obtain ⟨d1, d2, d3, d4, -⟩ := hF.rn _ _ hrj
  have e1 := code_small hD hri c4
  have e2 := code_small hD hrj d4
  unfold cBet kle keyD
  rw [a3, a4, a5, b3, b4, b5]
  dsimp only
  by_cases x1 : (S i).2.1 = (S j).2.1
  · rw [if_neg (fun z => z (by rw [x1]))]
    by_cases x2 : (R i).length = (R j).length
    · rw [if_neg (fun z => z (by rw [x2])), bi_n0, nI_ltI (by omega) (by omega)]
      omega
    · rw [if_pos (fun z => x2 ((nI_eq (by omega) (by omega)).mp z)), bi_n0, nI_ltI (by omega) (by omega)]
      omega
  · rw [if_pos (fun z => x1 ((nI_eq (by omega) (by omega)).mp z)), bi_n0, nI_ltI (by omega) (by omega)]
    omega
/-- x is the least of those not extended, among the first i -/
def LowP (u : MM) (R : Nat → List Nat) (S : Nat → PS) (md : Nat) (i : Nat) (x : Int32) : Prop :=
  (x = -1 ∧ ∀ j, j < i → ¬ u 136 j = 0) ∨ ∃ v, v < i ∧ v < md ∧ x = nI v ∧ u 136 v = 0 ∧ ∀ j, j < i → u 136 j = 0 → kle (keyD (S v) (R v)) (keyD (S j) (R j))
theorem cBte_low {m0 u : MM} {s0 : PS} (hF : BFix m0 s0) {R : Nat → List Nat} {S : Nat → PS} {md : Nat} (hP : PRep m0 s0 u R S md) (hmd : md < 266) : ∀ (k i : Nat) (x : Int32), i ≤ md → md < i + k → LowP u R S md i x → LowP u R S md md (cBte u k i x) := by
  have h140 := hP.2.1
  intro k
  induction k with
  | zero => intro i x h1 h2 _; omega
  | succ k ih =>
    intro i x h1 h2 hL
    simp only [cBte]
    rw [h140]
    by_cases c : md ≤ i
    · rw [if_pos (nI_le c (by omega))]
      rw [show i = md by omega] at hL
      exact hL
    · rw [if_neg (fun z => c ((nI_leI (by omega) (by omega)).mp z))]
      refine ih (i + 1) _ (by omega) (by omega) ?_
      rcases hL with ⟨rfl, h3⟩ | ⟨v, v1, v2, rfl, v4, v5⟩
      · by_cases z : u 136 i = 0
        · rw [if_pos ⟨z, Or.inl rfl⟩]
          refine Or.inr ⟨i, by omega, by omega, rfl, z, fun j hj hj0 => ?_⟩
          by_cases w : j = i
          · rw [w]; exact kle_refl _
          · exact absurd hj0 (h3 j (by omega))
        · rw [if_neg (fun y => z y.1)]
          refine Or.inl ⟨rfl, fun j hj => ?_⟩
          by_cases w : j = i
          · rw [w]; exact z
          · exact h3 j (by omega)
      · have hcl : (nI v).toNatClampNeg = v := nI_clamp (by omega)
        have hb := cBet_iff hF hP (i := i) (j := v) (by omega) v2
        rw [hcl]
        by_cases z : u 136 i = 0
        · by_cases y : kle (keyD (S v) (R v)) (keyD (S i) (R i))
          · rw [if_neg (fun q => q.2.elim (nI_nm (by omega)) (fun q2 => (hb.mp q2) y))]
            refine Or.inr ⟨v, by omega, v2, rfl, v4, fun j hj hj0 => ?_⟩
            by_cases w : j = i
            · rw [w]; exact y
            · exact v5 j (by omega) hj0
          · rw [if_pos ⟨z, Or.inr (hb.mpr y)⟩]
            refine Or.inr ⟨i, by omega, by omega, rfl, z, fun j hj hj0 => ?_⟩
            by_cases w : j = i
            · rw [w]; exact kle_refl _
            · exact kle_trans ((kle_total _ _).resolve_right y) (v5 j (by omega) hj0)
        · rw [if_neg (fun y => z y.1)]
          refine Or.inr ⟨v, by omega, v2, rfl, v4, fun j hj hj0 => ?_⟩
          by_cases w : j = i
          · rw [w] at hj0; exact absurd hj0 z
          · exact v5 j (by omega) hj0
/-- each route is made, or goes on from a path that is not extended -/
theorem BInv.cover {m0 : MM} {s0 : PS} {g : Nat} {u : MM} {R : Nat → List Nat} {S : Nat → PS} {md : Nat} (h : BInv m0 s0 g u R S md) : ∀ (q : List Nat) (t : PS), run (pdC m0) q s0 t → ∃ j r, j < md ∧ q = R j ++ r ∧ (r = [] ∨ u 136 j = 0) := by
  obtain ⟨hP, hC, -⟩ := h
  refine snoc_ind (fun t _ => ⟨0, [], hP.2.2.2.1.1, by rw [hP.2.2.2.1.2.1]; rfl, Or.inl rfl⟩) (fun q l ih t hr => ?_)
  obtain ⟨t1, h1, h2⟩ := (run_app _ q [l] s0 t).mp hr
  obtain ⟨j, r, hj, hq, hz⟩ := ih t1 h1
  by_cases c : u 136 j = 0
  · exact ⟨j, r ++ [l], hj, by rw [hq, List.append_assoc], Or.inr c⟩
  · have hr0 : r = [] := hz.resolve_right c
    subst hr0
    rw [List.append_nil] at hq
    obtain ⟨g1, g2⟩ := hP.2.2.1 j hj
    rw [hq] at h1
    have hS : t1 = S j := run_det _ _ s0 _ _ h1 g1
    have hx : extB (pdC m0) (S j).1 (S j).2.2.2 l = true := by rw [← hS]; exact extB_iff.mpr h2.1
    obtain ⟨j2, k1, k2⟩ := (hC j hj (g2.2.2.2.2.2.2.resolve_left c)).2 l hx
    exact ⟨j2, [], k1, by rw [k2, hq, List.append_nil], Or.inl rfl⟩
theorem key_app {D : PD} (hD : PDok D) {s0 s t : PS} (h0 : PSok s0) {p r : List Nat} (hp : run D p s0 s) (hr : run D (p ++ r) s0 t) : kle (keyD s p) (keyD t (p ++ r)) := by
  obtain ⟨t1, h1, h2⟩ := (run_app D p r s0 t).mp hr
  rw [run_det D p s0 t1 s h1 hp] at h2
  have hs := (run_time hD p s0 s h0 hp).1
  have ht := (run_time hD r s t hs h2).2
  cases r with
  | nil => rw [List.append_nil, show t = s from h2]; exact kle_refl _
  | cons a r =>
    refine Or.inl ?_
    show s.2.1 < t.2.1
    rw [List.length_cons] at ht
    omega
def BRes (m0 : MM) (s0 : PS) (z : Int32 × MM) (b : Option (Nat × List Nat)) : Prop := match b with
  | none => z.1 = -1
  | some (a, q) => ∃ v s, v < 266 ∧ z.1 = nI v ∧ PR1 z.2 v q s ∧ s.2.1 = a ∧ run (pdC m0) q s0 s
def unx (u : MM) (md : Nat) : Nat := sumN (fun j => if u 136 j = 0 then 0 else 1) md
theorem unx_le (u : MM) : ∀ md, unx u md ≤ md
  | 0 => Nat.le_refl _
  | n + 1 => by
    have := unx_le u n
    unfold unx at this ⊢
    simp only [sumN]
    split <;> omega
theorem cBpL_best {m0 : MM} {s0 : PS} {g p : Nat} (hF : BFix m0 s0) (hg : g < nhN m0) (h14 : m0 14 p = nI g) : ∀ (k : Nat) (u : MM) (R : Nat → List Nat) (S : Nat → PS) (md : Nat), BInv m0 s0 g u R S md → 149 ≤ unx u md + k →
    (∃ b, isBest (pdC m0) s0 g (fun _ => True) b ∧ BRes m0 s0 (cBpL p (nI s0.2.2.1) k u) b) ∧ ∀ k', ¬ kPth k' → (cBpL p (nI s0.2.2.1) k u).2 k' = m0 k' := by
  have hD := hF.D
  have hnh := hF.1.nh
  have h0 : PSok s0 := hF.2.2.2.2.1
  intro k
  induction k with
  | zero => intro u R S md hI hk; have := hI.md hF; have := unx_le u md; omega
  | succ k ih =>
    intro u R S md hI hk
    have hmd := hI.md hF
    have hP := hI.1
    have hL := cBte_low hF hP (by omega) 266 0 (-1) (Nat.zero_le _) (by omega) (Or.inl ⟨rfl, fun j hj => by omega⟩)
    simp only [cBpL]
    rw [hP.1 14 (by unfold kPth; omega), h14]
    rcases hL with ⟨e, h3⟩ | ⟨v, v1, v2, e, v4, v5⟩
    · rw [e, if_pos (Or.inl rfl)]
      refine ⟨⟨none, fun q t _ hr ht => ?_, rfl⟩, hP.1⟩
      obtain ⟨j, r, hj, hq, hz⟩ := hI.cover q t hr
      have hr0 : r = [] := hz.resolve_right (h3 j hj)
      subst hr0
      rw [List.append_nil] at hq
      obtain ⟨g1, g2⟩ := hP.2.2.1 j hj
      rw [hq] at hr
      rw [run_det _ _ s0 _ _ hr g1] at ht
      exact (hI.2.1 j hj (g2.2.2.2.2.2.2.resolve_left (h3 j hj))).1 ht
    · have hcl : (nI v).toNatClampNeg = v := nI_clamp (by omega)
      obtain ⟨g1, g2⟩ := hP.2.2.1 v v2
      obtain ⟨c1, c2, c3, c4, c5, c6⟩ := hF.rn _ _ g1
      rw [e, hcl, g2.1]
      by_cases c : (S v).1 = g
      · rw [if_pos (Or.inr (by rw [c]))]
        refine ⟨⟨some ((S v).2.1, R v), ⟨⟨S v, trivial, g1, c, rfl⟩, fun q t _ hr ht => ?_⟩, ⟨v, S v, by omega, rfl, g2, rfl, g1⟩⟩, hP.1⟩
        obtain ⟨j, r, hj, hq, hz⟩ := hI.cover q t hr
        obtain ⟨k1, k2⟩ := hP.2.2.1 j hj
        by_cases w : u 136 j = 0
        · refine kle_trans (v5 j hj w) ?_
          rw [hq] at hr ⊢
          exact key_app hD h0 k1 hr
        · have hr0 : r = [] := hz.resolve_right w
          subst hr0
          rw [List.append_nil] at hq
          rw [hq] at hr
          rw [run_det _ _ s0 _ _ hr k1] at ht
          exact absurd ht (hI.2.1 j hj (k2.2.2.2.2.2.2.resolve_left w)).1
      · rw [if_neg (fun z => z.elim (nI_nm (by omega)) (fun y => c ((nI_eq (by omega) (by omega)).mp y)))]
        have hrd : cRdI u v (nI s0.2.2.1) = nI (S v).2.2.1 := by
          unfold cRdI
          by_cases w : v = 0
          · rw [if_pos w, w, hP.2.2.2.1.2.2]
          · rw [if_neg w, run_rd _ _ _ (hP.2.2.2.2 v (by omega) v2) g1]
            have q1 := hF.2.1.1 _ c1
            unfold cRdy
            rw [g2.1, g2.2.2.1, nI_clamp (by omega), hP.1 1 (by unfold kPth; omega), q1.1, nI_1, nI_add, mx_nI (by omega) (by have := q1.2.2; omega)]
            rfl
        rw [hrd]
        obtain ⟨R', S', md', i1, i2, i3, i4, i5⟩ := cExt_inv hF hI v2 v4 c
        refine ih _ R' S' md' i1 ?_
        have hu : unx (cExt u v (nI (S v).2.2.1)) md' = unx u md + 1 := by
          have e1 : ∀ n, md + n ≤ md' → unx (cExt u v (nI (S v).2.2.1)) (md + n) = unx (cExt u v (nI (S v).2.2.1)) md := by
            intro n
            induction n with
            | zero => intro _; rfl
            | succ n ihn =>
              intro hn
              show unx _ (md + n) + (if cExt u v (nI (S v).2.2.1) 136 (md + n) = 0 then 0 else 1) = _
              rw [if_pos (i5 (md + n) (by omega) (by omega)), ihn (by omega), Nat.add_zero]
          have e2 := e1 (md' - md) (by omega)
          rw [show md + (md' - md) = md' by omega] at e2
          rw [e2]
          have e3 : ∀ n, n ≤ md → unx (cExt u v (nI (S v).2.2.1)) n = unx u n + (if v < n then 1 else 0) := by
            intro n
            induction n with
            | zero => intro _; rfl
            | succ n ihn =>
              intro hn
              show unx _ n + (if cExt u v (nI (S v).2.2.1) 136 n = 0 then 0 else 1) = unx u n + (if u 136 n = 0 then 0 else 1) + _
              rw [ihn (by omega), i4 n (by omega)]
              by_cases w : n = v
              · subst w
                rw [if_pos rfl, if_neg (show ¬ (1 : Int32) = 0 by decide), if_pos v4, if_neg (Nat.lt_irrefl n), if_pos (Nat.lt_succ_self n)]
              · rw [if_neg w]
                by_cases y : v < n
                · rw [if_pos y, if_pos (show v < n + 1 by omega)]; omega
                · rw [if_neg y, if_neg (show ¬ v < n + 1 by omega)]; omega
          rw [e3 md (Nat.le_refl _), if_pos v2]
        rw [hu]
        omega

