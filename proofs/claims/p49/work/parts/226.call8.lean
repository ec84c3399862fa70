/-! all parcels are planned anew; a line is closed -/
theorem Sm.planAll : ∀ (k p : Nat) (c m : MM), p + k = npN m → Sm c m → (∀ q, q < p → NX m q) → Sm (cPlL k p c) (plAll k p m) ∧ ∀ q, q < npN m → NX (plAll k p m) q := by
  intro k
  induction k with
  | zero => intro p c m hp h hN; exact ⟨h, fun q hq => hN q (by omega)⟩
  | succ k ih =>
    intro p c m hp h hN
    have hpn : p < npN m := by omega
    simp only [cPlL, plAll]
    rw [(h.2.2.1 p hpn).1.1 28 rfl]
    by_cases z : m 28 p = 115
    · rw [if_pos z, if_pos z]
      obtain ⟨s1, s2⟩ := h.plan hpn
      have kk : ∀ k, ¬ kTry k → k ≠ 19 → fPlans m p k = m k := fun k a b => fPlans_key m p a b
      have n3 : npN (fPlans m p) = npN m := npN_ext (kk 39 (by unfold kTry; omega) (by omega))
      have r := ih (p + 1) _ _ (by rw [n3]; omega) s1 (fun q hq => by
        by_cases w : q = p
        · rw [w]; exact s2
        · refine (hN q (by omega)).ext (kk 38 (by unfold kTry; omega) (by omega)) (kk 2 (by unfold kTry; omega) (by omega)) (by rw [kk 28 (by unfold kTry; omega) (by omega)]) ?_ (by rw [kk 15 (by unfold kTry; omega) (by omega)])
          exact (Tr.plans (q := p) (m := m)).2.1 19 q (by omega) w)
      rw [n3] at r
      exact r
    · rw [if_neg z, if_neg z]
      exact ih (p + 1) c m (by omega) h (fun q hq => by
        by_cases w : q = p
        · rw [w]; exact fun y => absurd y z
        · exact hN q (by omega))
theorem Sm.close {c m : MM} (h : Sm c m) (l : Nat) : Sm (up c 108 l 0) (up m 9 l 1) := by
  obtain ⟨⟨a1, a2, a3, a4⟩, h2, h3, h4, h5⟩ := h
  have n1 : nhN (up m 9 l 1) = nhN m := nhN_up (by omega)
  have n2 : nlN (up m 9 l 1) = nlN m := nlN_ext (up_key (by omega))
  have n3 : npN (up m 9 l 1) = npN m := npN_ext (up_key (by omega))
  refine ⟨⟨?_, ?_, fun x hx => ?_, fun i hi => ⟨fun k hk hk2 => ?_, ?_⟩⟩, h2.ext (fun k hk => up_key (by unfold lnKey at hk; omega)), fun p hp => ?_, fun i hi => ?_, fun p hp => ?_⟩
  · rw [n1, n2, n3, nhN_up (by omega), nlN_ext (up_key (by omega)), npN_ext (up_key (by omega))]; exact a1
  · rw [up_k (by omega), up_k (by omega)]; exact a2
  · rw [n1] at hx; rw [up_key (by omega), up_key (by omega), up_key (by omega), up_key (by omega)]; exact a3 x hx
  · rw [n2] at hi; rw [up_key (by omega), up_key (by omega)]; exact (a4 i hi).1 k hk hk2
  · rw [n2] at hi
    by_cases z : i = l
    · subst z; rw [up_s, up_s]; decide
    · rw [up_i z, up_i z]; exact (a4 i hi).2
  · rw [n3] at hp
    obtain ⟨g1, g2⟩ := h3 p hp
    have hne : ∀ k, pk k = true → k ≠ 108 ∧ k ≠ 9 := fun k hk => by have := pk_ne hk; omega
    refine ⟨g1.ext (fun k hk => ?_) (fun k hk => ?_), g2.ext (up_key (by omega)) (fun k hk => up_k (hne k hk).2)⟩
    · rcases hk with hk | hk
      · exact up_k (hne k hk).1
      · exact up_k (by omega)
    · rcases hk with hk | hk
      · exact up_k (hne k hk).2
      · exact up_k (by omega)
  · rw [n2] at hi
    rw [up_key (by omega), up_key (by omega), up_key (by omega), up_key (by omega)]
    exact h4 i hi
  · rw [n3] at hp
    exact (h5 p hp).ext (up_k (by omega)) (fun k hk => up_key (by omega)) (up_key (by omega)) (up_key (by omega))

