/-! a hub more -/
theorem inn_isN {x : Int32} {a b : Nat} (hb : b < 2 ^ 31) (ha : a ≤ b) (h : inn x (nI a) (nI b) = true) : isN x a b := by
  obtain ⟨h1, h2⟩ := inn_t.mp h
  have e0 : ¬ x < 0 := fun q => h1 (by
    rw [Int32.lt_iff_toInt_lt] at q ⊢
    rw [nI_toInt (by omega)]
    have : (0 : Int32).toInt = 0 := rfl
    omega)
  obtain ⟨j, hj, rfl⟩ := nI_of e0
  rw [nI_ltI hj (by omega)] at h1
  rw [nI_ltI hb hj] at h2
  unfold isN
  rw [nI_clamp hj]
  exact ⟨rfl, by omega, by omega⟩
theorem Sm.hub {c m : MM} (h : Sm c m) {x y : Int32} (hn : nhN m < 6) (h37 : m 37 0 = nI (nhN m)) (hy : isN y 1 20) : Sm (cHb c x y) (up (up (up m 0 (nhN m) x) 1 (nhN m) y) 37 0 (m 37 0 + 1)) := by
  obtain ⟨⟨⟨a1, a2, a3⟩, b41, a4, a5⟩, ⟨⟨q1, q2, q3⟩, ⟨q4, q5⟩, q6, q7⟩, h3, h4, h5⟩ := h
  obtain ⟨M, hM⟩ : ∃ z, z = up (up (up m 0 (nhN m) x) 1 (nhN m) y) 37 0 (m 37 0 + 1) := ⟨_, rfl⟩
  obtain ⟨C, hC⟩ : ∃ z, z = cHb c x y := ⟨_, rfl⟩
  rw [← hM, ← hC]
  have kM : ∀ k, k ≠ 0 → k ≠ 1 → k ≠ 37 → M k = m k := fun k z1 z2 z3 => by rw [hM, up_key z3, up_key z2, up_key z1]
  have kC : ∀ k, k ≠ 0 → k ≠ 1 → k ≠ 37 → k ≠ 171 → k ≠ 172 → C k = c k := fun k z1 z2 z3 z4 z5 => by rw [hC]; unfold cHb; rw [cLs_k z4 z5, cHb1_k z3 z1 z2]
  have nM : nhN M = nhN m + 1 := by unfold nhN; rw [hM, up_s, h37, nI_1, nI_clamp (by omega), nI_clamp (by omega)]
  have nC : nhN C = nhN m + 1 := by
    rw [hC]; unfold cHb
    rw [nhN_ext (cLs_k (by omega) (by omega)), (cHb1_n (by omega)).1, a1]
  have M0 : ∀ i, M 0 i = if i = nhN m then x else m 0 i := fun i => by
    rw [hM, up_k (by omega), up_k (by omega)]
    by_cases z : i = nhN m
    · rw [z, up_s, if_pos rfl]
    · rw [up_i z, if_neg z]
  have M1 : ∀ i, M 1 i = if i = nhN m then y else m 1 i := fun i => by
    rw [hM, up_k (by omega)]
    by_cases z : i = nhN m
    · rw [z, up_s, if_pos rfl]
    · rw [up_i z, if_neg z, up_k (by omega)]
  have C0 : ∀ i, C 0 i = if i = nhN m then x else c 0 i := fun i => by
    rw [hC]; unfold cHb cHb1
    rw [cLs_k (by omega) (by omega), up_k (by omega), a1]
    by_cases z : i = nhN m
    · rw [z, up_s, if_pos rfl]
    · rw [up_i z, if_neg z, up_k (by omega)]
  have C1 : ∀ i, C 1 i = if i = nhN m then y else c 1 i := fun i => by
    rw [hC]; unfold cHb cHb1
    rw [cLs_k (by omega) (by omega), a1]
    by_cases z : i = nhN m
    · rw [z, up_s, if_pos rfl]
    · rw [up_i z, if_neg z, up_k (by omega), up_k (by omega)]
  have n2 : nlN M = nlN m := nlN_ext (kM 38 (by omega) (by omega) (by omega))
  have n3 : npN M = npN m := npN_ext (kM 39 (by omega) (by omega) (by omega))
  refine ⟨⟨⟨by rw [nC, nM], by rw [n2, nlN_ext (kC 38 (by omega) (by omega) (by omega) (by omega) (by omega)), a2], by rw [n3, npN_ext (kC 39 (by omega) (by omega) (by omega) (by omega) (by omega)), a3]⟩, ?_, fun i hi => ?_, fun l hl => ⟨fun k k2 k7 => ?_, ?_⟩⟩, ⟨⟨by omega, by omega, fun l hl => ?_⟩, ⟨fun i hi => ?_, fun l hl => ?_⟩, by omega, ?_⟩, fun p hp => ?_, fun l hl => ?_, fun p hp => ?_⟩
  · rw [kC 41 (by omega) (by omega) (by omega) (by omega) (by omega), kM 41 (by omega) (by omega) (by omega)]; exact b41
  · rw [C0, C1, M0, M1]
    by_cases z : i = nhN m
    · rw [if_pos z, if_pos z, if_pos z, if_pos z]; exact ⟨rfl, rfl⟩
    · rw [if_neg z, if_neg z, if_neg z, if_neg z]; exact a4 i (by omega)
  · rw [n2] at hl
    rw [kC k (by omega) (by omega) (by omega) (by omega) (by omega), kM k (by omega) (by omega) (by omega)]; exact (a5 l hl).1 k k2 k7
  · rw [n2] at hl
    rw [kC 108 (by omega) (by omega) (by omega) (by omega) (by omega), kM 9 (by omega) (by omega) (by omega)]; exact (a5 l hl).2
  · rw [n2] at hl
    rw [nM, kM 2 (by omega) (by omega) (by omega), kM 3 (by omega) (by omega) (by omega)]
    exact ⟨vp_mono (q3 l hl).1 (by omega), vp_mono (q3 l hl).2 (by omega)⟩
  · rw [M1]
    by_cases z : i = nhN m
    · rw [if_pos z]; exact hy
    · rw [if_neg z]; exact q4 i (by omega)
  · rw [n2] at hl
    rw [kM 4 (by omega) (by omega) (by omega), kM 5 (by omega) (by omega) (by omega), kM 6 (by omega) (by omega) (by omega)]; exact q5 l hl
  · rw [kM 41 (by omega) (by omega) (by omega)]; exact q7
  · rw [n3] at hp
    obtain ⟨g1, ⟨⟨r1, r2, r3⟩, r4⟩⟩ := h3 p hp
    refine ⟨g1.ext (fun k hk => ?_) (fun k hk => ?_), ?_⟩
    · have hk2 : 11 ≤ k ∧ k ≤ 29 ∨ k = 116 := hk.imp (fun z => by have := pk_ne z; omega) id
      rw [kC k (by omega) (by omega) (by omega) (by omega) (by omega)]
    · have hk2 : 11 ≤ k ∧ k ≤ 29 := hk.elim (fun z => by have := pk_ne z; omega) (fun z => by omega)
      rw [kM k (by omega) (by omega) (by omega)]
    · unfold MP
      rw [nM, kM 13 (by omega) (by omega) (by omega), kM 14 (by omega) (by omega) (by omega), kM 15 (by omega) (by omega) (by omega), kM 18 (by omega) (by omega) (by omega), kM 20 (by omega) (by omega) (by omega), kM 21 (by omega) (by omega) (by omega)]
      exact ⟨⟨vp_mono r1 (by omega), vp_mono r2 (by omega), vp_mono r3 (by omega)⟩, r4⟩
  · rw [n2] at hl
    rw [kC 8 (by omega) (by omega) (by omega) (by omega) (by omega), kC 10 (by omega) (by omega) (by omega) (by omega) (by omega), kM 8 (by omega) (by omega) (by omega), kM 10 (by omega) (by omega) (by omega)]
    exact h4 l hl
  · rw [n3] at hp
    refine (h5 p hp).ext ?_ (fun k hk => kC k (by omega) (by omega) (by omega) (by omega) (by omega)) (kM 31 (by omega) (by omega) (by omega)) (kM 40 (by omega) (by omega) (by omega))
    rw [hC]; unfold cHb
    rw [cLs_171, if_neg (by omega), cHb1_k (by omega) (by omega) (by omega)]

