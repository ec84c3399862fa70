theorem ld_all {n t l base N : Nat} (hn : n < 512) (hb : base + N ≤ 999) : ∀ (k j : Nat) (e : Int32) (c m : MM), j + k = N → LI n t l base j e c m → QL l N j c m → ∃ e', LI n t l base N e' (cLtL l k j e c) (loadL l k j m) := by
  intro k
  induction k with
  | zero => intro j e c m hk h _; exact ⟨e, by rw [show N = j by omega]; exact h⟩
  | succ k ih =>
    intro j e c m hk h hq
    obtain ⟨a, b⟩ := ld_one h hn hb (by omega) hq
    exact ih (j + 1) _ _ _ (by omega) a b
theorem bagC_10 (l : Nat) : ∀ (n k : Nat) (m : MM) (i : Nat), bagC l n k m 10 i = if 4 * l + k ≤ i ∧ i < 4 * l + k + n then m 35 (i - 4 * l) else m 10 i := by
  intro n
  induction n with
  | zero => intro k m i; rw [if_neg (by omega)]; rfl
  | succ n ih =>
    intro k m i
    have e : bagC l (n + 1) k m = bagC l n (k + 1) (up m 10 (4 * l + k) (m 35 k)) := rfl
    rw [e, ih]
    by_cases z : 4 * l + (k + 1) ≤ i ∧ i < 4 * l + (k + 1) + n
    · rw [if_pos z, if_pos (by omega), up_k (by omega)]
    · rw [if_neg z]
      by_cases w : i = 4 * l + k
      · rw [if_pos (by omega), w, up_s, show 4 * l + k - 4 * l = k by omega]
      · rw [if_neg (by omega), up_i w]
/-- a truck leaves -/
theorem loads_eq {n t l base : Nat} {c m : MM} (h : Sm c m) (hP : PM n t m) (hn : n < 512) (hl : l < nlN m) (hLR : LR c m) (hz : szN c 4 ≤ base) (hb : base ≤ 900) :
    Sm (cLt c l) (fLoads m l) ∧ PM n t (fLoads m l) ∧ LR (cLt c l) (fLoads m l) ∧ szN (cLt c l) 4 ≤ base + 40 ∧ nlN (fLoads m l) = nlN m := by
  have hw := hP.1
  have np40 := hw.np.2
  have nl12 := hw.nl.2
  have hlog := hP.log
  obtain ⟨wF, gF⟩ := fLoads_ok hw hl (by omega)
  obtain ⟨q1, q2, q3, q4⟩ := QE.full (QK.of h.2.2.1) np40 h.1.1.2.2 (nI l)
  obtain ⟨w1, kM, -, -⟩ := fLin_ok hw (nI l)
  have eL : fLoads m l = if 0 < loadL l (fLin m (nI l)).1 0 (up (fLin m (nI l)).2 44 0 0) 44 0 then bagC l (bagsN (loadL l (fLin m (nI l)).1 0 (up (fLin m (nI l)).2 44 0 0))) 0 (up (loadL l (fLin m (nI l)).1 0 (up (fLin m (nI l)).2 44 0 0)) 8 l (loadL l (fLin m (nI l)).1 0 (up (fLin m (nI l)).2 44 0 0) 44 0)) else loadL l (fLin m (nI l)).1 0 (up (fLin m (nI l)).2 44 0 0) := rfl
  have eC : cLt c l = cLtL l (fLin m (nI l)).1 0 1 (cQu c (nI l)) := by unfold cLt; rw [q1]
  rw [eC]
  rw [eL] at wF gF ⊢
  obtain ⟨N, hN⟩ : ∃ z, z = (fLin m (nI l)).1 := ⟨_, rfl⟩
  obtain ⟨L, hL⟩ : ∃ z, z = (fLin m (nI l)).2 := ⟨_, rfl⟩
  obtain ⟨C, hC⟩ : ∃ z, z = cQu c (nI l) := ⟨_, rfl⟩
  have kL : ∀ k, k ≠ 36 → L k = m k := fun k hk => by rw [hL]; exact kM hk
  have kC : ∀ k, k ≠ 171 → k ≠ 172 → k ≠ 36 → C k = c k := fun k z1 z2 z3 => by rw [hC]; exact cQu_key c _ z1 z2 z3
  have s171 : ∀ q, q ≠ 3 → C 171 q = c 171 q := fun q hq => by rw [hC]; exact cQu_171 c _ hq
  rw [← hN] at q1 q2 q3 q4 wF gF ⊢
  rw [← hL] at q3 q4 w1 wF gF ⊢
  rw [← hC] at q1 q3 ⊢
  clear hN hL hC eL eC kM
  obtain ⟨M0, hM0⟩ : ∃ z, z = up L 44 0 0 := ⟨_, rfl⟩
  have kM0 : ∀ k, k ≠ 36 → k ≠ 44 → M0 k = m k := fun k z1 z2 => by rw [hM0, up_key z2, kL k z1]
  have nM3 : npN M0 = npN m := npN_ext (kM0 39 (by omega) (by omega))
  have wM0 : WFa M0 := by rw [hM0]; exact w1.upx (by unfold kWF; omega)
  rw [← hM0] at wF gF ⊢
  have h0 : LI n t l base 0 1 C M0 := by
    refine ⟨h.to0.ext (fun k hk _ _ => kC k (by unfold cK at hk; omega) (by unfold cK at hk; omega) (by unfold cK at hk; omega)) (fun p => s171 _ (by omega)) (fun k hk _ _ => kM0 k (by unfold mK at hk; omega) (by unfold mK at hk; omega)), hP.ext wM0 (fun k hk _ _ => kM0 k (by unfold mK at hk; omega) (by unfold mK at hk; omega)), ?_, Or.inl ⟨rfl, by rw [hM0, up_s], ?_, ?_⟩, hLR.ext (s171 4 (by omega)) (kC 176 (by omega) (by omega) (by omega)) (kM0 30 (by omega) (by omega)) (kM0 39 (by omega) (by omega)), ?_, by rw [nlN_ext (kM0 38 (by omega) (by omega))]; exact hl⟩
    · have hS : SBo l c m := fun l' a _ => h.2.2.2.1 l' a
      exact hS.ext (kC 8 (by omega) (by omega) (by omega)) (kC 10 (by omega) (by omega) (by omega)) (kM0 8 (by omega) (by omega)) (kM0 10 (by omega) (by omega)) (kM0 38 (by omega) (by omega))
    · rw [kC 8 (by omega) (by omega) (by omega), kM0 8 (by omega) (by omega)]
      exact (h.2.2.2.1 l hl).1
    · rw [kC 10 (by omega) (by omega) (by omega), kM0 8 (by omega) (by omega), kM0 10 (by omega) (by omega)]
      exact (h.2.2.2.1 l hl).2
    · have : szN C 4 = szN c 4 := by unfold szN; rw [s171 4 (by omega)]
      omega
  have hQ : QL l N 0 C M0 := by
    refine ⟨fun i _ hi => ?_, fun i i' hi hi' => ?_⟩
    · obtain ⟨g1, v, v1, v2, v3, v4⟩ := q3 i hi
      rw [nM3, kM0 28 (by omega) (by omega), kM0 19 (by omega) (by omega), hM0, up_k (by omega)]
      refine ⟨g1, v, v1, v2, ?_, ?_⟩
      · rw [← kL 28 (by omega)]; exact v3
      · rw [← kL 19 (by omega)]; exact v4
    · rw [hM0, up_k (by omega), up_k (by omega)]
      exact q4 i i' hi hi'
  obtain ⟨e', r1, r2, r3, r4, r5, r6, r7⟩ := ld_all hn (by omega) N 0 1 C M0 (by omega) h0 hQ
  generalize cLtL l N 0 1 C = D at *
  generalize loadL l N 0 M0 = M at *
  have nl3 := r2.1.nl.2
  rcases r4 with ⟨f1, f2, f3, f4⟩ | ⟨f1, b, f2, f3, f4⟩
  · have z : ¬ 0 < M 44 0 := by rw [f2]; decide
    rw [if_neg z] at wF gF ⊢
    refine ⟨r1.full (fun l' hl' => ?_), r2, r5, by omega, gF.nl⟩
    by_cases y : l' = l
    · rw [y]; exact ⟨f3, f4⟩
    · exact r3 l' hl' y
  · obtain ⟨b1, b2, b3⟩ := f2
    have hm7 : vN (M 7 l) ≤ 4 := by
      obtain ⟨mo, mo1, -, mo3⟩ := mo_1 r2.1 r7
      unfold vN; rw [mo1, nI_clamp (by omega)]; exact mo3
    have hbN : bagsN M = b := by unfold bagsN; rw [b2, nI_clamp (by omega)]
    have z : 0 < M 44 0 := by rw [b2]; exact (nI_ltI (a := 0) (by omega) (by omega)).mpr f3
    rw [if_pos z, hbN, b2] at wF gF ⊢
    obtain ⟨G, hG⟩ : ∃ q, q = bagC l b 0 (up M 8 l (nI b)) := ⟨_, rfl⟩
    rw [← hG] at wF gF ⊢
    have kG : ∀ k, k ≠ 8 → k ≠ 10 → G k = M k := fun k z1 z2 => by rw [hG, bagC_key l b 0 _ z2, up_key z1]
    have g8 : ∀ i, G 8 i = if i = l then nI b else M 8 i := fun i => by
      rw [hG, bagC_key l b 0 _ (by omega)]
      by_cases y : i = l
      · rw [y, up_s, if_pos rfl]
      · rw [up_i y, if_neg y]
    have g10 : ∀ i, G 10 i = if 4 * l + 0 ≤ i ∧ i < 4 * l + 0 + b then M 35 (i - 4 * l) else M 10 i := fun i => by
      rw [hG, bagC_10, up_k (by omega), up_k (by omega)]
    refine ⟨(r1.ext (fun _ _ _ _ => rfl) (fun _ => rfl) (fun k _ z1 z2 => kG k z1 z2)).full (fun l' hl' => ?_), r2.ext wF (fun k _ z1 z2 => kG k z1 z2), r5.ext rfl rfl (kG 30 (by omega) (by omega)) (kG 39 (by omega) (by omega)), by omega, gF.nl⟩
    rw [nlN_ext (kG 38 (by omega) (by omega))] at hl'
    rw [g8]
    by_cases y : l' = l
    · subst y
      rw [if_pos rfl]
      refine ⟨b1, fun k hk _ => ?_⟩
      have hk2 : k < b := by unfold vN at hk; rw [nI_clamp (by omega)] at hk; exact hk
      rw [g10, if_pos (by omega), show 4 * l' + k - 4 * l' = k by omega]
      exact (b3 k hk2).2
    · rw [if_neg y]
      obtain ⟨u1, u2⟩ := r3 l' hl' y
      refine ⟨u1, fun k hk hk4 => ?_⟩
      have v8 := vp_nat (r2.1.ln hl').2.2.2.1
      unfold vN at hk
      rw [g10, if_neg (by omega)]
      exact u2 k hk hk4
/-- all the trucks of a minute -/
theorem lines_eq {n t : Nat} (ht : t < 2 ^ 17) (hn : n < 512) : ∀ (k l : Nat) (c m : MM), l + k = nlN m → nlN m ≤ 12 → Sm c m → PM n t m → LR c m → szN c 4 ≤ 40 * l →
    Sm (cLdTL k l c) (passL k l m) ∧ PM n t (passL k l m) ∧ LR (cLdTL k l c) (passL k l m) ∧ szN (cLdTL k l c) 4 ≤ 40 * (l + k) := by
  intro k
  induction k with
  | zero => intro l c m _ _ h hP hL hz; exact ⟨h, hP, hL, hz⟩
  | succ k ih =>
    intro l c m hk h12 h hP hL hz
    have hl : l < nlN m := by omega
    have e1 : cLdTL (k + 1) l c = cLdTL k (l + 1) (if ¬ cLvn c l (c 41 0) = 0 then cLt c l else c) := rfl
    have e2 : passL (k + 1) l m = passL k (l + 1) (if m 9 l = 0 ∧ lvs m l (m 41 0) = m 41 0 then fLoads m l else m) := rfl
    obtain ⟨f1, f2⟩ := h.1.2.2.2 l hl
    obtain ⟨g4, g5, g6⟩ := h.2.1.2.1.2 l hl
    have h41 := hP.2.2.2.1
    have e41 : c 41 0 = m 41 0 := h.1.2.1
    have hcond : ¬ cLvn c l (c 41 0) = 0 ↔ m 9 l = 0 ∧ lvs m l (m 41 0) = m 41 0 := by
      unfold cLvn
      have b41 := h41.2.2
      have q1 : lvs m l (m 41 0) = cDep c l (m 41 0) := by
        rw [h41.1, lvs_N g4 g5 (by omega), cDep_N (by rw [f1 4 (by omega) (by omega)]; exact g4) (by rw [f1 5 (by omega) (by omega)]; exact g5) (by omega), f1 4 (by omega) (by omega), f1 5 (by omega) (by omega)]
      rw [bi_n0, e41, q1]
      refine and_congr_left (fun _ => ?_)
      exact ⟨fun w => Classical.byContradiction (fun y => w (f2.mpr y)), fun w y => (f2.mp y) w⟩
    rw [e1, e2, show 40 * (l + (k + 1)) = 40 * (l + 1 + k) by omega]
    by_cases z : m 9 l = 0 ∧ lvs m l (m 41 0) = m 41 0
    · rw [if_pos z, if_pos (hcond.mpr z)]
      obtain ⟨r1, r2, r3, r4, r5⟩ := loads_eq h hP hn hl hL (base := 40 * l) hz (by omega)
      exact ih (l + 1) _ _ (by omega) (by omega) r1 r2 r3 (by omega)
    · rw [if_neg z, if_neg (fun w => z (hcond.mp w))]
      exact ih (l + 1) c m (by omega) h12 h hP hL (by omega)

