/-! an event comes in: n-th of parcel p, at 1024 p + n -/
def cEv1 (u : MM) (p n : Nat) (L t : Int32) (x : Nat) : MM := fun k j =>
  if k = 173 ∧ j = p then nI (n + 1) else if j = 1024 * p + n ∧ k = 120 then L else if j = 1024 * p + n ∧ k = 121 then t else if j = 1024 * p + n ∧ k = 122 then nI x else u k j
def cEv (u : MM) (p : Nat) (L t : Int32) (x : Nat) : MM := fun k j =>
  if k = 171 ∧ j = 6 + p then nI (szN u (6 + p) + 1) else if k = 172 ∧ j = 6 + p then nI (ncap (szN u (6 + p)) (capN u (6 + p))) else cEv1 u p (szN u (6 + p)) L t x k j
theorem cEv1_k {u : MM} {p n : Nat} {L t : Int32} {x k : Nat} (h : k ≠ 173) (h2 : k ≠ 120) (h3 : k ≠ 121) (h4 : k ≠ 122) : cEv1 u p n L t x k = u k := by
  funext j
  unfold cEv1
  rw [if_neg (fun z => h z.1), if_neg (fun z => h2 z.2), if_neg (fun z => h3 z.2), if_neg (fun z => h4 z.2)]
theorem cEv_k {u : MM} {p : Nat} {L t : Int32} {x k : Nat} (h : k ≠ 173) (h2 : k ≠ 120) (h3 : k ≠ 121) (h4 : k ≠ 122) (h5 : k ≠ 171) (h6 : k ≠ 172) : cEv u p L t x k = u k := by
  funext j
  unfold cEv
  rw [if_neg (fun z => h5 z.1), if_neg (fun z => h6 z.1), cEv1_k h h2 h3 h4]
theorem cEv1_ev {u : MM} {p n : Nat} {L t : Int32} {x : Nat} (hn : n < 1024) (p' : Nat) : evN (cEv1 u p n L t x) p' = if p' = p then n + 1 else evN u p' := by
  unfold evN cEv1
  by_cases z : p' = p
  · rw [if_pos ⟨rfl, z⟩, if_pos z, nI_clamp (by omega)]
  · rw [if_neg (fun w => z w.2), if_neg z, if_neg (by omega), if_neg (by omega), if_neg (by omega)]
theorem RC.newE {E : Nat} {h : AH} {b : BA} {u : MM} (hR : RC E h b u) (hw : WFc u) {p n a : Nat} {L t : Int32} {x : Nat} (hp : p < npN u) (hn : n = szN u (6 + p)) (hn4 : n < 1024) (hx : x < nhN u)
    (ha : aK h a = 5) (hne : ∀ K i, ok u K i → b K i ≠ a) (h0 : aI h 0 a = L) (h1 : aI h 1 a = t) (h2 : aR h 2 a = some (b 7 x)) : RC E h (bup b 5 (1024 * p + n) a) (cEv1 u p n L t x) := by
  have hev := (hw.sz6 hp).2
  have e1 : (1024 * p + n) / 1024 = p := by omega
  have e2 : (1024 * p + n) % 1024 = n := by omega
  have hnot : ¬ ok u 5 (1024 * p + n) := by
    intro z
    have z2 : _ < npN u ∧ _ < evN u _ := z
    rw [e1, e2] at z2
    omega
  have hbb : ∀ K i, ok u K i → bup b 5 (1024 * p + n) a K i = b K i := fun K i hk => bup_n (fun z => by obtain ⟨rfl, rfl⟩ := z; exact hnot hk)
  have hR1 := hR.reb hw hbb
  have hnh := hw.nh
  have n1 : nhN (cEv1 u p n L t x) = nhN u := nhN_ext (cEv1_k (by omega) (by omega) (by omega) (by omega))
  have n2 : nlN (cEv1 u p n L t x) = nlN u := nlN_ext (cEv1_k (by omega) (by omega) (by omega) (by omega))
  have n3 : npN (cEv1 u p n L t x) = npN u := npN_ext (cEv1_k (by omega) (by omega) (by omega) (by omega))
  have n4 : ∀ q, capN (cEv1 u p n L t x) q = capN u q := fun q => by unfold capN; rw [cEv1_k (by omega) (by omega) (by omega) (by omega)]
  have n5 : ∀ q, szN (cEv1 u p n L t x) q = szN u q := fun q => by unfold szN; rw [cEv1_k (by omega) (by omega) (by omega) (by omega)]
  have hcell : ∀ k i, ¬ (i = 1024 * p + n ∧ (k = 120 ∨ k = 121 ∨ k = 122)) → k ≠ 173 → cEv1 u p n L t x k i = u k i := by
    intro k i z z2
    unfold cEv1
    rw [if_neg (by omega), if_neg (by omega), if_neg (by omega), if_neg (by omega)]
  have hk5 : ∀ K j k, kInvI k = (K, j) → k = 120 ∨ k = 121 ∨ k = 122 → K = 5 := by
    intro K j k e z
    rcases z with rfl | rfl | rfl <;> exact (Prod.mk.inj e).1.symm
  refine hR1.intro (fun K i => K = 5 ∧ i = 1024 * p + n) (fun K i hk => ?_) (fun K i j hk => ?_) (fun K i j hk => ?_) (fun q _ => ⟨n4 q, n5 q, fun k _ => by unfold elI; rw [cEv1_k (k := 36) (by omega) (by omega) (by omega) (by omega), cEv1_k (k := 176) (by omega) (by omega) (by omega) (by omega)]⟩) (fun i k _ _ => by unfold c20; rw [cEv1_k (k := 10) (by omega) (by omega) (by omega) (by omega), cEv1_k (k := 160) (by omega) (by omega) (by omega) (by omega), cEv1_k (k := 161) (by omega) (by omega) (by omega) (by omega)]) (fun i k _ _ => by rw [cEv1_k (by omega) (by omega) (by omega) (by omega)]) ?_ ?_ ?_ ?_ ?_ ?_ ?_
  · by_cases z : K = 5
    · subst z
      have z2 : _ < npN _ ∧ _ < evN _ _ := hk
      rw [n3, cEv1_ev hn4] at z2
      by_cases y : i / 1024 = p
      · rw [if_pos y] at z2
        by_cases y2 : i % 1024 = n
        · exact Or.inr ⟨rfl, by omega⟩
        · refine Or.inl ?_
          show i / 1024 < npN u ∧ i % 1024 < evN u (i / 1024)
          rw [y]
          exact ⟨hp, by omega⟩
      · rw [if_neg y] at z2
        exact Or.inl z2
    · refine Or.inl ?_
      unfold ok at hk ⊢
      split at hk <;> first | (rw [n3] at hk; exact hk) | (rw [n2] at hk; exact hk) | (rw [n1] at hk; exact hk) | (rw [n3, n4] at hk; exact hk) | exact hk | exact absurd rfl z
  · unfold cI
    by_cases e9 : kyI K j = 999
    · rw [if_pos e9, if_pos e9]
    · rw [if_neg e9, if_neg e9]
      have hv := kyI_inv K j e9
      by_cases z : i = 1024 * p + n ∧ (kyI K j = 120 ∨ kyI K j = 121 ∨ kyI K j = 122)
      · have := hk5 K j _ hv.1 z.2
        subst this
        exact absurd (z.1 ▸ hk) hnot
      · refine hcell _ _ z (fun w => ?_)
        by_cases h3 : K = 3
        · rw [w] at hv; exact absurd (Prod.mk.inj hv.1).1 (by rw [h3]; decide)
        · exact hv.2.1 h3 (by rw [w]; unfold kSz; omega)
  · unfold cR
    by_cases e9 : kyR K j = 999
    · rw [if_pos e9, if_pos e9]
    · rw [if_neg e9, if_neg e9]
      have hv := kyR_inv K j e9
      by_cases z : i = 1024 * p + n ∧ (kyR K j = 120 ∨ kyR K j = 121 ∨ kyR K j = 122)
      · have := hk5 K j _ hv.1 z.2
        subst this
        exact absurd (z.1 ▸ hk) hnot
      · rw [hcell _ _ z (fun w => hv.2.1 (by rw [w]; unfold kSz; omega))]
  · intro K i z
    obtain ⟨rfl, rfl⟩ := z
    rw [bup_s]; exact ha
  · intro K i j z hK hj h8
    obtain ⟨rfl, rfl⟩ := z
    rw [bup_s]
    have hj3 : j < 3 := (List.getElem?_eq_some_iff.mp hj).1
    rcases (by omega : j = 0 ∨ j = 1 ∨ j = 2) with rfl | rfl | rfl
    · rw [h0]; show L = cEv1 u p n L t x 120 _; unfold cEv1; rw [if_neg (by omega), if_pos ⟨rfl, rfl⟩]
    · rw [h1]; show t = cEv1 u p n L t x 121 _; unfold cEv1; rw [if_neg (by omega), if_neg (by omega), if_pos ⟨rfl, rfl⟩]
    · exact absurd hj (by decide)
  · intro K i j z hK hj h3
    obtain ⟨rfl, rfl⟩ := z
    rw [bup_s]
    have hj3 : j < 3 := (List.getElem?_eq_some_iff.mp hj).1
    rcases (by omega : j = 0 ∨ j = 1 ∨ j = 2) with rfl | rfl | rfl
    · exact absurd hj (by decide)
    · exact absurd hj (by decide)
    · rw [h2]
      have e3 : cEv1 u p n L t x 122 (1024 * p + n) = nI x := by unfold cEv1; rw [if_neg (by omega), if_neg (by omega), if_neg (by omega), if_pos ⟨rfl, rfl⟩]
      show some (b 7 x) = dec _ 7 (cEv1 u p n L t x 122 (1024 * p + n))
      rw [e3, dec_nI (by omega), bup_n (by omega)]
  · intro q z; omega
  · intro q z; omega
  · intro q z; omega
  · intro K i i' z y e
    obtain ⟨rfl, rfl⟩ := z
    rcases y with y | y
    · rw [bup_s, hbb 5 i' y] at e
      exact absurd e.symm (hne 5 i' y)
    · exact y.2.symm

