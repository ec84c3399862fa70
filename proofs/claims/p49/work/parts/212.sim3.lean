/-! both states together, and what keeps them together -/
def SB (c m : MM) : Prop := ∀ l, l < nlN m → c 8 l = m 8 l ∧ ∀ k, k < vN (m 8 l) → k < 40 → c 10 (40 * l + k) = m 10 (4 * l + k)
def Sm (c m : MM) : Prop := SL c m ∧ ML m ∧ (∀ p, p < npN m → SP c m p ∧ MP m p) ∧ SB c m ∧ ∀ p, p < npN m → SE c m p
theorem pk_ne {k : Nat} (h : pk k = true) : 11 ≤ k ∧ k ≤ 29 ∧ k ≠ 16 := by
  unfold pk at h
  simp at h
  omega
theorem pk_of {k : Nat} (h : 11 ≤ k ∧ k ≤ 29 ∧ k ≠ 16) : pk k = true := by
  unfold pk
  simp
  omega
theorem SP.ext {c m c' m' : MM} {p : Nat} (h : SP c m p) (e1 : ∀ k, pk k = true ∨ k = 116 → c' k p = c k p) (e2 : ∀ k, pk k = true ∨ k = 16 → m' k p = m k p) : SP c' m' p :=
  ⟨fun k hk => by rw [e1 k (Or.inl hk), e2 k (Or.inl hk)]; exact h.1 k hk, fun h28 => by rw [e1 116 (Or.inr rfl), e2 16 (Or.inr rfl)]; rw [e2 28 (Or.inl rfl)] at h28; exact h.2 h28⟩
theorem MP.ext {m m' : MM} {p : Nat} (h : MP m p) (e : m' 37 = m 37) (e2 : ∀ k, pk k = true → m' k p = m k p) : MP m' p := by
  obtain ⟨⟨a1, a2, a3⟩, a4, a5, a6⟩ := h
  have n1 : nhN m' = nhN m := nhN_ext e
  refine ⟨⟨?_, ?_, ?_⟩, ?_, ?_, ?_⟩
  · rw [n1, e2 13 rfl]; exact a1
  · rw [n1, e2 14 rfl]; exact a2
  · rw [n1, e2 15 rfl]; exact a3
  · rw [e2 18 rfl]; exact a4
  · rw [e2 20 rfl]; exact a5
  · rw [e2 21 rfl]; exact a6
theorem NX.ext {m m' : MM} {p : Nat} (h : NX m p) (e : m' 38 = m 38) (e1 : m' 2 = m 2) (e28 : m' 28 p = m 28 p) (e19 : m' 19 p = m 19 p) (e15 : m' 15 p = m 15 p) : NX m' p := by
  intro h28 l hl h19
  rw [nlN_ext e] at hl
  rw [e28] at h28
  rw [e19] at h19
  rw [e1, e15]
  exact h h28 l hl h19
/-- keys of which Sm speaks -/
def mK (k : Nat) : Prop := k ≤ 29 ∨ k = 31 ∨ (37 ≤ k ∧ k ≤ 41)
def cK (k : Nat) : Prop := k ≤ 29 ∨ (37 ≤ k ∧ k ≤ 41) ∨ k = 108 ∨ k = 116 ∨ (120 ≤ k ∧ k ≤ 122)
theorem Sm.ext {c m c' m' : MM} (h : Sm c m) (e1 : ∀ k, cK k → c' k = c k) (e2 : ∀ p, c' 171 (6 + p) = c 171 (6 + p)) (e3 : ∀ k, mK k → m' k = m k) : Sm c' m' := by
  obtain ⟨h1, h2, h3, h4, h5⟩ := h
  have n2 : nlN m' = nlN m := nlN_ext (e3 38 (by unfold mK; omega))
  have n3 : npN m' = npN m := npN_ext (e3 39 (by unfold mK; omega))
  refine ⟨h1.ext (fun k hk => e1 k (by unfold lnKey at hk; unfold cK; omega)) (fun k hk => e3 k (by unfold lnKey at hk; unfold mK; omega)) (e1 108 (by unfold cK; omega)) (e3 9 (by unfold mK; omega)),
    h2.ext (fun k hk => e3 k (by unfold lnKey at hk; unfold mK; omega)), fun p hp => ?_, fun l hl => ?_, fun p hp => ?_⟩
  · rw [n3] at hp
    obtain ⟨g1, g2⟩ := h3 p hp
    refine ⟨g1.ext (fun k hk => ?_) (fun k hk => ?_), g2.ext (e3 37 (by unfold mK; omega)) (fun k hk => ?_)⟩
    · rw [e1 k (by unfold cK; rcases hk with hk | hk; · have := pk_ne hk; omega
                   · omega)]
    · rw [e3 k (by unfold mK; rcases hk with hk | hk; · have := pk_ne hk; omega
                   · omega)]
    · rw [e3 k (by unfold mK; have := pk_ne hk; omega)]
  · rw [n2] at hl
    rw [e1 8 (by unfold cK; omega), e1 10 (by unfold cK; omega), e3 8 (by unfold mK; omega), e3 10 (by unfold mK; omega)]
    exact h4 l hl
  · rw [n3] at hp
    exact (h5 p hp).ext (e2 p) (fun k hk => e1 k (by unfold cK; omega)) (e3 31 (by unfold mK; omega)) (e3 40 (by unfold mK; omega))
/-- one of a parcel's numbers is set, on both sides -/
theorem Sm.set {c m : MM} (h : Sm c m) {k q : Nat} {x : Int32} (hk : pk k = true) (h28 : k = 28 → x ≠ 116) (hM : q < npN m → MP (up m k q x) q) : Sm (up c k q x) (up m k q x) := by
  obtain ⟨h1, h2, h3, h4, h5⟩ := h
  have hk2 := pk_ne hk
  have n2 : nlN (up m k q x) = nlN m := nlN_ext (up_key (by omega))
  have n3 : npN (up m k q x) = npN m := npN_ext (up_key (by omega))
  refine ⟨h1.ext (fun k' hk' => up_key (by unfold lnKey at hk'; omega)) (fun k' hk' => up_key (by unfold lnKey at hk'; omega)) (up_key (by omega)) (up_key (by omega)),
    h2.ext (fun k' hk' => up_key (by unfold lnKey at hk'; omega)), fun p hp => ?_, fun l hl => ?_, fun p hp => ?_⟩
  · rw [n3] at hp
    obtain ⟨g1, g2⟩ := h3 p hp
    by_cases z : p = q
    · subst z
      refine ⟨⟨fun k' hk' => ?_, fun y => ?_⟩, hM hp⟩
      · by_cases w : k' = k
        · subst w; rw [up_s, up_s]
        · rw [up_k w, up_k w]; exact g1.1 k' hk'
      · by_cases w : k = 28
        · subst w; rw [up_s] at y; exact absurd y (h28 rfl)
        · rw [up_k (by omega)] at y
          rw [up_k (by omega), up_k (by omega)]
          exact g1.2 y
    · exact ⟨g1.ext (fun k' _ => up_i z) (fun k' _ => up_i z), g2.ext (up_key (by omega)) (fun k' _ => up_i z)⟩
  · rw [n2] at hl
    rw [up_key (by omega), up_key (by omega), up_key (by omega), up_key (by omega)]
    exact h4 l hl
  · rw [n3] at hp
    exact (h5 p hp).ext (up_k (by omega)) (fun k' hk' => up_key (by omega)) (up_key (by omega)) (up_key (by omega))
/-- who does not ride has no line in mind -/
theorem Sm.c116 {c m : MM} (h : Sm c m) {q : Nat} {x : Int32} (h28 : ¬ m 28 q = 116) : Sm (up c 116 q x) m := by
  obtain ⟨h1, h2, h3, h4, h5⟩ := h
  refine ⟨h1.ext (fun k' hk' => up_key (by unfold lnKey at hk'; omega)) (fun _ _ => rfl) (up_key (by omega)) rfl, h2, fun p hp => ?_, fun l hl => ?_, fun p hp => ?_⟩
  · obtain ⟨g1, g2⟩ := h3 p hp
    refine ⟨⟨fun k' hk' => ?_, fun y => ?_⟩, g2⟩
    · rw [up_k (by have := pk_ne hk'; omega)]; exact g1.1 k' hk'
    · by_cases z : p = q
      · subst z; exact absurd y h28
      · rw [up_i z]; exact g1.2 y
  · rw [up_key (by omega), up_key (by omega)]
    exact h4 l hl
  · exact (h5 p hp).ext (up_k (by omega)) (fun k' hk' => up_key (by omega)) rfl rfl
/-- an event of a parcel -/
theorem Sm.note {c m : MM} (h : Sm c m) (hw : WFa m) {q : Nat} (hq : q < npN m) {jj : Nat} {kind l y t : Int32} {x : Nat} (hsq : cntE m q (logN m) < 1024) (hk : lw_letters.getD jj 0 = kind) (hk2 : lpos kind = nI jj) (ht : t = m 41 0) (hx : nI x = m 15 q) (hy : (l = -1 ∧ y = -1) ∨ (¬ l < 0 ∧ y = l)) :
    Sm (cNote c q jj t x y) (fHap m q kind l) := by
  obtain ⟨h1, h2, h3, h4, h5⟩ := h
  have n40 := h2.2.2.1
  have hsz : szN c (6 + q) < 1024 := by rw [(h5 q hq).1.1]; exact hsq
  have hap := fun (k : Nat) (a : k ≠ 31) (b : k ≠ 40) (d : k ≠ 27) (e : k ≠ 46) => fHap_key m q kind l a b d e
  have n2 : nlN (fHap m q kind l) = nlN m := nlN_ext (hap 38 (by omega) (by omega) (by omega) (by omega))
  have n3 : npN (fHap m q kind l) = npN m := npN_ext (hap 39 (by omega) (by omega) (by omega) (by omega))
  have hnk : ∀ k, k < 120 → k ≠ 27 → nk k = true := fun k hk h27 => by
    unfold nk
    simp
    omega
  refine ⟨h1.ext (fun k hk => cNote_k (hnk k (by unfold lnKey at hk; omega) (by unfold lnKey at hk; omega))) (fun k hk => by unfold lnKey at hk; exact hap k (by omega) (by omega) (by omega) (by omega)) (cNote_k (hnk 108 (by omega) (by omega))) (hap 9 (by omega) (by omega) (by omega) (by omega)),
    h2.ext (fun k hk => by unfold lnKey at hk; exact hap k (by omega) (by omega) (by omega) (by omega)), fun p hp => ?_, fun i hi => ?_, fun p hp => ?_⟩
  · rw [n3] at hp
    obtain ⟨g1, g2⟩ := h3 p hp
    have hM : ∀ k, k ≠ 27 → k ≤ 29 → fHap m q kind l k p = m k p := fun k h27 h29 => by rw [hap k (by omega) (by omega) h27 (by omega)]
    refine ⟨⟨fun k hk => ?_, fun y => ?_⟩, ?_⟩
    · by_cases z : k = 27
      · subst z
        exact note_27 hw hq hsz hk2 ht hx hy (fun p hp => (h3 p hp).1.1 27 rfl) hp
      · have := pk_ne hk
        rw [cNote_k (hnk k (by omega) z), hM k z (by omega)]
        exact g1.1 k hk
    · rw [hM 28 (by omega) (by omega)] at y
      rw [cNote_k (hnk 116 (by omega) (by omega)), hM 16 (by omega) (by omega)]
      exact g1.2 y
    · obtain ⟨⟨a1, a2, a3⟩, a4, a5, a6⟩ := g2
      have n1 : nhN (fHap m q kind l) = nhN m := nhN_ext (hap 37 (by omega) (by omega) (by omega) (by omega))
      unfold MP
      rw [n1, hM 13 (by omega) (by omega), hM 14 (by omega) (by omega), hM 15 (by omega) (by omega), hM 18 (by omega) (by omega), hM 20 (by omega) (by omega), hM 21 (by omega) (by omega)]
      exact ⟨⟨a1, a2, a3⟩, a4, a5, a6⟩
  · rw [n2] at hi
    rw [cNote_k (hnk 8 (by omega) (by omega)), cNote_k (hnk 10 (by omega) (by omega)), hap 8 (by omega) (by omega) (by omega) (by omega), hap 10 (by omega) (by omega) (by omega) (by omega)]
    exact h4 i hi
  · rw [n3] at hp
    exact (h5 p hp).note hw (by omega) (by omega) hsz hk ht hx

