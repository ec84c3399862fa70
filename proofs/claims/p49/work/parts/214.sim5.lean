/-! one parcel changes, on both sides -/
theorem pk_all {P : Nat → Prop} (h : P 11 ∧ P 12 ∧ P 13 ∧ P 14 ∧ P 15 ∧ P 17 ∧ P 18 ∧ P 19 ∧ P 20 ∧ P 21 ∧ P 22 ∧ P 23 ∧ P 24 ∧ P 25 ∧ P 26 ∧ P 27 ∧ P 28 ∧ P 29) (k : Nat) (hk : pk k = true) : P k := by
  have hh := pk_ne hk
  obtain ⟨a11, a12, a13, a14, a15, a17, a18, a19, a20, a21, a22, a23, a24, a25, a26, a27, a28, a29⟩ := h
  rcases (by omega : k = 11 ∨ k = 12 ∨ k = 13 ∨ k = 14 ∨ k = 15 ∨ k = 17 ∨ k = 18 ∨ k = 19 ∨ k = 20 ∨ k = 21 ∨ k = 22 ∨ k = 23 ∨ k = 24 ∨ k = 25 ∨ k = 26 ∨ k = 27 ∨ k = 28 ∨ k = 29) with rfl | rfl | rfl | rfl | rfl | rfl | rfl | rfl | rfl | rfl | rfl | rfl | rfl | rfl | rfl | rfl | rfl | rfl <;> assumption
def Cq (q : Nat) (c c' : MM) : Prop := (∀ k, cK k → ¬ (11 ≤ k ∧ k ≤ 29) → k ≠ 116 → c' k = c k) ∧ (∀ k i, (11 ≤ k ∧ k ≤ 29) ∨ k = 116 → i ≠ q → c' k i = c k i) ∧ ∀ p, c' 171 (6 + p) = c 171 (6 + p)
def Mq (q : Nat) (m m' : MM) : Prop := (∀ k, mK k → ¬ (11 ≤ k ∧ k ≤ 29) → m' k = m k) ∧ ∀ k i, 11 ≤ k ∧ k ≤ 29 → i ≠ q → m' k i = m k i
theorem Cq.refl (q : Nat) (c : MM) : Cq q c c := ⟨fun _ _ _ _ => rfl, fun _ _ _ _ => rfl, fun _ => rfl⟩
theorem Mq.refl (q : Nat) (m : MM) : Mq q m m := ⟨fun _ _ _ => rfl, fun _ _ _ _ => rfl⟩
theorem Cq.put {q : Nat} {c u : MM} (h : Cq q c u) {k : Nat} (hk : (11 ≤ k ∧ k ≤ 29) ∨ k = 116) (x : Int32) : Cq q c (up u k q x) := by
  obtain ⟨a1, a2, a3⟩ := h
  exact ⟨fun k' h1 h2 h3 => by rw [up_key (by omega)]; exact a1 k' h1 h2 h3, fun k' i h1 h2 => by rw [up_i h2]; exact a2 k' i h1 h2, fun p => by rw [up_k (by omega)]; exact a3 p⟩
theorem Mq.put {q : Nat} {m u : MM} (h : Mq q m u) {k : Nat} (hk : 11 ≤ k ∧ k ≤ 29) (x : Int32) : Mq q m (up u k q x) := by
  obtain ⟨a1, a2⟩ := h
  exact ⟨fun k' h1 h2 => by rw [up_key (by omega)]; exact a1 k' h1 h2, fun k' i h1 h2 => by rw [up_i h2]; exact a2 k' i h1 h2⟩
theorem Sm.atq {c m c' m' : MM} (h : Sm c m) {q : Nat} (hc : Cq q c c') (hm : Mq q m m') (hp : q < npN m → SP c' m' q ∧ MP m' q) : Sm c' m' := by
  obtain ⟨h1, h2, h3, h4, h5⟩ := h
  obtain ⟨a1, a2, a3⟩ := hc
  obtain ⟨b1, b2⟩ := hm
  have n2 : nlN m' = nlN m := nlN_ext (b1 38 (by unfold mK; omega) (by omega))
  have n3 : npN m' = npN m := npN_ext (b1 39 (by unfold mK; omega) (by omega))
  refine ⟨h1.ext (fun k hk => by unfold lnKey at hk; exact a1 k (by unfold cK; omega) (by omega) (by omega)) (fun k hk => by unfold lnKey at hk; exact b1 k (by unfold mK; omega) (by omega)) (a1 108 (by unfold cK; omega) (by omega) (by omega)) (b1 9 (by unfold mK; omega) (by omega)),
    h2.ext (fun k hk => by unfold lnKey at hk; exact b1 k (by unfold mK; omega) (by omega)), fun p hpn => ?_, fun l hl => ?_, fun p hpn => ?_⟩
  · rw [n3] at hpn
    by_cases z : p = q
    · subst z; exact hp hpn
    · obtain ⟨g1, g2⟩ := h3 p hpn
      refine ⟨g1.ext (fun k hk => ?_) (fun k hk => ?_), g2.ext (b1 37 (by unfold mK; omega) (by omega)) (fun k hk => b2 k p (by have := pk_ne hk; omega) z)⟩
      · refine a2 k p ?_ z
        rcases hk with hk | hk
        · have := pk_ne hk; omega
        · exact Or.inr hk
      · refine b2 k p ?_ z
        rcases hk with hk | hk
        · have := pk_ne hk; omega
        · omega
  · rw [n2] at hl
    rw [a1 8 (by unfold cK; omega) (by omega) (by omega), a1 10 (by unfold cK; omega) (by omega) (by omega), b1 8 (by unfold mK; omega) (by omega), b1 10 (by unfold mK; omega) (by omega)]
    exact h4 l hl
  · rw [n3] at hpn
    exact (h5 p hpn).ext (a3 p) (fun k hk => a1 k (by unfold cK; omega) (by omega) (by omega)) (b1 31 (by unfold mK; omega) (by omega)) (b1 40 (by unfold mK; omega) (by omega))
theorem MP.up15 {m : MM} {p : Nat} {x : Int32} (h : MP m p) (hx : vp_in x (nhN m)) : MP (up m 15 p x) p := by
  obtain ⟨⟨a1, a2, a3⟩, a4⟩ := h
  unfold MP
  rw [nhN_up (by omega), up_key (k' := 13) (by omega), up_key (k' := 14) (by omega), up_key (k' := 18) (by omega), up_key (k' := 20) (by omega), up_key (k' := 21) (by omega), up_s]
  exact ⟨⟨a1, a2, hx⟩, a4⟩
theorem MP.up14 {m : MM} {p : Nat} {x : Int32} (h : MP m p) (hx : vp_in x (nhN m)) : MP (up m 14 p x) p := by
  obtain ⟨⟨a1, a2, a3⟩, a4⟩ := h
  unfold MP
  rw [nhN_up (by omega), up_key (k' := 13) (by omega), up_key (k' := 15) (by omega), up_key (k' := 18) (by omega), up_key (k' := 20) (by omega), up_key (k' := 21) (by omega), up_s]
  exact ⟨⟨a1, hx, a3⟩, a4⟩
theorem MP.up18 {m : MM} {p : Nat} {x : Int32} (h : MP m p) (hx : isN x 0 (2 ^ 17)) : MP (up m 18 p x) p := by
  obtain ⟨a1, a4, a5, a6⟩ := h
  unfold MP
  rw [nhN_up (by omega), up_key (k' := 13) (by omega), up_key (k' := 14) (by omega), up_key (k' := 15) (by omega), up_key (k' := 20) (by omega), up_key (k' := 21) (by omega), up_s]
  exact ⟨a1, hx, a5, a6⟩
theorem MP.up21 {m : MM} {p : Nat} {x : Int32} (h : MP m p) (hx : x = -1 ∨ isN x 0 (2 ^ 17)) : MP (up m 21 p x) p := by
  obtain ⟨a1, a4, a5, a6⟩ := h
  unfold MP
  rw [nhN_up (by omega), up_key (k' := 13) (by omega), up_key (k' := 14) (by omega), up_key (k' := 15) (by omega), up_key (k' := 18) (by omega), up_key (k' := 20) (by omega), up_s]
  exact ⟨a1, a4, a5, hx⟩
theorem m1_lt {x : Int32} {b : Nat} (hb : b < 2 ^ 31) (h : x = -1 ∨ isN x 0 b) : x < 0 ↔ x = -1 := by
  rcases h with rfl | h
  · exact ⟨fun _ => rfl, fun _ => by decide⟩
  · obtain ⟨h1, -, h3⟩ := h
    rw [h1]
    exact ⟨fun z => absurd z (nI_pos (by omega)), fun z => absurd z (nI_nm (by omega))⟩
/-- a parcel is scanned in a hub -/
theorem Sm.settle {c m : MM} (h : Sm c m) {q : Nat} {x : Int32} (hx : vp_in x (nhN m)) (hq : q < npN m) : Sm (cSettle c q x (c 41 0)) (fScans0 (up m 15 q x) q) := by
  obtain ⟨⟨g, g116⟩, gM⟩ := h.2.2.1 q hq
  have e41 : c 41 0 = m 41 0 := h.1.2.1
  have h41 := h.2.1.2.2.2
  have hl := m1_lt (by decide) gM.2.2.2
  have k11 := g 11 rfl
  have k12 := g 12 rfl
  have k13 := g 13 rfl
  have k14 := g 14 rfl
  have k17 := g 17 rfl
  have k19 := g 19 rfl
  have k20 := g 20 rfl
  have k21 := g 21 rfl
  have k22 := g 22 rfl
  have k23 := g 23 rfl
  have k24 := g 24 rfl
  have k25 := g 25 rfl
  have k26 := g 26 rfl
  have k27 := g 27 rfl
  have k29 := g 29 rfl
  by_cases z : x = m 14 q ∧ m 21 q = -1
  · have ec : cSettle c q x (c 41 0) = up (up (up (up (up c 116 q (-1)) 15 q x) 28 q 115) 18 q (c 41 0)) 21 q (c 41 0) := if_pos ⟨by rw [k14]; exact z.1, by rw [k21]; exact z.2⟩
    have em : fScans0 (up m 15 q x) q = up (up (up (up m 15 q x) 28 q 115) 18 q (m 41 0)) 21 q (m 41 0) := by
      unfold fScans0
      simp only
      rw [if_pos ⟨by rw [up_k (by omega), up_k (by omega), up_s, up_k (by omega), up_k (by omega), up_k (by omega)]; exact z.1, by rw [up_k (by omega), up_k (by omega), up_k (by omega)]; exact hl.mpr z.2⟩, up_k (k' := 41) (by omega)]
    rw [ec, em]
    refine h.atq (q := q) (((((Cq.refl q c).put (by omega) _).put (by omega) _).put (by omega) _).put (by omega) _ |>.put (by omega) _) ((((Mq.refl q m).put (by omega) _).put (by omega) _).put (by omega) _ |>.put (by omega) _) (fun _ => ⟨⟨pk_all ?_, fun y => ?_⟩, ?_⟩)
    · simp [up, k11, k12, k13, k14, k17, k19, k20, k22, k23, k24, k25, k26, k27, k29, e41]
    · rw [up_k (by omega), up_k (by omega), up_s] at y; exact absurd y (by decide)
    · refine MP.up21 ?_ (Or.inr h41)
      exact ((gM.up15 hx).oth (by unfold mpk; omega) (by omega)).up18 h41
  · have ec : cSettle c q x (c 41 0) = up (up (up (up c 116 q (-1)) 15 q x) 28 q 115) 18 q (c 41 0) := if_neg (fun y => z ⟨by rw [← k14]; exact y.1, by rw [← k21]; exact y.2⟩)
    have em : fScans0 (up m 15 q x) q = up (up (up m 15 q x) 28 q 115) 18 q (m 41 0) := by
      unfold fScans0
      simp only
      rw [if_neg (fun y => z ⟨by have y1 := y.1; rw [up_k (by omega), up_k (by omega), up_s, up_k (by omega), up_k (by omega), up_k (by omega)] at y1; exact y1, by have y2 := y.2; rw [up_k (by omega), up_k (by omega), up_k (by omega)] at y2; exact hl.mp y2⟩), up_k (k' := 41) (by omega)]
    rw [ec, em]
    refine h.atq (q := q) (((((Cq.refl q c).put (by omega) _).put (by omega) _).put (by omega) _).put (by omega) _) ((((Mq.refl q m).put (by omega) _).put (by omega) _).put (by omega) _) (fun _ => ⟨⟨pk_all ?_, fun y => ?_⟩, ?_⟩)
    · simp [up, k11, k12, k13, k14, k17, k19, k20, k21, k22, k23, k24, k25, k26, k27, k29, e41]
    · rw [up_k (by omega), up_s] at y; exact absurd y (by decide)
    · exact ((gM.up15 hx).oth (by unfold mpk; omega) (by omega)).up18 h41

