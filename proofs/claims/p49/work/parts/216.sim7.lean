/-! what a call does to one parcel, on both sides -/
theorem cntE_m {m m' : MM} (e31 : m' 31 = m 31) (e40 : m' 40 = m 40) (p : Nat) : cntE m' p (logN m') = cntE m p (logN m) := by
  have n1 : logN m' = logN m := by unfold logN; rw [e40]
  rw [n1]
  exact cntE_ext p _ (fun i _ => by rw [e31])
/-- only parcel q changes, and at most e events of it come in -/
def oK (k : Nat) : Prop := k ≤ 10 ∨ k = 30 ∨ (37 ≤ k ∧ k ≤ 39) ∨ k = 41 ∨ k = 45
def Tr (e q : Nat) (m m' : MM) : Prop := (∀ k, oK k → m' k = m k) ∧ (∀ k i, 11 ≤ k ∧ k ≤ 29 → i ≠ q → m' k i = m k i) ∧ (∀ p, p < 40 → cntE m' p (logN m') ≤ cntE m p (logN m) + (if p = q then e else 0)) ∧ (m' 29 q = m 29 q ∨ m' 29 q = 1)
theorem Tr.refl (q : Nat) (m : MM) : Tr 0 q m m := ⟨fun _ _ => rfl, fun _ _ _ _ => rfl, fun p _ => Nat.le_add_right _ _, Or.inl rfl⟩
theorem Tr.trans {a b q : Nat} {m u v : MM} (h : Tr a q m u) (g : Tr b q u v) : Tr (a + b) q m v := by
  obtain ⟨h1, h2, h3, h4⟩ := h
  obtain ⟨g1, g2, g3, g4⟩ := g
  refine ⟨fun k hk => by rw [g1 k hk, h1 k hk], fun k i hk hi => by rw [g2 k i hk hi, h2 k i hk hi], fun p hp => ?_, g4.elim (fun z => by rw [z]; exact h4) Or.inr⟩
  have x1 := h3 p hp
  have x2 := g3 p hp
  by_cases z : p = q
  · rw [if_pos z] at x1 x2 ⊢; omega
  · rw [if_neg z] at x1 x2 ⊢; omega
theorem Tr.mono {a b q : Nat} {m u : MM} (h : Tr a q m u) (hab : a ≤ b) : Tr b q m u := ⟨h.1, h.2.1, fun p hp => by
  have x1 := h.2.2.1 p hp
  by_cases z : p = q
  · rw [if_pos z] at x1 ⊢; omega
  · rw [if_neg z] at x1 ⊢; omega, h.2.2.2⟩
theorem Tr.put {q : Nat} {m : MM} {k : Nat} (hk : 11 ≤ k ∧ k ≤ 28) (x : Int32) : Tr 0 q m (up m k q x) :=
  ⟨fun k' hk' => up_key (by unfold oK at hk'; omega), fun k' i _ hi => up_i hi, fun p _ => Nat.le_of_eq (by rw [cntE_m (up_key (by omega)) (up_key (by omega)), ite_self, Nat.add_zero]), Or.inl (up_k (by omega))⟩
theorem Tr.put29 {q : Nat} {m : MM} : Tr 0 q m (up m 29 q 1) :=
  ⟨fun k' hk' => up_key (by unfold oK at hk'; omega), fun k' i _ hi => up_i hi, fun p _ => Nat.le_of_eq (by rw [cntE_m (up_key (by omega)) (up_key (by omega)), ite_self, Nat.add_zero]), Or.inr (up_s _ _ _ _)⟩
theorem Tr.plans {q : Nat} {m : MM} : Tr 0 q m (fPlans m q) := by
  refine ⟨fun k hk => fPlans_key m q (by unfold oK at hk; unfold kTry; omega) (by unfold oK at hk; omega), fun k i hk hi => ?_, fun p _ => Nat.le_of_eq (by rw [cntE_m (fPlans_key m q (by unfold kTry; omega) (by omega)) (fPlans_key m q (by unfold kTry; omega) (by omega)), ite_self, Nat.add_zero]), Or.inl (by rw [fPlans_key m q (by unfold kTry; omega) (by omega)])⟩
  unfold fPlans
  by_cases z : k = 19
  · subst z; rw [up_i hi, fLays_key m q (by unfold kTry; omega)]
  · rw [up_k z, fLays_key m q (by unfold kTry; omega)]
theorem Tr.prom1 {q : Nat} {m : MM} : Tr 0 q m (fProm1 m q) := by
  have hk1 : ∀ k, ¬ kTry k → k ≠ 20 → fProm1 m q k = m k := fun k hk h20 => by unfold fProm1; rw [up_key h20, fLays_key m q hk]
  refine ⟨fun k hk => hk1 k (by unfold oK at hk; unfold kTry; omega) (by unfold oK at hk; omega), fun k i hk hi => ?_, fun p _ => Nat.le_of_eq (by rw [cntE_m (hk1 31 (by unfold kTry; omega) (by omega)) (hk1 40 (by unfold kTry; omega) (by omega)), ite_self, Nat.add_zero]), Or.inl (by rw [hk1 29 (by unfold kTry; omega) (by omega)])⟩
  by_cases z : k = 20
  · subst z; unfold fProm1; rw [up_i hi, fLays_key m q (by unfold kTry; omega)]
  · rw [hk1 k (by unfold kTry; omega) z]
theorem Tr.hap {q : Nat} {m : MM} (hw : WFa m) (hq : q < 40) (kind l : Int32) : Tr 1 q m (fHap m q kind l) := by
  refine ⟨fun k hk => by unfold oK at hk; exact fHap_key m q kind l (by omega) (by omega) (by omega) (by omega), fun k i hk hi => ?_, fun p hp => Nat.le_of_eq (hap_cntE hw q kind l (by omega) (by omega)), Or.inl (by rw [fHap_key m q kind l (by omega) (by omega) (by omega) (by omega)])⟩
  by_cases z : k = 27
  · subst z
    unfold fHap fHap1
    rw [up_i hi, up_k (by omega), up_k (by omega), up_k (by omega), up_k (by omega), up_k (by omega), fHap0_key m (by omega) (by omega)]
  · rw [fHap_key m q kind l (by omega) (by omega) z (by omega)]
/-- held -/
theorem Sm.hold {c m : MM} (h : Sm c m) (hw : WFa m) {q : Nat} (hq : q < npN m) (hcap : cntE m q (logN m) < 1024) :
    Sm (cHold c q) (fHap (up m 28 q 104) q 104 (-1)) ∧ Tr 1 q m (fHap (up m 28 q 104) q 104 (-1)) := by
  have hq2 := h.2.2.1 q hq
  have n40 := h.2.1.2.2.1
  have hnh := h.2.1.1.nh
  have v15 := vp_nI hq2.2.1.2.2 (by omega)
  have s1 := h.set (k := 28) (q := q) (x := 104) rfl (fun _ => by decide) (fun _ => hq2.2.oth (by unfold mpk; omega) (by omega))
  have w1 : WFa (up m 28 q 104) := hw.up28 (Or.inr (Or.inr (Or.inr rfl)))
  have n3 : npN (up m 28 q 104) = npN m := npN_ext (up_key (by omega))
  have e15 : c 15 q = m 15 q := hq2.1.1 15 rfl
  have e41 : c 41 0 = m 41 0 := h.1.2.1
  refine ⟨?_, ((Tr.put (q := q) (by omega) 104).trans (Tr.hap w1 (by omega) 104 (-1)))⟩
  unfold cHold
  exact s1.note w1 (by rw [n3]; exact hq) (by rw [cntE_m (up_key (by omega)) (up_key (by omega))]; exact hcap) rfl rfl (by rw [up_k (by omega)]; exact e41) (by rw [up_k (by omega), e15]; exact v15.symm) (Or.inl ⟨rfl, rfl⟩)
/-- turned back -/
theorem Sm.turn0 {c m : MM} (h : Sm c m) {q : Nat} (hq : q < npN m) (h28 : m 28 q = 115) : Sm (cTb0 c q) (fProm0 (fTurns0 m q) q) := by
  obtain ⟨⟨g, g116⟩, gM⟩ := h.2.2.1 q hq
  have e41 : c 41 0 = m 41 0 := h.1.2.1
  have h41 := h.2.1.2.2.2
  have k11 := g 11 rfl
  have k12 := g 12 rfl
  have k13 := g 13 rfl
  have k14 := g 14 rfl
  have k15 := g 15 rfl
  have k17 := g 17 rfl
  have k19 := g 19 rfl
  have k20 := g 20 rfl
  have k22 := g 22 rfl
  have k24 := g 24 rfl
  have k25 := g 25 rfl
  have k26 := g 26 rfl
  have k27 := g 27 rfl
  have em : fProm0 (fTurns0 m q) q = up (up (up (up (up m 29 q 1) 14 q (m 13 q)) 23 q 0) 18 q (m 41 0)) 21 q (if m 15 q = m 13 q then m 41 0 else -1) := by
    unfold fProm0 fTurns0
    rw [up_k (k' := 15) (by omega), up_k (k' := 15) (by omega), up_k (k' := 15) (by omega), up_k (k' := 15) (by omega), up_k (k' := 14) (by omega), up_k (k' := 14) (by omega), up_s, up_k (k' := 41) (by omega), up_k (k' := 41) (by omega), up_k (k' := 41) (by omega), up_k (k' := 41) (by omega)]
  have hM : MP (up (up (up (up (up m 29 q 1) 14 q (m 13 q)) 23 q 0) 18 q (m 41 0)) 21 q (if m 15 q = m 13 q then m 41 0 else -1)) q := by
    refine MP.up21 (MP.up18 (MP.oth (MP.up14 (gM.oth (by unfold mpk; omega) (by omega)) (by rw [nhN_up (by omega)]; exact gM.1.1)) (by unfold mpk; omega) (by omega)) h41) ?_
    split
    · exact Or.inr h41
    · exact Or.inl rfl
  rw [em]
  have hmq : Mq q m (up (up (up (up (up m 29 q 1) 14 q (m 13 q)) 23 q 0) 18 q (m 41 0)) 21 q (if m 15 q = m 13 q then m 41 0 else -1)) := (((((Mq.refl q m).put (by omega) _).put (by omega) _).put (by omega) _).put (by omega) _).put (by omega) _
  by_cases z : m 15 q = m 13 q
  · have ec : cTb0 c q = up (up (up (up (up (up (up (up (up c 29 q 1) 14 q (c 13 q)) 23 q 0) 21 q (-1)) 116 q (-1)) 15 q (c 15 q)) 28 q 115) 18 q (c 41 0)) 21 q (c 41 0) := by
      unfold cTb0 cSettle
      rw [if_pos ⟨by rw [up_k (by omega), up_k (by omega), up_s, k15, k13]; exact z, up_s _ _ _ _⟩]
    rw [ec]
    refine h.atq (q := q) ((((((((((Cq.refl q c).put (by omega) _).put (by omega) _).put (by omega) _).put (by omega) _).put (by omega) _).put (by omega) _).put (by omega) _).put (by omega) _).put (by omega) _) hmq (fun _ => ⟨⟨pk_all ?_, fun y => ?_⟩, hM⟩)
    · simp [up, k11, k12, k13, k14, k15, k17, k19, k20, k22, k24, k25, k26, k27, e41, z, h28]
    · rw [up_k (by omega), up_k (by omega), up_k (by omega), up_k (by omega), up_k (by omega), h28] at y; exact absurd y (by decide)
  · have ec : cTb0 c q = up (up (up (up (up (up (up (up c 29 q 1) 14 q (c 13 q)) 23 q 0) 21 q (-1)) 116 q (-1)) 15 q (c 15 q)) 28 q 115) 18 q (c 41 0) := by
      unfold cTb0 cSettle
      rw [if_neg (fun y => z (by have y1 := y.1; rw [up_k (by omega), up_k (by omega), up_s, k15, k13] at y1; exact y1))]
    rw [ec]
    refine h.atq (q := q) (((((((((Cq.refl q c).put (by omega) _).put (by omega) _).put (by omega) _).put (by omega) _).put (by omega) _).put (by omega) _).put (by omega) _).put (by omega) _) hmq (fun _ => ⟨⟨pk_all ?_, fun y => ?_⟩, hM⟩)
    · simp [up, k11, k12, k13, k14, k15, k17, k19, k20, k22, k24, k25, k26, k27, e41, z, h28]
    · rw [up_k (by omega), up_k (by omega), up_k (by omega), up_k (by omega), up_k (by omega), h28] at y; exact absurd y (by decide)
theorem Sm.turn {c m : MM} (h : Sm c m) (hw : WFa m) {q : Nat} (hq : q < npN m) (h28 : m 28 q = 115) (hcap : cntE m q (logN m) < 1024) : Sm (cTurn c q) (fTurns m q) ∧ NX (fTurns m q) q ∧ Tr 1 q m (fTurns m q) := by
  have h0 := h.turn0 hq h28
  have hq2 := h.2.2.1 q hq
  have n40 := h.2.1.2.2.1
  have hnh := h.2.1.1.nh
  have v15 := vp_nI hq2.2.1.2.2 (by omega)
  have e15 : c 15 q = m 15 q := hq2.1.1 15 rfl
  have e41 : c 41 0 = m 41 0 := h.1.2.1
  have w0 : WFa (fProm0 (fTurns0 m q) q) := (hw.turns0 hq).prom0 q
  obtain ⟨X, hX⟩ : ∃ z, z = fProm0 (fTurns0 m q) q := ⟨_, rfl⟩
  have xk : ∀ k, k ≠ 21 → k ≠ 29 → k ≠ 14 → k ≠ 23 → k ≠ 18 → X k = m k := fun k a b d e f => by
    rw [hX]; unfold fProm0; rw [up_key a, fTurns0_key m q ⟨b, d, e, f⟩]
  have e : fTurns m q = fHap (fPlans (fProm1 X q) q) q 114 (-1) := by rw [hX]; rfl
  rw [← hX] at h0 w0
  have hqX : q < npN X := by rw [npN_ext (xk 39 (by omega) (by omega) (by omega) (by omega) (by omega))]; exact hq
  have s1 := h0.note w0 hqX (jj := 7) (kind := 114) (l := -1) (y := -1) (t := c 41 0) (x := (c 15 q).toNatClampNeg) (by rw [cntE_m (xk 31 (by omega) (by omega) (by omega) (by omega) (by omega)) (xk 40 (by omega) (by omega) (by omega) (by omega) (by omega))]; exact hcap) rfl rfl (by rw [xk 41 (by omega) (by omega) (by omega) (by omega) (by omega)]; exact e41) (by rw [xk 15 (by omega) (by omega) (by omega) (by omega) (by omega), e15]; exact v15.symm) (Or.inl ⟨rfl, rfl⟩)
  have s2 := s1.promHap h0.2.1 (h0.2.2.1 q hqX).2 hqX
  have t0 : Tr 0 q m X := by
    rw [hX]
    exact (((((Tr.put29 (q := q) (m := m)).trans (Tr.put (k := 14) (by omega) (m 13 q))).trans (Tr.put (k := 23) (by omega) 0)).trans (Tr.put (k := 18) (by omega) (m 41 0))).trans (Tr.put (k := 21) (by omega) _))
  rw [e]
  refine ⟨s2.1, s2.2, ?_⟩
  have w1 : WFa (fPlans (fProm1 X q) q) := (w0.prom1 q).plans q
  exact ((t0.trans (Tr.prom1 (q := q))).trans (Tr.plans (q := q))).trans (Tr.hap w1 (by omega) 114 (-1))

