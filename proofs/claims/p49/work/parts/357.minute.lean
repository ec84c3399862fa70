/-! a minute, parcel by parcel -/
abbrev dueP (m : MM) (now : Int32) (p : Nat) : Prop := m 28 p = 116 ∧ m 17 p = now
def pKp (k : Nat) : Prop := 11 ≤ k ∧ k ≤ 29 ∧ k ≠ 15 ∧ k ≠ 16 ∧ k ≠ 17 ∧ k ≠ 24 ∧ k ≠ 27 ∧ k ≠ 28
def PaR (m : MM) (now r : Int32) (M : MM) (p : Nat) : Prop :=
  (∀ k, pKp k → M k p = m k p) ∧ M 28 p = (if 0 < r then 116 else if dueP m now p then 117 else m 28 p) ∧ M 16 p = (if 0 < r then r - 1 else m 16 p) ∧ M 17 p = (if 0 < r then now + m 6 (vN (r - 1)) else m 17 p) ∧ M 24 p = (if r < 0 then m 24 p + 1 else m 24 p) ∧ M 15 p = (if dueP m now p then m 3 (vN (m 16 p)) else m 15 p) ∧ M 30 p = (if r < 0 then 1 else 0)
def mKk (k : Nat) : Prop := k ≤ 7 ∨ k = 9 ∨ (37 ≤ k ∧ k ≤ 39)
def MinR (m : MM) (now : Int32) (R : Nat → Int32) (M : MM) : Prop := (∀ k, mKk k → M k = m k) ∧ M 41 0 = now ∧ ∀ p, p < npN m → PaR m now (R p) M p
theorem PaR.ext {m M M' : MM} {now r : Int32} {p : Nat} (h : PaR m now r M p) (e : ∀ k, 11 ≤ k ∧ k ≤ 30 ∧ k ≠ 27 → M' k p = M k p) : PaR m now r M' p := by
  obtain ⟨h1, h2, h3, h4, h5, h6, h7⟩ := h
  refine ⟨fun k hk => by rw [e k (by unfold pKp at hk; omega)]; exact h1 k hk, ?_, ?_, ?_, ?_, ?_, ?_⟩
  · rw [e 28 (by omega)]; exact h2
  · rw [e 16 (by omega)]; exact h3
  · rw [e 17 (by omega)]; exact h4
  · rw [e 24 (by omega)]; exact h5
  · rw [e 15 (by omega)]; exact h6
  · rw [e 30 (by omega)]; exact h7
theorem irr0 : ¬ (0 : Int32) < 0 := by decide
def dueN (m : MM) (now : Int32) : Nat → Nat → Nat → Nat
  | 0, _, a => a
  | k + 1, p, a => dueN m now k (p + 1) (if dueP m now p then a + 1 else a)
theorem arr_min {m : MM} {now : Int32} (hz : ∀ p, m 30 p = 0) : ∀ (k p a : Nat) (M : MM), p + k = npN m → (∀ k, mKk k → M k = m k) → M 41 0 = now → (∀ q, q < p → PaR m now 0 M q) → (∀ q, p ≤ q → ∀ j, 11 ≤ j ∧ j ≤ 30 ∧ j ≠ 27 → M j q = m j q) →
    MinR m now (fun _ => 0) (arrL k p (nI a) M).2 ∧ (arrL k p (nI a) M).1 = nI (dueN m now k p a) := by
  intro k
  induction k with
  | zero => intro p a M hk h1 h2 h3 h4; exact ⟨⟨h1, h2, fun q hq => h3 q (by omega)⟩, rfl⟩
  | succ k ih =>
    intro p a M hk h1 h2 h3 h4
    have e := h4 p (Nat.le_refl _)
    simp only [arrL, dueN]
    rw [h2, e 28 (by omega), e 17 (by omega)]
    by_cases z : dueP m now p
    · rw [if_pos (show m 28 p = 116 ∧ m 17 p = now from z), if_pos z, nI_1]
      obtain ⟨X, hX⟩ : ∃ X, X = up (up M 28 p 117) 15 p (M 3 (M 16 p).toNatClampNeg) := ⟨_, rfl⟩
      rw [← hX]
      have hx : ∀ k, k ≠ 31 → k ≠ 40 → k ≠ 27 → k ≠ 46 → fHap X p 117 (M 16 p) k = X k := fun k a b c d => hap_pk a b c d
      have ho : ∀ k q, 11 ≤ k ∧ k ≤ 30 ∧ k ≠ 27 → q ≠ p → fHap X p 117 (M 16 p) k q = M k q := fun k q hk hq => by
        rw [hx k (by omega) (by omega) (by omega) (by omega), hX, up_i hq, up_i hq]
      refine ih (p + 1) (a + 1) _ (by omega) (fun k hk => ?_) ?_ (fun q hq => ?_) (fun q hq j hj => ?_)
      · have : k ≠ 31 ∧ k ≠ 40 ∧ k ≠ 27 ∧ k ≠ 46 ∧ k ≠ 15 ∧ k ≠ 28 := by unfold mKk at hk; omega
        rw [hx k (by omega) (by omega) (by omega) (by omega), hX, up_key (by omega), up_key (by omega)]; exact h1 k hk
      · rw [hx 41 (by omega) (by omega) (by omega) (by omega), hX, up_k (by omega), up_k (by omega)]; exact h2
      · by_cases w : q = p
        · subst w
          have kk : ∀ k, 11 ≤ k ∧ k ≤ 30 ∧ k ≠ 27 → k ≠ 15 → k ≠ 28 → fHap X q 117 (M 16 q) k q = m k q := fun k hk a b => by
            rw [hx k (by omega) (by omega) (by omega) (by omega), hX, up_k a, up_k b]; exact e k hk
          refine ⟨fun k hk => kk k (by unfold pKp at hk; omega) (by unfold pKp at hk; omega) (by unfold pKp at hk; omega), ?_, ?_, ?_, ?_, ?_, ?_⟩
          · rw [if_neg irr0, if_pos z, hx 28 (by omega) (by omega) (by omega) (by omega), hX, up_k (by omega), up_s]
          · rw [if_neg irr0]; exact kk 16 (by omega) (by omega) (by omega)
          · rw [if_neg irr0]; exact kk 17 (by omega) (by omega) (by omega)
          · rw [if_neg irr0]; exact kk 24 (by omega) (by omega) (by omega)
          · rw [if_pos z, hx 15 (by omega) (by omega) (by omega) (by omega), hX, up_s, h1 3 (Or.inl (by omega)), e 16 (by omega)]
          · rw [if_neg irr0, kk 30 (by omega) (by omega) (by omega)]; exact hz q
        · exact (h3 q (by omega)).ext (fun k hk => ho k q hk w)
      · rw [ho j q hj (by omega)]; exact h4 q (by omega) j hj
    · rw [if_neg (show ¬ (m 28 p = 116 ∧ m 17 p = now) from z), if_neg z]
      refine ih (p + 1) a M (by omega) h1 h2 (fun q hq => ?_) (fun q hq j hj => h4 q (by omega) j hj)
      by_cases w : q = p
      · subst w
        refine ⟨fun k hk => e k (by unfold pKp at hk; omega), ?_, ?_, ?_, ?_, ?_, ?_⟩
        · rw [if_neg irr0, if_neg z]; exact e 28 (by omega)
        · rw [if_neg irr0]; exact e 16 (by omega)
        · rw [if_neg irr0]; exact e 17 (by omega)
        · rw [if_neg irr0]; exact e 24 (by omega)
        · rw [if_neg z]; exact e 15 (by omega)
        · rw [if_neg irr0, e 30 (by omega)]; exact hz q
      · exact h3 q (by omega)
/-- who has been asked into a truck -/
def RoR (m : MM) (l : Nat) (R : Nat → Int32) : Prop := ∀ p, p < npN m → R p = 0 ∨ (m 28 p = 115 ∧ ∃ l', l' < l ∧ m 19 p = nI l' ∧ (R p = -1 ∨ R p = nI (1 + l')))
theorem due_no {m : MM} {now : Int32} {p : Nat} (h : m 28 p = 115) : ¬ dueP m now p := fun z => absurd (h.symm.trans z.1) (by decide)
theorem PaR.w0 {m M : MM} {now : Int32} {p : Nat} (h : PaR m now 0 M p) (h28 : m 28 p = 115) : ∀ k, 11 ≤ k ∧ k ≤ 29 ∧ k ≠ 27 → M k p = m k p := by
  obtain ⟨h1, h2, h3, h4, h5, h6, h7⟩ := h
  rw [if_neg irr0] at h2 h3 h4 h5 h7
  rw [if_neg (due_no h28)] at h2 h6
  intro k hk
  by_cases z : pKp k
  · exact h1 k z
  · have : k = 15 ∨ k = 16 ∨ k = 17 ∨ k = 24 ∨ k = 28 := by unfold pKp at z; omega
    rcases this with e | e | e | e | e <;> subst e <;> assumption
theorem load_one {m M : MM} {l p mo b : Nat} {R g : Nat → Int32} {now : Int32} (h : MinR m now R M) (hg : BgR g M b) (hb : b ≤ mo) (h7 : m 7 l = nI mo) (hmo : mo ≤ 4) (hp : p < npN m) (h28 : m 28 p = 115) (hR : R p = 0) (hl : l < 12) (hnow : ¬ now < 0) :
    MinR m now (if bgC m now l p then bgS m l mo p (g, R) else (g, R)).2 (load1 M l p) ∧ (∃ b', b' ≤ mo ∧ BgR (if bgC m now l p then bgS m l mo p (g, R) else (g, R)).1 (load1 M l p) b') ∧ (∀ q, q ≠ p → (if bgC m now l p then bgS m l mo p (g, R) else (g, R)).2 q = R q) ∧ ((if bgC m now l p then bgS m l mo p (g, R) else (g, R)).2 p = 0 ∨ (if bgC m now l p then bgS m l mo p (g, R) else (g, R)).2 p = -1 ∨ (if bgC m now l p then bgS m l mo p (g, R) else (g, R)).2 p = nI (1 + l)) := by
  obtain ⟨h1, h2, h3⟩ := h
  have hp0 := h3 p hp
  rw [hR] at hp0
  have e := hp0.w0 h28
  have e30 : M 30 p = 0 := by have := hp0.2.2.2.2.2.2; rw [if_neg irr0] at this; exact this
  have e2 : M 2 = m 2 := h1 2 (Or.inl (by omega))
  have e1 : M 1 = m 1 := h1 1 (Or.inl (by omega))
  have e7 : M 7 = m 7 := h1 7 (Or.inl (by omega))
  have e6 : M 6 = m 6 := h1 6 (Or.inl (by omega))
  unfold load1
  rw [h2, e 18 (by omega), e1, e2]
  have hc : bgC m now l p ↔ ¬ (now - m 18 p < m 1 (m 2 l).toNatClampNeg) := ⟨fun z => Int32.not_lt.mpr (z.resolve_left hnow), fun z => Or.inr (Int32.not_lt.mp z)⟩
  by_cases z : now - m 18 p < m 1 (m 2 l).toNatClampNeg
  · rw [if_pos z, if_neg (fun w => hc.mp w z)]
    exact ⟨⟨h1, h2, h3⟩, ⟨b, hb, hg⟩, fun _ _ => rfl, Or.inl hR⟩
  · rw [if_neg z, if_pos (hc.mpr z), e7, h7]
    have e14 := e 14 (by omega)
    have e11 := e 11 (by omega)
    have bl := bgF_le m g p
    rw [hg.nb.1] at bl
    simp only [bgS]
    by_cases w : bgF m g p < mo
    · obtain ⟨f1, b', b1, b2, b9, b3, b4⟩ := bgPut_in (most := mo) (mo := mo) hg e14 e11 w (by omega) (by omega) (by omega)
      rw [f1, if_pos w, if_pos (show ¬ (1 : Int32) = 0 by decide)]
      have hq := fun (k : Nat) (hk : k ≠ 34 ∧ k ≠ 35 ∧ k ≠ 44) => put_key M p (nI mo) hk
      generalize (fPut M p (nI mo)).2 = Q at *
      have b5 : b' ≤ mo := by
        by_cases y : b < b'
        · have := b9 y; omega
        · omega
      obtain ⟨X, hX⟩ : ∃ X, X = up (up (up Q 28 p 116) 16 p (nI l)) 17 p (Q 41 0 + Q 6 l) := ⟨_, rfl⟩
      rw [← hX]
      have hx : ∀ k, k ≠ 31 → k ≠ 40 → k ≠ 27 → k ≠ 46 → fHap X p 108 (nI l) k = X k := fun k a b c d => hap_pk a b c d
      have r1 : (0 : Int32) < nI (1 + l) := by rw [show (0 : Int32) = nI 0 from rfl, nI_ltI (by omega) (by omega)]; omega
      have r2 : nI (1 + l) - 1 = nI l := by rw [show (1 : Int32) = nI 1 from rfl, nI_sub (by omega)]; congr 1; omega
      have r3 : ¬ nI (1 + l) < 0 := fun y => by rw [show (0 : Int32) = nI 0 from rfl, nI_ltI (by omega) (by omega)] at y; omega
      have v3 : vN (nI l) = l := nI_clamp (by omega)
      refine ⟨⟨fun k hk => ?_, ?_, fun q hq2 => ?_⟩, ⟨b', b5, b4.ext (fun k hk => ?_)⟩, fun q hq2 => upF_o hq2, Or.inr (Or.inr (upF_s _ _ _))⟩
      · have : k ≠ 31 ∧ k ≠ 40 ∧ k ≠ 27 ∧ k ≠ 46 ∧ k ≠ 16 ∧ k ≠ 17 ∧ k ≠ 28 ∧ k ≠ 34 ∧ k ≠ 35 ∧ k ≠ 44 := by unfold mKk at hk; omega
        rw [hx k (by omega) (by omega) (by omega) (by omega), hX, up_key (by omega), up_key (by omega), up_key (by omega), hq k (by omega)]; exact h1 k hk
      · rw [hx 41 (by omega) (by omega) (by omega) (by omega), hX, up_k (by omega), up_k (by omega), up_k (by omega), hq 41 (by omega)]; exact h2
      · by_cases y : q = p
        · subst y
          have kk : ∀ k, 11 ≤ k ∧ k ≤ 30 ∧ k ≠ 27 → k ≠ 16 → k ≠ 17 → k ≠ 28 → fHap X q 108 (nI l) k q = M k q := fun k hk a b c => by
            rw [hx k (by omega) (by omega) (by omega) (by omega), hX, up_k b, up_k a, up_k c, hq k (by omega)]
          rw [upF_s]
          refine ⟨fun k hk => ?_, ?_, ?_, ?_, ?_, ?_, ?_⟩
          · unfold pKp at hk
            rw [kk k (by omega) (by omega) (by omega) (by omega)]; exact e k (by omega)
          · rw [if_pos r1, hx 28 (by omega) (by omega) (by omega) (by omega), hX, up_k (by omega), up_k (by omega), up_s]
          · rw [if_pos r1, hx 16 (by omega) (by omega) (by omega) (by omega), hX, up_k (by omega), up_s, r2]
          · rw [if_pos r1, hx 17 (by omega) (by omega) (by omega) (by omega), hX, up_s, r2, v3, hq 41 (by omega), hq 6 (by omega), h2, e6]
          · rw [if_neg r3, kk 24 (by omega) (by omega) (by omega) (by omega)]; exact e 24 (by omega)
          · rw [if_neg (due_no h28), kk 15 (by omega) (by omega) (by omega) (by omega)]; exact e 15 (by omega)
          · rw [if_neg r3, kk 30 (by omega) (by omega) (by omega) (by omega)]; exact e30
        · rw [upF_o y]
          refine (h3 q hq2).ext (fun k hk => ?_)
          rw [hx k (by omega) (by omega) (by omega) (by omega), hX, up_i y, up_i y, up_i y, hq k (by omega)]
      · rw [hx k (by omega) (by omega) (by omega) (by omega), hX, up_key (by omega), up_key (by omega), up_key (by omega)]
    · obtain ⟨f1, f2⟩ := bgPut_out (most := mo) hg e14 e11 w hb (by omega)
      rw [f1, if_neg w, if_neg (show ¬ ¬ ((0 : Int32), M).1 = 0 from fun y => y rfl)]
      dsimp only
      refine ⟨⟨fun k hk => ?_, ?_, fun q hq2 => ?_⟩, ⟨b, hb, f2.ext (fun k hk => ?_)⟩, fun q hq2 => upF_o hq2, Or.inr (Or.inl (upF_s _ _ _))⟩
      · have : k ≠ 30 ∧ k ≠ 24 := by unfold mKk at hk; omega
        rw [up_key (by omega), up_key (by omega)]; exact h1 k hk
      · rw [up_k (by omega), up_k (by omega)]; exact h2
      · by_cases y : q = p
        · subst y
          have kk : ∀ k, 11 ≤ k ∧ k ≤ 29 ∧ k ≠ 27 → k ≠ 24 → up (up M 30 q 1) 24 q (M 24 q + 1) k q = m k q := fun k hk a => by
            rw [up_k a, up_k (by omega)]; exact e k hk
          have n1 : ¬ (0 : Int32) < -1 := by decide
          have n2 : (-1 : Int32) < 0 := by decide
          rw [upF_s]
          refine ⟨fun k hk => kk k (by unfold pKp at hk; omega) (by unfold pKp at hk; omega), ?_, ?_, ?_, ?_, ?_, ?_⟩
          · rw [if_neg n1, if_neg (due_no h28)]; exact kk 28 (by omega) (by omega)
          · rw [if_neg n1]; exact kk 16 (by omega) (by omega)
          · rw [if_neg n1]; exact kk 17 (by omega) (by omega)
          · rw [if_pos n2, up_s, e 24 (by omega)]
          · rw [if_neg (due_no h28)]; exact kk 15 (by omega) (by omega)
          · rw [if_pos n2, up_k (by omega), up_s]
        · rw [upF_o y]
          refine (h3 q hq2).ext (fun k hk => ?_)
          rw [up_i y, up_i y]
      · rw [up_key (by omega), up_key (by omega)]
/-- the rows of both states are one -/
theorem ahead_ex2 {m M : MM} {p q : Nat} (e : ∀ i, i = p ∨ i = q → M 12 i = m 12 i ∧ M 20 i = m 20 i) : ahead M p q ↔ ahead m p q := by
  obtain ⟨a1, a2⟩ := e p (Or.inl rfl)
  obtain ⟨b1, b2⟩ := e q (Or.inr rfl)
  unfold ahead
  rw [a1, a2, b1, b2]
theorem rpl_ex2 {m M : MM} {N p : Nat} (hp : p < N) (e : ∀ i, i < N → M 12 i = m 12 i ∧ M 20 i = m 20 i) : ∀ k, (∀ j, j < k → M 36 j = m 36 j ∧ vN (m 36 j) < N) → rpl M p k = rpl m p k := by
  intro k
  induction k with
  | zero => intro _; rfl
  | succ k ih =>
    intro h
    obtain ⟨h1, h2⟩ := h k (by omega)
    simp only [rpl]
    have ha : ahead M p (m 36 k).toNatClampNeg ↔ ahead m p (m 36 k).toNatClampNeg := ahead_ex2 (fun i hi => hi.elim (fun z => by rw [z]; exact e p hp) (fun z => by rw [z]; exact e _ h2))
    rw [h1, ih (fun j hj => h j (by omega))]
    by_cases z : ahead m p (m 36 k).toNatClampNeg
    · rw [if_pos z, if_pos (ha.mpr z)]
    · rw [if_neg z, if_neg (fun w => z (ha.mp w))]
theorem lin_ex2 {y : Int32} {N : Nat} (hN : N < 2 ^ 31) : ∀ (k p n : Nat) (M m : MM), p + k ≤ N → (∀ q, q < N → ((M 28 q = 115 ∧ M 19 q = y) ↔ (m 28 q = 115 ∧ m 19 q = y)) ∧ M 12 q = m 12 q ∧ M 20 q = m 20 q) → (∀ j, j < n → M 36 j = m 36 j ∧ vN (m 36 j) < N) →
    (linL y k p n M).1 = (linL y k p n m).1 ∧ ∀ j, j < (linL y k p n m).1 → (linL y k p n M).2 36 j = (linL y k p n m).2 36 j := by
  intro k
  induction k with
  | zero => intro p n M m _ _ h; exact ⟨rfl, fun j hj => (h j hj).1⟩
  | succ k ih =>
    intro p n M m hp he h
    obtain ⟨hc, -⟩ := he p (by omega)
    simp only [linL]
    by_cases z : m 28 p = 115 ∧ m 19 p = y
    · rw [if_pos z, if_pos (hc.mpr z)]
      have hr := rpl_ex2 (p := p) (by omega) (fun i hi => (he i hi).2) n h
      have hle := rpl_le m p n
      refine ih (p + 1) (n + 1) _ _ (by omega) (fun q hq => ?_) (fun j hj => ?_)
      · rw [sink_key p n M (show 28 ≠ 36 by omega), sink_key p n M (show 19 ≠ 36 by omega), sink_key p n M (show 12 ≠ 36 by omega), sink_key p n M (show 20 ≠ 36 by omega), sink_key p n m (show 28 ≠ 36 by omega), sink_key p n m (show 19 ≠ 36 by omega), sink_key p n m (show 12 ≠ 36 by omega), sink_key p n m (show 20 ≠ 36 by omega)]
        exact he q hq
      · rw [sink_36, sink_36, hr]
        by_cases a : j < rpl m p n
        · rw [if_pos a, if_pos a]; exact h j (by omega)
        · rw [if_neg a, if_neg a]
          by_cases b : j = rpl m p n
          · rw [if_pos b, if_pos b]
            refine ⟨rfl, ?_⟩
            show (nI p).toNatClampNeg < N
            rw [nI_clamp (by omega)]; omega
          · rw [if_neg b, if_neg b, if_pos (by omega), if_pos (by omega)]
            exact h (j - 1) (by omega)
    · rw [if_neg z, if_neg (fun w => z (hc.mp w))]
      exact ih (p + 1) n M m (by omega) he h
