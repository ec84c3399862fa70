/-! closing a line; the queue -/
def cClo (u : MM) (x : Int32) : MM := if xOpn u x = none then cPlA (up u 108 x.toNatClampNeg 0) else u
/-- the place in the queue, from the end -/
def cPlc (u : MM) (p : Nat) : Nat → Nat
  | 0 => 0
  | k + 1 => if ¬ cLb u p (u 36 k).toNatClampNeg = 0 then cPlc u p k else k + 1
theorem cPlc_le (u : MM) (p : Nat) : ∀ k, cPlc u p k ≤ k := by
  intro k
  induction k with
  | zero => exact Nat.le_refl 0
  | succ k ih =>
    simp only [cPlc]
    split
    · omega
    · exact Nat.le_refl _
def cQu1 (u : MM) (y : Int32) (p : Nat) : MM := if ¬ cWf u p y = 0 then cLq u 3 36 (cPlc u p (szN u 3)) (nI p) else u
def cQuL (y : Int32) : Nat → Nat → MM → MM
  | 0, _, u => u
  | k + 1, p, u => cQuL y k (p + 1) (cQu1 u y p)
def cQu (u : MM) (y : Int32) : MM := cQuL y (npN u) 0 (up u 171 3 0)
theorem cQu1_key (u : MM) (y : Int32) (p : Nat) {k : Nat} (h : k ≠ 171) (h2 : k ≠ 172) (h3 : k ≠ 36) : cQu1 u y p k = u k := by
  unfold cQu1
  split
  · exact cLq_k h h2 h3
  · rfl
theorem cQuL_key (y : Int32) : ∀ (n p : Nat) (u : MM) {k : Nat}, k ≠ 171 → k ≠ 172 → k ≠ 36 → cQuL y n p u k = u k := by
  intro n
  induction n with
  | zero => intro p u k _ _ _; rfl
  | succ n ih =>
    intro p u k h h2 h3
    simp only [cQuL]
    rw [ih _ _ h h2 h3, cQu1_key _ _ _ h h2 h3]
theorem cQu_key (u : MM) (y : Int32) {k : Nat} (h : k ≠ 171) (h2 : k ≠ 172) (h3 : k ≠ 36) : cQu u y k = u k := by
  unfold cQu
  rw [cQuL_key _ _ _ _ h h2 h3, up_key h]
theorem cQu1_ok {u : MM} (hw : WFc u) (y : Int32) {p : Nat} (hp : p < npN u) (hs : szN u 3 ≤ p) : WFc (cQu1 u y p) ∧ Gw u (cQu1 u y p) ∧ szN (cQu1 u y p) 3 ≤ p + 1 ∧ npN (cQu1 u y p) = npN u := by
  have hnp := hw.np
  have hn : szN u 3 < 1000 := by omega
  have e := npN_ext (cQu1_key u y p (k := 39) (by omega) (by omega) (by omega))
  unfold cQu1 at e ⊢
  split
  · rename_i z
    rw [if_pos z] at e
    exact ⟨hw.addQ (Or.inl ⟨rfl, rfl⟩) hn (cPlc_le _ _ _) (vp_in_nI hp (by omega)), (cLq_room hw (Or.inl ⟨rfl, rfl⟩) hn).1, by rw [cLq_sz hn]; omega, e⟩
  · exact ⟨hw, Gw.refl u, by omega, rfl⟩
theorem cQuL_ok (y : Int32) : ∀ (n p : Nat) (u : MM), WFc u → p + n = npN u → szN u 3 ≤ p → WFc (cQuL y n p u) ∧ Gw u (cQuL y n p u) ∧ szN (cQuL y n p u) 3 ≤ p + n := by
  intro n
  induction n with
  | zero => intro p u hw _ hs; exact ⟨hw, Gw.refl u, hs⟩
  | succ n ih =>
    intro p u hw hn hs
    obtain ⟨w1, g1, s1, n1⟩ := cQu1_ok hw y (p := p) (by omega) hs
    obtain ⟨w2, g2, s2⟩ := ih (p + 1) (cQu1 u y p) w1 (by omega) s1
    exact ⟨w2, g1.trans g2, by simp only [cQuL]; omega⟩
theorem cQu_ok {u : MM} (hw : WFc u) (y : Int32) : WFc (cQu u y) ∧ Gw u (cQu u y) ∧ szN (cQu u y) 3 ≤ npN u := by
  have n3 : npN (up u 171 3 0) = npN u := npN_up (by omega)
  have e0 : szN (up u 171 3 0) 3 = 0 := by unfold szN; rw [up_s]; rfl
  obtain ⟨a, b, c⟩ := cQuL_ok y (npN u) 0 (up u 171 3 0) (hw.clr (Or.inl rfl)) (by omega) (by omega)
  exact ⟨a, (Gw.up (by omega)).trans b, by unfold cQu; omega⟩

