/-! who rides -/
def rdN (m : MM) (l : Int32) : Nat → Nat → Nat → Nat
  | 0, _, a => a
  | k + 1, p, a => rdN m l k (p + 1) (if m 28 p = 116 ∧ m 16 p = l then a + 1 else a)
theorem rdN_eq (m : MM) (l : Int32) : ∀ (k p a : Nat), rdL m l k p (nI a) = nI (rdN m l k p a) := by
  intro k
  induction k with
  | zero => intro p a; rfl
  | succ k ih =>
    intro p a
    simp only [rdL, rdN]
    split
    · rw [nI_1]; exact ih _ _
    · rw [show nI a + 0 = nI a from Int32.add_zero _]; exact ih _ _
theorem rdN_le (m : MM) (l : Int32) : ∀ (k p a : Nat), rdN m l k p a ≤ a + k := by
  intro k
  induction k with
  | zero => intro p a; exact Nat.le_refl _
  | succ k ih =>
    intro p a
    simp only [rdN]
    split
    · have := ih (p + 1) (a + 1); omega
    · have := ih (p + 1) a; omega
/-- what the rows of bags say -/
def BgsP (m : MM) (L : LNum) (fB : Nat → Option Nat) : Prop := ∀ l, l < nlN m → fB l = none ∨ ∃ q g bn, fB l = some q ∧ L q = some (100, g) ∧ bn ≤ 4 ∧ g 0 = nI bn ∧ (0 < bn → m 8 l = nI bn ∧ ∀ k, k < bn → m 10 (4 * l + k) = g (2 + 2 * k))
