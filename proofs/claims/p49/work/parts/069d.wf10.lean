theorem put_bg {m : MM} {i : Nat} (h : m 44 0 = nI (bagsN m) ∧ bagsN m ≤ i) (hi : i < 40) (p : Nat) (mo : Int32) : (fPut m p mo).2 44 0 = nI (bagsN (fPut m p mo).2) ∧ bagsN (fPut m p mo).2 ≤ i + 1 := by
  rcases put_bags (m := m) ⟨h.1, by omega⟩ p mo with e | ⟨c, e⟩
  · have en : bagsN (fPut m p mo).2 = bagsN m := by unfold bagsN; rw [e]
    exact ⟨by rw [en, e]; exact h.1, by omega⟩
  · have en : bagsN (fPut m p mo).2 = bagsN m + 1 := by
      show ((fPut m p mo).2 44 0).toNatClampNeg = bagsN m + 1
      rw [e]; exact nI_clamp (by omega)
    exact ⟨by rw [en, e], by omega⟩

