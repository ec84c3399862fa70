/-! the law's addresses -/
theorem law_ad : ∀ a, a < 3 → ∀ b, b < 3 → ∀ c, c < 2 → ∀ d, d < 9 → ¬ isAd (nI (1111 + 1000 * a + 100 * b + 10 * c + d)) = 0 := by decide +kernel
theorem xAd_n {x : Int32} (h : ¬ isAd x = 0) : xAd x = none := by
  unfold xAd
  rw [if_neg (by rw [adr_eq]; exact h)]
theorem found_or {m : MM} (hw : WFa m) (x : Int32) : found m x < 0 ∨ ∃ d, d < nhN m ∧ found m x = nI d := by
  rcases found_in hw x with h | h
  · exact Or.inl h
  · exact Or.inr ⟨_, vp_nat h, vp_nI h (by have := hw.nh.2; omega)⟩
/-- a search takes no room -/
theorem uc_sr (u : MM) (x : Int32) : UC (cSr u x) = UC u ∧ US (cSr u x) = US u := by
  have a : ∀ k, kSz k → k ≠ 171 → cSr u x k = u k := fun k hk _ => by
    unfold cSr
    split
    · exact cBp_key u _ _ (by unfold kSz at hk; omega)
    · rfl
  have g1 := (Gw.ext a).le
  have g2 := (Gw.ext (fun k hk h7 => (a k hk h7).symm)).le
  exact ⟨Nat.le_antisymm g2.1 g1.1, Nat.le_antisymm g2.2 g1.2⟩
