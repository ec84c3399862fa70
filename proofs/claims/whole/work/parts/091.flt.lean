/-- a share of forty at most is a number -/
theorem share_num : ∀ n, n < 41 → ∀ k, k < 40 → vf_n32 (FP.fdiv (FP.i2f (nI n)) (FP.i2f (nI (k + 1)))) := by
  unfold vf_n32
  decide +kernel
