/-- a share of forty at most is a number -/
theorem share_num : ∀ n, n < 41 → ∀ k, k < 40 → vf_n32 (FP.fdiv (FP.i2f (nI n)) (FP.i2f (nI (k + 1)))) := by
  unfold vf_n32
  decide +kernel
theorem asm_mask (s : Bool) (e t : Nat) (ht : t < 2 ^ 52) (he : e < 2047 ∨ (e = 2047 ∧ t = 0)) : vf_n64 (UInt64.ofNat (FP.Core.assemble FP.Core.b64 s e t)) := by
  unfold vf_n64
  rw [UInt64.le_iff_toNat_le, UInt64.toNat_and, UInt64.toNat_ofNat']
  show (FP.Core.assemble FP.Core.b64 s e t % 2 ^ 64) &&& (2 ^ 63 - 1) ≤ 0x7ff0000000000000
  rw [Nat.and_two_pow_sub_one_eq_mod, show FP.Core.assemble FP.Core.b64 s e t = (s.toNat * 2048 + e) * 4503599627370496 + t from rfl]
  cases s
  · show ((0 * 2048 + e) * 4503599627370496 + t) % 2 ^ 64 % 2 ^ 63 ≤ _
    omega
  · show ((1 * 2048 + e) * 4503599627370496 + t) % 2 ^ 64 % 2 ^ 63 ≤ _
    omega
theorem bound_mask (s : Bool) (c : Nat) (q : Int) (hc : c < 2 ^ 53) : vf_n64 (UInt64.ofNat (FP.Core.encode FP.Core.b64 (FP.Core.bound FP.Core.b64 s c q))) := by
  have e1 : FP.Core.b64.qmax = 971 := by decide
  have e2 : FP.Core.b64.qmin = -1074 := by decide
  have e3 : FP.Core.b64.tails = 4503599627370496 := by decide
  unfold FP.Core.bound
  rw [e1]
  by_cases h : q ≤ 971
  · rw [if_pos h]
    unfold FP.Core.encode
    dsimp only
    rw [e2, e3]
    by_cases h2 : c < 4503599627370496
    · rw [if_pos h2]
      exact asm_mask s 0 c (by omega) (by omega)
    · rw [if_neg h2]
      exact asm_mask s _ _ (by omega) (by omega)
  · rw [if_neg h]
    exact asm_mask s 2047 0 (by omega) (by omega)
