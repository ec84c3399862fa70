/-- a share of forty at most is a number -/
theorem share_num : ∀ n, n < 41 → ∀ k, k < 40 → vf_n32 (FP.fdiv (FP.i2f (nI n)) (FP.i2f (nI (k + 1)))) := by
  unfold vf_n32
  decide +kernel
theorem asm_mask (s : Bool) (e t : Nat) (ht : t < 2 ^ 52) (he : e < 2047 ∨ (e = 2047 ∧ t = 0)) : vf_n64 (UInt64.ofNat (FP.Core.assemble FP.Core.b64 s e t)) := by
  unfold vf_n64
  rw [UInt64.le_iff_toNat_le, UInt64.toNat_and, UInt64.toNat_ofNat']
  show (FP.Core.assemble FP.Core.b64 s e t % 2 ^ 64) &&& (2 ^ 63 - 1) ≤ 0x7ff0000000000000
  rw [Nat.and_two_pow_sub_one_eq_mod, show FP.Core.assemble FP.Core.b64 s e t = (s.toNat * 2048 + e) * 4503599627370496 + t from rfl]
  cases s
  · show ((0 * 2048 + e) * 4503599627370496 + t) % 2 ^ 64 % 2 ^ 63 ≤ _
    omega
  · show ((1 * 2048 + e) * 4503599627370496 + t) % 2 ^ 64 % 2 ^ 63 ≤ _
    omega
theorem bound_mask (s : Bool) (c : Nat) (q : Int) (hc : c < 2 ^ 53) : vf_n64 (UInt64.ofNat (FP.Core.encode FP.Core.b64 (FP.Core.bound FP.Core.b64 s c q))) := by
  have e1 : FP.Core.b64.qmax = 971 := by decide
  have e2 : FP.Core.b64.qmin = -1074 := by decide
  have e3 : FP.Core.b64.tails = 4503599627370496 := by decide
  unfold FP.Core.bound
  rw [e1]
  by_cases h : q ≤ 971
  · rw [if_pos h]
    unfold FP.Core.encode
    dsimp only
    rw [e2, e3]
    by_cases h2 : c < 4503599627370496
    · rw [if_pos h2]
      exact asm_mask s 0 c (by omega) (by omega)
    · rw [if_neg h2]
      exact asm_mask s _ _ (by omega) (by omega)
  · rw [if_neg h]
    exact asm_mask s 2047 0 (by omega) (by omega)
theorem round_mask (s : Bool) (num den : Nat) (e : Int) : vf_n64 (UInt64.ofNat (FP.Core.encode FP.Core.b64 (FP.Core.roundRatio FP.Core.b64 s num den e))) := by
  unfold FP.Core.roundRatio
  split
  · exact asm_mask s 0 0 (by omega) (by omega)
  · unfold FP.Core.roundAt FP.Core.settle
    split
    · rename_i h
      exact bound_mask s _ _ h
    · exact bound_mask s _ _ (by decide)
theorem dec_nan {n : UInt64} (h : vf_n64 n) : FP.Core.decode FP.Core.b64 n.toNat ≠ .nan := by
  unfold vf_n64 at h
  rw [UInt64.le_iff_toNat_le, UInt64.toNat_and] at h
  replace h : n.toNat &&& (2 ^ 63 - 1) ≤ 0x7ff0000000000000 := h
  rw [Nat.and_two_pow_sub_one_eq_mod] at h
  unfold FP.Core.decode
  rw [show FP.Core.fieldE FP.Core.b64 n.toNat = n.toNat / 4503599627370496 % 2048 from rfl, show FP.Core.b64.exps - 1 = 2047 from rfl, show FP.Core.fieldT FP.Core.b64 n.toNat = n.toNat % 4503599627370496 from rfl]
  split
  · split
    · exact fun q => nomatch q
    · omega
  · split
    · exact fun q => nomatch q
    · exact fun q => nomatch q
theorem i2d_num (a : Int32) : vf_n64 (FP.i2d a) := by
  show vf_n64 (UInt64.ofNat (FP.Core.encode FP.Core.b64 (FP.Core.round FP.Core.b64 (FP.Core.ofInt a.toInt))))
  unfold FP.Core.ofInt
  exact round_mask _ _ _ _
def finD : FP.Core.Datum → Bool
  | .fin _ d _ => d != 0
  | _ => false
theorem i2d_fin : ∀ k, k < 40 → finD (FP.Core.decode FP.Core.b64 (FP.i2d (nI (k + 1))).toNat) = true := by decide +kernel
/-- a mean over forty at most is a number -/
theorem mean_num (a : Int32) {k : Nat} (hk : k < 40) : vf_n64 (FP.ddiv (FP.i2d a) (FP.i2d (nI (k + 1)))) := by
  show vf_n64 (UInt64.ofNat (FP.Core.encode FP.Core.b64 (FP.Core.quotient FP.Core.b64 (FP.Core.decode FP.Core.b64 (FP.i2d a).toNat) (FP.Core.decode FP.Core.b64 (FP.i2d (nI (k + 1))).toNat))))
  have h1 := dec_nan (i2d_num a)
  have h2 := i2d_fin k hk
  generalize FP.Core.decode FP.Core.b64 (FP.i2d a).toNat = x at *
  generalize FP.Core.decode FP.Core.b64 (FP.i2d (nI (k + 1))).toNat = y at *
  cases y with
  | nan => exact absurd h2 (by decide)
  | inf t => exact absurd h2 (by simp [finD])
  | fin t d r =>
    have hd : d ≠ 0 := by simpa [finD] using h2
    cases x with
    | nan => exact absurd rfl h1
    | inf s => exact asm_mask _ 2047 0 (by omega) (by omega)
    | fin s c q =>
      unfold FP.Core.quotient
      dsimp only
      rw [if_neg hd]
      exact round_mask _ _ _ _

