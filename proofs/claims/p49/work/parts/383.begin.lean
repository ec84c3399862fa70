/-! the law's numbers while hubs are opened -/
def NTb (f : Nat → Int32) (m : MM) : Prop := (∀ i, i < nhN m → f (10 + 2 * i) = m 0 i ∧ f (11 + 2 * i) = m 1 i) ∧ (∀ i, i < 10 ∨ 22 ≤ i → f i = 0) ∧ nlN m = 0 ∧ npN m = 0 ∧ ∀ l, l < 12 → m 9 l = 0
theorem NTb.zero : NTb (fun _ => 0) m0 := ⟨fun i hi => by rw [m0_nh] at hi; exact absurd hi (Nat.not_lt_zero _), fun _ _ => rfl, m0_nl, m0_np, fun l _ => m0_z (by omega) l⟩
theorem OpP.nh {m m' : MM} {cd co : Int32} (h : OpP m m' cd co) (hn : nhN m < 6) : nhN m' = nhN m + 1 := by
  show (m' 37 0).toNatClampNeg = _
  rw [h.1]
  exact nI_clamp (by omega)
theorem NTb.opn {f : Nat → Int32} {m m' : MM} {cd co : Int32} (h : NTb f m) (hn : nhN m < 6) (ho : OpP m m' cd co) : NTb (upF (upF f (10 + 2 * nhN m) cd) (11 + 2 * nhN m) co) m' := by
  obtain ⟨a1, a2, a3, a4, a5⟩ := h
  have e37 := ho.nh hn
  obtain ⟨b1, b2, b3, b4⟩ := ho
  refine ⟨fun i hi => ?_, fun i hi => ?_, by rw [nlN_ext (b2 38 (by omega) (by omega) (by omega) (by omega))]; exact a3, by rw [npN_ext (b2 39 (by omega) (by omega) (by omega) (by omega))]; exact a4, fun l hl => by rw [b2 9 (by omega) (by omega) (by omega) (by omega)]; exact a5 l hl⟩
  · rw [e37] at hi
    rw [b3, b4]
    by_cases z : i = nhN m
    · rw [z, if_pos rfl, if_pos rfl, upF_o (by omega), upF_s, upF_s]
      exact ⟨rfl, rfl⟩
    · rw [if_neg z, if_neg z, upF_o (by omega), upF_o (by omega), upF_o (by omega), upF_o (by omega)]
      exact a1 i (by omega)
  · rw [upF_o (by omega), upF_o (by omega)]
    exact a2 i hi
theorem NTb.done {f : Nat → Int32} {m : MM} (h : NTb f m) (hn : nhN m ≤ 6) : NT (upF f 0 (nI (nhN m))) m := by
  obtain ⟨a1, a2, a3, a4, a5⟩ := h
  refine ⟨⟨upF_s _ _ _, ?_, ?_⟩, fun i hi => ?_, fun l hl => ?_, fun l hl => ?_, fun p hp => ?_, fun p _ hp => ?_⟩
  · rw [upF_o (by omega), a2 1 (by omega), a3]; rfl
  · rw [upF_o (by omega), a2 2 (by omega), a4]; rfl
  · rw [upF_o (by omega), upF_o (by omega)]; exact a1 i hi
  · rw [a3] at hl; exact absurd hl (Nat.not_lt_zero _)
  · rw [upF_o (by omega), a2 _ (by omega), a5 l hl]
  · rw [a4] at hp; exact absurd hp (Nat.not_lt_zero _)
  · rw [upF_o (by omega), a2 _ (by omega)]
/-- the codes are different -/
theorem code_ne : ∀ x, x < 2 → ∀ h, h < 6 → ∀ j, j < h → ¬ codeN ((j + x * 2) % 6) = codeN ((h + x * 2) % 6) := by decide
theorem codeN_lt : ∀ k, codeN k < 1000 := fun k => by unfold codeN; split <;> (try split) <;> (try split) <;> (try split) <;> (try split) <;> omega
theorem code_no {m : MM} {x : Nat} (hx : x < 2) (hh : nhN m < 6) (hm : ∀ j, j < nhN m → m 0 j = nI (codeN ((j + x * 2) % 6))) : ∀ j, j < nhN m → ¬ m 0 j = nI (codeN ((nhN m + x * 2) % 6)) := fun j hj e => by
  rw [hm j hj, nI_eq (by have := codeN_lt ((j + x * 2) % 6); omega) (by have := codeN_lt ((nhN m + x * 2) % 6); omega)] at e
  exact code_ne x hx _ hh j hj e
theorem code_ok2 (k : Nat) : ¬ isDg (nI (codeN (k % 6))) 1 999 = 0 := code_ok _ (Nat.mod_lt _ (by omega))
theorem stt0 (cap : Nat) : Stt 0 (c00 cap) m0 := ⟨sim0 cap, m0_wf, fun p hp => by rw [m0_np] at hp; exact absurd hp (Nat.not_lt_zero _)⟩
