/-- the bags in hand -/
def BG (m : MM) : Prop := m 44 0 = nI (bagsN m) ∧ bagsN m < 40
theorem bagL_le (m : MM) (p : Nat) : ∀ (n k : Nat), bagL m p n k ≤ k + n := by
  intro n
  induction n with
  | zero => intro k; exact Nat.le_refl _
  | succ n ih =>
    intro k
    unfold bagL
    split
    · have := ih (k + 1); omega
    · omega
theorem put_key (m : MM) (p : Nat) (mo : Int32) {k : Nat} (h : k ≠ 34 ∧ k ≠ 35 ∧ k ≠ 44) : (fPut m p mo).2 k = m k := by
  unfold fPut
  dsimp only
  split
  · split
    · rfl
    · dsimp only
      rw [up_key h.2.1, up_key h.2.2, up_key h.2.1, up_key h.1]
  · dsimp only
    rw [up_key h.2.1]
theorem put_bags {m : MM} (h : BG m) (p : Nat) (mo : Int32) : ((fPut m p mo).2 44 0 = m 44 0) ∨ (¬ m 44 0 = mo ∧ (fPut m p mo).2 44 0 = nI (bagsN m + 1)) := by
  unfold fPut
  dsimp only
  split
  · split
    · exact Or.inl rfl
    · rename_i c
      refine Or.inr ⟨c, ?_⟩
      dsimp only
      rw [up_k (by decide), up_s, h.1, nI_1]
  · dsimp only
    exact Or.inl (up_k (by decide))
theorem put_01 (m : MM) (p : Nat) (mo : Int32) : (fPut m p mo).1 = 0 ∨ (fPut m p mo).1 = 1 := by
  unfold fPut
  dsimp only
  split
  · split
    · exact Or.inl rfl
    · exact Or.inr rfl
  · exact Or.inr rfl
theorem WFa.put {m : MM} (hw : WFa m) (p : Nat) (mo : Int32) : WFa (fPut m p mo).2 := hw.ext (fun k hk => put_key m p mo (by unfold kWF at hk; omega))
theorem Gr.put (m : MM) (p : Nat) (mo : Int32) : Gr 0 m (fPut m p mo).2 := Gr.of fun k hk => put_key m p mo (by omega)
/-- a parcel rides -/
theorem WFa.ride {m : MM} (hw : WFa m) {p l : Nat} (hp : p < npN m) (hl : l < nlN m) : WFa (up (up m 28 p 116) 16 p (nI l)) := by
  have hnl := hw.nl
  have h12 : vp_in (nI l) 12 := vp_in_nI (by omega) (by omega)
  have w1 : WFa (up m 16 p (nI l)) := hw.pset (Or.inr (Or.inr (Or.inr (Or.inl ⟨rfl, hp⟩)))) (fun hi => by
    have h := hw.pa hi
    unfold paOK at *
    rw [nhN_up (by decide), nlN_up (by decide), up_k (k' := 13) (by decide), up_k (k' := 14) (by decide), up_k (k' := 15) (by decide), up_k (k' := 28) (by decide), up_s]
    exact ⟨h.1, h.2.1, h.2.2.1, h12, fun _ => vp_in_nI hl (by omega), h.2.2.2.2.2⟩)
  have e : up (up m 28 p 116) 16 p (nI l) = up (up m 16 p (nI l)) 28 p 116 := by
    funext a b
    unfold up
    by_cases h1 : a = 16 ∧ b = p
    · rw [if_pos h1, if_neg (fun q => absurd (h1.1.symm.trans q.1) (by decide)), if_pos h1]
    · rw [if_neg h1, if_neg h1]
  rw [e]
  refine w1.pset (Or.inr (Or.inr (Or.inr (Or.inr rfl)))) (fun hi => ?_)
  have h := w1.pa hi
  unfold paOK at *
  rw [nhN_up (by decide), nlN_up (by decide), up_k (k' := 13) (by decide), up_k (k' := 14) (by decide), up_k (k' := 15) (by decide), up_k (k' := 16) (by decide), up_s, up_s]
  exact ⟨h.1, h.2.1, h.2.2.1, h12, fun _ => by rw [nlN_up (by decide)]; exact vp_in_nI hl (by omega), Or.inr (Or.inl rfl)⟩

