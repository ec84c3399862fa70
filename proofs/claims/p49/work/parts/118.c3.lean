theorem cUnl_key (now : Int32) : ∀ (n i : Nat) (u : MM) {k : Nat}, k ≠ 160 → cUnl now n i u k = u k := by
  intro n
  induction n with
  | zero => intro i u k _; rfl
  | succ n ih =>
    intro i u k hk
    show cUnl now n (i + 1) _ k = _
    rw [ih _ _ hk]
    split
    · exact up_key hk
    · rfl
theorem cUnl_n (now : Int32) (n i : Nat) (u : MM) : nlN (cUnl now n i u) = nlN u ∧ nhN (cUnl now n i u) = nhN u ∧ npN (cUnl now n i u) = npN u := ⟨nlN_ext (cUnl_key now n i u (by omega)), nhN_ext (cUnl_key now n i u (by omega)), npN_ext (cUnl_key now n i u (by omega))⟩
theorem cLd1_key (u : MM) (now : Int32) (l : Nat) {k : Nat} (hk : k ≠ 161) : cLd1 u now l k = u k := by
  unfold cLd1
  split
  · split
    · exact up_key hk
    · rfl
  · rfl
theorem cLdL_key (now : Int32) : ∀ (n i : Nat) (u : MM) {k : Nat}, k ≠ 161 → cLdL now n i u k = u k := by
  intro n
  induction n with
  | zero => intro i u k _; rfl
  | succ n ih =>
    intro i u k hk
    show cLdL now n (i + 1) _ k = _
    rw [ih _ _ hk, cLd1_key _ _ _ hk]
