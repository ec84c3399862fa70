/-! what the search keeps -/
theorem RC.ac10 {E : Nat} {h : AH} {b : BA} {u : MM} (hR : RC E h b u) {i j : Nat} (hi : i < 266) (hj : j < 266) : ((some (b 10 i) : Option Nat) = some (b 10 j)) ↔ nI i = nI j :=
  ⟨fun e => by rw [hR.inj (K := 10) hi hj (Option.some.inj e)], fun e => by rw [(nI_eq (by omega) (by omega)).mp e]⟩
def PathOK (u : MM) (md : Nat) : Prop := u 140 0 = nI md ∧ 1 ≤ md ∧ md ≤ 266 ∧ ∀ j, j < md → vp_in (u 130 j) (nhN u)
theorem cBte_ok {u : MM} {md : Nat} (hp : PathOK u md) : ∀ (n i : Nat) (x : Int32), i + n ≤ 266 → (x = -1 ∨ ∃ v, v < md ∧ x = nI v) → (cBte u n i x = -1 ∨ ∃ v, v < md ∧ cBte u n i x = nI v) := by
  intro n
  obtain ⟨p1, p2, p3, p4⟩ := hp
  induction n with
  | zero => intro i x _ h; exact h
  | succ n ih =>
    intro i x hi h
    unfold cBte
    split
    · exact h
    · next c =>
      refine ih _ _ (by omega) ?_
      split
      · refine Or.inr ⟨i, ?_, rfl⟩
        rw [p1] at c
        rcases Nat.lt_or_ge i md with q | q
        · exact q
        · exact absurd (nI_le q (by omega)) c
      · exact h
theorem cFollow_k (u : MM) (i j l : Nat) (ar : Int32) {k : Nat} (hk : k < 130 ∨ 136 < k) : cFollow u i j l ar k = u k := by
  unfold cFollow
  rw [up_key (by omega), up_key (by omega), up_key (by omega), up_key (by omega), up_key (by omega), up_key (by omega), up_key (by omega)]
theorem cFollow_130 (u : MM) (i j l : Nat) (ar : Int32) : cFollow u i j l ar 130 = up u 130 i (u 3 l) 130 := by
  unfold cFollow
  rw [up_key (by omega), up_key (by omega), up_key (by omega), up_key (by omega), up_key (by omega), up_key (by omega)]
theorem cExt1_key (u : MM) (i l : Nat) (rd : Int32) {k : Nat} (hk : k < 130 ∨ 140 < k) : cExt1 u i l rd k = u k := by
  unfold cExt1
  split
  · rw [up_key (by omega), cFollow_k _ _ _ _ _ (by omega)]
  · rfl
theorem cExtL_key (i : Nat) (rd : Int32) : ∀ (n l : Nat) (u : MM) {k : Nat}, (k < 130 ∨ 140 < k) → cExtL i rd n l u k = u k := by
  intro n
  induction n with
  | zero => intro l u k _; rfl
  | succ n ih =>
    intro l u k hk
    unfold cExtL
    split
    · rfl
    · rw [ih _ _ hk, cExt1_key _ _ _ _ hk]
theorem cExt_key (u : MM) (i : Nat) (rd : Int32) {k : Nat} (hk : k < 130 ∨ 140 < k) : cExt u i rd k = u k := by
  unfold cExt
  rw [cExtL_key _ _ _ _ _ hk, up_key (by omega)]
theorem PathOK.ext1 {u : MM} {md : Nat} (hp : PathOK u md) (hm : md < 266) {i l : Nat} {rd : Int32} (hl : vp_in (u 3 l) (nhN u)) : PathOK (cExt1 u i l rd) md ∨ PathOK (cExt1 u i l rd) (md + 1) := by
  obtain ⟨p1, p2, p3, p4⟩ := hp
  have n1 : nhN (cExt1 u i l rd) = nhN u := nhN_ext (cExt1_key u i l rd (by omega))
  unfold PathOK
  rw [n1]
  unfold cExt1
  split
  · refine Or.inr ⟨by rw [up_s, p1, nI_1], by omega, by omega, fun j hj => ?_⟩
    rw [up_key (by omega), cFollow_130, p1, nI_clamp (by omega)]
    by_cases e : j = md
    · subst e; rw [up_s]; exact hl
    · rw [up_i e]; exact p4 j (by omega)
  · exact Or.inl ⟨p1, p2, p3, p4⟩
theorem PathOK.extL {i : Nat} {rd : Int32} : ∀ (n l : Nat) (u : MM) (md : Nat), PathOK u md → (∀ k, l ≤ k → k < l + n → vp_in (u 3 k) (nhN u)) → ∃ md', PathOK (cExtL i rd n l u) md' := by
  intro n
  induction n with
  | zero => intro l u md h _; exact ⟨md, h⟩
  | succ n ih =>
    intro l u md h hl
    unfold cExtL
    split
    · exact ⟨md, h⟩
    · next c =>
      have hm : md < 266 := by
        rw [h.1] at c
        rcases Nat.lt_or_ge md 266 with q | q
        · exact q
        · exact absurd (nI_le q (by have := h.2.2.1; omega)) c
      have hl' : ∀ k, l + 1 ≤ k → k < l + 1 + n → vp_in (cExt1 u i l rd 3 k) (nhN (cExt1 u i l rd)) := fun k k1 k2 => by rw [cExt1_key u i l rd (by omega), nhN_ext (cExt1_key u i l rd (by omega))]; exact hl k (by omega) (by omega)
      rcases h.ext1 hm (i := i) (rd := rd) (hl l (Nat.le_refl _) (by omega)) with g | g
      · exact ih _ _ _ g hl'
      · exact ih _ _ _ g hl'
theorem PathOK.ext {u : MM} {md : Nat} (hp : PathOK u md) (hw : WFc u) (i : Nat) (rd : Int32) : ∃ md', PathOK (cExt u i rd) md' := by
  unfold cExt
  have n1 : nhN (up u 136 i 1) = nhN u := nhN_up (by omega)
  refine PathOK.extL _ _ _ md ?_ (fun k _ h2 => ?_)
  · unfold PathOK
    rw [n1, up_k (by omega), up_key (by omega)]
    exact hp
  · rw [n1, up_key (by omega)]
    exact (hw.ln (by omega)).2

