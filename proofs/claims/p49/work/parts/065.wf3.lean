theorem up_c39 {m : MM} {k i : Nat} {x y : Int32} (h : k ≠ 39) : up (up m 39 0 x) k i y = up (up m k i y) 39 0 x := by
  funext a b
  unfold up
  by_cases h1 : a = k ∧ b = i
  · rw [if_pos h1, if_neg (fun q => h (h1.1.symm.trans q.1)), if_pos h1]
  · rw [if_neg h1, if_neg h1]
theorem found_ext {m m' : MM} (h0 : m' 0 = m 0) (h37 : m' 37 = m 37) (x : Int32) : found m' x = found m x := by
  have h1 : ∀ (h n : Nat) (k a : Int32), fndI m' h n k a = fndI m h n k a := by
    intro h n
    induction n with
    | zero => intro k a; rfl
    | succ n ih => intro k a; unfold fndI; rw [h0]; simp only [ih]
  have h2 : ∀ (k h : Nat) (a : Int32), fndO m' x k h a = fndO m x k h a := by
    intro k
    induction k with
    | zero => intro h a; rfl
    | succ k ih => intro h a; unfold fndO; rw [h1, ih]
  unfold found
  rw [h2, nhN_ext h37]
theorem found_up {m : MM} {k i : Nat} {v : Int32} (x : Int32) (h : k ≠ 0) (h2 : k ≠ 37) : found (up m k i v) x = found m x := found_ext (up_key (Ne.symm h)) (up_key (Ne.symm h2)) x
theorem found_thr (m : MM) (b a x : Int32) : found (thr m b a) x = found m x := found_up x (by decide) (by decide)
/-- a hub that serves is a hub -/
theorem found_in {m : MM} (hw : WFa m) (x : Int32) : found m x < 0 ∨ vp_in (found m x) (nhN m) := by
  have hnh := hw.nh
  have h1 : ∀ (h n : Nat) (k a : Int32), h < nhN m → (a < 0 ∨ vp_in a (nhN m)) → (fndI m h n k a < 0 ∨ vp_in (fndI m h n k a) (nhN m)) := by
    intro h n
    induction n with
    | zero => intro k a hh ha; exact ha
    | succ n ih =>
      intro k a hh ha
      unfold fndI
      split
      · exact ha
      · refine ih _ _ hh ?_
        split
        · exact Or.inr (vp_in_nI hh (by omega))
        · exact ha
  have h2 : ∀ (k h : Nat) (a : Int32), h + k = nhN m → (a < 0 ∨ vp_in a (nhN m)) → (fndO m x k h a < 0 ∨ vp_in (fndO m x k h a) (nhN m)) := by
    intro k
    induction k with
    | zero => intro h a _ ha; exact ha
    | succ k ih => intro h a hh ha; unfold fndO; exact ih _ _ (by omega) (h1 _ _ _ _ (by omega) ha)
  exact h2 _ _ _ (Nat.zero_add _) (Or.inl (by decide))
/-- one parcel more -/
theorem WFa.newP {m : MM} (hw : WFa m) (h : npN m < 40) (ho : paOK m (npN m)) : WFa (up m 39 0 (nI (npN m + 1))) := by
  have K : ∀ {k' : Nat}, k' ≠ 39 → up m 39 0 (nI (npN m + 1)) k' = m k' := fun h => up_key h
  have n1 : nhN (up m 39 0 (nI (npN m + 1))) = nhN m := nhN_ext (K (by omega))
  have n2 : nlN (up m 39 0 (nI (npN m + 1))) = nlN m := nlN_ext (K (by omega))
  have n3 : npN (up m 39 0 (nI (npN m + 1))) = npN m + 1 := by
    show (up m 39 0 (nI (npN m + 1)) 39 0).toNatClampNeg = npN m + 1
    rw [up_s]; exact nI_clamp (by omega)
  have n4 : logN (up m 39 0 (nI (npN m + 1))) = logN m := logN_ext (K (by omega))
  have n5 : LLm (up m 39 0 (nI (npN m + 1))) = LLm m := LLm_ext (K (by omega))
  refine ⟨?_, ?_, ?_, ?_, ?_, ?_, ?_, ?_⟩
  · rw [n1, K (by omega)]; exact hw.nh
  · rw [n2, K (by omega)]; exact hw.nl
  · rw [n3, up_s]; exact ⟨rfl, by omega⟩
  · intro l hl
    rw [n2] at hl
    unfold lnOK
    rw [n1, K (k' := 2) (by omega), K (k' := 3) (by omega), K (k' := 5) (by omega), K (k' := 8) (by omega), K (k' := 7) (by omega), K (k' := 9) (by omega)]
    exact hw.ln hl
  · intro p hp
    rw [n3] at hp
    unfold paOK
    rw [n1, n2, K (k' := 13) (by omega), K (k' := 14) (by omega), K (k' := 15) (by omega), K (k' := 16) (by omega), K (k' := 28) (by omega)]
    by_cases e : p = npN m
    · subst e; exact ho
    · exact hw.pa (by omega)
  · unfold lgOK
    rw [n4, n5, K (k' := 40) (by omega), K (k' := 46) (by omega)]
    exact hw.lg
  · intro j hj
    rw [n4] at hj
    unfold evOK
    rw [n1, n3, K (k' := 31) (by omega)]
    have := hw.ev hj
    exact ⟨vp_mono this.1 (by omega), this.2⟩
  · unfold frOK
    rw [n2, n3, K (k' := 16) (by omega), K (k' := 8) (by omega), K (k' := 9) (by omega)]
    exact ⟨fun p hp => hw.fr.1 p (by omega), hw.fr.2⟩
/-- one place of a line written -/
theorem WFa.lset {m : MM} (hw : WFa m) {k i : Nat} {x : Int32} (hk : k = 2 ∨ k = 3 ∨ k = 5 ∨ k = 7 ∨ ((k = 8 ∨ k = 9) ∧ i < nlN m)) (h : i < nlN m → lnOK (up m k i x) i) : WFa (up m k i x) := by
  have K : ∀ {k' : Nat}, k' ≠ k → up m k i x k' = m k' := fun h => up_key h
  have n1 : nhN (up m k i x) = nhN m := nhN_ext (K (by omega))
  have n2 : nlN (up m k i x) = nlN m := nlN_ext (K (by omega))
  have n3 : npN (up m k i x) = npN m := npN_ext (K (by omega))
  have n4 : logN (up m k i x) = logN m := logN_ext (K (by omega))
  have n5 : LLm (up m k i x) = LLm m := LLm_ext (K (by omega))
  refine ⟨?_, ?_, ?_, ?_, ?_, ?_, ?_, ?_⟩
  · rw [n1, K (by omega)]; exact hw.nh
  · rw [n2, K (by omega)]; exact hw.nl
  · rw [n3, K (by omega)]; exact hw.np
  · intro l hl
    rw [n2] at hl
    by_cases e : l = i
    · subst e; exact h hl
    · unfold lnOK
      rw [n1, up_i e, up_i e, up_i e, up_i e, up_i e, up_i e]
      exact hw.ln hl
  · intro p hp
    rw [n3] at hp
    unfold paOK
    rw [n1, n2, K (k' := 13) (by omega), K (k' := 14) (by omega), K (k' := 15) (by omega), K (k' := 16) (by omega), K (k' := 28) (by omega)]
    exact hw.pa hp
  · unfold lgOK
    rw [n4, n5, K (k' := 40) (by omega), K (k' := 46) (by omega)]
    exact hw.lg
  · intro j hj
    rw [n4] at hj
    unfold evOK
    rw [n1, n3, K (k' := 31) (by omega)]
    exact hw.ev hj
  · unfold frOK
    rw [n2, n3, K (k' := 16) (by omega)]
    refine ⟨hw.fr.1, fun l hl => ?_⟩
    by_cases e : l = i
    · have := hw.fr.2 l hl
      rw [K (k' := 8) (by omega), K (k' := 9) (by omega)]
      exact this
    · rw [up_i e, up_i e]
      exact hw.fr.2 l hl
/-- one line more -/
theorem WFa.newL {m : MM} (hw : WFa m) (h : nlN m < 12) (ho : lnOK m (nlN m)) : WFa (up m 38 0 (nI (nlN m + 1))) := by
  have K : ∀ {k' : Nat}, k' ≠ 38 → up m 38 0 (nI (nlN m + 1)) k' = m k' := fun h => up_key h
  have n1 : nhN (up m 38 0 (nI (nlN m + 1))) = nhN m := nhN_ext (K (by omega))
  have n2 : nlN (up m 38 0 (nI (nlN m + 1))) = nlN m + 1 := by
    show (up m 38 0 (nI (nlN m + 1)) 38 0).toNatClampNeg = nlN m + 1
    rw [up_s]; exact nI_clamp (by omega)
  have n3 : npN (up m 38 0 (nI (nlN m + 1))) = npN m := npN_ext (K (by omega))
  have n4 : logN (up m 38 0 (nI (nlN m + 1))) = logN m := logN_ext (K (by omega))
  have n5 : LLm (up m 38 0 (nI (nlN m + 1))) = LLm m := LLm_ext (K (by omega))
  refine ⟨?_, ?_, ?_, ?_, ?_, ?_, ?_, ?_⟩
  · rw [n1, K (by omega)]; exact hw.nh
  · rw [n2, up_s]; exact ⟨rfl, by omega⟩
  · rw [n3, K (by omega)]; exact hw.np
  · intro l hl
    rw [n2] at hl
    unfold lnOK
    rw [n1, K (k' := 2) (by omega), K (k' := 3) (by omega), K (k' := 5) (by omega), K (k' := 8) (by omega), K (k' := 7) (by omega), K (k' := 9) (by omega)]
    by_cases e : l = nlN m
    · subst e; exact ho
    · exact hw.ln (by omega)
  · intro p hp
    rw [n3] at hp
    unfold paOK
    rw [n1, n2, K (k' := 13) (by omega), K (k' := 14) (by omega), K (k' := 15) (by omega), K (k' := 16) (by omega), K (k' := 28) (by omega)]
    have := hw.pa hp
    exact ⟨this.1, this.2.1, this.2.2.1, this.2.2.2.1, fun z => vp_mono (this.2.2.2.2.1 z) (by omega), this.2.2.2.2.2⟩
  · unfold lgOK
    rw [n4, n5, K (k' := 40) (by omega), K (k' := 46) (by omega)]
    exact hw.lg
  · intro j hj
    rw [n4] at hj
    unfold evOK
    rw [n1, n3, K (k' := 31) (by omega)]
    exact hw.ev hj
  · unfold frOK
    rw [n2, n3, K (k' := 16) (by omega), K (k' := 8) (by omega), K (k' := 9) (by omega)]
    exact ⟨hw.fr.1, fun l hl => hw.fr.2 l (by omega)⟩
/-- one hub more -/
theorem WFa.newH {m : MM} (hw : WFa m) (h : nhN m < 6) : WFa (up m 37 0 (nI (nhN m + 1))) := by
  have K : ∀ {k' : Nat}, k' ≠ 37 → up m 37 0 (nI (nhN m + 1)) k' = m k' := fun h => up_key h
  have n1 : nhN (up m 37 0 (nI (nhN m + 1))) = nhN m + 1 := by
    show (up m 37 0 (nI (nhN m + 1)) 37 0).toNatClampNeg = nhN m + 1
    rw [up_s]; exact nI_clamp (by omega)
  have n2 : nlN (up m 37 0 (nI (nhN m + 1))) = nlN m := nlN_ext (K (by omega))
  have n3 : npN (up m 37 0 (nI (nhN m + 1))) = npN m := npN_ext (K (by omega))
  have n4 : logN (up m 37 0 (nI (nhN m + 1))) = logN m := logN_ext (K (by omega))
  have n5 : LLm (up m 37 0 (nI (nhN m + 1))) = LLm m := LLm_ext (K (by omega))
  refine ⟨?_, ?_, ?_, ?_, ?_, ?_, ?_, ?_⟩
  · rw [n1, up_s]; exact ⟨rfl, by omega⟩
  · rw [n2, K (by omega)]; exact hw.nl
  · rw [n3, K (by omega)]; exact hw.np
  · intro l hl
    rw [n2] at hl
    unfold lnOK
    rw [n1, K (k' := 2) (by omega), K (k' := 3) (by omega), K (k' := 5) (by omega), K (k' := 8) (by omega), K (k' := 7) (by omega), K (k' := 9) (by omega)]
    have := hw.ln hl
    exact ⟨vp_mono this.1 (by omega), vp_mono this.2.1 (by omega), this.2.2⟩
  · intro p hp
    rw [n3] at hp
    unfold paOK
    rw [n1, n2, K (k' := 13) (by omega), K (k' := 14) (by omega), K (k' := 15) (by omega), K (k' := 16) (by omega), K (k' := 28) (by omega)]
    have := hw.pa hp
    exact ⟨vp_mono this.1 (by omega), vp_mono this.2.1 (by omega), vp_mono this.2.2.1 (by omega), this.2.2.2⟩
  · unfold lgOK
    rw [n4, n5, K (k' := 40) (by omega), K (k' := 46) (by omega)]
    exact hw.lg
  · intro j hj
    rw [n4] at hj
    unfold evOK
    rw [n1, n3, K (k' := 31) (by omega)]
    have := hw.ev hj
    exact ⟨this.1, this.2.1, vp_mono this.2.2 (by omega)⟩
  · unfold frOK
    rw [n2, n3, K (k' := 16) (by omega), K (k' := 8) (by omega), K (k' := 9) (by omega)]
    exact hw.fr
/-- the state of accept before the promise -/
abbrev mAcc (m : MM) (hb d vol srv t : Int32) : MM :=
  up (up (up (up (up (up (up (up (up m 39 0 (nI (npN m + 1))) 11 (npN m) vol) 12 (npN m) srv) 15 (npN m) hb) 13 (npN m) hb) 14 (npN m) d) 28 (npN m) 115) 18 (npN m) t) 25 (npN m) t
theorem WFa.accM {m : MM} (hw : WFa m) (h : npN m < 40) {hb d : Int32} (hhb : vp_in hb (nhN m)) (hd : vp_in d (nhN m)) (vol srv t : Int32) : WFa (mAcc m hb d vol srv t) := by
  unfold mAcc
  rw [up_c39 (by decide), up_c39 (by decide), up_c39 (by decide), up_c39 (by decide), up_c39 (by decide), up_c39 (by decide), up_c39 (by decide), up_c39 (by decide)]
  have w0 : WFa (up (up m 11 (npN m) vol) 12 (npN m) srv) := (hw.upx (by unfold kWF; omega)).upx (by unfold kWF; omega)
  have e0 : npN (up (up m 11 (npN m) vol) 12 (npN m) srv) = npN m := npN_ext ((up_key (by decide)).trans (up_key (by decide)))
  have w1 : WFa (up (up (up m 11 (npN m) vol) 12 (npN m) srv) 15 (npN m) hb) := w0.pset (by omega) (fun z => absurd z (by omega))
  have e1 : npN (up (up (up m 11 (npN m) vol) 12 (npN m) srv) 15 (npN m) hb) = npN m := (npN_ext (up_key (by decide))).trans e0
  have w2 : WFa (up (up (up (up m 11 (npN m) vol) 12 (npN m) srv) 15 (npN m) hb) 13 (npN m) hb) := w1.pset (by omega) (fun z => absurd z (by omega))
  have e2 : npN (up (up (up (up m 11 (npN m) vol) 12 (npN m) srv) 15 (npN m) hb) 13 (npN m) hb) = npN m := (npN_ext (up_key (by decide))).trans e1
  have w3 : WFa (up (up (up (up (up m 11 (npN m) vol) 12 (npN m) srv) 15 (npN m) hb) 13 (npN m) hb) 14 (npN m) d) := w2.pset (by omega) (fun z => absurd z (by omega))
  have w4 := (((w3.up28 (i := npN m) (x := 115) (Or.inl rfl)).upx (k := 18) (i := npN m) (x := t) (by unfold kWF; omega)).upx (k := 25) (i := npN m) (x := t) (by unfold kWF; omega))
  have e4 : npN (up (up (up (up (up (up (up (up m 11 (npN m) vol) 12 (npN m) srv) 15 (npN m) hb) 13 (npN m) hb) 14 (npN m) d) 28 (npN m) 115) 18 (npN m) t) 25 (npN m) t) = npN m :=
    (npN_ext (up_key (by decide))).trans ((npN_ext (up_key (by decide))).trans ((npN_ext (up_key (by decide))).trans ((npN_ext (up_key (by decide))).trans e2)))
  have w5 := w4.newP (by omega) (by
    rw [e4]
    have n1 : nhN (up (up (up (up (up (up (up (up m 11 (npN m) vol) 12 (npN m) srv) 15 (npN m) hb) 13 (npN m) hb) 14 (npN m) d) 28 (npN m) 115) 18 (npN m) t) 25 (npN m) t) = nhN m := nhN_ext (by simp [up_key])
    unfold paOK
    rw [n1]
    have h16 := hw.fr.1 (npN m) (Nat.le_refl _)
    refine ⟨?_, ?_, ?_, ?_, ?_, ?_⟩
    · simpa [up] using hhb
    · simpa [up] using hd
    · simpa [up] using hhb
    · have : (0 : Int32) = nI 0 := rfl
      simp only [up, h16]; simp; rw [this]; exact vp_in_nI (by decide) (by decide)
    · intro z; simp [up] at z
    · simp [up])
  rw [e4] at w5
  exact w5

