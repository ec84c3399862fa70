/-! the law's numbers behind a deed -/
theorem nI_rem {a b : Nat} (ha : a < 2 ^ 31) (hb : b < 2 ^ 31) : nI a - nI a / nI b * nI b = nI (a % b) := by
  rw [nI_div ha hb, nI_mul, nI_sub (Nat.div_mul_le_self a b)]
  congr 1
  have := Nat.div_add_mod a b
  rw [Nat.mul_comm] at this
  omega
theorem NP.re {f f' : Nat → Int32} {m m' : MM} {p : Nat} (h : NP f m p) (e : ∀ j, j < 12 → f' (140 + 12 * p + j) = f (140 + 12 * p + j)) (hr : ReP m m') : NP f' m' p := by
  have k : ∀ k, 11 ≤ k ∧ k ≤ 29 → k ≠ 19 → m' k = m k := hr.1
  obtain ⟨a0, a1, a2, a3, a4, a6, a8, a9, a10, a11⟩ := h
  have e0 : f' (140 + 12 * p) = f (140 + 12 * p) := e 0 (by omega)
  refine ⟨?_, ?_, ?_, ?_, fun z => ?_, ?_, ?_, ?_, ?_, ?_⟩
  · rw [e0, k 11 (by omega) (by omega)]; exact a0
  · rw [e 1 (by omega), k 12 (by omega) (by omega)]; exact a1
  · rw [e 2 (by omega), k 13 (by omega) (by omega)]; exact a2
  · rw [e 3 (by omega), k 18 (by omega) (by omega)]; exact a3
  · rw [k 28 (by omega) (by omega)] at z
    rw [e 4 (by omega), e 5 (by omega), k 17 (by omega) (by omega), k 16 (by omega) (by omega)]
    exact a4 z
  · rw [e 6 (by omega), k 22 (by omega) (by omega)]; exact a6
  · rw [e 8 (by omega), k 21 (by omega) (by omega)]; exact a8
  · rw [e 9 (by omega), k 25 (by omega) (by omega)]; exact a9
  · rw [e 10 (by omega), k 24 (by omega) (by omega)]; exact a10
  · rw [e 11 (by omega), k 28 (by omega) (by omega), k 26 (by omega) (by omega)]; exact a11
theorem NT.add {f f' : Nat → Int32} {m m' : MM} {x y fi pe tr mb : Int32} (h : NT f m) (hw : WFa m) (hnl : nlN m < 12) (ha : AdP m m' x y fi pe tr mb) (h1 : f' 1 = nI (nlN m + 1)) (hj : f' (30 + 8 * nlN m) = x ∧ f' (30 + 8 * nlN m + 1) = y ∧ f' (30 + 8 * nlN m + 2) = fi ∧ f' (30 + 8 * nlN m + 3) = pe ∧ f' (30 + 8 * nlN m + 4) = tr ∧ f' (30 + 8 * nlN m + 5) = mb)
    (ho : ∀ i, i ≠ 1 → (∀ j, j < 6 → i ≠ 30 + 8 * nlN m + j) → f' i = f i) : NT f' m' ∧ Kp m m' := by
  obtain ⟨⟨a1, a2, a3⟩, a4, a5, a6, a7, a8⟩ := h
  obtain ⟨b1, b2, b3, c2, c3, c4, c5, c6, c7, hr⟩ := ha
  have n6 := hw.nh.2
  have n40 := hw.np.2
  have e37 : nhN m' = nhN m := nhN_ext (b2 37 (by unfold oK; omega))
  have e39 : npN m' = npN m := npN_ext (b2 39 (by unfold oK; omega))
  have e38 : nlN m' = nlN m + 1 := by show (m' 38 0).toNatClampNeg = _; rw [b1]; exact nI_clamp (by omega)
  refine ⟨⟨⟨by rw [ho 0 (by omega) (fun j hj => by omega), e37]; exact a1, by rw [h1, e38], by rw [ho 2 (by omega) (fun j hj => by omega), e39]; exact a3⟩, fun i hi => ?_, fun l hl j hj6 => ?_, fun l hl => ?_, fun p hp => ?_, fun p hp hp4 => ?_⟩, e37, by omega, b2 0 (by unfold oK; omega)⟩
  · rw [e37] at hi
    rw [ho _ (by omega) (fun j hj => by omega), ho _ (by omega) (fun j hj => by omega), b2 0 (by unfold oK; omega), b2 1 (by unfold oK; omega)]
    exact a4 i hi
  · by_cases z : l = nlN m
    · subst z
      obtain ⟨j0, j1, j2, j3, j4, j5⟩ := hj
      rcases (by omega : j = 0 ∨ j = 1 ∨ j = 2 ∨ j = 3 ∨ j = 4 ∨ j = 5) with e | e | e | e | e | e <;> subst e
      · exact j0.trans c2.symm
      · exact j1.trans c3.symm
      · exact j2.trans c4.symm
      · exact j3.trans c5.symm
      · exact j4.trans c6.symm
      · exact j5.trans c7.symm
    · rw [ho _ (by omega) (fun j' hj' => by omega), b3 (2 + j) l (by omega) z]
      exact a5 l (by omega) j hj6
  · rw [ho _ (by omega) (fun j' hj' => by omega), b2 9 (by unfold oK; omega)]
    exact a6 l hl
  · exact (a7 p (by omega)).re (fun j hj => ho _ (by omega) (fun j' hj' => by omega)) hr
  · rw [ho _ (by omega) (fun j' hj' => by omega)]
    exact a8 p (by omega) hp4
theorem NT.close {f : Nat → Int32} {m m' : MM} {l : Nat} (h : NT f m) (hw : WFa m) (hl : l < nlN m) (k : ∀ k, oK k ∧ k ≠ 45 ∧ k ≠ 9 → m' k = m k) (k9 : ∀ i, m' 9 i = if i = l then 1 else m 9 i) (hr : ReP m m') : NT (upF f (36 + 8 * l) 1) m' ∧ Kp m m' := by
  obtain ⟨⟨a1, a2, a3⟩, a4, a5, a6, a7, a8⟩ := h
  have n6 := hw.nh.2
  have n12 := hw.nl.2
  have e37 : nhN m' = nhN m := nhN_ext (k 37 (by unfold oK; omega))
  have e38 : nlN m' = nlN m := nlN_ext (k 38 (by unfold oK; omega))
  have e39 : npN m' = npN m := npN_ext (k 39 (by unfold oK; omega))
  refine ⟨⟨⟨by rw [upF_o (by omega), e37]; exact a1, by rw [upF_o (by omega), e38]; exact a2, by rw [upF_o (by omega), e39]; exact a3⟩, fun i hi => ?_, fun l' hl' j hj6 => ?_, fun l' hl' => ?_, fun p hp => ?_, fun p hp hp4 => ?_⟩, e37, by omega, k 0 (by unfold oK; omega)⟩
  · rw [e37] at hi
    rw [upF_o (by omega), upF_o (by omega), k 0 (by unfold oK; omega), k 1 (by unfold oK; omega)]
    exact a4 i hi
  · rw [upF_o (by omega), k (2 + j) (by unfold oK; omega)]
    exact a5 l' (by omega) j hj6
  · rw [k9]
    by_cases z : l' = l
    · rw [z, upF_s, if_pos rfl]
    · rw [if_neg z, upF_o (by omega)]
      exact a6 l' hl'
  · exact (a7 p (by omega)).re (fun j hj => upF_o (by omega)) hr
  · rw [upF_o (by omega)]
    exact a8 p (by omega) hp4
theorem NT.acc {f f' : Nat → Int32} {m m' : MM} {hb d vv sv : Int32} (h : NT f m) (hw : WFa m) (hnp : npN m < 40) (ha : AcP m m' hb d vv sv) (h2 : f' 2 = nI (npN m + 1)) (h0 : f' (140 + 12 * npN m) = vv) (h1 : f' (140 + 12 * npN m + 1) = sv) (hh2 : f' (140 + 12 * npN m + 2) = hb) (h3 : f' (140 + 12 * npN m + 3) = m 41 0) (h6 : f' (140 + 12 * npN m + 6) = 0) (h8 : f' (140 + 12 * npN m + 8) = if hb = d then m 41 0 else -1) (h9 : f' (140 + 12 * npN m + 9) = m 41 0) (h11 : f' (140 + 12 * npN m + 11) = -1)
    (ho : ∀ i, i ≠ 2 → (∀ j, j < 12 → j ≠ 10 → i ≠ 140 + 12 * npN m + j) → f' i = f i) : NT f' m' ∧ Kp m m' := by
  obtain ⟨⟨a1, a2, a3⟩, a4, a5, a6, a7, a8⟩ := h
  obtain ⟨b1, b2, b3, c11, c12, c13, c14, c15, c18, c25, c28, c21, c20, c19, c22, c24, c29⟩ := ha
  have n6 := hw.nh.2
  have n12 := hw.nl.2
  have e37 : nhN m' = nhN m := nhN_ext (b2 37 (by unfold oK; omega))
  have e38 : nlN m' = nlN m := nlN_ext (b2 38 (by unfold oK; omega))
  have e39 : npN m' = npN m + 1 := by show (m' 39 0).toNatClampNeg = _; rw [b1]; exact nI_clamp (by omega)
  refine ⟨⟨⟨by rw [ho 0 (by omega) (fun j _ _ => by omega), e37]; exact a1, by rw [ho 1 (by omega) (fun j _ _ => by omega), e38]; exact a2, by rw [h2, e39]⟩, fun i hi => ?_, fun l hl j hj6 => ?_, fun l hl => ?_, fun p hp => ?_, fun p hp hp4 => ?_⟩, e37, by omega, b2 0 (by unfold oK; omega)⟩
  · rw [e37] at hi
    rw [ho _ (by omega) (fun j _ _ => by omega), ho _ (by omega) (fun j _ _ => by omega), b2 0 (by unfold oK; omega), b2 1 (by unfold oK; omega)]
    exact a4 i hi
  · rw [ho _ (by omega) (fun j' _ _ => by omega), b2 (2 + j) (by unfold oK; omega)]
    exact a5 l (by omega) j hj6
  · rw [ho _ (by omega) (fun j' _ _ => by omega), b2 9 (by unfold oK; omega)]
    exact a6 l hl
  · by_cases z : p = npN m
    · subst z
      have h10 : f' (140 + 12 * npN m + 10) = 0 := (ho _ (by omega) (fun j _ _ => by omega)).trans (a8 _ (Nat.le_refl _) hnp)
      refine ⟨h0.trans c11.symm, h1.trans c12.symm, hh2.trans c13.symm, h3.trans c18.symm, fun z => absurd (c28.symm.trans z) (by decide), h6.trans c22.symm, h8.trans c21.symm, h9.trans c25.symm, h10.trans c24.symm, ?_⟩
      rw [c28, if_neg (by decide)]
      exact h11
    · exact (a7 p (by omega)).ext (fun j hj => ho _ (by omega) (fun j' _ _ => by omega)) (fun k hk _ => b3 k p hk z)
  · rw [ho _ (by omega) (fun j' _ _ => by omega)]
    exact a8 p (by omega) hp4
