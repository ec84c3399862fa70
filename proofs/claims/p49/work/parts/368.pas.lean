/-! the class's state behind the lines of a minute, and the law's numbers behind it -/
def pasC (m : MM) (now : Int32) : Nat → MM → MM
  | 0, c => c
  | l + 1, c => if m 9 l = 0 ∧ lvs m l now = now then wtI l (rowC m l) (ordC l (rowC m l) (pasC m now l c)) else ordC l (rowC m l) (pasC m now l c)
theorem lg_pas1 (m : MM) (now : Int32) (l : Nat) (c : MM) : LG (ordC l (rowC m l) (pasC m now l c)) (pasC m now (l + 1) c) := LG.ite (fun _ => lg_wtI l _) (fun _ => LG.refl _)
theorem lg_pas (m : MM) (now : Int32) (c : MM) (l : Nat) : ∀ k, LG (pasC m now l c) (pasC m now (l + k) c)
  | 0 => LG.refl _
  | k + 1 => ((lg_pas m now c l k).trans lg_ord0).trans (lg_pas1 m now (l + k) c)
theorem pas_le {m : MM} {now : Int32} {c : MM} (hc : LW c) {l k : Nat} (h : l ≤ k) : UC (pasC m now l c) ≤ UC (pasC m now k c) ∧ US (pasC m now l c) ≤ US (pasC m now k c) := by
  obtain ⟨d, rfl⟩ : ∃ d, k = l + d := ⟨k - l, by omega⟩
  have h0 : LW (pasC m now l c) := by
    have := lg_pas m now c 0 l hc
    rw [Nat.zero_add] at this
    exact this.1
  exact (lg_pas m now c l d).leU h0
theorem pas_le1 {m : MM} {now : Int32} {c : MM} (hc : LW c) {l k : Nat} (h : l < k) : UC (ordC l (rowC m l) (pasC m now l c)) ≤ UC (pasC m now k c) ∧ US (ordC l (rowC m l) (pasC m now l c)) ≤ US (pasC m now k c) := by
  have h0 : LW (pasC m now l c) := by
    have := lg_pas m now c 0 l hc
    rw [Nat.zero_add] at this
    exact this.1
  have g1 := (lg_pas1 m now l c).leU (lg_ord0 (l := l) (n := rowC m l) h0).1
  have g2 := pas_le (m := m) (now := now) hc (show l + 1 ≤ k by omega)
  omega
theorem dueN_le (m : MM) (now : Int32) : ∀ (k p a : Nat), dueN m now k p a ≤ a + k := by
  intro k
  induction k with
  | zero => intro p a; exact Nat.le_refl _
  | succ k ih =>
    intro p a
    simp only [dueN]
    split
    · have := ih (p + 1) (a + 1); omega
    · have := ih (p + 1) a; omega
/-- the law's row of a parcel behind a minute -/
theorem NP.min {f f' : Nat → Int32} {m M : MM} {p : Nat} {now r : Int32} (h : NP f m p) (hT : PaT m now r M p) (e : ∀ j, j < 12 → j ≠ 4 → j ≠ 5 → j ≠ 10 → f' (140 + 12 * p + j) = f (140 + 12 * p + j)) (h45 : M 28 p = 116 → f' (140 + 12 * p + 4) = M 17 p ∧ f' (140 + 12 * p + 5) = M 16 p) (h10 : f' (140 + 12 * p + 10) = M 24 p) (h28 : M 28 p = 100 ↔ m 28 p = 100) : NP f' M p := by
  obtain ⟨a0, a1, a2, a3, a4, a6, a8, a9, a10, a11⟩ := h
  have t := hT.1
  have e0 : f' (140 + 12 * p) = f (140 + 12 * p) := e 0 (by omega) (by omega) (by omega) (by omega)
  refine ⟨?_, ?_, ?_, ?_, h45, ?_, ?_, ?_, h10, ?_⟩
  · rw [e0, t 11 (by unfold pKp; omega) (by omega)]; exact a0
  · rw [e 1 (by omega) (by omega) (by omega) (by omega), t 12 (by unfold pKp; omega) (by omega)]; exact a1
  · rw [e 2 (by omega) (by omega) (by omega) (by omega), t 13 (by unfold pKp; omega) (by omega)]; exact a2
  · rw [e 3 (by omega) (by omega) (by omega) (by omega), t 18 (by unfold pKp; omega) (by omega)]; exact a3
  · rw [e 6 (by omega) (by omega) (by omega) (by omega), t 22 (by unfold pKp; omega) (by omega)]; exact a6
  · rw [e 8 (by omega) (by omega) (by omega) (by omega), t 21 (by unfold pKp; omega) (by omega)]; exact a8
  · rw [e 9 (by omega) (by omega) (by omega) (by omega), t 25 (by unfold pKp; omega) (by omega)]; exact a9
  · rw [e 11 (by omega) (by omega) (by omega) (by omega), t 26 (by unfold pKp; omega) (by omega), a11]
    by_cases z : m 28 p = 100
    · rw [if_pos z, if_pos (h28.mpr z)]
    · rw [if_neg z, if_neg (fun y => z (h28.mp y))]
/-- the whole row -/
theorem NT.min {f f' : Nat → Int32} {m M : MM} {now : Int32} {R : Nat → Int32} (h : NT f m) (hw : WFa m) (hT : MinT m now R M) (hlow : ∀ i, i < 140 → f' i = f i) (hhi : ∀ i, 140 + 12 * npN m ≤ i → f' i = f i) (hp : ∀ p, p < npN m → NP f' M p) : NT f' M := by
  obtain ⟨⟨a1, a2, a3⟩, a4, a5, a6, a7, a8⟩ := h
  have k := hT.1
  have e37 : nhN M = nhN m := nhN_ext (k 37 (Or.inr (Or.inr (by omega))))
  have e38 : nlN M = nlN m := nlN_ext (k 38 (Or.inr (Or.inr (by omega))))
  have e39 : npN M = npN m := npN_ext (k 39 (Or.inr (Or.inr (by omega))))
  have n6 := hw.nh.2
  have n12 := hw.nl.2
  refine ⟨⟨by rw [hlow 0 (by omega), e37]; exact a1, by rw [hlow 1 (by omega), e38]; exact a2, by rw [hlow 2 (by omega), e39]; exact a3⟩, fun i hi => ?_, fun l hl j hj => ?_, fun l hl => ?_, fun p hpp => hp p (by omega), fun p hpp hp4 => ?_⟩
  · rw [e37] at hi
    rw [hlow _ (by omega), hlow _ (by omega), k 0 (Or.inl (by omega)), k 1 (Or.inl (by omega))]
    exact a4 i hi
  · rw [e38] at hl
    rw [hlow _ (by omega), k (2 + j) (Or.inl (by omega))]
    exact a5 l hl j hj
  · rw [hlow _ (by omega), k 9 (Or.inr (Or.inl rfl))]
    exact a6 l hl
  · rw [e39] at hpp
    rw [hhi _ (by omega)]
    exact a8 p hpp hp4
def pasZ (m : MM) (v : Nat) (c : MM) : MM := (cPsL (nI 1).toNatClampNeg 0 (pasC m (nI (v + 1)) (nlN m) c)).2
theorem PaT.cA {m M : MM} {now : Int32} {l p : Nat} (h : PaT m now (nI (1 + l)) M p) (hl : l < 12) (h28 : m 28 p = 115) : M 28 p = nI 116 ∧ M 16 p = nI l ∧ M 17 p = now + m 6 l ∧ M 24 p = m 24 p + nI 0 := by
  have r1 : (0 : Int32) < nI (1 + l) := by rw [show (0 : Int32) = nI 0 from rfl, nI_ltI (by omega) (by omega)]; omega
  have r2 : nI (1 + l) - 1 = nI l := by rw [show (1 : Int32) = nI 1 from rfl, nI_sub (by omega)]; congr 1; omega
  have r3 : ¬ nI (1 + l) < 0 := fun y => by rw [show (0 : Int32) = nI 0 from rfl, nI_ltI (by omega) (by omega)] at y; omega
  obtain ⟨-, h2, h3, h4, h5, -, -⟩ := h
  rw [if_pos r1] at h2 h3 h4
  rw [if_neg r3] at h5
  rw [r2] at h3 h4
  rw [show vN (nI l) = l from nI_clamp (by omega)] at h4
  exact ⟨h2, h3, h4, h5.trans (Int32.add_zero _).symm⟩
theorem PaT.cB {m M : MM} {now : Int32} {p : Nat} (h : PaT m now (-1) M p) (h28 : m 28 p = 115) : M 28 p = nI 115 ∧ M 24 p = m 24 p + nI 1 ∧ M 19 p = bHd (plR M p) := by
  obtain ⟨-, h2, h3, h4, h5, -, h7⟩ := h
  rw [if_neg (by decide), if_neg (due_no h28)] at h2
  rw [if_pos (by decide)] at h5 h7
  exact ⟨h2.trans h28, h5, h7⟩
theorem PaT.cC {m M : MM} {now : Int32} {p : Nat} (h : PaT m now 0 M p) (hd : m 28 p = 116 ∧ m 17 p = now) : M 28 p = nI 117 ∧ M 24 p = m 24 p + nI 0 ∧ M 15 p = m 3 (vN (m 16 p)) := by
  obtain ⟨-, h2, h3, h4, h5, h6, h7⟩ := h
  rw [if_neg (by decide), if_pos hd] at h2
  rw [if_neg (by decide)] at h5
  rw [if_pos hd] at h6
  exact ⟨h2, h5.trans (Int32.add_zero _).symm, h6⟩
theorem PaT.cD {m M : MM} {now : Int32} {p : Nat} (h : PaT m now 0 M p) (hd : ¬ (m 28 p = 116 ∧ m 17 p = now)) : M 28 p = m 28 p ∧ M 24 p = m 24 p + nI 0 ∧ M 16 p = m 16 p ∧ M 17 p = m 17 p := by
  obtain ⟨-, h2, h3, h4, h5, h6, h7⟩ := h
  rw [if_neg (by decide), if_neg hd] at h2
  rw [if_neg (by decide)] at h3 h4 h5
  exact ⟨h2, h5.trans (Int32.add_zero _).symm, h3, h4⟩
/-- what stays of hubs and lines -/
def Kp (m m' : MM) : Prop := nhN m' = nhN m ∧ nlN m ≤ nlN m' ∧ m' 0 = m 0
