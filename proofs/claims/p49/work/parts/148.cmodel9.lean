theorem QuV.qu1 {u : MM} {y : Int32} {p : Nat} (h : QuV u) (hs : szN u 3 < 1000) (hp : p < npN u) (hn : npN u ≤ 40) : QuV (cQu1 u y p) := by
  have e3 : npN (cQu1 u y p) = npN u := npN_ext (cQu1_key u y p (by omega) (by omega) (by omega))
  intro k hk
  rw [e3]
  unfold cQu1 at hk ⊢
  split at hk
  · rename_i z
    rw [if_pos z]
    rw [cLq_sz hs] at hk
    have hi := cPlc_le u p (szN u 3)
    show vp_in ((if (36 : Nat) = 171 ∧ k = 3 then _ else if (36 : Nat) = 172 ∧ k = 3 then _ else if (36 : Nat) = 36 then (if k < _ then u 36 k else if k = _ then nI p else u 36 (k - 1)) else u 36 k)) (npN u)
    rw [if_neg (by omega), if_neg (by omega), if_pos rfl]
    split
    · exact h k (by omega)
    · split
      · exact vp_in_nI hp (by omega)
      · exact h (k - 1) (by omega)
  · rename_i z
    rw [if_neg z]; exact h k hk
theorem QuV.quL (y : Int32) : ∀ (n p : Nat) {u : MM}, QuV u → npN u ≤ 40 → p + n ≤ npN u → szN u 3 + n ≤ 1000 → QuV (cQuL y n p u) := by
  intro n
  induction n with
  | zero => intro p u h _ _ _; exact h
  | succ n ih =>
    intro p u h hn hp hs
    have e3 : npN (cQu1 u y p) = npN u := npN_ext (cQu1_key u y p (by omega) (by omega) (by omega))
    have a := (cQu1_s (y := y) (p := p) (show szN u 3 < 1000 by omega)).1
    simp only [cQuL]
    exact ih (p + 1) (h.qu1 (by omega) (by omega) hn) (by rw [e3]; exact hn) (by rw [e3]; omega) (by omega)
theorem QuV.qu {u : MM} (y : Int32) (hn : npN u ≤ 40) : QuV (cQu u y) := by
  have e0 : szN (up u 171 3 0) 3 = 0 := by unfold szN; rw [up_s]; rfl
  have e3 : npN (up u 171 3 0) = npN u := npN_up (by omega)
  unfold cQu
  exact QuV.quL y _ _ (fun k hk => by omega) (by omega) (by omega) (by omega)
theorem cLt_g {u : MM} (h : LW u) (l : Nat) (hs : szN u 4 + 40 ≤ 1000) : LG u (cLt u l) ∧ szN (cLt u l) 4 ≤ szN u 4 + 40 := by
  obtain ⟨a1, a2, a3⟩ := cQu_s (u := u) (nI l) h.1
  obtain ⟨b1, -, -, -, b5⟩ := a1 h
  have hnp := h.1
  have h4 := a3 4 (by omega)
  obtain ⟨c1, c2⟩ := cLtL_q l (szN (cQu u (nI l)) 3) 0 1 (QuV.qu (nI l) h.1) (by omega) b1 (by omega) (by omega)
  unfold cLt
  exact ⟨a1.trans c1, by omega⟩
def cLdT1 (u : MM) (l : Nat) : MM := if ¬ cLvn u l (u 41 0) = 0 then cLt u l else u
def cLdTL : Nat → Nat → MM → MM
  | 0, _, u => u
  | k + 1, l, u => cLdTL k (l + 1) (cLdT1 u l)
def cLfL : Nat → Nat → MM → MM
  | 0, _, u => u
  | k + 1, i, u => cLfL k (i + 1) (cPlan u (u 176 i).toNatClampNeg)
def cLds (u : MM) : MM := cLfL (szN (cLdTL (nlN u) 0 (up u 171 4 0)) 4) 0 (cLdTL (nlN u) 0 (up u 171 4 0))
theorem LG.lfL : ∀ (k i : Nat) {u : MM}, LG u (cLfL k i u) := by
  intro k
  induction k with
  | zero => intro i u; exact LG.refl u
  | succ k ih => intro i u; simp only [cLfL]; exact LG.plan.trans (ih (i + 1))
theorem cLdT1_g {u : MM} (h : LW u) (l : Nat) (hs : szN u 4 + 40 ≤ 1000) : LG u (cLdT1 u l) ∧ szN (cLdT1 u l) 4 ≤ szN u 4 + 40 := by
  unfold cLdT1
  split
  · exact cLt_g h l hs
  · exact ⟨LG.refl u, by omega⟩
theorem cLdTL_g : ∀ (k l : Nat) {u : MM}, LW u → szN u 4 + 40 * k ≤ 1000 → LG u (cLdTL k l u) := by
  intro k
  induction k with
  | zero => intro l u _ _; exact LG.refl u
  | succ k ih =>
    intro l u h hs
    obtain ⟨a1, a2⟩ := cLdT1_g h l (by omega)
    simp only [cLdTL]
    exact a1.trans (ih (l + 1) (a1 h).1 (by omega))
theorem sz_clr (u : MM) (q : Nat) : szN (up u 171 q 0) q = 0 := by unfold szN; rw [up_s]; rfl
theorem LG.lds {u : MM} (hn : nlN u ≤ 12) : LG u (cLds u) := fun h => by
  have a : LG u (up u 171 4 0) := LG.clr (Or.inr rfl)
  unfold cLds
  exact (a.trans ((cLdTL_g (nlN u) 0 (a h).1 (by rw [sz_clr]; omega)).trans (LG.lfL _ _))) h
def cPs1 (u : MM) : Int32 × MM := ((cUnld (up u 41 0 (u 41 0 + 1))).1, cLds (cUnld (up u 41 0 (u 41 0 + 1))).2)
def cPsL : Nat → Int32 → MM → Int32 × MM
  | 0, n, u => (n, u)
  | k + 1, n, u => cPsL k (n + (cPs1 u).1) (cPs1 u).2
theorem LG.ps1 {u : MM} (hn : nlN u ≤ 12) : LG u (cPs1 u).2 := fun h => by
  have a : LG u (cUnld (up u 41 0 (u 41 0 + 1))).2 := (LG.upk (by unfold kSz; decide)).trans LG.unld
  exact (a.trans (LG.lds (by rw [(a h).2.2.2.1]; exact hn))) h
theorem LG.psL : ∀ (k : Nat) (n : Int32) {u : MM}, nlN u ≤ 12 → LG u (cPsL k n u).2 := by
  intro k
  induction k with
  | zero => intro n u _; exact LG.refl u
  | succ k ih =>
    intro n u hn h
    simp only [cPsL]
    have b := (LG.ps1 hn) h
    exact ((LG.ps1 hn).trans (ih _ (by rw [b.2.2.2.1]; exact hn))) h
def xPas (x : Int32) : Option String := if inn x 1 120 = true then none else some iaeC
def xWat (u : MM) (x i : Int32) : Option String := xo (xLn u x) (if i < 0 ∨ ¬ i < nI (szN (cQu u x) 3) then some iobC else none)
def cWt (u : MM) (x : Int32) : MM := if xLn u x = none then cQu u x else u
theorem LG.wt {u : MM} {x : Int32} : LG u (cWt u x) := LG.ite (fun _ => LG.qu) (fun _ => LG.refl u)
def cBnL : Nat → Nat → MM → MM
  | 0, _, u => u
  | k + 1, j, u => cBnL k (j + 1) (cPut u 12 40 (u 36 j).toNatClampNeg 40).2
def cBn (u : MM) (x : Int32) : MM := if xLn u x = none then cBnL (szN (cQu u x) 3) 0 (up (cQu u x) 8 12 0) else u
theorem LG.bnL : ∀ (k j : Nat) {u : MM}, LG u (cBnL k j u) := by
  intro k
  induction k with
  | zero => intro j u; exact LG.refl u
  | succ k ih => intro j u; simp only [cBnL]; exact LG.put.trans (ih (j + 1))
theorem inn_nI {x : Int32} (h : inn x 1 120 = true) : ∃ n, n ≤ 120 ∧ x = nI n := by
  unfold inn at h
  simp only [Bool.and_eq_true, Bool.not_eq_true', decide_eq_false_iff_not, Int32.not_lt] at h
  obtain ⟨n, hn, e⟩ := nI_of (x := x) (Int32.not_lt.mpr (Int32.le_trans (by decide) h.1))
  refine ⟨n, ?_, e⟩
  have h2 := h.2
  rw [e] at h2
  exact Decidable.byContradiction fun z => nI_ge (show 120 < n by omega) hn h2

