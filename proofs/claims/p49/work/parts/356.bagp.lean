/-! the law's bagging beside the reference's -/
theorem upF_s (f : Nat → Int32) (i : Nat) (x : Int32) : upF f i x i = x := if_pos rfl
theorem upF_o {f : Nat → Int32} {i j : Nat} {x : Int32} (h : j ≠ i) : upF f i x j = f j := if_neg h
def bgK (m : MM) (g : Nat → Int32) (p : Nat) : Nat → Nat → Nat
  | 0, k => k
  | n + 1, k => if ¬ g (1 + 2 * k) = m 14 p ∨ 12 < g (2 + 2 * k) + m 11 p then bgK m g p n (k + 1) else k
def bgN9 (g : Nat → Int32) : Nat := vN (g 0)
def bgF (m : MM) (g : Nat → Int32) (p : Nat) : Nat := bgK m g p (bgN9 g) 0
def bgPut (m : MM) (p most : Nat) (g : Nat → Int32) : Nat → Int32 :=
  upF (upF (upF g 0 (if bgF m g p < most ∧ bgF m g p = bgN9 g then nI (bgF m g p + 1) else g 0)) (1 + 2 * bgF m g p) (if bgF m g p < most then m 14 p else 0)) (2 + 2 * bgF m g p) (g (2 + 2 * bgF m g p) + if bgF m g p < most then m 11 p else 0)
theorem bgK_le (m : MM) (g : Nat → Int32) (p : Nat) : ∀ (n k : Nat), bgK m g p n k ≤ k + n := by
  intro n
  induction n with
  | zero => intro k; exact Nat.le_refl _
  | succ n ih =>
    intro k
    simp only [bgK]
    split
    · have := ih (k + 1); omega
    · omega
theorem bgF_le (m : MM) (g : Nat → Int32) (p : Nat) : bgF m g p ≤ bgN9 g := by
  have := bgK_le m g p (bgN9 g) 0
  unfold bgF; omega
def BgR (g : Nat → Int32) (M : MM) (b : Nat) : Prop := b ≤ 45 ∧ g 0 = nI b ∧ M 44 0 = nI b ∧ (∀ k, k < b → g (1 + 2 * k) = M 34 k ∧ g (2 + 2 * k) = M 35 k) ∧ ∀ k, b ≤ k → g (2 + 2 * k) = 0
theorem BgR.nb {g : Nat → Int32} {M : MM} {b : Nat} (h : BgR g M b) : bgN9 g = b ∧ bagsN M = b := by
  obtain ⟨h0, h1, h2, -, -⟩ := h
  unfold bgN9 bagsN
  rw [h1, h2]
  exact ⟨nI_clamp (by omega), nI_clamp (by omega)⟩
theorem BgR.ext {g : Nat → Int32} {M M' : MM} {b : Nat} (h : BgR g M b) (e : ∀ k, k = 34 ∨ k = 35 ∨ k = 44 → M' k = M k) : BgR g M' b := by
  obtain ⟨h0, h1, h2, h3, h4⟩ := h
  exact ⟨h0, h1, by rw [e 44 (by omega)]; exact h2, fun k hk => by rw [e 34 (by omega), e 35 (by omega)]; exact h3 k hk, h4⟩
theorem bgK_eq {g : Nat → Int32} {M m : MM} {b p : Nat} (h : BgR g M b) (e14 : M 14 p = m 14 p) (e11 : M 11 p = m 11 p) : ∀ (n k : Nat), k + n = b → bgK m g p n k = bagL M p n k := by
  intro n
  induction n with
  | zero => intro k _; rfl
  | succ n ih =>
    intro k hk
    obtain ⟨h3, h4⟩ := h.2.2.2.1 k (by omega)
    simp only [bgK, bagL]
    rw [h3, h4, e14, e11, ih (k + 1) (by omega)]
theorem bgF_eq {g : Nat → Int32} {M m : MM} {b p : Nat} (h : BgR g M b) (e14 : M 14 p = m 14 p) (e11 : M 11 p = m 11 p) : bagL M p (bagsN M) 0 = bgF m g p := by
  unfold bgF
  rw [h.nb.1, h.nb.2, bgK_eq h e14 e11 b 0 (by omega)]
theorem bagL_fit (M : MM) (p : Nat) : ∀ (n k : Nat), bagL M p n k < k + n → M 34 (bagL M p n k) = M 14 p := by
  intro n
  induction n with
  | zero => intro k h; exact absurd h (by simp [bagL])
  | succ n ih =>
    intro k h
    simp only [bagL] at h ⊢
    by_cases z : ¬ M 34 k = M 14 p ∨ 12 < M 35 k + M 11 p
    · rw [if_pos z] at h ⊢
      exact ih (k + 1) (by omega)
    · rw [if_neg z] at h ⊢
      exact Classical.byContradiction (fun q => z (Or.inl q))
/-- a parcel finds its bag -/
theorem bgPut_in {g : Nat → Int32} {M m : MM} {b p most mo : Nat} (h : BgR g M b) (e14 : M 14 p = m 14 p) (e11 : M 11 p = m 11 p) (hk : bgF m g p < most) (hb : bgF m g p < b ∨ b < mo) (hmo : mo ≤ 2 ^ 20) (hm45 : most ≤ 45) :
    (fPut M p (nI mo)).1 = 1 ∧ ∃ b', b ≤ b' ∧ b' ≤ b + 1 ∧ (b < b' → bgF m g p = b) ∧ 0 < b' ∧ BgR (bgPut m p most g) (fPut M p (nI mo)).2 b' := by
  have hF := bgF_eq h e14 e11
  have hfit := bagL_fit M p (bagsN M) 0
  have hle := bgF_le m g p
  obtain ⟨n1, n2⟩ := h.nb
  rw [hF] at hfit
  obtain ⟨h0, h1, h2, h3, h4⟩ := h
  unfold bgPut fPut
  simp only
  rw [hF]
  generalize bgF m g p = k at *
  rw [n1] at hle ⊢
  rw [n2] at hfit ⊢
  rw [if_pos hk, if_pos hk]
  by_cases z : k = b
  · subst z
    have hbm : k < mo := hb.resolve_left (fun w => Nat.lt_irrefl _ w)
    rw [if_pos rfl, if_neg (by rw [h2, nI_eq (by omega) (by omega)]; omega), if_pos ⟨hk, rfl⟩]
    dsimp only
    refine ⟨rfl, k + 1, by omega, by omega, fun _ => rfl, by omega, by omega, ?_, ?_, fun j hj => ?_, fun j hj => ?_⟩
    · rw [upF_o (by omega), upF_o (by omega), upF_s]
    · rw [up_k (by omega), up_s, h2, nI_1]
    · by_cases w : j = k
      · subst w
        rw [upF_o (by omega), upF_s, upF_s, h4 j (Nat.le_refl _)]
        simp [up, e14, e11]
      · obtain ⟨a1, a2⟩ := h3 j (by omega)
        rw [upF_o (by omega), upF_o (by omega), upF_o (by omega), upF_o (by omega), upF_o (by omega), upF_o (by omega), a1, a2]
        simp [up, w]
    · rw [upF_o (by omega), upF_o (by omega), upF_o (by omega)]
      exact h4 j (by omega)
  · have hfit2 := hfit (by omega)
    rw [if_neg z, if_neg (fun w => z w.2)]
    dsimp only
    refine ⟨rfl, b, by omega, by omega, fun w => absurd w (Nat.lt_irrefl _), by omega, h0, ?_, ?_, fun j hj => ?_, fun j hj => ?_⟩
    · rw [upF_o (by omega), upF_o (by omega), upF_s, h1]
    · rw [up_k (by omega), h2]
    · by_cases w : j = k
      · subst w
        rw [upF_o (by omega), upF_s, upF_s, (h3 j hj).2, up_k (by omega), hfit2, up_s, e14, e11]
        exact ⟨rfl, rfl⟩
      · obtain ⟨a1, a2⟩ := h3 j (by omega)
        rw [upF_o (by omega), upF_o (by omega), upF_o (by omega), upF_o (by omega), upF_o (by omega), upF_o (by omega), a1, a2, up_k (by omega), up_i w]
        exact ⟨rfl, rfl⟩
    · rw [upF_o (by omega), upF_o (by omega), upF_o (by omega)]
      exact h4 j (by omega)
/-- none takes it -/
theorem bgPut_out {g : Nat → Int32} {M m : MM} {b p most : Nat} (h : BgR g M b) (e14 : M 14 p = m 14 p) (e11 : M 11 p = m 11 p) (hk : ¬ bgF m g p < most) (hb : b ≤ most) (hm45 : most ≤ 45) :
    fPut M p (nI most) = (0, M) ∧ BgR (bgPut m p most g) M b := by
  have hF := bgF_eq h e14 e11
  have hle := bgF_le m g p
  obtain ⟨n1, n2⟩ := h.nb
  obtain ⟨h0, h1, h2, h3, h4⟩ := h
  unfold bgPut fPut
  simp only
  rw [hF]
  generalize bgF m g p = k at *
  rw [n1] at hle ⊢
  rw [n2]
  have z : k = b := by omega
  have z2 : b = most := by omega
  subst z
  rw [if_pos rfl, if_pos (by rw [h2, z2]), if_neg hk, if_neg hk, if_neg (fun w => hk w.1)]
  refine ⟨rfl, h0, ?_, h2, fun j hj => ?_, fun j hj => ?_⟩
  · rw [upF_o (by omega), upF_o (by omega), upF_s, h1]
  · obtain ⟨a1, a2⟩ := h3 j (by omega)
    rw [upF_o (by omega), upF_o (by omega), upF_o (by omega), upF_o (by omega), upF_o (by omega), upF_o (by omega), a1, a2]
    exact ⟨rfl, rfl⟩
  · by_cases w : j = k
    · subst w
      rw [upF_s, h4 j (Nat.le_refl _)]
      rfl
    · rw [upF_o (by omega), upF_o (by omega), upF_o (by omega)]
      exact h4 j (by omega)
/-- one parcel; the parcels of a row -/
def bgS (m : MM) (l most p : Nat) (x : (Nat → Int32) × (Nat → Int32)) : (Nat → Int32) × (Nat → Int32) := (bgPut m p most x.1, upF x.2 p (if bgF m x.1 p < most then nI (1 + l) else -1))
abbrev bgC (m : MM) (mi : Int32) (l p : Nat) : Prop := mi < 0 ∨ m 1 (vN (m 2 l)) ≤ mi - m 18 p
def rowN (m : MM) (l r : Nat) : Nat := vN ((fLin m (nI l)).2 36 r)
def rowC (m : MM) (l : Nat) : Nat := (fLin m (nI l)).1
def bgL (m : MM) (mi : Int32) (l most : Nat) : Nat → Nat → (Nat → Int32) × (Nat → Int32) → (Nat → Int32) × (Nat → Int32)
  | 0, _, x => x
  | k + 1, r, x => bgL m mi l most k (r + 1) (if bgC m mi l (rowN m l r) then bgS m l most (rowN m l r) x else x)
def bgAll (m : MM) (mi : Int32) (l most : Nat) (R : Nat → Int32) : (Nat → Int32) × (Nat → Int32) := bgL m mi l most (rowC m l) 0 (fun _ => 0, R)
theorem BgR.zero {M : MM} (h : M 44 0 = 0) : BgR (fun _ => 0) M 0 := ⟨by omega, rfl, h, fun k hk => absurd hk (Nat.not_lt_zero _), fun _ _ => rfl⟩
