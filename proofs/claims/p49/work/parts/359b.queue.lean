/-! the row of a line: counted, in order, put into bags -/
def sS (m : MM) (y : Int32) (F : Nat → Nat) : Nat → Nat → Nat → Nat
  | 0, _, a => a
  | k + 1, p, a => sS m y F k (p + 1) (if m 28 p = 115 ∧ m 19 p = y then a + F p else a)
theorem sS_ext {m M : MM} {y : Int32} {F : Nat → Nat} (e : M 28 = m 28 ∧ M 19 = m 19) : ∀ k p a, sS M y F k p a = sS m y F k p a := by
  intro k
  induction k with
  | zero => intro p a; rfl
  | succ k ih => intro p a; simp only [sS]; rw [ih, e.1, e.2]
theorem sS_add (m : MM) (y : Int32) (F : Nat → Nat) (x : Nat) : ∀ k p a, sS m y F k p (a + x) = sS m y F k p a + x := by
  intro k
  induction k with
  | zero => intro p a; rfl
  | succ k ih =>
    intro p a
    simp only [sS]
    split
    · rw [show a + x + F p = a + F p + x by omega]; exact ih _ _
    · exact ih _ _
theorem ins_sum {f g : Nat → Nat} {x r : Nat} (h1 : ∀ i, i < r → g i = f i) (h2 : g r = x) : ∀ k, (∀ i, r < i → i ≤ r + k → g i = f (i - 1)) → sumN g (r + k + 1) = sumN f (r + k) + x := by
  intro k
  induction k with
  | zero =>
    intro _
    show sumN g r + g r = sumN f r + x
    rw [h2, sumN_congr r h1]
  | succ k ih =>
    intro h3
    show sumN g (r + k + 1) + g (r + k + 1) = sumN f (r + k) + f (r + k) + x
    rw [ih (fun i a b => h3 i a (by omega)), h3 _ (by omega) (by omega), show r + k + 1 - 1 = r + k by omega]
    omega
theorem lin_sum (y : Int32) (F : Nat → Nat) : ∀ (k p n : Nat) (M : MM), p + k < 2 ^ 31 →
    sumN (fun j => F (vN ((linL y k p n M).2 36 j))) (linL y k p n M).1 = sS M y F k p (sumN (fun j => F (vN (M 36 j))) n) := by
  intro k
  induction k with
  | zero => intro p n M _; rfl
  | succ k ih =>
    intro p n M hp
    simp only [linL, sS]
    by_cases z : M 28 p = 115 ∧ M 19 p = y
    · rw [if_pos z, if_pos z, ih (p + 1) (n + 1) _ (by omega), sS_ext ⟨sink_key p n M (by omega), sink_key p n M (by omega)⟩]
      congr 1
      have hle := rpl_le M p n
      obtain ⟨d, hd⟩ : ∃ d, n = rpl M p n + d := ⟨n - rpl M p n, by omega⟩
      have q := ins_sum (f := fun j => F (vN (M 36 j))) (g := fun j => F (vN (sinkL p n M 36 j))) (x := F p) (r := rpl M p n) (fun i hi => by
        show F (vN (sinkL p n M 36 i)) = F (vN (M 36 i))
        rw [sink_36, if_pos hi]) (by
        show F (vN (sinkL p n M 36 (rpl M p n))) = F p
        rw [sink_36, if_neg (Nat.lt_irrefl _), if_pos rfl]
        show F (nI p).toNatClampNeg = F p
        rw [nI_clamp (by omega)]) d (fun i a b => by
        show F (vN (sinkL p n M 36 i)) = F (vN (M 36 (i - 1)))
        rw [sink_36, if_neg (by omega), if_neg (by omega), if_pos (by omega)])
      rw [← hd] at q
      exact q
    · rw [if_neg z, if_neg z]
      exact ih (p + 1) n M (by omega)
theorem lin_cnt (y : Int32) : ∀ (k p n : Nat) (M : MM), (linL y k p n M).1 = sS M y (fun _ => 1) k p n := by
  intro k
  induction k with
  | zero => intro p n M; rfl
  | succ k ih =>
    intro p n M
    simp only [linL, sS]
    split
    · rw [ih, sS_ext ⟨sink_key p n M (by omega), sink_key p n M (by omega)⟩]
    · exact ih _ _ _
theorem cnt_sS (m : MM) (y : Int32) : ∀ (k p a : Nat), cntW m y k p (nI a) = nI (sS m y (fun _ => 1) k p a) := by
  intro k
  induction k with
  | zero => intro p a; rfl
  | succ k ih =>
    intro p a
    simp only [cntW, sS]
    split
    · rw [nI_1]; exact ih _ _
    · rw [show nI a + 0 = nI a from Int32.add_zero _]; exact ih _ _
theorem waits_row (m : MM) (l : Nat) : waits m (nI l) = nI (rowC m l) := by
  unfold waits rowC fLin
  rw [lin_cnt]
  exact cnt_sS m (nI l) (npN m) 0 0
/-- the order by one number -/
def keyN (m : MM) (p : Nat) : Nat := (vN (m 12 p) * 2 ^ 21 + vN (prL m p)) * 64 + p
theorem ah_key {m : MM} {p q : Nat} (hp : IVp m p) (hq : IVp m q) (p4 : p < 40) (q4 : q < 40) : ahead m p q ↔ keyN m p < keyN m q := by
  obtain ⟨a, a1, a2⟩ : ∃ a, m 12 p = nI a ∧ a ≤ 2 := ⟨_, hp.2.2.2.1.1, hp.2.2.2.1.2.2⟩
  obtain ⟨b, b1, b2⟩ : ∃ a, m 12 q = nI a ∧ a ≤ 2 := ⟨_, hq.2.2.2.1.1, hq.2.2.2.1.2.2⟩
  obtain ⟨x, x1, x2⟩ : ∃ x, prL m p = nI x ∧ x ≤ 1000000 := (prL_nat hp).elim (fun z => ⟨_, z.2, Nat.le_refl _⟩) (fun ⟨x, h1, _, h2⟩ => ⟨x, h2, by omega⟩)
  obtain ⟨y, y1, y2⟩ : ∃ x, prL m q = nI x ∧ x ≤ 1000000 := (prL_nat hq).elim (fun z => ⟨_, z.2, Nat.le_refl _⟩) (fun ⟨x, h1, _, h2⟩ => ⟨x, h2, by omega⟩)
  have va : vN (nI a) = a := nI_clamp (by omega)
  have vb : vN (nI b) = b := nI_clamp (by omega)
  have vx : vN (nI x) = x := nI_clamp (by omega)
  have vy : vN (nI y) = y := nI_clamp (by omega)
  have s1 : m 12 p - m 12 q = 0 ↔ a = b := by rw [a1, b1]; exact nI_sb0 (by omega) (by omega)
  have s2 : m 12 p - m 12 q < 0 ↔ a < b := by rw [a1, b1]; exact nI_sbl (by omega) (by omega)
  have s3 : prL m p - prL m q = 0 ↔ x = y := by rw [x1, y1]; exact nI_sb0 (by omega) (by omega)
  have s4 : prL m p - prL m q < 0 ↔ x < y := by rw [x1, y1]; exact nI_sbl (by omega) (by omega)
  have e := ahL_eq hp hq
  rw [← bi_n0 (P := ahead m p q), ← e]
  unfold ahL keyN
  rw [a1, b1, x1, y1] at *
  rw [va, vb, vx, vy]
  by_cases z1 : a = b
  · rw [if_neg (fun w => w (s1.mpr z1))]
    by_cases z2 : x = y
    · rw [if_neg (fun w => w (s3.mpr z2)), bi_n0]; omega
    · rw [if_pos (fun w => z2 (s3.mp w)), bi_n0, s4]; omega
  · rw [if_pos (fun w => z1 (s1.mp w)), bi_n0, s2]; omega
/-- the row is in order -/
theorem rpl_spec {m M : MM} (e12 : M 12 = m 12) (e20 : M 20 = m 20) (hI : IV m) (n40 : npN m ≤ 40) {p : Nat} (hp : p < npN m) : ∀ n, (∀ i, i < n → ∃ v, v < p ∧ M 36 i = nI v) → (∀ i j, i < j → j < n → keyN m (vN (M 36 i)) < keyN m (vN (M 36 j))) →
    (∀ i, rpl M p n ≤ i → i < n → keyN m p < keyN m (vN (M 36 i))) ∧ ∀ i, i < rpl M p n → i < n → keyN m (vN (M 36 i)) < keyN m p := by
  intro n
  induction n with
  | zero => intro _ _; exact ⟨fun i _ h => absurd h (Nat.not_lt_zero _), fun i _ h => absurd h (Nat.not_lt_zero _)⟩
  | succ n ih =>
    intro h1 h2
    obtain ⟨v, v1, v2⟩ := h1 n (by omega)
    have ev : vN (M 36 n) = v := by rw [v2]; exact nI_clamp (by omega)
    obtain ⟨i1, i2⟩ := ih (fun i hi => h1 i (by omega)) (fun i j a b => h2 i j a (by omega))
    have hk : ahead M p (M 36 n).toNatClampNeg ↔ keyN m p < keyN m v := by
      rw [show (M 36 n).toNatClampNeg = v from ev, ahead_ext e12 e20]
      exact ah_key (hI p hp) (hI v (by omega)) (by omega) (by omega)
    have hne : ¬ keyN m p = keyN m v := fun z => by unfold keyN at z; omega
    simp only [rpl]
    by_cases z : ahead M p (M 36 n).toNatClampNeg
    · rw [if_pos z]
      have z2 := hk.mp z
      refine ⟨fun i a b => ?_, fun i a b => i2 i a (by have := rpl_le M p n; omega)⟩
      rcases Nat.lt_succ_iff_lt_or_eq.mp b with w | w
      · exact i1 i a w
      · rw [w, ev]; exact z2
    · rw [if_neg z]
      have z2 : keyN m v < keyN m p := Nat.lt_of_le_of_ne (Nat.le_of_not_lt (fun w => z (hk.mpr w))) (fun e => hne e.symm)
      refine ⟨fun i a b => absurd b (by omega), fun i _ b => ?_⟩
      rcases Nat.lt_succ_iff_lt_or_eq.mp b with w | w
      · have := h2 i n w (by omega)
        rw [ev] at this
        omega
      · rw [w, ev]; exact z2
theorem lin_sorted {m : MM} (hI : IV m) (n40 : npN m ≤ 40) (y : Int32) : ∀ (k p n : Nat) (M : MM), p + k = npN m → M 12 = m 12 → M 20 = m 20 → (∀ i, i < n → ∃ v, v < p ∧ M 36 i = nI v) → (∀ i j, i < j → j < n → keyN m (vN (M 36 i)) < keyN m (vN (M 36 j))) →
    ∀ i j, i < j → j < (linL y k p n M).1 → keyN m (vN ((linL y k p n M).2 36 i)) < keyN m (vN ((linL y k p n M).2 36 j)) := by
  intro k
  induction k with
  | zero => intro p n M _ _ _ _ h; exact h
  | succ k ih =>
    intro p n M hp e12 e20 h1 h2
    simp only [linL]
    by_cases z : M 28 p = 115 ∧ M 19 p = y
    · rw [if_pos z]
      obtain ⟨s1, s2⟩ := rpl_spec e12 e20 hI n40 (show p < npN m by omega) n h1 h2
      have hr := rpl_le M p n
      have vp : vN (nI p) = p := nI_clamp (by omega)
      refine ih (p + 1) (n + 1) _ (by omega) ((sink_key p n M (by omega)).trans e12) ((sink_key p n M (by omega)).trans e20) (fun i hi => ?_) (fun i j hij hj => ?_)
      · rw [sink_36]
        by_cases a : i < rpl M p n
        · rw [if_pos a]; obtain ⟨v, v1, v2⟩ := h1 i (by omega); exact ⟨v, by omega, v2⟩
        · rw [if_neg a]
          by_cases b : i = rpl M p n
          · rw [if_pos b]; exact ⟨p, by omega, rfl⟩
          · rw [if_neg b, if_pos (by omega)]; obtain ⟨v, v1, v2⟩ := h1 (i - 1) (by omega); exact ⟨v, by omega, v2⟩
      · rw [sink_36, sink_36]
        by_cases a : j < rpl M p n
        · rw [if_pos a, if_pos (show i < rpl M p n by omega)]; exact h2 i j hij (by omega)
        · rw [if_neg a]
          by_cases b : j = rpl M p n
          · rw [if_pos b, if_pos (show i < rpl M p n by omega), vp]; exact s2 i (by omega) (by omega)
          · rw [if_neg b, if_pos (show j ≤ n by omega)]
            by_cases a2 : i < rpl M p n
            · rw [if_pos a2]; exact h2 i (j - 1) (by omega) (by omega)
            · rw [if_neg a2]
              by_cases b2 : i = rpl M p n
              · rw [if_pos b2, vp]; exact s1 (j - 1) (by omega) (by omega)
              · rw [if_neg b2, if_pos (show i ≤ n by omega)]; exact h2 (i - 1) (j - 1) (by omega) (by omega)
    · rw [if_neg z]
      exact ih (p + 1) n M (by omega) e12 e20 (fun i hi => by obtain ⟨v, v1, v2⟩ := h1 i hi; exact ⟨v, by omega, v2⟩) h2
theorem row_ahead {n : Nat} {c m : MM} (h : Stt n c m) (hc : WFc c) {l r : Nat} (hl : l < nlN m) (hr : r + 1 < rowC m l) : ahL m (rowN m l r) (rowN m l (r + 1)) = 1 := by
  obtain ⟨⟨q, -⟩, -⟩ := h.row hc hl
  have n40 := h.2.1.np.2
  have h1 := (q r (by omega)).1
  have h2 := (q (r + 1) hr).1
  rw [ahL_eq (h.2.2 _ h1) (h.2.2 _ h2)]
  refine bi_t ((ah_key (h.2.2 _ h1) (h.2.2 _ h2) (by omega) (by omega)).mpr ?_)
  exact lin_sorted h.2.2 n40 (nI l) (npN m) 0 0 m (by omega) rfl rfl (fun i hi => absurd hi (Nat.not_lt_zero _)) (fun i j _ hj => absurd hj (Nat.not_lt_zero _)) r (r + 1) (by omega) hr
