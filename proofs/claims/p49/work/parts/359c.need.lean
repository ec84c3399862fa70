/-! how many bags a row needs -/
theorem bgK_fit (m : MM) (g : Nat → Int32) (p : Nat) : ∀ (n k : Nat), bgK m g p n k < k + n → g (1 + 2 * bgK m g p n k) = m 14 p ∧ ¬ 12 < g (2 + 2 * bgK m g p n k) + m 11 p := by
  intro n
  induction n with
  | zero => intro k h; exact absurd h (by simp [bgK])
  | succ n ih =>
    intro k h
    simp only [bgK] at h ⊢
    by_cases z : ¬ g (1 + 2 * k) = m 14 p ∨ 12 < g (2 + 2 * k) + m 11 p
    · rw [if_pos z] at h ⊢
      exact ih (k + 1) (by omega)
    · rw [if_neg z]
      exact ⟨Classical.byContradiction (fun q => z (Or.inl q)), fun q => z (Or.inr q)⟩
def volF (m : MM) (h : Nat) (p : Nat) : Nat := if vN (m 14 p) = h then vN (m 11 p) else 0
def BgV (m : MM) (l r : Nat) (g : Nat → Int32) (b : Nat) : Prop := ∃ D W : Nat → Nat, (∀ k, k < b → g (1 + 2 * k) = nI (D k) ∧ g (2 + 2 * k) = nI (W k) ∧ 1 ≤ W k ∧ W k ≤ 12 ∧ D k < nhN m) ∧ ∀ h, sumN (fun k => if D k = h then W k else 0) b = sumN (fun j => volF m h (rowN m l j)) r
theorem BgV.put {m M : MM} {l r b p : Nat} {g : Nat → Int32} (h : BgV m l r g b) (hg : BgR g M b) (hb : b ≤ 40) (hp : rowN m l r = p) (n6 : nhN m ≤ 6) (h14 : vp_in (m 14 p) (nhN m)) (h11 : isN (m 11 p) 1 9) : BgV m l (r + 1) (bgPut m p 45 g) (if bgF m g p = b then b + 1 else b) := by
  obtain ⟨D, W, h1, h2⟩ := h
  obtain ⟨d, d1, d2⟩ : ∃ d, m 14 p = nI d ∧ d < nhN m := ⟨_, vp_nI h14 (by omega), vp_nat h14⟩
  obtain ⟨v, v1, v2, v3⟩ : ∃ v, m 11 p = nI v ∧ 1 ≤ v ∧ v ≤ 9 := ⟨_, h11.1, h11.2.1, h11.2.2⟩
  have ed : vN (m 14 p) = d := by rw [d1]; exact nI_clamp (by omega)
  have ev : vN (m 11 p) = v := by rw [v1]; exact nI_clamp (by omega)
  have hle := bgF_le m g p
  obtain ⟨n1, n2⟩ := hg.nb
  have hfit := bgK_fit m g p (bgN9 g) 0
  obtain ⟨g0, g1, g2, g3, g4⟩ := hg
  have hF : bgK m g p (bgN9 g) 0 = bgF m g p := rfl
  rw [hF] at hfit
  unfold bgPut
  generalize bgF m g p = k at *
  rw [n1] at hle hfit ⊢
  have h45 : k < 45 := by omega
  rw [if_pos h45, if_pos h45]
  have hs : ∀ h, sumN (fun j => volF m h (rowN m l j)) (r + 1) = sumN (fun j => volF m h (rowN m l j)) r + if d = h then v else 0 := fun h => by
    show sumN (fun j => volF m h (rowN m l j)) r + volF m h (rowN m l r) = _
    unfold volF
    rw [hp, ed, ev]
  by_cases z : k = b
  · subst z
    rw [if_pos ⟨h45, rfl⟩, if_pos rfl]
    refine ⟨fun i => if i = k then d else D i, fun i => if i = k then v else W i, fun i hi => ?_, fun h => ?_⟩
    · by_cases w : i = k
      · subst w
        dsimp only
        rw [if_pos rfl, if_pos rfl, upF_o (by omega), upF_s, upF_s, g4 i (Nat.le_refl _)]
        exact ⟨d1, by rw [v1]; exact Int32.zero_add _, v2, by omega, d2⟩
      · dsimp only
        rw [if_neg w, if_neg w, upF_o (by omega), upF_o (by omega), upF_o (by omega), upF_o (by omega), upF_o (by omega), upF_o (by omega)]
        exact h1 i (by omega)
    · rw [hs h, ← h2 h]
      show sumN _ k + (if (if k = k then d else D k) = h then (if k = k then v else W k) else 0) = _
      rw [if_pos rfl, if_pos rfl]
      congr 1
      refine sumN_congr k (fun i hi => ?_)
      have w : ¬ i = k := by omega
      simp only [w, if_false]
  · obtain ⟨f1, f2⟩ := hfit (by omega)
    rw [if_neg (fun w => z w.2), if_neg z]
    obtain ⟨a1, a2, a3, a4, a5⟩ := h1 k (by omega)
    have ek : D k = d := by rw [a1, d1, nI_eq (by omega) (by omega)] at f1; exact f1
    have ew : W k + v ≤ 12 := by
      rw [a2, v1, nI_add, show (12 : Int32) = nI 12 from rfl, nI_ltI (by omega) (by omega)] at f2
      omega
    refine ⟨D, fun i => if i = k then W k + v else W i, fun i hi => ?_, fun h => ?_⟩
    · by_cases w : i = k
      · subst w
        dsimp only
        rw [if_pos rfl, upF_o (by omega), upF_s, upF_s, a2, v1, nI_add, ek]
        exact ⟨d1, rfl, by omega, ew, by omega⟩
      · dsimp only
        rw [if_neg w, upF_o (by omega), upF_o (by omega), upF_o (by omega), upF_o (by omega), upF_o (by omega), upF_o (by omega)]
        exact h1 i hi
    · rw [hs h, ← h2 h]
      have q := sumN_pt (f := fun i => if D i = h then W i else 0) (g := fun i => if D i = h then (if i = k then W k + v else W i) else 0) (j := k) (fun i hi => by
        show (if D i = h then (if i = k then W k + v else W i) else 0) = if D i = h then W i else 0
        rw [if_neg hi]) (by
        show (if D k = h then W k else 0) ≤ if D k = h then (if k = k then W k + v else W k) else 0
        rw [if_pos rfl]
        split
        · omega
        · omega) b
      rw [if_pos (show k < b by omega)] at q
      rw [q, ek]
      congr 1
      rw [if_pos rfl]
      split
      · omega
      · rfl
theorem need_all {m : MM} {l : Nat} (hI : IV m) (hM : ∀ p, p < npN m → MP m p) (n6 : nhN m ≤ 6) (hr : RowI m l) (hr40 : rowC m l ≤ 40) (n40 : npN m ≤ 40) : ∀ (k r b : Nat) (M : MM) (g R : Nat → Int32), r + k = rowC m l → BgR g M b → b ≤ r → (∀ i, i < rowC m l → M 36 i = nI (rowN m l i)) → M 14 = m 14 → M 11 = m 11 → BgV m l r g b →
    (bgN k r 1 M).1 = 1 ∧ ∃ b', b' ≤ rowC m l ∧ BgR (bgL m (-1) l 45 k r (g, R)).1 (bgN k r 1 M).2 b' ∧ BgV m l (rowC m l) (bgL m (-1) l 45 k r (g, R)).1 b' := by
  intro k
  induction k with
  | zero =>
    intro r b M g R hk hg hb _ _ _ hV
    have e : r = rowC m l := by omega
    subst e
    exact ⟨rfl, b, hb, hg, hV⟩
  | succ k ih =>
    intro r b M g R hk hg hb h36 h14 h11 hV
    obtain ⟨r1, r2, r3, r4⟩ := hr.1 r (by omega)
    have e36 : (M 36 r).toNatClampNeg = rowN m l r := by
      rw [h36 r (by omega)]
      exact nI_clamp (by omega)
    have eB : bgL m (-1) l 45 (k + 1) r (g, R) = bgL m (-1) l 45 k (r + 1) (if bgC m (-1) l (rowN m l r) then bgS m l 45 (rowN m l r) (g, R) else (g, R)) := rfl
    have eN : bgN (k + 1) r 1 M = bgN k (r + 1) (1 &&& (fPut M (M 36 r).toNatClampNeg 40).1) (fPut M (M 36 r).toNatClampNeg 40).2 := rfl
    rw [eB, eN, e36, if_pos (Or.inl (by decide) : bgC m (-1) l (rowN m l r))]
    have e14 : M 14 (rowN m l r) = m 14 (rowN m l r) := by rw [h14]
    have e11 : M 11 (rowN m l r) = m 11 (rowN m l r) := by rw [h11]
    have hle := bgF_le m g (rowN m l r)
    rw [hg.nb.1] at hle
    obtain ⟨f1, b', b1, b2, b3, b4, b5⟩ := bgPut_in (mo := 40) (most := 45) hg e14 e11 (by omega) (by omega) (by omega) (by omega)
    have hV2 := hV.put hg (by omega) rfl n6 (hM _ r1).1.2.1 (hI _ r1).2.2.1
    have eb : (if bgF m g (rowN m l r) = b then b + 1 else b) = b' := by
      by_cases z : bgF m g (rowN m l r) = b
      · rw [if_pos z]
        -- the number of bags by the row itself
        have : bgPut m (rowN m l r) 45 g 0 = nI (b + 1) := by
          unfold bgPut
          rw [upF_o (by omega), upF_o (by omega), upF_s, hg.nb.1, if_pos ⟨by omega, z⟩, z]
        rw [b5.2.1, nI_eq (by have := b5.1; omega) (by omega)] at this
        exact this.symm
      · rw [if_neg z]
        have := fun w => z (b3 w)
        omega
    rw [eb] at hV2
    have kk : ∀ j, j ≠ 34 ∧ j ≠ 35 ∧ j ≠ 44 → (fPut M (rowN m l r) 40).2 j = M j := fun j hj => put_key M _ _ hj
    have e40 : (40 : Int32) = nI 40 := rfl
    rw [e40] at kk ⊢
    rw [f1, show (1 : Int32) &&& 1 = 1 by decide]
    exact ih (r + 1) b' _ _ _ (by omega) b5 (by omega) (fun i hi => by rw [kk 36 (by omega)]; exact h36 i hi) (by rw [kk 14 (by omega)]; exact h14) (by rw [kk 11 (by omega)]; exact h11) hV2
/-! how many it needs at least -/
theorem sumN_single (d : Nat) : ∀ n, sumN (fun h => if d = h then 1 else 0) n = if d < n then 1 else 0 := by
  intro n
  induction n with
  | zero => rfl
  | succ n ih =>
    show sumN (fun h => if d = h then 1 else 0) n + (if d = n then 1 else 0) = _
    rw [ih]
    by_cases z : d < n
    · rw [if_pos z, if_neg (by omega), if_pos (by omega)]
    · by_cases w : d = n
      · rw [if_neg z, if_pos w, if_pos (by omega)]
      · rw [if_neg z, if_neg w, if_neg (by omega)]
theorem sumN_swap (D : Nat → Nat) (n : Nat) : ∀ b, (∀ k, k < b → D k < n) → sumN (fun h => sumN (fun k => if D k = h then 1 else 0) b) n = b := by
  intro b
  induction b with
  | zero =>
    intro _
    have := sumN_congr (f := fun h => sumN (fun k => if D k = h then 1 else 0) 0) (g := fun _ => 0) n (fun _ _ => rfl)
    rw [this]
    have z := sumN_mul (fun _ => 1) 0 n
    simpa using z
  | succ b ih =>
    intro h
    have e : sumN (fun h => sumN (fun k => if D k = h then 1 else 0) (b + 1)) n = sumN (fun h => sumN (fun k => if D k = h then 1 else 0) b + (if D b = h then 1 else 0)) n := rfl
    rw [e, sumN_add (fun h => sumN (fun k => if D k = h then 1 else 0) b) (fun h => if D b = h then 1 else 0), ih (fun k hk => h k (by omega)), sumN_single, if_pos (h b (by omega))]
theorem sumN_ge {f : Nat → Nat} {j : Nat} : ∀ n, j < n → f j ≤ sumN f n := by
  intro n
  induction n with
  | zero => intro h; omega
  | succ n ih =>
    intro h
    show f j ≤ sumN f n + f n
    by_cases z : j = n
    · subst z; omega
    · have := ih (by omega); omega
theorem vol_sS {m M : MM} (e : M 28 = m 28 ∧ M 19 = m 19 ∧ M 14 = m 14 ∧ M 11 = m 11) (y : Int32) {h : Nat} (hh : h < 6) : ∀ (k p a : Nat), (∀ q, q < p + k → vp_in (m 14 q) 6 ∧ isN (m 11 q) 1 9) → volL M y (nI h) k p (nI a) = nI (sS m y (volF m h) k p a) := by
  intro k
  induction k with
  | zero => intro p a _; rfl
  | succ k ih =>
    intro p a hq
    obtain ⟨q1, q2⟩ := hq p (by omega)
    simp only [volL, sS]
    rw [e.1, e.2.1, e.2.2.1, e.2.2.2]
    have e14 := vp_nI q1 (by omega)
    have hv := vp_nat q1
    have hc : m 14 p = nI h ↔ vN (m 14 p) = h := by
      constructor
      · intro z; rw [z]; exact nI_clamp (by omega)
      · intro z; rw [e14]; show nI (vN (m 14 p)) = nI h; rw [z]
    by_cases z : m 28 p = 115 ∧ m 19 p = y
    · rw [if_pos z]
      by_cases w : m 14 p = nI h
      · rw [if_pos ⟨z.1, z.2, w⟩, show m 11 p = nI (vN (m 11 p)) from q2.1, nI_add, ih _ _ (fun q hq' => hq q (by omega))]
        congr 2
        unfold volF
        rw [if_pos (hc.mp w)]
      · rw [if_neg (fun y => w y.2.2), show nI a + 0 = nI a from Int32.add_zero _, ih _ _ (fun q hq' => hq q (by omega))]
        congr 2
        unfold volF
        rw [if_neg (fun y => w (hc.mpr y))]
        rfl
    · rw [if_neg z, if_neg (fun y => z ⟨y.1, y.2.1⟩), show nI a + 0 = nI a from Int32.add_zero _]
      exact ih _ _ (fun q hq' => hq q (by omega))
theorem bgA_sum {m M : MM} (e : M 28 = m 28 ∧ M 19 = m 19 ∧ M 14 = m 14 ∧ M 11 = m 11) (n3 : npN M = npN m) {y : Int32} (hq : ∀ q, q < npN m → vp_in (m 14 q) 6 ∧ isN (m 11 q) 1 9) (hV : ∀ h, sS m y (volF m h) (npN m) 0 0 < 2 ^ 20) : ∀ (k h a : Nat), h + k ≤ 6 → bgA M y k h (nI a) = nI (a + (sumN (fun i => (sS m y (volF m i) (npN m) 0 0 + 11) / 12) (h + k) - sumN (fun i => (sS m y (volF m i) (npN m) 0 0 + 11) / 12) h)) := by
  intro k
  induction k with
  | zero => intro h a _; show nI a = _; congr 1; rw [Nat.add_zero]; omega
  | succ k ih =>
    intro h a hk
    have e1 : bgA M y (k + 1) h (nI a) = bgA M y k (h + 1) (nI a + (volL M y (nI h) (npN M) 0 (nI 0) + 12 - 1) / 12) := rfl
    have hv := hV h
    rw [e1, n3, vol_sS e y (by omega) (npN m) 0 0 (fun q hq' => hq q (by omega)), show (12 : Int32) = nI 12 from rfl, nI_add, show (1 : Int32) = nI 1 from rfl, nI_sub (by omega), nI_div (by omega) (by omega), nI_add, ih (h + 1) _ (by omega)]
    congr 1
    have s1 : sumN (fun i => (sS m y (volF m i) (npN m) 0 0 + 11) / 12) (h + 1) = sumN (fun i => (sS m y (volF m i) (npN m) 0 0 + 11) / 12) h + (sS m y (volF m h) (npN m) 0 0 + 11) / 12 := rfl
    have s2 : ∀ j, sumN (fun i => (sS m y (volF m i) (npN m) 0 0 + 11) / 12) (h + 1) ≤ sumN (fun i => (sS m y (volF m i) (npN m) 0 0 + 11) / 12) (h + 1 + j) := by
      intro j
      induction j with
      | zero => exact Nat.le_refl _
      | succ j ihj => exact Nat.le_trans ihj (Nat.le_add_right _ _)
    have s3 := s2 k
    rw [show h + (k + 1) = h + 1 + k by omega]
    rw [show sS m y (volF m h) (npN m) 0 0 + 12 - 1 = sS m y (volF m h) (npN m) 0 0 + 11 by omega]
    omega
theorem need_eq {n : Nat} {c m : MM} (h : Stt n c m) (hc : WFc c) {l : Nat} (hl : l < nlN m) (R : Nat → Int32) : ∃ b, b ≤ 40 ∧ (bgAll m (-1) l 45 R).1 0 = nI b ∧ (fBgN m (nI l)).1 = nI b ∧ ∃ a, a ≤ b ∧ (fBgA m (nI l)).1 = nI a ∧ (a = 0 ↔ b = 0) := by
  obtain ⟨hr, hrC⟩ := h.row hc hl
  obtain ⟨hS, hw, hI⟩ := h
  have n40 := hw.np.2
  have n6 := hw.nh.2
  have nl12 := hw.nl.2
  have hMP : ∀ p, p < npN m → MP m p := fun p hp => (hS.1.2.2.1 p hp).2
  -- the call finds the line
  have hno : fNoLine m (nI l) = (0, thr m 0 1) := by
    unfold fNoLine
    rw [bi_f (fun q => q (hw.isLn.mpr (vp_in_nI hl (by omega))))]
  obtain ⟨N, hN⟩ : ∃ N, N = thr m 0 1 := ⟨_, rfl⟩
  have kN : ∀ k, k ≠ 45 → N k = m k := fun k hk => by rw [hN, thrk _ _ _ hk]
  have wN : WFa N := by rw [hN]; exact hw.thr _ _
  have n3 : npN N = npN m := npN_ext (kN 39 (by omega))
  have q := lin_ex2 (y := nI l) (N := npN m) (by omega) (npN m) 0 0 N m (by omega) (fun q _ => ⟨by rw [kN 28 (by omega), kN 19 (by omega)], by rw [kN 12 (by omega)], by rw [kN 20 (by omega)]⟩) (fun j hj => absurd hj (Nat.not_lt_zero _))
  have qr : (fLin N (nI l)).1 = rowC m l ∧ ∀ i, i < rowC m l → (fLin N (nI l)).2 36 i = nI (rowN m l i) := by
    refine ⟨by unfold fLin rowC; rw [n3]; exact q.1, fun i hi => ?_⟩
    rw [← (hr.1 i hi).2.1]
    unfold fLin
    rw [n3]
    exact q.2 i hi
  obtain ⟨X, hX⟩ : ∃ X, X = up (fLin N (nI l)).2 44 0 0 := ⟨_, rfl⟩
  have kX : ∀ k, k ≠ 45 → k ≠ 36 → k ≠ 44 → X k = m k := fun k a b d => by rw [hX, up_key d, (fLin_ok wN (nI l)).2.1 b, kN k a]
  obtain ⟨a1, b, b1, b2, b3⟩ := need_all hI hMP n6 hr (by omega) n40 (rowC m l) 0 0 X (fun _ => 0) R (by omega) (BgR.zero (by rw [hX, up_s])) (Nat.le_refl _) (fun i hi => by rw [hX, up_k (by omega)]; exact qr.2 i hi) (kX 14 (by omega) (by omega) (by omega)) (kX 11 (by omega) (by omega) (by omega)) ⟨fun _ => 0, fun _ => 0, fun k hk => absurd hk (Nat.not_lt_zero _), fun _ => rfl⟩
  have eN : (fBgN m (nI l)).1 = nI b := by
    unfold fBgN
    simp only
    rw [hno]
    dsimp only
    rw [if_neg (show ¬ ¬ (0 : Int32) = 0 from fun q => q rfl), ← hN, qr.1, ← hX]
    dsimp only
    rw [a1, if_pos (by decide)]
    exact b2.2.2.1
  refine ⟨b, by omega, b2.2.1, eN, ?_⟩
  -- at least
  obtain ⟨D, W, v1, v2⟩ := b3
  have hq : ∀ q, q < npN m → vp_in (m 14 q) 6 ∧ isN (m 11 q) 1 9 := fun q hq => ⟨vp_mono (hMP q hq).1.2.1 n6, (hI q hq).2.2.1⟩
  have hVs : ∀ h, sS m (nI l) (volF m h) (npN m) 0 0 = sumN (fun k => if D k = h then W k else 0) b := fun h => by
    rw [v2 h]
    have := lin_sum (nI l) (volF m h) (npN m) 0 0 m (by omega)
    exact this.symm
  have hW : ∀ h, sumN (fun k => if D k = h then W k else 0) b ≤ 12 * sumN (fun k => if D k = h then 1 else 0) b := fun h => by
    rw [Nat.mul_comm, ← sumN_mul (fun k => if D k = h then 1 else 0) 12 b]
    refine sumN_mono b (fun k hk => ?_)
    have := (v1 k hk).2.2.2.1
    show (if D k = h then W k else 0) ≤ (if D k = h then 1 else 0) * 12
    split <;> omega
  have hN1 : ∀ h, sumN (fun k => if D k = h then 1 else 0) b ≤ b := fun h => by
    have := sumN_mono (f := fun k => if D k = h then 1 else 0) (g := fun _ => 1) b (fun k _ => by show (if D k = h then 1 else 0) ≤ 1; split <;> omega)
    rw [sumN_one] at this
    exact this
  have hsum : sumN (fun i => (sS m (nI l) (volF m i) (npN m) 0 0 + 11) / 12) (nhN m) ≤ b := by
    have e := sumN_swap D (nhN m) b (fun k hk => (v1 k hk).2.2.2.2)
    have : sumN (fun i => (sS m (nI l) (volF m i) (npN m) 0 0 + 11) / 12) (nhN m) ≤ sumN (fun h => sumN (fun k => if D k = h then 1 else 0) b) (nhN m) := sumN_mono _ (fun h _ => by
      have a := hW h
      rw [← hVs h] at a
      show (sS m (nI l) (volF m h) (npN m) 0 0 + 11) / 12 ≤ sumN (fun k => if D k = h then 1 else 0) b
      omega)
    omega
  refine ⟨sumN (fun i => (sS m (nI l) (volF m i) (npN m) 0 0 + 11) / 12) (nhN m), hsum, ?_, ?_⟩
  · have e := bgA_sum (m := m) (M := N) (y := nI l) ⟨kN 28 (by omega), kN 19 (by omega), kN 14 (by omega), kN 11 (by omega)⟩ n3 hq (fun h => by
      have a := hW h
      have a2 := hN1 h
      rw [← hVs h] at a
      omega) (nhN m) 0 0 (by omega)
    unfold fBgA
    simp only
    rw [hno]
    dsimp only
    rw [if_neg (show ¬ ¬ (0 : Int32) = 0 from fun q => q rfl), ← hN, show nhN N = nhN m from nhN_ext (kN 37 (by omega))]
    rw [show bgA N (nI l) (nhN m) 0 0 = bgA N (nI l) (nhN m) 0 (nI 0) from rfl, e]
    congr 1
    rw [Nat.zero_add, Nat.zero_add]
    rfl
  · constructor
    · intro z
      refine Classical.byContradiction (fun w => ?_)
      obtain ⟨-, -, w1, -, w2⟩ := v1 0 (by omega)
      have s1 := sumN_ge (f := fun k => if D k = D 0 then W k else 0) (j := 0) b (by omega)
      rw [← hVs (D 0), show (if D 0 = D 0 then W 0 else 0) = W 0 from if_pos rfl] at s1
      have s2 := sumN_ge (f := fun i => (sS m (nI l) (volF m i) (npN m) 0 0 + 11) / 12) (j := D 0) (nhN m) w2
      rw [z] at s2
      have s3 : (sS m (nI l) (volF m (D 0)) (npN m) 0 0 + 11) / 12 ≤ 0 := s2
      omega
    · intro z; omega
