/-! the queue at a line -/
def QK (c m : MM) : Prop := ∀ p, p < npN m → (c 28 p = m 28 p ∧ c 19 p = m 19 p ∧ c 12 p = m 12 p ∧ c 20 p = m 20 p) ∧ (m 20 p = -1 ∨ isN (m 20 p) 0 (2 ^ 24))
theorem QK.of {c m : MM} (h : ∀ p, p < npN m → SP c m p ∧ MP m p) : QK c m := fun p hp =>
  ⟨⟨(h p hp).1.1 28 rfl, (h p hp).1.1 19 rfl, (h p hp).1.1 12 rfl, (h p hp).1.1 20 rfl⟩, (h p hp).2.2.2.1⟩
theorem QK.ext {c m c' m' : MM} (h : QK c m) (e1 : ∀ k, k = 28 ∨ k = 19 ∨ k = 12 ∨ k = 20 → c' k = c k ∧ m' k = m k) (e39 : m' 39 = m 39) : QK c' m' := fun p hp => by
  rw [npN_ext e39] at hp
  obtain ⟨a1, a2⟩ := e1 28 (by omega)
  obtain ⟨b1, b2⟩ := e1 19 (by omega)
  obtain ⟨d1, d2⟩ := e1 12 (by omega)
  obtain ⟨f1, f2⟩ := e1 20 (by omega)
  rw [a1, a2, b1, b2, d1, d2, f1, f2]
  exact h p hp
theorem lb_ahead {c m : MM} (h : QK c m) (hn : npN m ≤ 40) {p q : Nat} (hp : p < npN m) (hq : q < npN m) : ¬ cLb c p q = 0 ↔ ahead m p q := by
  obtain ⟨⟨-, -, p12, p20⟩, pr⟩ := h p hp
  obtain ⟨⟨-, -, q12, q20⟩, qr⟩ := h q hq
  have l1 := m1_lt (by decide) qr
  have l2 := nn_lt (by decide) pr
  unfold cLb ahead
  rw [p12, p20, q12, q20]
  by_cases z1 : m 12 p = m 12 q
  · have y1 : ¬ ¬ m 12 p = m 12 q := fun w => w z1
    rw [if_neg y1, if_neg y1]
    by_cases z2 : m 20 p = m 20 q
    · have y2 : ¬ ¬ m 20 p = m 20 q := fun w => w z2
      rw [if_neg y2, if_neg y2, bi_n0, nI_ltI (by omega) (by omega)]
    · rw [if_pos z2, if_pos z2, bi_n0, l1, l2]
  · rw [if_pos z1, if_pos z1, bi_n0]
/-- the place of p in the reference's row -/
def rpl (m : MM) (p : Nat) : Nat → Nat
  | 0 => 0
  | k + 1 => if ahead m p (m 36 k).toNatClampNeg then rpl m p k else k + 1
theorem rpl_le (m : MM) (p : Nat) : ∀ k, rpl m p k ≤ k := by
  intro k
  induction k with
  | zero => exact Nat.le_refl 0
  | succ k ih =>
    simp only [rpl]
    split
    · omega
    · exact Nat.le_refl _
theorem ahead_ext {m m' : MM} (e12 : m' 12 = m 12) (e20 : m' 20 = m 20) (p q : Nat) : ahead m' p q ↔ ahead m p q := by
  unfold ahead
  rw [e12, e20]
theorem rpl_ext {m m' : MM} (e12 : m' 12 = m 12) (e20 : m' 20 = m 20) (p : Nat) : ∀ k, (∀ j, j < k → m' 36 j = m 36 j) → rpl m' p k = rpl m p k := by
  intro k
  induction k with
  | zero => intro _; rfl
  | succ k ih =>
    intro h
    simp only [rpl]
    rw [h k (by omega), ih (fun j hj => h j (by omega))]
    by_cases z : ahead m p (m 36 k).toNatClampNeg
    · rw [if_pos z, if_pos ((ahead_ext e12 e20 _ _).mpr z)]
    · rw [if_neg z, if_neg (fun w => z ((ahead_ext e12 e20 _ _).mp w))]
theorem sink_36 (p : Nat) : ∀ (k : Nat) (m : MM) (i : Nat), sinkL p k m 36 i = if i < rpl m p k then m 36 i else if i = rpl m p k then nI p else if i ≤ k then m 36 (i - 1) else m 36 i := by
  intro k
  induction k with
  | zero =>
    intro m i
    show up m 36 0 (nI p) 36 i = if i < 0 then _ else if i = 0 then _ else if i ≤ 0 then _ else _
    rw [if_neg (by omega)]
    by_cases z : i = 0
    · rw [z, up_s, if_pos rfl]
    · rw [up_i z, if_neg z, if_neg (by omega)]
  | succ k ih =>
    intro m i
    have e1 : sinkL p (k + 1) m = if ahead m p (m 36 k).toNatClampNeg then sinkL p k (up m 36 (k + 1) (m 36 k)) else up m 36 (k + 1) (nI p) := rfl
    have e2 : rpl m p (k + 1) = if ahead m p (m 36 k).toNatClampNeg then rpl m p k else k + 1 := rfl
    rw [e1, e2]
    by_cases z : ahead m p (m 36 k).toNatClampNeg
    · rw [if_pos z, if_pos z, ih, rpl_ext (up_key (by omega)) (up_key (by omega)) p k (fun j hj => up_i (by omega))]
      have hr := rpl_le m p k
      by_cases w : i < rpl m p k
      · rw [if_pos w, if_pos w, up_i (by omega)]
      · rw [if_neg w, if_neg w]
        by_cases w2 : i = rpl m p k
        · rw [if_pos w2, if_pos w2]
        · rw [if_neg w2, if_neg w2]
          by_cases w3 : i ≤ k
          · rw [if_pos w3, if_pos (by omega), up_i (by omega)]
          · rw [if_neg w3]
            by_cases w4 : i = k + 1
            · rw [if_pos (by omega), w4, up_s]
              rfl
            · rw [if_neg (by omega), up_i w4]
    · rw [if_neg z, if_neg z]
      by_cases w : i = k + 1
      · rw [w, up_s, if_neg (by omega), if_pos rfl]
      · rw [up_i w]
        by_cases w2 : i < k + 1
        · rw [if_pos w2]
        · rw [if_neg w2, if_neg w, if_neg (by omega)]
def QE (y : Int32) (b n : Nat) (c m : MM) : Prop := szN c 3 = n ∧ n ≤ b ∧ (∀ i, i < n → c 36 i = m 36 i ∧ ∃ v, v < b ∧ m 36 i = nI v ∧ m 28 v = 115 ∧ m 19 v = y) ∧ ∀ i j, i < j → j < n → ¬ m 36 i = m 36 j
theorem plc_eq {c m : MM} (h : QK c m) (hn : npN m ≤ 40) {p : Nat} (hp : p < npN m) : ∀ k, (∀ i, i < k → c 36 i = m 36 i ∧ ∃ v, v < npN m ∧ m 36 i = nI v) → cPlc c p k = rpl m p k := by
  intro k
  induction k with
  | zero => intro _; rfl
  | succ k ih =>
    intro hk
    obtain ⟨k1, v, k2, k3⟩ := hk k (by omega)
    have hl := lb_ahead h hn hp k2
    simp only [cPlc, rpl]
    rw [k1, k3, nI_clamp (by omega), ih (fun i hi => hk i (by omega))]
    by_cases z : ahead m p v
    · rw [if_pos z, if_pos (hl.mpr z)]
    · rw [if_neg z, if_neg (fun w => z (hl.mp w))]
theorem QE.one {y : Int32} {p n : Nat} {c m : MM} (h : QE y p n c m) (hk : QK c m) (hn : npN m ≤ 40) (hp : p < npN m) :
    (m 28 p = 115 ∧ m 19 p = y → QE y (p + 1) (n + 1) (cQu1 c y p) (sinkL p n m)) ∧ (¬ (m 28 p = 115 ∧ m 19 p = y) → cQu1 c y p = c ∧ QE y (p + 1) n c m) := by
  obtain ⟨h1, h2, h3, h4⟩ := h
  have hwf : ¬ cWf c p y = 0 ↔ m 28 p = 115 ∧ m 19 p = y := by
    unfold cWf
    rw [bi_n0, (hk p hp).1.1, (hk p hp).1.2.1]
  have hpl := plc_eq hk hn hp n (fun i hi => ⟨(h3 i hi).1, by obtain ⟨v, v1, v2, -⟩ := (h3 i hi).2; exact ⟨v, by omega, v2⟩⟩)
  have hr := rpl_le m p n
  constructor
  · intro z
    have ec : cQu1 c y p = cLq c 3 36 (rpl m p n) (nI p) := by
      unfold cQu1
      rw [if_pos (hwf.mpr z), h1, hpl]
    have s28 : sinkL p n m 28 = m 28 := sink_key p n m (by omega)
    have s19 : sinkL p n m 19 = m 19 := sink_key p n m (by omega)
    have c36 : ∀ i, cLq c 3 36 (rpl m p n) (nI p) 36 i = if i < rpl m p n then c 36 i else if i = rpl m p n then nI p else c 36 (i - 1) := fun i => by
      unfold cLq
      rw [if_neg (by omega), if_neg (by omega), if_pos rfl]
    -- what stands in the row
    have hv : ∀ i, i < n + 1 → (i < rpl m p n ∧ i < n ∧ sinkL p n m 36 i = m 36 i) ∨ (i = rpl m p n ∧ sinkL p n m 36 i = nI p) ∨ (rpl m p n < i ∧ i - 1 < n ∧ sinkL p n m 36 i = m 36 (i - 1)) := fun i hi => by
      rw [sink_36]
      by_cases w : i < rpl m p n
      · exact Or.inl ⟨w, by omega, by rw [if_pos w]⟩
      · by_cases w2 : i = rpl m p n
        · exact Or.inr (Or.inl ⟨w2, by rw [if_neg w, if_pos w2]⟩)
        · exact Or.inr (Or.inr ⟨by omega, by omega, by rw [if_neg w, if_neg w2, if_pos (by omega)]⟩)
    have hne : ∀ i, i < n → ¬ m 36 i = nI p := fun i hi q => by
      obtain ⟨v, v1, v2, -⟩ := (h3 i hi).2
      rw [v2, nI_eq (by omega) (by omega)] at q
      omega
    rw [ec]
    refine ⟨by rw [cLq_sz (by omega), h1], by omega, fun i hi => ?_, fun i j hij hj => ?_⟩
    · rw [c36, s28, s19]
      rcases hv i hi with ⟨w, w2, e⟩ | ⟨w, e⟩ | ⟨w, w2, e⟩
      · obtain ⟨g1, v, v1, v2, v3⟩ := h3 i w2
        rw [if_pos w, e]
        exact ⟨g1, v, by omega, v2, v3⟩
      · rw [if_neg (by omega), if_pos w, e]
        exact ⟨rfl, p, by omega, rfl, z⟩
      · obtain ⟨g1, v, v1, v2, v3⟩ := h3 (i - 1) w2
        rw [if_neg (by omega), if_neg (by omega), e]
        exact ⟨g1, v, by omega, v2, v3⟩
    · rcases hv i (by omega) with ⟨w, w2, e⟩ | ⟨w, e⟩ | ⟨w, w2, e⟩
      · rcases hv j hj with ⟨x, x2, f⟩ | ⟨x, f⟩ | ⟨x, x2, f⟩
        · rw [e, f]; exact h4 i j hij x2
        · rw [e, f]; exact hne i w2
        · rw [e, f]; exact h4 i (j - 1) (by omega) x2
      · rcases hv j hj with ⟨x, x2, f⟩ | ⟨x, f⟩ | ⟨x, x2, f⟩
        · omega
        · omega
        · rw [e, f]; exact fun q => hne (j - 1) x2 q.symm
      · rcases hv j hj with ⟨x, x2, f⟩ | ⟨x, f⟩ | ⟨x, x2, f⟩
        · omega
        · omega
        · rw [e, f]; exact h4 (i - 1) (j - 1) (by omega) x2
  · intro z
    refine ⟨by unfold cQu1; exact if_neg (fun w => z (hwf.mp w)), h1, by omega, fun i hi => ?_, h4⟩
    obtain ⟨g1, v, v1, v2⟩ := h3 i hi
    exact ⟨g1, v, by omega, v2⟩
theorem QE.all {y : Int32} : ∀ (k p n : Nat) (c m : MM), QE y p n c m → QK c m → npN m ≤ 40 → p + k = npN m → QE y (p + k) (linL y k p n m).1 (cQuL y k p c) (linL y k p n m).2 := by
  intro k
  induction k with
  | zero => intro p n c m h _ _ _; exact h
  | succ k ih =>
    intro p n c m h hk hn hp
    obtain ⟨o1, o2⟩ := h.one hk hn (show p < npN m by omega)
    have e1 : cQuL y (k + 1) p c = cQuL y k (p + 1) (cQu1 c y p) := rfl
    have e2 : linL y (k + 1) p n m = if m 28 p = 115 ∧ m 19 p = y then linL y k (p + 1) (n + 1) (sinkL p n m) else linL y k (p + 1) n m := rfl
    rw [e1, e2, show p + (k + 1) = p + 1 + k by omega]
    by_cases z : m 28 p = 115 ∧ m 19 p = y
    · rw [if_pos z]
      have e39 : sinkL p n m 39 = m 39 := sink_key p n m (by omega)
      refine ih (p + 1) (n + 1) _ _ (o1 z) (hk.ext (fun k hk => ⟨cQu1_key c y p (by omega) (by omega) (by omega), sink_key p n m (by omega)⟩) e39) (by rw [npN_ext e39]; exact hn) (by rw [npN_ext e39]; omega)
    · rw [if_neg z]
      obtain ⟨q1, q2⟩ := o2 z
      rw [q1]
      exact ih (p + 1) n c m q2 hk hn (by omega)
theorem QE.full {c m : MM} (hk : QK c m) (hn : npN m ≤ 40) (e3 : npN c = npN m) (y : Int32) : QE y (npN m) (fLin m y).1 (cQu c y) (fLin m y).2 := by
  have h0 : QE y 0 0 (up c 171 3 0) m := ⟨by unfold szN; rw [up_s]; rfl, Nat.le_refl _, fun i hi => absurd hi (Nat.not_lt_zero _), fun i j _ hj => absurd hj (Nat.not_lt_zero _)⟩
  have q := QE.all (npN m) 0 0 (up c 171 3 0) m h0 (hk.ext (fun k hk => ⟨up_key (by omega), rfl⟩) rfl) hn (by omega)
  rw [Nat.zero_add] at q
  unfold cQu fLin
  rw [e3]
  exact q
theorem cQu1_171 (u : MM) (y : Int32) (p : Nat) {q : Nat} (h : q ≠ 3) : cQu1 u y p 171 q = u 171 q := by
  unfold cQu1
  split
  · unfold cLq
    rw [if_neg (by omega), if_neg (by omega), if_neg (by omega)]
  · rfl
theorem cQuL_171 (y : Int32) {q : Nat} (h : q ≠ 3) : ∀ (k p : Nat) (u : MM), cQuL y k p u 171 q = u 171 q := by
  intro k
  induction k with
  | zero => intro p u; rfl
  | succ k ih => intro p u; simp only [cQuL]; rw [ih, cQu1_171 u y p h]
theorem cQu_171 (u : MM) (y : Int32) {q : Nat} (h : q ≠ 3) : cQu u y 171 q = u 171 q := by
  unfold cQu
  rw [cQuL_171 y h, up_i h]
theorem Sim.queue {n : Nat} {c m : MM} (h : Sim n c m) (hw : WFa m) (y : Int32) : Sim n (cQu c y) (fLin m y).2 :=
  h.ext (fun k hk => cQu_key c y (by unfold cK at hk; omega) (by unfold cK at hk; omega) (by unfold cK at hk; omega)) (fun p => cQu_171 c y (by omega)) (fun k hk => (fLin_ok hw y).2.1 (by unfold mK at hk; omega))
theorem call_waitingAt {n : Nat} {c m : MM} (h : Sim n c m) (hw : WFa m) (hc : WFc c) (x i : Int32) : CallOK n [nseC, iobC] (cWt c x) (xWat c x i) (cQu c x 36 i.toNatClampNeg) (fWaA m x i) := by
  have np40 := hw.np.2
  rcases ln_cases h hw hc x with ⟨z, hX, hf⟩ | ⟨z, hX, hf⟩
  · have h1 := h.thr 0 1
    have w1 : WFa (thr m 0 1) := hw.thr 0 1
    obtain ⟨N, hN⟩ : ∃ q, q = thr m 0 1 := ⟨_, rfl⟩
    rw [← hN] at hf h1 w1
    have n3 : npN N = npN m := by rw [hN]; exact npN_ext (thrk m 0 1 (by omega))
    have hq := QE.full (QK.of h1.1.2.2.1) (by omega) (by rw [n3]; exact h.1.1.1.2.2) x
    obtain ⟨q1, q2, q3, -⟩ := hq
    have hS := h1.queue w1 x
    have hL : fWaA m x i = (if ¬ bi (¬ inn i 0 (nI (fLin N x).1 - 1) = true) = 0 then 0 else (fLin N x).2 36 i.toNatClampNeg, thr (fLin N x).2 (bi (¬ inn i 0 (nI (fLin N x).1 - 1) = true)) 2) := by
      unfold fWaA; simp only; rw [hf]; dsimp only; rw [if_neg (fun q => q rfl)]
    have hX2 : xWat c x i = if i < 0 ∨ ¬ i < nI (fLin N x).1 then some iobC else none := by
      unfold xWat; rw [hX, q1]; rfl
    have hcw : cWt c x = cQu c x := by unfold cWt; rw [if_pos hX]
    rw [hL, hX2, hcw]
    have e45 : (fLin N x).2 45 = N 45 := (fLin_ok w1 x).2.1 (by omega)
    generalize (fLin N x).1 = k at *
    generalize (fLin N x).2 = M at *
    have hin := inn_iff (x := i) (n := k) (by omega)
    by_cases y : vp_in i k
    · obtain ⟨j, hj, ej⟩ := vp_in_of y (by omega)
      have b0 : bi (¬ inn i 0 (nI k - 1) = true) = 0 := bi_f (fun q => q (hin.mpr y))
      have y0 : ¬ (i < 0 ∨ ¬ i < nI k) := fun q => q.elim (by rw [ej]; exact nI_pos (by omega)) (fun w => w (by rw [ej]; exact nI_lt hj (by omega)))
      rw [b0, if_neg (show ¬ ¬ (0 : Int32) = 0 from fun q => q rfl), if_neg y0]
      refine CallOK.ask (by dsimp only; rw [thr45]; rfl) (fun _ => ?_) (hS.thr _ _)
      dsimp only
      rw [ej, nI_clamp (by omega)]
      exact (q3 j hj).1
    · have b1 : bi (¬ inn i 0 (nI k - 1) = true) = 1 := bi_t (fun q => y (hin.mp q))
      rw [b1, if_pos (show ¬ (1 : Int32) = 0 by decide), if_pos (Classical.byContradiction (fun q => y (vp_of (by omega) (fun w => q (Or.inl w)) (Classical.byContradiction (fun w => q (Or.inr w))))))]
      exact CallOK.ask (by dsimp only; rw [thr45]; exact kod_1.2.2.2.2.symm) (fun q => (nomatch q)) (hS.thr _ _)
  · have e : fWaA m x i = (0, thr m 1 1) := by unfold fWaA; simp only; rw [hf]; dsimp only; rw [if_pos (by decide)]
    have hX2 : xWat c x i = some nseC := by unfold xWat; rw [hX]; rfl
    have hcw : cWt c x = c := by unfold cWt; rw [hX]; exact if_neg (fun q => (nomatch q))
    rw [e, hX2, hcw]
    exact CallOK.ask (by dsimp only; rw [thr45]; exact kod_1.2.2.2.1.symm) (fun q => (nomatch q)) (h.thr _ _)

