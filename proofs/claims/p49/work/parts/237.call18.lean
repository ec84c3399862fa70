/-! bags: a parcel goes into a bag -/
def BR (q : Nat) (c m : MM) (b : Nat) : Prop := c 8 q = nI b ∧ m 44 0 = nI b ∧ ∀ i, i < b → c 111 (40 * q + i) = m 34 i ∧ c 10 (40 * q + i) = m 35 i
theorem cPutL_eq {q n p b : Nat} {c m : MM} {most : Int32} (hB : BR q c m b) (hbn : b ≤ n) (hn : n ≤ 40) (h14 : c 14 p = m 14 p) (h11 : c 11 p = m 11 p) : ∀ (k i : Nat), i ≤ b → i + k = n →
    (bagL m p (b - i) i = b → cPutL c q n p most k i = cOpenB c q n p most) ∧ (¬ bagL m p (b - i) i = b → cPutL c q n p most k i = (1, up c 10 (40 * q + bagL m p (b - i) i) (m 35 (bagL m p (b - i) i) + m 11 p))) := by
  obtain ⟨b1, b2, b3⟩ := hB
  intro k
  induction k with
  | zero =>
    intro i hi hk
    have e : i = b := by omega
    subst e
    rw [Nat.sub_self]
    exact ⟨fun _ => rfl, fun z => absurd rfl z⟩
  | succ k ih =>
    intro i hi hk
    have e : cPutL c q n p most (k + 1) i = if c 8 q ≤ nI i then cOpenB c q n p most else if c 111 (40 * q + i) = c 14 p ∧ c 10 (40 * q + i) + c 11 p ≤ 12 then (1, up c 10 (40 * q + i) (c 10 (40 * q + i) + c 11 p)) else cPutL c q n p most k (i + 1) := rfl
    rw [e, b1]
    by_cases z : i = b
    · subst z
      rw [if_pos (nI_le (Nat.le_refl _) (by omega)), Nat.sub_self]
      exact ⟨fun _ => rfl, fun z => absurd rfl z⟩
    · obtain ⟨g1, g2⟩ := b3 i (by omega)
      rw [if_neg (fun w => by have := (nI_leI (by omega) (by omega)).mp w; omega), g1, g2, h14, h11]
      obtain ⟨d, hd⟩ : ∃ d, b - i = d + 1 := ⟨b - i - 1, by omega⟩
      have hd2 : b - (i + 1) = d := by omega
      have el : bagL m p (b - i) i = if ¬ m 34 i = m 14 p ∨ 12 < m 35 i + m 11 p then bagL m p d (i + 1) else i := by rw [hd]; rfl
      by_cases w : m 34 i = m 14 p ∧ m 35 i + m 11 p ≤ 12
      · have w2 : ¬ (¬ m 34 i = m 14 p ∨ 12 < m 35 i + m 11 p) := fun y => y.elim (fun v => v w.1) (fun v => Int32.not_lt.mpr w.2 v)
        rw [if_pos w, el, if_neg w2]
        exact ⟨fun y => absurd y z, fun _ => rfl⟩
      · have w2 : ¬ m 34 i = m 14 p ∨ 12 < m 35 i + m 11 p := by
          by_cases y : m 34 i = m 14 p
          · exact Or.inr (Int32.not_le.mp (fun v => w ⟨y, v⟩))
          · exact Or.inl y
        rw [if_neg w, el, if_pos w2]
        have := ih (i + 1) (by omega) (by omega)
        rw [hd2] at this
        exact this
theorem put_eq {q n p b mo : Nat} {c m : MM} (hB : BR q c m b) (hb : b ≤ mo) (hmo : mo ≤ n) (hn : n ≤ 40) (h14 : c 14 p = m 14 p) (h11 : c 11 p = m 11 p) :
    (cPut c q n p (nI mo)).1 = (fPut m p (nI mo)).1 ∧ (∃ b', BR q (cPut c q n p (nI mo)).2 (fPut m p (nI mo)).2 b' ∧ b ≤ b' ∧ b' ≤ mo ∧ b' ≤ b + 1 ∧ (b < mo → 0 < b')) ∧ (b < mo → (fPut m p (nI mo)).1 = 1) ∧
      (∀ i, i ≠ q → (cPut c q n p (nI mo)).2 8 i = c 8 i) ∧ ∀ i, (i < 40 * q ∨ 40 * q + n ≤ i) → (cPut c q n p (nI mo)).2 10 i = c 10 i := by
  obtain ⟨l1, l2⟩ := cPutL_eq (most := nI mo) hB (show b ≤ n by omega) hn h14 h11 n 0 (Nat.zero_le _) (by omega)
  rw [Nat.sub_zero] at l1 l2
  have hle := bagL_le m p b 0
  obtain ⟨b1, b2, b3⟩ := hB
  have hbN : bagsN m = b := by unfold bagsN; rw [b2, nI_clamp (by omega)]
  have eP : cPut c q n p (nI mo) = cPutL c q n p (nI mo) n 0 := rfl
  have eF : fPut m p (nI mo) = if bagL m p b 0 = b then (if m 44 0 = nI mo then (0, m) else (1, up (up (up (up m 34 (bagL m p b 0) (m 14 p)) 35 (bagL m p b 0) 0) 44 0 (m 44 0 + 1)) 35 (bagL m p b 0) (0 + m 11 p))) else (1, up m 35 (bagL m p b 0) (m 35 (bagL m p b 0) + m 11 p)) := by
    unfold fPut
    simp only
    rw [hbN]
  rw [eP, eF]
  generalize bagL m p b 0 = j at *
  by_cases z : j = b
  · rw [l1 z, if_pos z, b2]
    subst z
    by_cases w : j = mo
    · subst w
      have eO : cOpenB c q n p (nI j) = (0, c) := by
        unfold cOpenB
        rw [if_pos (Or.inl (by rw [b1]; exact nI_le (Nat.le_refl _) (by omega)))]
      rw [eO, if_pos rfl]
      exact ⟨rfl, ⟨j, ⟨b1, b2, b3⟩, Nat.le_refl _, Nat.le_refl _, by omega, fun y => by omega⟩, fun y => by omega, fun _ _ => rfl, fun _ _ => rfl⟩
    · have eO : cOpenB c q n p (nI mo) = (1, up (up (up c 111 (40 * q + j) (m 14 p)) 10 (40 * q + j) (m 11 p)) 8 q (nI (j + 1))) := by
        unfold cOpenB
        rw [b1, nI_clamp (by omega), h14, h11, if_neg, nI_1]
        intro y
        rcases y with y | y | y
        · have := (nI_leI (by omega) (by omega)).mp y; omega
        · exact nI_pos (by omega) y
        · have := (nI_leI (by omega) (by omega)).mp y; omega
      rw [eO, if_neg (fun y => w ((nI_eq (by omega) (by omega)).mp y)), nI_1]
      dsimp only
      refine ⟨rfl, ⟨j + 1, ⟨by rw [up_s], by rw [up_k (by omega), up_s], fun i hi => ?_⟩, by omega, by omega, Nat.le_refl _, fun _ => by omega⟩, fun _ => rfl, fun i hi => ?_, fun i hi => ?_⟩
      · by_cases y : i = j
        · subst y
          refine ⟨?_, ?_⟩
          · simp [up]
          · simp [up]
        · obtain ⟨g1, g2⟩ := b3 i (by omega)
          refine ⟨?_, ?_⟩
          · simp only [up]; simp [y]; exact g1
          · simp only [up]; simp [y]; exact g2
      · rw [up_i hi, up_k (by omega), up_k (by omega)]
      · rw [up_k (by omega), up_i (by omega), up_k (by omega)]
  · rw [l2 z, if_neg z]
    dsimp only
    refine ⟨rfl, ⟨b, ⟨by rw [up_k (by omega)]; exact b1, by rw [up_k (by omega)]; exact b2, fun i hi => ?_⟩, Nat.le_refl _, hb, by omega, fun _ => by omega⟩, fun _ => rfl, fun i hi => up_k (by omega), fun i hi => up_i (by omega)⟩
    obtain ⟨g1, g2⟩ := b3 i hi
    rw [up_k (by omega), up_k (by omega)]
    by_cases y : i = j
    · subst y; rw [up_s, up_s]; exact ⟨g1, rfl⟩
    · rw [up_i (by omega), up_i y]; exact ⟨g1, g2⟩
/-! what the bags of lines have to do with the rest: nothing -/
theorem Sm.bagX {c m c' m' : MM} (h : Sm c m) (e1 : ∀ k, cK k → k ≠ 8 → k ≠ 10 → c' k = c k) (e2 : ∀ p, c' 171 (6 + p) = c 171 (6 + p)) (e3 : ∀ k, mK k → k ≠ 8 → k ≠ 10 → m' k = m k) (hB : SB c' m') : Sm c' m' := by
  obtain ⟨h1, h2, h3, h4, h5⟩ := h
  have n3 : npN m' = npN m := npN_ext (e3 39 (by unfold mK; omega) (by omega) (by omega))
  refine ⟨h1.ext (fun k hk => e1 k (by unfold lnKey at hk; unfold cK; omega) (by unfold lnKey at hk; omega) (by unfold lnKey at hk; omega)) (fun k hk => e3 k (by unfold lnKey at hk; unfold mK; omega) (by unfold lnKey at hk; omega) (by unfold lnKey at hk; omega)) (e1 108 (by unfold cK; omega) (by omega) (by omega)) (e3 9 (by unfold mK; omega) (by omega) (by omega)),
    h2.ext (fun k hk => e3 k (by unfold lnKey at hk; unfold mK; omega) (by unfold lnKey at hk; omega) (by unfold lnKey at hk; omega)), fun p hp => ?_, hB, fun p hp => ?_⟩
  · rw [n3] at hp
    obtain ⟨g1, g2⟩ := h3 p hp
    refine ⟨g1.ext (fun k hk => ?_) (fun k hk => ?_), g2.ext (e3 37 (by unfold mK; omega) (by omega) (by omega)) (fun k hk => ?_)⟩
    · have hk2 : 11 ≤ k ∧ k ≤ 29 ∨ k = 116 := hk.imp (fun z => by have := pk_ne z; omega) id
      rw [e1 k (by unfold cK; omega) (by omega) (by omega)]
    · have hk2 : 11 ≤ k ∧ k ≤ 29 := hk.elim (fun z => by have := pk_ne z; omega) (fun z => by omega)
      rw [e3 k (by unfold mK; omega) (by omega) (by omega)]
    · have := pk_ne hk
      rw [e3 k (by unfold mK; omega) (by omega) (by omega)]
  · rw [n3] at hp
    exact (h5 p hp).ext (e2 p) (fun k hk => e1 k (by unfold cK; omega) (by omega) (by omega)) (e3 31 (by unfold mK; omega) (by omega) (by omega)) (e3 40 (by unfold mK; omega) (by omega) (by omega))
theorem Sim.bagX {n : Nat} {c m c' m' : MM} (h : Sim n c m) (e1 : ∀ k, cK k → k ≠ 8 → k ≠ 10 → c' k = c k) (e2 : ∀ p, c' 171 (6 + p) = c 171 (6 + p)) (e3 : ∀ k, mK k ∨ k = 30 → m' k = m k) (hB : SB c' m) : Sim n c' m' := by
  obtain ⟨h1, h2⟩ := h
  have h3 : Sim n c' m := ⟨h1.bagX e1 e2 (fun _ _ _ _ => rfl) hB, h2⟩
  exact h3.ext (fun _ _ => rfl) (fun _ => rfl) e3
/-! bagsNeeded -/
theorem bn_eq : ∀ (k j b : Nat) (c m : MM), BR 12 c m b → b ≤ j → j + k ≤ npN m → npN m ≤ 40 → (∀ i, i < j + k → c 36 i = m 36 i ∧ ∃ v, v < npN m ∧ m 36 i = nI v) → (∀ p, p < npN m → c 14 p = m 14 p ∧ c 11 p = m 11 p) →
    (bgN k j 1 m).1 = 1 ∧ (∃ b', BR 12 (cBnL k j c) (bgN k j 1 m).2 b') ∧ (∀ i, i ≠ 12 → cBnL k j c 8 i = c 8 i) ∧ (∀ i, i < 480 → cBnL k j c 10 i = c 10 i) ∧ (∀ k', pkk k' = true → cBnL k j c k' = c k') ∧ ∀ k', k' ≠ 34 ∧ k' ≠ 35 ∧ k' ≠ 44 → (bgN k j 1 m).2 k' = m k' := by
  intro k
  induction k with
  | zero => intro j b c m hB _ _ _ _ _; exact ⟨rfl, ⟨b, hB⟩, fun _ _ => rfl, fun _ _ => rfl, fun _ _ => rfl, fun _ _ => rfl⟩
  | succ k ih =>
    intro j b c m hB hbj hj hn hq hp
    obtain ⟨q1, v, q2, q3⟩ := hq j (by omega)
    obtain ⟨p14, p11⟩ := hp v q2
    obtain ⟨s1, ⟨b', s2, s3, s4, s5, s6⟩, s7, s8, s9⟩ := put_eq (p := v) (mo := 40) (n := 40) hB (by omega) (Nat.le_refl _) (Nat.le_refl _) p14 p11
    have e1 : cBnL (k + 1) j c = cBnL k (j + 1) (cPut c 12 40 v (nI 40)).2 := by
      show cBnL k (j + 1) (cPut c 12 40 (c 36 j).toNatClampNeg 40).2 = _
      rw [q1, q3, nI_clamp (by omega)]; rfl
    have e2 : bgN (k + 1) j 1 m = bgN k (j + 1) 1 (fPut m v (nI 40)).2 := by
      show bgN k (j + 1) (1 &&& (fPut m (m 36 j).toNatClampNeg 40).1) (fPut m (m 36 j).toNatClampNeg 40).2 = _
      rw [q3, nI_clamp (by omega)]
      have := s7 (by omega)
      show bgN k (j + 1) (1 &&& (fPut m v (nI 40)).1) (fPut m v (nI 40)).2 = _
      rw [this]; rfl
    rw [e1, e2]
    have kF : ∀ k', k' ≠ 34 ∧ k' ≠ 35 ∧ k' ≠ 44 → (fPut m v (nI 40)).2 k' = m k' := fun k' h => put_key m v (nI 40) h
    have n3 : npN (fPut m v (nI 40)).2 = npN m := npN_ext (kF 39 (by omega))
    obtain ⟨r1, r2, r3, r4, r5, r6⟩ := ih (j + 1) b' _ _ s2 (by omega) (by rw [n3]; omega) (by rw [n3]; exact hn) (fun i hi => by
      rw [n3, cPut_k (k := 36) rfl, kF 36 (by omega)]
      exact hq i (by omega)) (fun p hp' => by
      rw [n3] at hp'
      rw [cPut_k (k := 14) rfl, cPut_k (k := 11) rfl, kF 14 (by omega), kF 11 (by omega)]
      exact hp p hp')
    exact ⟨r1, r2, fun i hi => by rw [r3 i hi, s8 i hi], fun i hi => by rw [r4 i hi, s9 i (Or.inl (by omega))], fun k' hk' => by rw [r5 k' hk', cPut_k hk'], fun k' hk' => by rw [r6 k' hk', kF k' hk']⟩
theorem call_bagsNeeded {n : Nat} {c m : MM} (h : Sim n c m) (hw : WFa m) (hc : WFc c) (x : Int32) : CallOK n [nseC] (cBn c x) (xLn c x) (cBn c x 8 12) (fBgN m x) := by
  have np40 := hw.np.2
  rcases ln_cases h hw hc x with ⟨z, hX, hf⟩ | ⟨z, hX, hf⟩
  · have h1 := h.thr 0 1
    have w1 : WFa (thr m 0 1) := hw.thr 0 1
    obtain ⟨N, hN⟩ : ∃ q, q = thr m 0 1 := ⟨_, rfl⟩
    rw [← hN] at hf h1 w1
    have e45 : N 45 0 = 0 := by rw [hN, thr45, if_pos rfl]
    have n3 : npN N = npN m := by rw [hN]; exact npN_ext (thrk m 0 1 (by omega))
    obtain ⟨q1, q2, q3, -⟩ := QE.full (QK.of h1.1.2.2.1) (by omega) (by rw [n3]; exact h.1.1.1.2.2) x
    have hS := h1.queue w1 x
    have kM : ∀ k, k ≠ 36 → (fLin N x).2 k = N k := fun k hk => (fLin_ok w1 x).2.1 hk
    have hL : fBgN m x = (if ¬ (bgN (fLin N x).1 0 1 (up (fLin N x).2 44 0 0)).1 = 0 then (bgN (fLin N x).1 0 1 (up (fLin N x).2 44 0 0)).2 44 0 else 0, (bgN (fLin N x).1 0 1 (up (fLin N x).2 44 0 0)).2) := by
      unfold fBgN; simp only; rw [hf]; dsimp only; rw [if_neg (fun q => q rfl)]
    have hcb : cBn c x = cBnL (fLin N x).1 0 (up (cQu c x) 8 12 0) := by unfold cBn; rw [if_pos hX, q1]
    rw [hL, hcb, hX]
    have wM : WFa (fLin N x).2 := (fLin_ok w1 x).1
    obtain ⟨k, hk⟩ : ∃ q, q = (fLin N x).1 := ⟨_, rfl⟩
    obtain ⟨M, hM⟩ : ∃ q, q = (fLin N x).2 := ⟨_, rfl⟩
    obtain ⟨C, hC⟩ : ∃ q, q = cQu c x := ⟨_, rfl⟩
    rw [← hk] at q1 q2 q3
    rw [← hM] at q3 hS kM wM
    rw [← hC] at q1 q3 hS
    rw [← hk, ← hM, ← hC]
    clear hL hcb hk hM hC
    have nM : npN M = npN m := by rw [npN_ext (kM 39 (by omega)), n3]
    have hB0 : BR 12 (up C 8 12 0) (up M 44 0 0) 0 := ⟨by rw [up_s]; rfl, by rw [up_s]; rfl, fun i hi => absurd hi (Nat.not_lt_zero _)⟩
    obtain ⟨r1, ⟨b, r2⟩, r3, r4, r5, r6⟩ := bn_eq k 0 0 _ _ hB0 (Nat.le_refl _) (by rw [npN_ext (up_key (by omega)), nM]; omega) (by rw [npN_ext (up_key (by omega)), nM]; omega) (fun i hi => by
      rw [npN_ext (m := M) (up_key (by omega)), up_k (by omega), up_k (by omega)]
      obtain ⟨g1, v, g2, g3, -⟩ := q3 i (by omega)
      exact ⟨g1, v, by omega, g3⟩) (fun p hp => by
      rw [npN_ext (m := M) (up_key (by omega))] at hp
      rw [up_k (by omega), up_k (by omega), up_k (by omega), up_k (by omega)]
      exact ⟨(hS.1.2.2.1 p hp).1.1 14 rfl, (hS.1.2.2.1 p hp).1.1 11 rfl⟩)
    rw [r1, if_pos (by decide)]
    refine CallOK.ask ?_ (fun _ => ?_) ?_
    · dsimp only
      rw [r6 45 (by omega), up_k (by omega), kM 45 (by omega)]
      exact e45
    · dsimp only
      rw [r2.1, r2.2.1]
    · refine hS.bagX (fun k' h1 h8 h10 => ?_) (fun p => ?_) (fun k' h1 => ?_) ?_
      · rw [r5 k' (by unfold cK at h1; unfold pkk; simp; omega), up_key h8]
      · rw [r5 171 rfl, up_k (by omega)]
      · dsimp only
        rw [r6 k' (by unfold mK at h1; omega), up_key (by unfold mK at h1; omega)]
      · intro l hl
        have nl := wM.nl.2
        obtain ⟨g1, g2⟩ := hS.1.2.2.2.1 l hl
        have v8 := vp_nat (wM.ln hl).2.2.2.1
        refine ⟨by rw [r3 l (by omega), up_i (by omega)]; exact g1, fun i hi hi4 => ?_⟩
        rw [r4 _ (by unfold vN at hi; omega), up_k (by omega)]
        exact g2 i hi hi4
  · have e : fBgN m x = (0, thr m 1 1) := by unfold fBgN; simp only; rw [hf]; dsimp only; rw [if_pos (by decide)]
    have hcb : cBn c x = c := by unfold cBn; rw [hX]; exact if_neg (fun q => (nomatch q))
    rw [e, hX, hcb]
    exact CallOK.ask (by dsimp only; rw [thr45]; exact kod_1.1.symm) (fun q => (nomatch q)) (h.thr _ _)

