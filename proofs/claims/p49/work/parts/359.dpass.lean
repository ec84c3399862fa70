/-! a minute passes -/
section PASS
variable {n : Nat} {c m : MM}
theorem now_nat (h : Sim n c m) (hn : n < 512) : ∃ v, v ≤ 61440 ∧ m 41 0 = nI v ∧ m 41 0 + 1 = nI (v + 1) := by
  have h4 := h.2.2.2.1
  refine ⟨vN (m 41 0), ?_, h4.1, ?_⟩
  · have := h4.2.2
    unfold vN; omega
  · exact (isN_1 h4 (by omega)).1
theorem d_pass (h : Stt n c m) (hc : WFc c) (hn : n < 512) :
    xPas (nI 1) = none ∧ (cPsL (nI 1).toNatClampNeg 0 c).1 = nI (dueN m (m 41 0 + 1) (npN m) 0 0) ∧ ∃ m', Stt (n + 1) (cPsL (nI 1).toNatClampNeg 0 c).2 m' ∧ MinT m (m 41 0 + 1) (minRt m (m 41 0 + 1) (nlN m)) m' ∧ BgO m (m 41 0 + 1) (nlN m) m' ∧ RoR m (nlN m) (minRt m (m 41 0 + 1) (nlN m)) := by
  have hrow := fun l (hl : l < nlN m) => h.row hc hl
  obtain ⟨hS, hw, hI⟩ := h
  obtain ⟨v, v1, v2, v3⟩ := now_nat hS hn
  obtain ⟨now, hnw⟩ : ∃ now, now = m 41 0 + 1 := ⟨_, rfl⟩
  have n40 := hw.np.2
  have nl12 := hw.nl.2
  have hX : xPas (nI 1) = none := if_pos (by decide)
  have hL := hS.log hw
  have q := call_pass hS hn hw (nI 1)
  have qw := (rw_pass hw (by omega) (nI 1)).1
  rw [fPass_eq (show inn (nI 1) 1 120 = true by decide)] at q qw
  have q1 := q.2.1 hX
  have q2 := q.2.2
  rw [if_pos hX] at q2
  have e1 : (nI 1).toNatClampNeg = 1 := nI_clamp (by omega)
  rw [e1] at q1 q2 qw ⊢
  obtain ⟨N, hN⟩ : ∃ N, N = thr m 0 1 := ⟨_, rfl⟩
  rw [← hN] at q1 q2 qw
  have kN : ∀ k, k ≠ 45 → N k = m k := fun k hk => by rw [hN, thrk _ _ _ hk]
  have wN : WFa N := by rw [hN]; exact hw.thr _ _
  have eM : minL 1 0 N = (0 + (fMin N).1, (fMin N).2) := rfl
  rw [eM] at q1 q2 qw
  dsimp only at q1 q2 qw
  -- the arrivals
  obtain ⟨M0, hM0⟩ : ∃ M0, M0 = up N 41 0 (N 41 0 + 1) := ⟨_, rfl⟩
  have k0 : ∀ k, k ≠ 45 → k ≠ 41 → M0 k = m k := fun k a b => by rw [hM0, up_key b, kN k a]
  have w0 : WFa M0 := by rw [hM0]; exact wN.upx (by unfold kWF; omega)
  have n30 : npN M0 = npN m := npN_ext (k0 39 (by omega) (by omega))
  have lg0 : logN M0 = logN m := logN_ext (k0 40 (by omega) (by omega))
  obtain ⟨a1, a2⟩ := arr_min (m := m) (now := now) hS.2.2.2.2.2.1 (npN M0) 0 0 M0 (by omega) (fun k hk => k0 k (by unfold mKk at hk; omega) (by unfold mKk at hk; omega)) (by rw [hM0, up_s, kN 41 (by omega), hnw]) (fun q hq => absurd hq (Nat.not_lt_zero _)) (fun q _ j hj => by rw [k0 j (by omega) (by omega)])
  have eA : arrL (npN M0) 0 (nI 0) M0 = fArr M0 := rfl
  rw [eA] at a1 a2
  obtain ⟨w1, g1⟩ := fArr_ok w0 (by omega)
  have lg1 := g1.lg
  have eF : fMin N = ((fArr M0).1, leftL (npN (passL (nlN (fArr M0).2) 0 (fArr M0).2)) 0 (passL (nlN (fArr M0).2) 0 (fArr M0).2)) := by rw [hM0]; rfl
  generalize (fArr M0).2 = A at *
  have nlA : nlN A = nlN m := nlN_ext (a1.1 38 (Or.inr (Or.inr (by omega))))
  -- the trucks
  obtain ⟨l1, l2, l3⟩ := lines_all hw hrow (now := now) (by rw [hnw, v3]; exact fun z => by rw [show (0 : Int32) = nI 0 from rfl, nI_ltI (by omega) (by omega)] at z; omega) (nlN A) 0 A (by omega) a1 w1 (by omega) (fun p hp => Or.inl rfl) (fun l hl => absurd hl (Nat.not_lt_zero _))
  obtain ⟨B, hB⟩ : ∃ B, B = passL (nlN A) 0 A := ⟨_, rfl⟩
  rw [← hB] at l1 l3 eF
  have nB : npN B = npN m := npN_ext (l1.1 39 (Or.inr (Or.inr (by omega))))
  obtain ⟨F, hF⟩ : ∃ F, F = leftL (npN B) 0 B := ⟨_, rfl⟩
  rw [eF] at q1 q2 qw
  dsimp only at q1 q2 qw
  rw [← hF] at q2 qw
  have kF : ∀ j, ¬ kTry j → j ≠ 19 → j ≠ 30 → F j = B j := fun j a b c => by rw [hF]; exact leftL_key _ a b c 0 B
  have nF : npN F = npN B := npN_ext (kF 39 (by unfold kTry; omega) (by omega) (by omega))
  have h19 := left19 q2.1.2.1 (fun q hq => (q2.1.2.2.1 q hq).2) (npN B) 0 B (fun j a b c => (kF j a b c).symm) (by omega)
  rw [← hF] at h19
  have hT : MinT m now (minRt m now (nlN m)) F := by
    obtain ⟨t1, t2, t3⟩ := l1
    refine ⟨fun k hk => by rw [kF k (by unfold mKk at hk; unfold kTry; omega) (by unfold mKk at hk; omega) (by unfold mKk at hk; omega)]; exact t1 k hk, by rw [kF 41 (by unfold kTry; omega) (by omega) (by omega)]; exact t2, fun p hp => ?_⟩
    obtain ⟨p1, p2, p3, p4, p5, p6, p7⟩ := t3 p hp
    refine ⟨fun k hk hk9 => by rw [kF k (by unfold pKp at hk; unfold kTry; omega) hk9 (by unfold pKp at hk; omega)]; exact p1 k hk, ?_, ?_, ?_, ?_, ?_, ?_⟩
    · rw [kF 28 (by unfold kTry; omega) (by omega) (by omega)]; exact p2
    · rw [kF 16 (by unfold kTry; omega) (by omega) (by omega)]; exact p3
    · rw [kF 17 (by unfold kTry; omega) (by omega) (by omega)]; exact p4
    · rw [kF 24 (by unfold kTry; omega) (by omega) (by omega)]; exact p5
    · rw [kF 15 (by unfold kTry; omega) (by omega) (by omega)]; exact p6
    · rw [h19 p, p7, p1 19 (by unfold pKp; omega)]
      by_cases z : minRt m now (nlN m) p < 0
      · rw [if_pos z, if_pos z, if_pos ⟨Nat.zero_le _, by omega, by decide⟩]
      · rw [if_neg z, if_neg z, if_neg (fun w => w.2.2 rfl)]
  refine ⟨hX, ?_, F, ⟨q2, qw, ?_⟩, by rw [← hnw]; exact hT, ?_, by rw [← hnw]; exact l2⟩
  · rw [q1, a2, ← hnw, n30]
    exact (Int32.zero_add _)
  · -- the law's numbers hold
    obtain ⟨t1, t2, t3⟩ := hT
    intro p hp
    have hp0 := hp
    rw [nF, nB] at hp
    obtain ⟨p1, p2, p3, p4, p5, p6, p7⟩ := t3 p hp
    obtain ⟨i1, i2, i3, i4, i5⟩ := hI p hp
    refine ⟨fun z => ?_, by rw [p1 20 (by unfold pKp; omega) (by omega)]; exact i2, by rw [p1 11 (by unfold pKp; omega) (by omega)]; exact i3, by rw [p1 12 (by unfold pKp; omega) (by omega)]; exact i4, fun z => ?_⟩
    · rw [p7]
      by_cases y : minRt m now (nlN m) p < 0
      · rw [if_pos y]; exact plR_open q2.1.2.1 (q2.1.2.2.1 p hp0).2
      · rw [if_neg y]
        have z2 : m 28 p = 115 := by
          rw [p2] at z
          split at z
          · exact absurd z (by decide)
          · split at z
            · exact absurd z (by decide)
            · exact z
        rw [nlN_ext (t1 38 (Or.inr (Or.inr (by omega)))), t1 9 (Or.inr (Or.inl rfl))]
        exact i1 z2
    · rw [p1 26 (by unfold pKp; omega) (by omega)]
      refine i5 ?_
      rw [p2] at z
      split at z
      · exact absurd z (by decide)
      · split at z
        · exact absurd z (by decide)
        · exact z
  · rw [← hnw]
    intro l hl hd
    obtain ⟨b, b1, b2, b3⟩ := l3 l hl hd
    refine ⟨b, b1, b2, fun hb => ?_⟩
    rw [kF 8 (by unfold kTry; omega) (by omega) (by omega), kF 10 (by unfold kTry; omega) (by omega) (by omega)]
    exact b3 hb
end PASS
