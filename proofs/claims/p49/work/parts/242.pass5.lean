/-! a minute goes by -/
theorem isN_1 {x : Int32} {t : Nat} (h : isN x 0 t) (ht : t + 1 < 2 ^ 31) : x + 1 = nI (vN x + 1) ∧ isN (x + 1) 0 (t + 1) := by
  obtain ⟨h1, h2, h3⟩ := h
  have e : x + 1 = nI (vN x + 1) := by
    have e0 : nI (vN x) + 1 = nI (vN x + 1) := by rw [nI_1]
    have e1 : x = nI (vN x) := h1
    rw [← e1] at e0
    exact e0
  have hv : vN x ≤ t := h3
  refine ⟨e, ?_⟩
  rw [e]
  unfold isN
  rw [nI_clamp (by omega)]
  exact ⟨rfl, Nat.zero_le _, by omega⟩
theorem tick_eq {n t : Nat} {c m : MM} (h : Sm c m) (hP : PM n t m) (ht : t + 1 ≤ 2 ^ 17) : Sm (up c 41 0 (c 41 0 + 1)) (up m 41 0 (m 41 0 + 1)) ∧ PM n (t + 1) (up m 41 0 (m 41 0 + 1)) := by
  obtain ⟨⟨⟨a1, a2, a3⟩, b41, a4, a5⟩, ⟨⟨q1, q2, q3⟩, ⟨q4, q5⟩, q6, q7⟩, h3, h4, h5⟩ := h
  obtain ⟨p1, p2, p3, p4, p5, p6, p7⟩ := hP
  obtain ⟨t1, t2⟩ := isN_1 p4 (by omega)
  obtain ⟨M, hM⟩ : ∃ z, z = up m 41 0 (m 41 0 + 1) := ⟨_, rfl⟩
  obtain ⟨C, hC⟩ : ∃ z, z = up c 41 0 (c 41 0 + 1) := ⟨_, rfl⟩
  have kM : ∀ k, k ≠ 41 → M k = m k := fun k hk => by rw [hM, up_key hk]
  have kC : ∀ k, k ≠ 41 → C k = c k := fun k hk => by rw [hC, up_key hk]
  have m41 : M 41 0 = m 41 0 + 1 := by rw [hM, up_s]
  have c41 : C 41 0 = m 41 0 + 1 := by rw [hC, up_s, b41]
  have wM : WFa M := by rw [hM]; exact p1.upx (by unfold kWF; omega)
  rw [← hM, ← hC]
  have n1 : nhN M = nhN m := nhN_ext (kM 37 (by omega))
  have n2 : nlN M = nlN m := nlN_ext (kM 38 (by omega))
  have n3 : npN M = npN m := npN_ext (kM 39 (by omega))
  refine ⟨⟨⟨⟨by rw [n1, nhN_ext (kC 37 (by omega)), a1], by rw [n2, nlN_ext (kC 38 (by omega)), a2], by rw [n3, npN_ext (kC 39 (by omega)), a3]⟩, by rw [c41, m41], fun i hi => ?_, fun l hl => ⟨fun k k2 k7 => ?_, ?_⟩⟩, ⟨⟨by omega, by omega, fun l hl => ?_⟩, ⟨fun i hi => ?_, fun l hl => ?_⟩, by omega, ?_⟩, fun p hp => ?_, fun l hl => ?_, fun p hp => ?_⟩, wM, fun p hp => ?_, fun p hp => ?_, ?_, fun p hp => ?_, fun p hp => ?_, fun i hi => ?_, fun p hp => ?_⟩
  · rw [n1] at hi
    rw [kC 0 (by omega), kC 1 (by omega), kM 0 (by omega), kM 1 (by omega)]; exact a4 i hi
  · rw [n2] at hl
    rw [kC k (by omega), kM k (by omega)]; exact (a5 l hl).1 k k2 k7
  · rw [n2] at hl
    rw [kC 108 (by omega), kM 9 (by omega)]; exact (a5 l hl).2
  · rw [n2] at hl
    rw [n1, kM 2 (by omega), kM 3 (by omega)]; exact q3 l hl
  · rw [n1] at hi
    rw [kM 1 (by omega)]; exact q4 i hi
  · rw [n2] at hl
    rw [kM 4 (by omega), kM 5 (by omega), kM 6 (by omega)]; exact q5 l hl
  · rw [m41]; exact ⟨t2.1, t2.2.1, Nat.le_trans t2.2.2 ht⟩
  · rw [n3] at hp
    obtain ⟨g1, g2⟩ := h3 p hp
    refine ⟨g1.ext (fun k hk => ?_) (fun k hk => ?_), g2.ext (kM 37 (by omega)) (fun k hk => by have := pk_ne hk; rw [kM k (by omega)])⟩
    · have hk2 : 11 ≤ k ∧ k ≤ 29 ∨ k = 116 := hk.imp (fun z => by have := pk_ne z; omega) id
      rw [kC k (by omega)]
    · have hk2 : 11 ≤ k ∧ k ≤ 29 := hk.elim (fun z => by have := pk_ne z; omega) (fun z => by omega)
      rw [kM k (by omega)]
  · rw [n2] at hl
    rw [kC 8 (by omega), kC 10 (by omega), kM 8 (by omega), kM 10 (by omega)]; exact h4 l hl
  · rw [n3] at hp
    exact (h5 p hp).ext (by rw [kC 171 (by omega)]) (fun k hk => kC k (by omega)) (kM 31 (by omega)) (kM 40 (by omega))
  · rw [n3] at hp
    obtain ⟨g1, g2⟩ := p2 p hp
    refine ⟨g1.ext (kM 38 (by omega)) (kM 2 (by omega)) (by rw [kM 28 (by omega)]) (by rw [kM 19 (by omega)]) (by rw [kM 15 (by omega)]), ?_⟩
    unfold MX
    rw [kM 28 (by omega), kM 22 (by omega)]
    exact g2
  · rw [cntE_m (kM 31 (by omega)) (kM 40 (by omega)), kM 28 (by omega)]; exact p3 p hp
  · rw [m41]; exact t2
  · rw [n3] at hp
    rw [kM 17 (by omega), kM 22 (by omega), kM 23 (by omega), kM 24 (by omega), kM 26 (by omega), kM 27 (by omega), kM 29 (by omega)]
    exact p5 p hp
  · rw [n3] at hp
    rw [kM 29 (by omega)]; exact p6 p hp
  · rw [n1] at hi
    rw [kM 0 (by omega)]; exact p7.1 i hi
  · rw [n3] at hp
    have a := p7.2 p hp
    rw [kM 18 (by omega), m41, t1]
    show vN (m 18 p) ≤ (nI (vN (m 41 0) + 1)).toNatClampNeg
    have b : vN (m 41 0) ≤ t := p4.2.2
    rw [nI_clamp (by omega)]
    omega
theorem loadL_45 (l : Nat) : ∀ (k j : Nat) (m : MM), loadL l k j m 45 = m 45 := by
  intro k
  induction k with
  | zero => intro j m; rfl
  | succ k ih =>
    intro j m
    have e : loadL l (k + 1) j m = loadL l k (j + 1) (load1 m l (m 36 j).toNatClampNeg) := rfl
    rw [e, ih, load1_key _ _ _ (by omega) (by omega) (by omega)]
theorem fLoads_45 {m : MM} (hw : WFa m) (l : Nat) : fLoads m l 45 = m 45 := by
  have e : ∀ q : MM, q = loadL l (fLin m (nI l)).1 0 (up (fLin m (nI l)).2 44 0 0) → q 45 = m 45 := fun q hq => by
    rw [hq, loadL_45, up_key (by omega), (fLin_ok hw (nI l)).2.1 (by omega)]
  unfold fLoads
  split
  · rw [bagC_key _ _ _ _ (by omega), up_key (by omega)]; exact e _ rfl
  · exact e _ rfl
theorem passL_45 : ∀ (k l : Nat) (m : MM), WFa m → l + k ≤ nlN m → logN m + 40 * k ≤ 2 ^ 21 → passL k l m 45 = m 45 := by
  intro k
  induction k with
  | zero => intro l m _ _ _; rfl
  | succ k ih =>
    intro l m hw hl hU
    have e2 : passL (k + 1) l m = passL k (l + 1) (if m 9 l = 0 ∧ lvs m l (m 41 0) = m 41 0 then fLoads m l else m) := rfl
    rw [e2]
    split
    · obtain ⟨w, g⟩ := fLoads_ok hw (l := l) (by omega) (by omega)
      have := g.lg
      rw [ih (l + 1) _ w (by rw [g.nl]; omega) (by omega), fLoads_45 hw]
    · exact ih (l + 1) m hw (by omega) (by omega)
def AL0 (m : MM) : Prop := ∀ p, m 30 p = 0
theorem min_eq {n t : Nat} {c m : MM} (h : Sm c m) (hP : PM n t m) (h0 : AL0 m) (hn : n < 512) (ht : t + 1 < 2 ^ 17) :
    Sm (cPs1 c).2 (fMin m).2 ∧ PM n (t + 1) (fMin m).2 ∧ AL0 (fMin m).2 ∧ (cPs1 c).1 = (fMin m).1 ∧ (fMin m).2 45 = m 45 := by
  obtain ⟨s1, s2⟩ := tick_eq h hP (by omega)
  have e41 : c 41 0 = m 41 0 := h.1.2.1
  obtain ⟨M, hM⟩ : ∃ z, z = up m 41 0 (m 41 0 + 1) := ⟨_, rfl⟩
  obtain ⟨C, hC⟩ : ∃ z, z = up c 41 0 (c 41 0 + 1) := ⟨_, rfl⟩
  have eF : fMin m = ((fArr M).1, leftL (npN (passL (nlN (fArr M).2) 0 (fArr M).2)) 0 (passL (nlN (fArr M).2) 0 (fArr M).2)) := by rw [hM]; rfl
  have eC : cPs1 c = ((cUnld C).1, cLds (cUnld C).2) := by rw [hC]; rfl
  have m45 : M 45 = m 45 := by rw [hM, up_key (by omega)]
  have m30 : AL0 M := fun p => by rw [hM, up_k (by omega)]; exact h0 p
  rw [← hM] at s1 s2
  rw [← hC] at s1
  rw [eF, eC]
  obtain ⟨u1, u2, u3, u4, u5, u6, u7⟩ := un_all hn (npN M) 0 0 C M (by omega) s1 s2
  have eA : arrL (npN M) 0 0 M = fArr M := rfl
  have eU : cUnL (npN M) 0 0 C = cUnld C := by unfold cUnld; rw [s1.1.1.2.2]
  rw [eA] at u1 u2 u3 u4 u5 u6 u7
  rw [eU] at u1 u3
  dsimp only
  obtain ⟨A, hA⟩ : ∃ z, z = (fArr M).2 := ⟨_, rfl⟩
  obtain ⟨D, hD⟩ : ∃ z, z = (cUnld C).2 := ⟨_, rfl⟩
  rw [← hA] at u1 u2 u4 u5 u6 u7 ⊢
  rw [← hD] at u1 ⊢
  have a30 : AL0 A := fun p => by rw [u4]; exact m30 p
  have w2 := u2.1
  have nl12 := w2.nl.2
  have hlog := u2.log
  -- the list of those left is empty
  have v1 : Sm (up D 171 4 0) A := u1.ext (fun k hk => up_key (by unfold cK at hk; omega)) (fun p => up_i (by omega)) (fun _ _ => rfl)
  have z4 : szN (up D 171 4 0) 4 = 0 := by unfold szN; rw [up_s]; rfl
  have v2 : LR (up D 171 4 0) A := ⟨fun i hi => by rw [z4] at hi; exact absurd hi (Nat.not_lt_zero _), fun p hp => absurd (a30 p) hp⟩
  obtain ⟨x1, x2, x3, x4⟩ := lines_eq (by omega) hn (nlN A) 0 (up D 171 4 0) A (by omega) nl12 v1 u2 v2 (by omega)
  have x5 := passL_45 (nlN A) 0 A w2 (by omega) (by omega)
  have eL : cLds D = cLfL (szN (cLdTL (nlN A) 0 (up D 171 4 0)) 4) 0 (cLdTL (nlN A) 0 (up D 171 4 0)) := by
    unfold cLds
    rw [show nlN D = nlN A from u1.1.1.2.1]
  rw [eL]
  obtain ⟨y1, y2, y3, y4⟩ := left_eq x1 x2 x3
  exact ⟨y1, y2, y3, u3, by rw [y4, x5, u5, m45]⟩
theorem mins_eq {n : Nat} (hn : n < 512) : ∀ (k t : Nat) (a : Int32) (c m : MM), Sm c m → PM n t m → AL0 m → t + k < 2 ^ 17 →
    Sm (cPsL k a c).2 (minL k a m).2 ∧ PM n (t + k) (minL k a m).2 ∧ AL0 (minL k a m).2 ∧ (cPsL k a c).1 = (minL k a m).1 ∧ (minL k a m).2 45 = m 45 := by
  intro k
  induction k with
  | zero => intro t a c m h hP h0 _; exact ⟨h, hP, h0, rfl, rfl⟩
  | succ k ih =>
    intro t a c m h hP h0 ht
    obtain ⟨s1, s2, s3, s4, s5⟩ := min_eq h hP h0 hn (by omega)
    have e1 : cPsL (k + 1) a c = cPsL k (a + (cPs1 c).1) (cPs1 c).2 := rfl
    have e2 : minL (k + 1) a m = minL k (a + (fMin m).1) (fMin m).2 := rfl
    rw [e1, e2, s4]
    obtain ⟨r1, r2, r3, r4, r5⟩ := ih (t + 1) (a + (fMin m).1) _ _ s1 s2 s3 (by omega)
    exact ⟨r1, by rw [show t + (k + 1) = t + 1 + k by omega]; exact r2, r3, r4, by rw [r5, s5]⟩
theorem call_pass {n : Nat} {c m : MM} (h : Sim n c m) (hn : n < 512) (hw : WFa m) (x : Int32) : CallOK n [iaeC] (if xPas x = none then (cPsL x.toNatClampNeg 0 c).2 else c) (xPas x) (cPsL x.toNatClampNeg 0 c).1 (fPass m x) := by
  by_cases z : inn x 1 120 = true
  · have hX : xPas x = none := if_pos z
    rw [fPass_eq z]
    have h1 := h.thr 0 1
    have w1 : WFa (thr m 0 1) := hw.thr 0 1
    have e45 : thr m 0 1 45 0 = 0 := by rw [thr45, if_pos rfl]
    obtain ⟨g1, g2, g3, g4, g5, g6, g7, g8⟩ := h1
    have hx := inn_isN (a := 1) (b := 120) (by omega) (by omega) z
    have hx3 := hx.2.2
    obtain ⟨r1, r2, r3, r4, r5⟩ := mins_eq hn x.toNatClampNeg (120 * n) 0 c (thr m 0 1) g1 ⟨w1, g2, fun p hp => Nat.le_trans (g3 p hp) (Nat.le_add_right _ _), g4, g5, g7, g8⟩ g6 (by omega)
    generalize minL x.toNatClampNeg 0 (thr m 0 1) = F at *
    generalize cPsL x.toNatClampNeg 0 c = G at *
    obtain ⟨p1, p2, p3, p4, p5, p6, p7⟩ := r2
    refine CallOK.done hX (by rw [r5]; exact e45) r4 ⟨r1, p2, fun p hp => ?_, ⟨p4.1, p4.2.1, Nat.le_trans p4.2.2 (by omega)⟩, p5, r3, p6, p7⟩
    have a := p3 p hp
    have b := bud_le (F.2 28 p)
    omega
  · have hX : xPas x = some iaeC := if_neg z
    have hf : fPass m x = (0, thr m 1 1) := by
      unfold fPass
      simp only
      rw [bi_t z, if_pos (by decide)]
    rw [hf]
    refine CallOK.thrown hX ?_ (h.thr _ _)
    dsimp only
    rw [thr45, kd_i3.1]
    rfl

