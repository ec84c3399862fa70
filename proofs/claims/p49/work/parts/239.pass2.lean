/-! a truck is loaded -/
def QL (l N j : Nat) (c m : MM) : Prop := (∀ i, j ≤ i → i < N → c 36 i = m 36 i ∧ ∃ v, v < npN m ∧ m 36 i = nI v ∧ m 28 v = 115 ∧ m 19 v = nI l) ∧ ∀ i i', i < i' → i' < N → ¬ m 36 i = m 36 i'
def LR (c m : MM) : Prop := (∀ i, i < szN c 4 → ∃ v, v < npN m ∧ c 176 i = nI v ∧ ¬ m 30 v = 0) ∧ ∀ p, ¬ m 30 p = 0 → p < npN m ∧ ∃ i, i < szN c 4 ∧ c 176 i = nI p
def SBo (l : Nat) (c m : MM) : Prop := ∀ l', l' < nlN m → l' ≠ l → c 8 l' = m 8 l' ∧ ∀ k, k < vN (m 8 l') → k < 40 → c 10 (40 * l' + k) = m 10 (4 * l' + k)
def BS (l : Nat) (e : Int32) (c m : MM) : Prop := (e = 1 ∧ m 44 0 = 0 ∧ c 8 l = m 8 l ∧ ∀ k, k < vN (m 8 l) → k < 40 → c 10 (40 * l + k) = m 10 (4 * l + k)) ∨ (e = 0 ∧ ∃ b, BR l c m b ∧ 0 < b ∧ b ≤ vN (m 7 l))
def LI (n t l base j : Nat) (e : Int32) (c m : MM) : Prop := Sm0 c m ∧ PM n t m ∧ SBo l c m ∧ BS l e c m ∧ LR c m ∧ szN c 4 ≤ base + j ∧ l < nlN m
theorem LR.ext {c m c' m' : MM} (h : LR c m) (e1 : c' 171 4 = c 171 4) (e2 : c' 176 = c 176) (e3 : m' 30 = m 30) (e4 : m' 39 = m 39) : LR c' m' := by
  have s : szN c' 4 = szN c 4 := by unfold szN; rw [e1]
  unfold LR
  rw [s, e2, e3, npN_ext e4]
  exact h
theorem SBo.ext {l : Nat} {c m c' m' : MM} (h : SBo l c m) (e1 : c' 8 = c 8) (e2 : c' 10 = c 10) (e3 : m' 8 = m 8) (e4 : m' 10 = m 10) (e5 : m' 38 = m 38) : SBo l c' m' := by
  unfold SBo
  rw [e1, e2, e3, e4, nlN_ext e5]
  exact h
theorem BR.ext {q b : Nat} {c m c' m' : MM} (h : BR q c m b) (e1 : c' 8 = c 8) (e2 : c' 10 = c 10) (e3 : c' 111 = c 111) (e4 : m' 44 = m 44) (e5 : m' 34 = m 34) (e6 : m' 35 = m 35) : BR q c' m' b := by
  unfold BR
  rw [e1, e2, e3, e4, e5, e6]
  exact h
theorem mo_1 {m : MM} (hw : WFa m) {l : Nat} (hl : l < nlN m) : ∃ mo, m 7 l = nI mo ∧ 1 ≤ mo ∧ mo ≤ 4 := by
  have h := inn_isN (a := 1) (b := 4) (by omega) (by omega) (hw.ln hl).2.2.2.2.1
  exact ⟨_, h.1, h.2.1, h.2.2⟩
theorem cLoad_k {u : MM} {p l k : Nat} (h : k = 8 ∨ k = 10 ∨ k = 111 ∨ k = 36 ∨ k = 176) : cLoad u p l k = u k := by
  unfold cLoad
  rw [cNote_k (by unfold nk; simp; omega), up_key (by omega), up_key (by omega), up_key (by omega)]
theorem cLoad_171 {u : MM} {p l : Nat} : cLoad u p l 171 4 = u 171 4 := by
  unfold cLoad cNote
  split
  · rfl
  · rw [up_k (by omega)]
    unfold cEv
    rw [if_neg (by omega), if_neg (by omega), cEv1_k (by omega) (by omega) (by omega) (by omega)]
    rfl
theorem ld_one {n t l base j N : Nat} {e : Int32} {c m : MM} (h : LI n t l base j e c m) (hn : n < 512) (hb : base + N ≤ 999) (hj : j < N) (hQ : QL l N j c m) :
    LI n t l base (j + 1) (cLt1 l j e c).1 (cLt1 l j e c).2 (load1 m l (m 36 j).toNatClampNeg) ∧ QL l N (j + 1) (cLt1 l j e c).2 (load1 m l (m 36 j).toNatClampNeg) := by
  obtain ⟨h1, h2, h3, h4, h5, h6, hl⟩ := h
  have hw := h2.1
  have np40 := hw.np.2
  have nh6 := hw.nh.2
  have nl12 := hw.nl.2
  obtain ⟨hq1, hq2⟩ := hQ
  obtain ⟨q1, v, q2, q3, q4, q5⟩ := hq1 j (Nat.le_refl _) hj
  obtain ⟨b1, b2, b3, b4⟩ := h1.sl
  have hpv := h1.pa q2
  have ev : (m 36 j).toNatClampNeg = v := by rw [q3, nI_clamp (by omega)]
  have evc : (c 36 j).toNatClampNeg = v := by rw [q1]; exact ev
  have e2l : c 2 l = m 2 l := (b4 l hl).1 2 (by omega) (by omega)
  have e7l : c 7 l = m 7 l := (b4 l hl).1 7 (by omega) (by omega)
  have e1c : c 1 (m 2 l).toNatClampNeg = m 1 (m 2 l).toNatClampNeg := (b3 _ (vp_nat (hw.ln hl).1)).2
  have e18 : c 18 v = m 18 v := hpv.1.1 18 rfl
  obtain ⟨C0, hC0⟩ : ∃ z, z = (if ¬ e = 0 then up c 8 l 0 else c) := ⟨_, rfl⟩
  have hL : load1 m l v = if m 41 0 - m 18 v < m 1 (m 2 l).toNatClampNeg then m else if ¬ (fPut m v (m 7 l)).1 = 0 then fHap (mRid (fPut m v (m 7 l)).2 l v) v 108 (nI l) else up (up (fPut m v (m 7 l)).2 30 v 1) 24 v ((fPut m v (m 7 l)).2 24 v + 1) := rfl
  have hC : cLt1 l j e c = if m 41 0 - m 18 v < m 1 (m 2 l).toNatClampNeg then (e, c) else if ¬ (cPut C0 l 40 v (m 7 l)).1 = 0 then (0, cLoad (cPut C0 l 40 v (m 7 l)).2 v l) else (0, cLq (up (cPut C0 l 40 v (m 7 l)).2 24 v ((cPut C0 l 40 v (m 7 l)).2 24 v + 1)) 4 176 (szN c 4) (c 36 j)) := by
    unfold cLt1
    rw [evc, ← hC0, e2l, e7l, b2, e18, e1c]
  rw [ev, hL, hC]
  by_cases z : m 41 0 - m 18 v < m 1 (m 2 l).toNatClampNeg
  · rw [if_pos z, if_pos z]
    exact ⟨⟨h1, h2, h3, h4, h5, by show szN c 4 ≤ _; omega, hl⟩, fun i hi hi2 => hq1 i (by omega) hi2, hq2⟩
  · rw [if_neg z, if_neg z]
    obtain ⟨mo, mo1, mo2, mo3⟩ := mo_1 hw hl
    have kC0 : ∀ k, k ≠ 8 → C0 k = c k := fun k hk => by
      rw [hC0]
      split
      · exact up_key hk
      · rfl
    have iC0 : ∀ i, i ≠ l → C0 8 i = c 8 i := fun i hi => by
      rw [hC0]
      split
      · exact up_i hi
      · rfl
    have hB0 : ∃ b0, BR l C0 m b0 ∧ b0 ≤ mo ∧ (b0 < mo ∨ 0 < b0) := by
      rcases h4 with ⟨f1, f2, -, -⟩ | ⟨f1, b, f2, f3, f4⟩
      · refine ⟨0, ⟨?_, by rw [f2]; rfl, fun i hi => absurd hi (Nat.not_lt_zero _)⟩, by omega, Or.inl (by omega)⟩
        rw [hC0, f1, if_pos (by decide), up_s]; rfl
      · have : C0 = c := by rw [hC0, f1]; exact if_neg (fun w => w rfl)
        rw [this]
        have em : vN (m 7 l) = mo := by unfold vN; rw [mo1, nI_clamp (by omega)]
        exact ⟨b, f2, by omega, Or.inr f3⟩
    obtain ⟨b0, hB, hb0, hbp⟩ := hB0
    obtain ⟨s1, ⟨b', s2, s3, s4, s5, s6⟩, s7, s8, s9⟩ := put_eq (n := 40) hB hb0 (by omega) (by omega) (show C0 14 v = m 14 v by rw [kC0 14 (by omega)]; exact hpv.1.1 14 rfl) (show C0 11 v = m 11 v by rw [kC0 11 (by omega)]; exact hpv.1.1 11 rfl)
    rw [← mo1] at s1 s2 s7 s8 s9
    have hb1 : 0 < b' := hbp.elim s6 (fun w => by omega)
    obtain ⟨C1, hC1⟩ : ∃ q, q = (cPut C0 l 40 v (m 7 l)).2 := ⟨_, rfl⟩
    obtain ⟨P, hP⟩ : ∃ q, q = (fPut m v (m 7 l)).2 := ⟨_, rfl⟩
    have kC1 : ∀ k, k ≠ 8 → k ≠ 10 → k ≠ 111 → C1 k = c k := fun k z1 z2 z3 => by rw [hC1, cPut_k (by unfold pkk; simp; omega), kC0 k z1]
    have kP : ∀ k, k ≠ 34 → k ≠ 35 → k ≠ 44 → P k = m k := fun k z1 z2 z3 => by rw [hP, put_key _ _ _ ⟨z1, z2, z3⟩]
    have wP : WFa P := by rw [hP]; exact hw.put _ _
    have hS1 : Sm0 C1 P := h1.ext (fun k hk z1 z2 => kC1 k z1 z2 (by unfold cK at hk; omega)) (fun p => by rw [kC1 171 (by omega) (by omega) (by omega)]) (fun k hk _ _ => kP k (by unfold mK at hk; omega) (by unfold mK at hk; omega) (by unfold mK at hk; omega))
    have hP1 : PM n t P := h2.ext wP (fun k hk _ _ => kP k (by unfold mK at hk; omega) (by unfold mK at hk; omega) (by unfold mK at hk; omega))
    have nP3 : npN P = npN m := npN_ext (kP 39 (by omega) (by omega) (by omega))
    have nP2 : nlN P = nlN m := nlN_ext (kP 38 (by omega) (by omega) (by omega))
    have hSB : SBo l C1 P := by
      intro l' hl' hne
      rw [nP2] at hl'
      obtain ⟨g1, g2⟩ := h3 l' hl' hne
      have v8 := vp_nat (hw.ln hl').2.2.2.1
      rw [kP 8 (by omega) (by omega) (by omega), kP 10 (by omega) (by omega) (by omega), hC1]
      refine ⟨by rw [s8 l' hne, iC0 l' hne]; exact g1, fun k hk hk4 => ?_⟩
      unfold vN at hk
      rw [s9 _ (by omega), kC0 10 (by omega)]
      exact g2 k hk hk4
    rw [← hC1, ← hP] at s2
    have hLR1 : LR C1 P := h5.ext (by rw [kC1 171 (by omega) (by omega) (by omega)]) (kC1 176 (by omega) (by omega) (by omega)) (kP 30 (by omega) (by omega) (by omega)) (kP 39 (by omega) (by omega) (by omega))
    have hz4 : szN C1 4 = szN c 4 := by unfold szN; rw [kC1 171 (by omega) (by omega) (by omega)]
    rw [← hC1, ← hP, s1]
    have p28 : P 28 v = 115 := by rw [kP 28 (by omega) (by omega) (by omega)]; exact q4
    have p19 : P 19 v = nI l := by rw [kP 19 (by omega) (by omega) (by omega)]; exact q5
    by_cases w : (fPut m v (m 7 l)).1 = 0
    · have w' : ¬ ¬ (fPut m v (m 7 l)).1 = 0 := fun y => y w
      rw [if_neg w', if_neg w']
      dsimp only
      obtain ⟨t1, t2⟩ := hS1.left hP1 (v := v) (by rw [nP3]; exact q2) (szN c 4) (c 36 j)
      obtain ⟨C2, hC2⟩ : ∃ q, q = cLq (up C1 24 v (C1 24 v + 1)) 4 176 (szN c 4) (c 36 j) := ⟨_, rfl⟩
      obtain ⟨F, hF⟩ : ∃ q, q = up (up P 30 v 1) 24 v (P 24 v + 1) := ⟨_, rfl⟩
      have kC2 : ∀ k, k ≠ 24 → k ≠ 171 → k ≠ 172 → k ≠ 176 → C2 k = C1 k := fun k z1 z2 z3 z4 => by rw [hC2, cLq_k z2 z3 z4, up_key z1]
      have kF : ∀ k, k ≠ 30 → k ≠ 24 → F k = P k := fun k z1 z2 => by rw [hF, up_key z2, up_key z1]
      have hs24 : szN (up C1 24 v (C1 24 v + 1)) 4 = szN c 4 := by rw [← hz4]; unfold szN; rw [up_k (by omega)]
      have hsz : szN C2 4 = szN c 4 + 1 := by rw [hC2, cLq_sz (by rw [hs24]; omega), hs24]
      have c176 : ∀ i, C2 176 i = if i < szN c 4 then c 176 i else if i = szN c 4 then c 36 j else c 176 (i - 1) := fun i => by
        rw [hC2]
        unfold cLq
        rw [if_neg (by omega), if_neg (by omega), if_pos rfl, up_k (by omega), up_k (by omega), kC1 176 (by omega) (by omega) (by omega)]
      have f30 : ∀ i, F 30 i = if i = v then 1 else m 30 i := fun i => by
        rw [hF, up_k (by omega)]
        by_cases y : i = v
        · rw [y, up_s, if_pos rfl]
        · rw [up_i y, if_neg y, kP 30 (by omega) (by omega) (by omega)]
      have nF3 : npN F = npN m := by rw [npN_ext (kF 39 (by omega) (by omega))]; exact nP3
      rw [← hC2] at t1 ⊢
      rw [← hF] at t1 t2 ⊢
      have f7 : vN (F 7 l) = mo := by unfold vN; rw [kF 7 (by omega) (by omega), kP 7 (by omega) (by omega) (by omega), mo1, nI_clamp (by omega)]
      refine ⟨⟨t1, t2, hSB.ext (kC2 8 (by omega) (by omega) (by omega) (by omega)) (kC2 10 (by omega) (by omega) (by omega) (by omega)) (kF 8 (by omega) (by omega)) (kF 10 (by omega) (by omega)) (kF 38 (by omega) (by omega)), Or.inr ⟨rfl, b', s2.ext (kC2 8 (by omega) (by omega) (by omega) (by omega)) (kC2 10 (by omega) (by omega) (by omega) (by omega)) (kC2 111 (by omega) (by omega) (by omega) (by omega)) (kF 44 (by omega) (by omega)) (kF 34 (by omega) (by omega)) (kF 35 (by omega) (by omega)), hb1, by rw [f7]; exact s4⟩, ⟨fun i hi => ?_, fun p hp => ?_⟩, by rw [hsz]; omega, by rw [nlN_ext (kF 38 (by omega) (by omega)), nP2]; exact hl⟩, fun i hi hi2 => ?_, fun i i' hi hi2 => ?_⟩
      · rw [hsz] at hi
        rw [c176, nF3]
        by_cases y : i < szN c 4
        · rw [if_pos y]
          obtain ⟨a, a1, a2, a3⟩ := h5.1 i y
          refine ⟨a, a1, a2, ?_⟩
          rw [f30]
          split
          · decide
          · exact a3
        · rw [if_neg y, if_pos (by omega)]
          exact ⟨v, q2, by rw [q1]; exact q3, by rw [f30, if_pos rfl]; decide⟩
      · rw [hsz]
        rw [f30] at hp
        by_cases y : p = v
        · exact ⟨by rw [nF3, y]; exact q2, szN c 4, by omega, by rw [c176, if_neg (by omega), if_pos rfl, y, q1]; exact q3⟩
        · rw [if_neg y] at hp
          obtain ⟨i0, i, i1, i2⟩ := h5.2 p hp
          exact ⟨by rw [nF3]; exact i0, i, by omega, by rw [c176, if_pos i1]; exact i2⟩
      · rw [kC2 36 (by omega) (by omega) (by omega) (by omega), kC1 36 (by omega) (by omega) (by omega), kF 36 (by omega) (by omega), kP 36 (by omega) (by omega) (by omega), kF 28 (by omega) (by omega), kP 28 (by omega) (by omega) (by omega), kF 19 (by omega) (by omega), kP 19 (by omega) (by omega) (by omega), nF3]
        exact hq1 i (by omega) hi2
      · rw [kF 36 (by omega) (by omega), kP 36 (by omega) (by omega) (by omega)]
        exact hq2 i i' hi hi2
    · rw [if_pos w, if_pos w]
      dsimp only
      obtain ⟨t1, t2, t3⟩ := hS1.load hP1 hn (v := v) (l := l) (by rw [nP3]; exact q2) (by rw [nP2]; exact hl) p28 p19
      obtain ⟨F, hF⟩ : ∃ q, q = fHap (mRid P l v) v 108 (nI l) := ⟨_, rfl⟩
      have kF : ∀ k, k ≠ 28 → k ≠ 16 → k ≠ 17 → k ≠ 31 → k ≠ 40 → k ≠ 27 → k ≠ 46 → F k = P k := fun k z1 z2 z3 z4 z5 z6 z7 => by rw [hF, hap_pk z4 z5 z6 z7]; unfold mRid; rw [up_key z3, up_key z2, up_key z1]
      have oF : ∀ i, i ≠ v → F 28 i = P 28 i := fun i hi => by rw [hF, fHap_i (by omega) (by omega) (by omega) hi]; unfold mRid; rw [up_i hi, up_i hi, up_i hi]
      rw [← hF] at t1 t2 t3 ⊢
      have f7 : vN (F 7 l) = mo := by unfold vN; rw [kF 7 (by omega) (by omega) (by omega) (by omega) (by omega) (by omega) (by omega), kP 7 (by omega) (by omega) (by omega), mo1, nI_clamp (by omega)]
      have nF3 : npN F = npN m := by rw [npN_ext (kF 39 (by omega) (by omega) (by omega) (by omega) (by omega) (by omega) (by omega))]; exact nP3
      have e38 : F 38 = P 38 := kF 38 (by omega) (by omega) (by omega) (by omega) (by omega) (by omega) (by omega)
      refine ⟨⟨t1, t2, hSB.ext (cLoad_k (by omega)) (cLoad_k (by omega)) (kF 8 (by omega) (by omega) (by omega) (by omega) (by omega) (by omega) (by omega)) (kF 10 (by omega) (by omega) (by omega) (by omega) (by omega) (by omega) (by omega)) e38, Or.inr ⟨rfl, b', s2.ext (cLoad_k (by omega)) (cLoad_k (by omega)) (cLoad_k (by omega)) (kF 44 (by omega) (by omega) (by omega) (by omega) (by omega) (by omega) (by omega)) (kF 34 (by omega) (by omega) (by omega) (by omega) (by omega) (by omega) (by omega)) (kF 35 (by omega) (by omega) (by omega) (by omega) (by omega) (by omega) (by omega)), hb1, by rw [f7]; exact s4⟩, hLR1.ext cLoad_171 (cLoad_k (by omega)) (kF 30 (by omega) (by omega) (by omega) (by omega) (by omega) (by omega) (by omega)) (kF 39 (by omega) (by omega) (by omega) (by omega) (by omega) (by omega) (by omega)), ?_, by rw [nlN_ext e38, nP2]; exact hl⟩, fun i hi hi2 => ?_, fun i i' hi hi2 => ?_⟩
      · have : szN (cLoad C1 v l) 4 = szN C1 4 := by unfold szN; rw [cLoad_171]
        rw [this, hz4]; omega
      · obtain ⟨g1, a, a1, a2, a3, a4⟩ := hq1 i (by omega) hi2
        have hne : a ≠ v := fun y => hq2 j i (by omega) hi2 (by rw [q3, a2, y])
        rw [cLoad_k (k := 36) (by omega), kC1 36 (by omega) (by omega) (by omega), kF 36 (by omega) (by omega) (by omega) (by omega) (by omega) (by omega) (by omega), kP 36 (by omega) (by omega) (by omega), nF3]
        refine ⟨g1, a, a1, a2, ?_, ?_⟩
        · rw [oF a hne, kP 28 (by omega) (by omega) (by omega)]; exact a3
        · rw [kF 19 (by omega) (by omega) (by omega) (by omega) (by omega) (by omega) (by omega), kP 19 (by omega) (by omega) (by omega)]; exact a4
      · rw [kF 36 (by omega) (by omega) (by omega) (by omega) (by omega) (by omega) (by omega), kP 36 (by omega) (by omega) (by omega)]
        exact hq2 i i' hi hi2

