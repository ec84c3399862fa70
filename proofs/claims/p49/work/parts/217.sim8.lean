/-! scan, deliver, recall of one parcel -/
theorem hap_pk {m : MM} {q : Nat} {kind l : Int32} {k : Nat} (h31 : k ≠ 31) (h40 : k ≠ 40) (h27 : k ≠ 27) (h46 : k ≠ 46) : fHap m q kind l k = m k := fHap_key m q kind l h31 h40 h27 h46
/-- how often a parcel may have been misrouted -/
def MX (m : MM) (p : Nat) : Prop := m 28 p = 104 ∨ isN (m 22 p) 0 2
theorem isN_3 {x : Int32} (h : isN x 0 2) : x + 1 < 3 ↔ ¬ x + 1 = 3 := by
  obtain ⟨h1, h2, h3⟩ := h
  rcases (by omega : x.toNatClampNeg = 0 ∨ x.toNatClampNeg = 1 ∨ x.toNatClampNeg = 2) with e | e | e <;> (rw [h1, e]; decide)
/-- the event of a parcel in its own hub -/
theorem Sm.noteH {c m : MM} (h : Sm c m) (hw : WFa m) {q : Nat} (hq : q < npN m) (jj : Nat) (kind : Int32) {t : Int32} {x : Nat} (hcap : cntE m q (logN m) < 1024) (hk : lw_letters.getD jj 0 = kind) (hk2 : lpos kind = nI jj) (ht : t = c 41 0) (hx : nI x = m 15 q) : Sm (cNote c q jj t x (-1)) (fHap m q kind (-1)) :=
  h.note hw hq hcap hk hk2 (by rw [ht]; exact h.1.2.1) hx (Or.inl ⟨rfl, rfl⟩)
theorem Sm.own {c m : MM} (h : Sm c m) {q : Nat} (hq : q < npN m) : nI (c 15 q).toNatClampNeg = m 15 q := by
  have hq2 := h.2.2.1 q hq
  have hnh := h.2.1.1.nh
  rw [hq2.1.1 15 rfl]
  exact (vp_nI hq2.2.1.2.2 (by omega)).symm
theorem fTurns_k {m : MM} {p k : Nat} (h : k = 28 ∨ k = 22) : fTurns m p k = m k := by
  unfold fTurns
  rw [hap_pk (by omega) (by omega) (by omega) (by omega), fProm_key _ p (by unfold kTry; omega) (by omega), fTurns0_key m p (by omega)]
theorem Sm.fail {c m : MM} (h : Sm c m) (hw : WFa m) {q : Nat} (hq : q < npN m) (h28 : m 28 q = 115) (hcap : cntE m q (logN m) < 1023) (hU : logN m < 2 ^ 20) (hN : NX m q) (hX : MX m q) :
    Sm (cFail c q) (fDel1 m q 0).2 ∧ cFailR c q = (fDel1 m q 0).1 ∧ NX (fDel1 m q 0).2 q ∧ MX (fDel1 m q 0).2 q ∧ Tr 2 q m (fDel1 m q 0).2 := by
  have hq2 := h.2.2.1 q hq
  have n40 := h.2.1.2.2.1
  have k23 : c 23 q = m 23 q := hq2.1.1 23 rfl
  have k12 : c 12 q = m 12 q := hq2.1.1 12 rfl
  have k29 : c 29 q = m 29 q := hq2.1.1 29 rfl
  have e41 : c 41 0 = m 41 0 := h.1.2.1
  obtain ⟨A, hA⟩ : ∃ z, z = up m 23 q (m 23 q + 1) := ⟨_, rfl⟩
  have s1 : Sm (up c 23 q (c 23 q + 1)) A := by
    rw [hA, k23]
    exact h.set (k := 23) rfl (by omega) (fun _ => hq2.2.oth (by unfold mpk; omega) (by omega))
  have wA : WFa A := by rw [hA]; exact hw.upx (by unfold kWF; omega)
  have kA : ∀ k, k ≠ 23 → A k = m k := fun k hk => by rw [hA, up_key hk]
  have hqA : q < npN A := by rw [npN_ext (kA 39 (by omega))]; exact hq
  have cA : cntE A q (logN A) = cntE m q (logN m) := cntE_m (kA 31 (by omega)) (kA 40 (by omega)) q
  have lA : logN A = logN m := by unfold logN; rw [kA 40 (by omega)]
  have s2 : Sm (cFail0 c q) (fHap A q 102 (-1)) := by
    unfold cFail0
    refine s1.noteH wA hqA 6 102 (by omega) rfl rfl (by rw [up_k (by omega)]) ?_
    rw [kA 15 (by omega)]
    exact h.own hq
  obtain ⟨B, hB⟩ : ∃ z, z = fHap A q 102 (-1) := ⟨_, rfl⟩
  rw [← hB] at s2
  have kB : ∀ k, k ≠ 23 → k ≠ 31 → k ≠ 40 → k ≠ 27 → k ≠ 46 → B k = m k := fun k a b d e f => by rw [hB, hap_pk b d e f, kA k a]
  have b23 : B 23 q = m 23 q + 1 := by rw [hB, hap_pk (by omega) (by omega) (by omega) (by omega), hA, up_s]
  have b12 : B 12 q = m 12 q := by rw [kB 12 (by omega) (by omega) (by omega) (by omega) (by omega)]
  have b29 : B 29 q = m 29 q := by rw [kB 29 (by omega) (by omega) (by omega) (by omega) (by omega)]
  have b28 : B 28 q = 115 := by rw [kB 28 (by omega) (by omega) (by omega) (by omega) (by omega)]; exact h28
  have tB : Tr 1 q m B := by rw [hB, hA]; rw [hA] at wA; exact (Tr.put (q := q) (by omega) _).trans (Tr.hap wA (by omega) 102 (-1))
  have wB : WFa B := by rw [hB]; exact wA.hap hqA (by decide) (-1) (by omega)
  have hqB : q < npN B := by rw [npN_ext (kB 39 (by omega) (by omega) (by omega) (by omega) (by omega))]; exact hq
  have cB : cntE B q (logN B) < 1024 := by
    have := tB.2.2.1 q (by omega)
    rw [if_pos rfl] at this
    omega
  have eD : fDel1 m q 0 = if B 23 q < 3 - B 12 q then (119, B) else if ¬ B 29 q = 0 then (104, fHap (up B 28 q 104) q 104 (-1)) else (114, fTurns B q) := by
    unfold fDel1
    rw [if_neg (fun z => z rfl)]
    simp only
    rw [← hA, ← hB]
  rw [eD, b23, b12, b29]
  unfold cFail cFailR
  rw [k23, k12, k29]
  by_cases z1 : m 23 q + 1 < 3 - m 12 q
  · rw [if_pos z1, if_pos z1, if_pos z1]
    dsimp only
    refine ⟨s2, rfl, hN.ext (kB 38 (by omega) (by omega) (by omega) (by omega) (by omega)) (kB 2 (by omega) (by omega) (by omega) (by omega) (by omega)) (by rw [b28, h28]) (by rw [kB 19 (by omega) (by omega) (by omega) (by omega) (by omega)]) (by rw [kB 15 (by omega) (by omega) (by omega) (by omega) (by omega)]), ?_, tB.mono (by omega)⟩
    · unfold MX
      rw [kB 28 (by omega) (by omega) (by omega) (by omega) (by omega), kB 22 (by omega) (by omega) (by omega) (by omega) (by omega)]
      exact hX
  · rw [if_neg z1, if_neg z1, if_neg z1]
    by_cases z2 : m 29 q = 0
    · rw [if_neg (fun y => y z2), if_neg (fun y => y z2), if_neg (fun y => y z2)]
      dsimp only
      obtain ⟨t1, t2, t3⟩ := s2.turn wB hqB b28 cB
      refine ⟨t1, rfl, t2, ?_, tB.trans t3⟩
      unfold MX
      rw [fTurns_k (Or.inl rfl), fTurns_k (Or.inr rfl), kB 28 (by omega) (by omega) (by omega) (by omega) (by omega), kB 22 (by omega) (by omega) (by omega) (by omega) (by omega)]
      exact hX
    · rw [if_pos z2, if_pos z2, if_pos z2]
      dsimp only
      obtain ⟨t1, t2⟩ := s2.hold wB hqB cB
      refine ⟨t1, rfl, fun y => ?_, Or.inl ?_, tB.trans t2⟩
      · rw [hap_pk (by omega) (by omega) (by omega) (by omega), up_s] at y; exact absurd y (by decide)
      · rw [hap_pk (by omega) (by omega) (by omega) (by omega), up_s]
theorem up_comm {m : MM} {k i k' i' : Nat} {x y : Int32} (h : k ≠ k') : up (up m k i x) k' i' y = up (up m k' i' y) k i x := by
  funext a b
  simp only [up]
  by_cases z : a = k' ∧ b = i'
  · rw [if_pos z, if_neg (by omega), if_pos z]
  · rw [if_neg z, if_neg z]
theorem up_same {m : MM} {k i : Nat} {x : Int32} (h : m k i = x) : up m k i x = m := by
  funext a b
  simp only [up]
  by_cases z : a = k ∧ b = i
  · rw [if_pos z, ← h, z.1, z.2]
  · rw [if_neg z]
theorem settle_15 {u : MM} {q : Nat} {x t : Int32} : cSettle (up u 15 q x) q x t = cSettle u q x t := by
  have e : up (up (up u 15 q x) 116 q (-1)) 15 q x = up (up u 116 q (-1)) 15 q x := by
    funext a b
    simp only [up]
    by_cases z : a = 15 ∧ b = q
    · rw [if_pos z, if_pos z]
    · rw [if_neg z, if_neg z, if_neg z]
  unfold cSettle
  rw [up_k (k' := 14) (by omega), up_k (k' := 21) (by omega), e]
theorem fScans_k {m : MM} {p k : Nat} (h : k = 22 ∨ k = 38 ∨ k = 2) : fScans m p k = m k := fScans_key m p (by unfold kTry; omega) (by omega)
theorem fScans_28 (m : MM) (p : Nat) : fScans m p 28 p = 115 := by
  have e : fScans0 m p 28 p = 115 := by
    unfold fScans0
    split
    · rw [up_k (by omega), up_k (by omega), up_s]
    · rw [up_k (by omega), up_s]
  unfold fScans
  rw [fPlans_key _ p (by unfold kTry; omega) (by omega)]
  exact e
theorem Tr.scans0 {q : Nat} {m : MM} : Tr 0 q m (fScans0 m q) := by
  unfold fScans0
  simp only
  split
  · exact ((Tr.put (q := q) (by omega) _).trans (Tr.put (by omega) _)).trans (Tr.put (by omega) _)
  · exact (Tr.put (q := q) (by omega) _).trans (Tr.put (by omega) _)
/-- scanned where it is -/
theorem Sm.scanO {c m : MM} (h : Sm c m) (hw : WFa m) {q : Nat} (hq : q < npN m) {x : Int32} (hx : vp_in x (nhN m)) (hcap : cntE m q (logN m) < 1024) (hX : isN (m 22 q) 0 2) :
    Sm (cPlan (cNote (cSettle c q x (c 41 0)) q 1 (c 41 0) x.toNatClampNeg (-1)) q) (fHap (fScans (up m 15 q x) q) q 115 (-1)) ∧ NX (fHap (fScans (up m 15 q x) q) q 115 (-1)) q ∧ MX (fHap (fScans (up m 15 q x) q) q 115 (-1)) q ∧ Tr 1 q m (fHap (fScans (up m 15 q x) q) q 115 (-1)) := by
  have n40 := h.2.1.2.2.1
  have hnh := h.2.1.1.nh
  have s1 := h.settle hx hq
  obtain ⟨A, hA⟩ : ∃ z, z = up m 15 q x := ⟨_, rfl⟩
  rw [← hA] at s1 ⊢
  have wA : WFa A := by rw [hA]; exact hw.up15 hx
  have kA : ∀ k, k ≠ 15 → A k = m k := fun k hk => by rw [hA, up_key hk]
  have w0 : WFa (fScans0 A q) := wA.scans0 q
  have k0 : ∀ k, k ≠ 28 → k ≠ 18 → k ≠ 21 → k ≠ 15 → fScans0 A q k = m k := fun k a b d e => by rw [fScans0_key A q ⟨a, b, d⟩, kA k e]
  have hq0 : q < npN (fScans0 A q) := by rw [npN_ext (k0 39 (by omega) (by omega) (by omega) (by omega))]; exact hq
  have s2 := s1.noteH w0 hq0 1 115 (t := c 41 0) (x := x.toNatClampNeg) (by rw [cntE_m (k0 31 (by omega) (by omega) (by omega) (by omega)) (k0 40 (by omega) (by omega) (by omega) (by omega))]; exact hcap) rfl rfl (by rw [cSettle_k rfl]) (by rw [fScans0_key A q (by omega), hA, up_s]; exact (vp_nI hx (by omega)).symm)
  obtain ⟨s3, s4⟩ := s2.planHap s1.2.1 (s1.2.2.1 q hq0).2 hq0
  have w2 : WFa (fScans A q) := wA.scans q
  refine ⟨s3, s4, ?_, ?_⟩
  · refine Or.inr ?_
    rw [hap_pk (by omega) (by omega) (by omega) (by omega), fScans_k (Or.inl rfl), kA 22 (by omega)]
    exact hX
  · have t1 : Tr 0 q m A := by rw [hA]; exact Tr.put (by omega) _
    exact ((t1.trans Tr.scans0).trans Tr.plans).trans (Tr.hap w2 (by omega) 115 (-1))

