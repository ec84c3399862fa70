/-- scanned where it should not be -/
theorem Sm.mis {c m : MM} (h : Sm c m) (hw : WFa m) {q : Nat} (hq : q < npN m) {x : Int32} (hx : vp_in x (nhN m)) (hcap : cntE m q (logN m) < 1023) (hU : logN m < 2 ^ 20) (h22 : isN (m 22 q) 0 2) :
    ∃ m', m' = (if fHap (up (up m 15 q x) 22 q (m 22 q + 1)) q 109 (-1) 22 q = 3 then (104, fHap (up (fHap (up (up m 15 q x) 22 q (m 22 q + 1)) q 109 (-1)) 28 q 104) q 104 (-1)) else (109, fScans (fHap (up (up m 15 q x) 22 q (m 22 q + 1)) q 109 (-1)) q) : Int32 × MM) ∧
      Sm (cMis c q x.toNatClampNeg) m'.2 ∧ cMisR c q = m'.1 ∧ NX m'.2 q ∧ MX m'.2 q ∧ Tr 2 q m m'.2 := by
  have hq2 := h.2.2.1 q hq
  have n40 := h.2.1.2.2.1
  have hnh := h.2.1.1.nh
  have vx := vp_nI hx (by omega)
  have k22 : c 22 q = m 22 q := hq2.1.1 22 rfl
  have e41 : c 41 0 = m 41 0 := h.1.2.1
  obtain ⟨A, hA⟩ : ∃ z, z = up (up m 15 q x) 22 q (m 22 q + 1) := ⟨_, rfl⟩
  have kA : ∀ k, k ≠ 15 → k ≠ 22 → A k = m k := fun k a b => by rw [hA, up_key b, up_key a]
  have a15 : A 15 q = x := by rw [hA, up_k (by omega), up_s]
  have a22 : A 22 q = m 22 q + 1 := by rw [hA, up_s]
  have s1 : Sm (up (up c 15 q x) 22 q (c 22 q + 1)) A := by
    rw [hA, k22]
    have s0 := h.set (k := 15) (q := q) (x := x) rfl (by omega) (fun _ => hq2.2.up15 hx)
    exact s0.set (k := 22) (q := q) rfl (by omega) (fun _ => (hq2.2.up15 hx).oth (by unfold mpk; omega) (by omega))
  have wA : WFa A := by rw [hA]; exact (hw.up15 hx).upx (by unfold kWF; omega)
  have hqA : q < npN A := by rw [npN_ext (kA 39 (by omega) (by omega))]; exact hq
  have cA : cntE A q (logN A) = cntE m q (logN m) := cntE_m (kA 31 (by omega) (by omega)) (kA 40 (by omega) (by omega)) q
  have lA : logN A = logN m := by unfold logN; rw [kA 40 (by omega) (by omega)]
  have hD : up (cMis0 c q x.toNatClampNeg) 15 q x = cNote (up (up c 15 q x) 22 q (c 22 q + 1)) q 2 (c 41 0) x.toNatClampNeg (-1) := by
    unfold cMis0
    rw [up_comm (m := c) (k := 15) (k' := 22) (by omega), cNote_up (k := 15) rfl]
  have s2 : Sm (up (cMis0 c q x.toNatClampNeg) 15 q x) (fHap A q 109 (-1)) := by
    rw [hD]
    exact s1.noteH wA hqA 2 109 (by omega) rfl rfl (by rw [up_k (by omega), up_k (by omega)]) (by rw [a15]; exact vx.symm)
  rw [← hA]
  obtain ⟨B, hB⟩ : ∃ z, z = fHap A q 109 (-1) := ⟨_, rfl⟩
  rw [← hB] at s2 ⊢
  have kB : ∀ k, k ≠ 15 → k ≠ 22 → k ≠ 31 → k ≠ 40 → k ≠ 27 → k ≠ 46 → B k = m k := fun k z a b d e f => by rw [hB, hap_pk b d e f, kA k z a]
  have b22 : B 22 q = m 22 q + 1 := by rw [hB, hap_pk (by omega) (by omega) (by omega) (by omega), a22]
  have b15 : B 15 q = x := by rw [hB, hap_pk (by omega) (by omega) (by omega) (by omega), a15]
  have tA : Tr 0 q m A := by rw [hA]; exact (Tr.put (by omega) _).trans (Tr.put (by omega) _)
  have tB : Tr 1 q m B := by rw [hB]; exact tA.trans (Tr.hap wA (by omega) 109 (-1))
  have wB : WFa B := by rw [hB]; exact wA.hap hqA (by decide) (-1) (by omega)
  have nB : nhN B = nhN m := nhN_ext (kB 37 (by omega) (by omega) (by omega) (by omega) (by omega) (by omega))
  have hqB : q < npN B := by rw [npN_ext (kB 39 (by omega) (by omega) (by omega) (by omega) (by omega) (by omega))]; exact hq
  have cB : cntE B q (logN B) < 1024 := by
    have := tB.2.2.1 q (by omega)
    rw [if_pos rfl] at this
    omega
  have hxB : vp_in x (nhN B) := by rw [nB]; exact hx
  have d41 : (up (cMis0 c q x.toNatClampNeg) 15 q x) 41 0 = c 41 0 := by rw [up_k (by omega)]; unfold cMis0; rw [cNote_k rfl, up_k (by omega)]
  rw [b22]
  unfold cMis cMisR
  rw [k22]
  by_cases z : m 22 q + 1 < 3
  · rw [if_pos z, if_pos z, if_neg ((isN_3 h22).mp z)]
    refine ⟨_, rfl, ?_⟩
    have s3 := s2.settle hxB hqB
    rw [up_same b15, settle_15, d41] at s3
    have hq3 : q < npN (fScans0 B q) := by rw [npN_ext (fScans0_key B q (by omega))]; exact hqB
    obtain ⟨s4, s5⟩ := s3.plan hq3
    rw [← vx]
    refine ⟨s4, rfl, s5, Or.inr ?_, ?_⟩
    · show isN (fScans B q 22 q) 0 2
      rw [fScans_k (Or.inl rfl), b22]
      obtain ⟨g1, g2, g3⟩ := h22
      have e : m 22 q + 1 = nI ((m 22 q).toNatClampNeg + 1) := by
        have e0 : nI (m 22 q).toNatClampNeg + 1 = nI ((m 22 q).toNatClampNeg + 1) := by rw [nI_1]
        rw [← g1] at e0
        exact e0
      rw [e] at z ⊢
      have z2 := (nI_ltI (a := (m 22 q).toNatClampNeg + 1) (b := 3) (by omega) (by omega)).mp z
      unfold isN
      rw [nI_clamp (by omega)]
      exact ⟨rfl, Nat.zero_le _, by omega⟩
    · exact ((tB.trans Tr.scans0).trans Tr.plans).mono (by omega)
  · rw [if_neg z, if_neg z, if_pos (Classical.not_not.mp (fun y => z ((isN_3 h22).mpr y)))]
    refine ⟨_, rfl, ?_⟩
    dsimp only
    have hq3 := s2.2.2.1 q hqB
    have s3 := s2.set (k := 28) (q := q) (x := 104) rfl (fun _ => by decide) (fun _ => hq3.2.oth (by unfold mpk; omega) (by omega))
    have s4 := s3.c116 (q := q) (x := -1) (by rw [up_s]; decide)
    have w4 : WFa (up B 28 q 104) := wB.up28 (Or.inr (Or.inr (Or.inr rfl)))
    have hq4 : q < npN (up B 28 q 104) := by rw [npN_ext (up_key (by omega))]; exact hqB
    have s5 := s4.noteH w4 hq4 8 104 (t := c 41 0) (x := x.toNatClampNeg) (by rw [cntE_m (up_key (by omega)) (up_key (by omega))]; exact cB) rfl rfl (by rw [up_k (by omega), up_k (by omega)]; exact d41.symm) (by rw [up_k (by omega), b15]; exact vx.symm)
    refine ⟨?_, rfl, fun y => ?_, Or.inl ?_, ?_⟩
    · unfold cHold
      rw [← vx]
      have e1 : up (up (cMis0 c q x.toNatClampNeg) 116 q (-1)) 15 q x = up (up (cMis0 c q x.toNatClampNeg) 15 q x) 116 q (-1) := up_comm (by omega)
      rw [e1, up_comm (k := 116) (k' := 28) (by omega)]
      have e2 : (up (up (cMis0 c q x.toNatClampNeg) 15 q x) 116 q (-1)) 41 0 = c 41 0 := by rw [up_k (by omega)]; exact d41
      have e3 : (up (up (cMis0 c q x.toNatClampNeg) 15 q x) 116 q (-1)) 15 q = x := by rw [up_k (by omega), up_s]
      rw [e2, e3]
      exact s5
    · rw [hap_pk (by omega) (by omega) (by omega) (by omega), up_s] at y; exact absurd y (by decide)
    · rw [hap_pk (by omega) (by omega) (by omega) (by omega), up_s]
    · exact (tB.trans (Tr.put (by omega) _)).trans (Tr.hap w4 (by omega) 104 (-1))
/-- who is on the way or elsewhere, who is known there, who is not -/
theorem Sm.scan1 {c m : MM} (h : Sm c m) (hw : WFa m) {q : Nat} (hq : q < npN m) {x : Int32} (hx : vp_in x (nhN m)) (hcap : cntE m q (logN m) < 1023) (hU : logN m < 2 ^ 20) (h22 : isN (m 22 q) 0 2) (hN : NX m q) :
    Sm (if c 28 q = 116 ∨ ¬ c 15 q = x then cMis c q x.toNatClampNeg else if c 28 q = 115 then c else cPlan (cNote (cSettle c q x (c 41 0)) q 1 (c 41 0) x.toNatClampNeg (-1)) q) (fScan1 m q x).2 ∧
    (if c 28 q = 116 ∨ ¬ c 15 q = x then cMisR c q else if c 28 q = 115 then 97 else 111) = (fScan1 m q x).1 ∧ NX (fScan1 m q x).2 q ∧ MX (fScan1 m q x).2 q ∧ Tr 2 q m (fScan1 m q x).2 := by
  have hq2 := h.2.2.1 q hq
  have k28 : c 28 q = m 28 q := hq2.1.1 28 rfl
  have k15 : c 15 q = m 15 q := hq2.1.1 15 rfl
  rw [k28, k15]
  unfold fScan1
  simp only
  by_cases z : m 28 q = 116 ∨ ¬ m 15 q = x
  · rw [if_pos z, if_pos z, if_neg (fun y => z.elim y.1.1 (fun w => w y.1.2)), if_neg (fun y => z.elim y.1 (fun w => w y.2))]
    obtain ⟨m', e, r⟩ := h.mis hw hq hx hcap hU h22
    rw [← e]
    exact r
  · have z1 : ¬ m 28 q = 116 := fun y => z (Or.inl y)
    have z2 : m 15 q = x := Classical.not_not.mp (fun y => z (Or.inr y))
    rw [if_neg z, if_neg z]
    by_cases w : m 28 q = 115
    · rw [if_pos w, if_pos w, if_pos ⟨⟨z1, z2⟩, w⟩]
      exact ⟨h, rfl, hN, Or.inr h22, (Tr.refl q m).mono (by omega)⟩
    · rw [if_neg w, if_neg w, if_neg (fun y => w y.2), if_pos ⟨z1, z2⟩]
      obtain ⟨s1, s2, s3, s4⟩ := h.scanO hw hq hx (by omega) h22
      exact ⟨s1, rfl, s2, s3, s4.mono (by omega)⟩
/-! the whole relation: n calls are done -/
/-- what no parcel has yet -/
def FR (m : MM) : Prop := ∀ p, npN m ≤ p → m 17 p = 0 ∧ m 22 p = 0 ∧ m 23 p = 0 ∧ m 24 p = 0 ∧ m 26 p = 0 ∧ m 27 p = 0 ∧ m 29 p = 0
/-- codes have three digits; none is scanned in a minute to come -/
def HC (m : MM) : Prop := (∀ h, h < nhN m → isN (m 0 h) 1 999) ∧ ∀ p, p < npN m → vN (m 18 p) ≤ vN (m 41 0)
def Sim (n : Nat) (c m : MM) : Prop := Sm c m ∧ (∀ p, p < npN m → NX m p ∧ MX m p) ∧ (∀ p, p < 40 → cntE m p (logN m) ≤ 2 * n) ∧ isN (m 41 0) 0 (120 * n) ∧ FR m ∧ (∀ p, m 30 p = 0) ∧ (∀ p, p < npN m → m 29 p = 0 ∨ m 29 p = 1) ∧ HC m
theorem HC.ext {m m' : MM} (h : HC m) (e37 : m' 37 = m 37) (e39 : m' 39 = m 39) (e0 : m' 0 = m 0) (e41 : m' 41 = m 41) (e18 : ∀ p, p < npN m → m' 18 p = m 18 p ∨ m' 18 p = m 41 0) : HC m' := by
  refine ⟨fun i hi => ?_, fun p hp => ?_⟩
  · rw [nhN_ext e37] at hi; rw [e0]; exact h.1 i hi
  · rw [npN_ext e39] at hp
    rw [e41]
    rcases e18 p hp with e | e
    · rw [e]; exact h.2 p hp
    · rw [e]; exact Nat.le_refl _
/-- when a parcel was scanned -/
theorem fTurns_18 (m : MM) (p : Nat) : fTurns m p 18 p = m 41 0 := by
  unfold fTurns
  rw [hap_pk (by omega) (by omega) (by omega) (by omega), fProm_key _ p (by unfold kTry; omega) (by omega)]
  unfold fTurns0
  rw [up_s]
theorem fScans_18 (m : MM) (p : Nat) : fScans m p 18 p = m 41 0 := by
  have e : fScans0 m p 18 p = m 41 0 := by
    unfold fScans0
    split
    · rw [up_k (by omega), up_s]
    · rw [up_s]
  unfold fScans
  rw [fPlans_key _ p (by unfold kTry; omega) (by omega)]
  exact e
theorem fDel1_18 (m : MM) (p : Nat) (t : Int32) : (fDel1 m p t).2 18 p = m 18 p ∨ (fDel1 m p t).2 18 p = m 41 0 := by
  have e : ∀ k, k = 18 ∨ k = 41 → fHap (up m 23 p (m 23 p + 1)) p 102 (-1) k = m k := fun k hk => by rw [hap_pk (by omega) (by omega) (by omega) (by omega), up_key (by omega)]
  unfold fDel1
  split
  · refine Or.inl ?_
    dsimp only
    rw [hap_pk (by omega) (by omega) (by omega) (by omega), up_k (by omega), up_k (by omega)]
  · simp only
    split
    · refine Or.inl ?_
      dsimp only
      rw [e 18 (by omega)]
    · split
      · refine Or.inl ?_
        dsimp only
        rw [hap_pk (by omega) (by omega) (by omega) (by omega), up_k (by omega), e 18 (by omega)]
      · refine Or.inr ?_
        dsimp only
        rw [fTurns_18, e 41 (by omega)]
theorem fScan1_18 (m : MM) (p : Nat) (hb : Int32) : (fScan1 m p hb).2 18 p = m 18 p ∨ (fScan1 m p hb).2 18 p = m 41 0 := by
  have e : ∀ k, k = 18 ∨ k = 41 → fHap (up (up m 15 p hb) 22 p (m 22 p + 1)) p 109 (-1) k = m k := fun k hk => by rw [hap_pk (by omega) (by omega) (by omega) (by omega), up_key (by omega), up_key (by omega)]
  unfold fScan1
  split
  · exact Or.inl rfl
  · simp only
    split
    · refine Or.inr ?_
      dsimp only
      rw [hap_pk (by omega) (by omega) (by omega) (by omega), fScans_18, up_k (by omega)]
    · split
      · refine Or.inl ?_
        dsimp only
        rw [hap_pk (by omega) (by omega) (by omega) (by omega), up_k (by omega), e 18 (by omega)]
      · refine Or.inr ?_
        dsimp only
        rw [fScans_18, e 41 (by omega)]
theorem Sim.mono {n k : Nat} {c m : MM} (h : Sim n c m) (hk : n ≤ k) : Sim k c m := by
  obtain ⟨h1, h2, h3, h4, h5, h6, h7, h8⟩ := h
  exact ⟨h1, h2, fun p hp => Nat.le_trans (h3 p hp) (by omega), ⟨h4.1, h4.2.1, Nat.le_trans h4.2.2 (by omega)⟩, h5, h6, h7, h8⟩
/-- noise -/
theorem Sim.ext {n : Nat} {c m c' m' : MM} (h : Sim n c m) (e1 : ∀ k, cK k → c' k = c k) (e2 : ∀ p, c' 171 (6 + p) = c 171 (6 + p)) (e3 : ∀ k, mK k ∨ k = 30 → m' k = m k) : Sim n c' m' := by
  obtain ⟨h1, h2, h3, h4, h5, h6, h7, h8⟩ := h
  have k3 : ∀ k, mK k → m' k = m k := fun k hk => e3 k (Or.inl hk)
  have n3 : npN m' = npN m := npN_ext (k3 39 (by unfold mK; omega))
  refine ⟨h1.ext e1 e2 k3, fun p hp => ?_, fun p hp => ?_, by rw [k3 41 (by unfold mK; omega)]; exact h4, fun p hp => ?_, fun p => by rw [e3 30 (Or.inr rfl)]; exact h6 p, fun p hp => by rw [n3] at hp; rw [k3 29 (by unfold mK; omega)]; exact h7 p hp, h8.ext (k3 37 (by unfold mK; omega)) (k3 39 (by unfold mK; omega)) (k3 0 (by unfold mK; omega)) (k3 41 (by unfold mK; omega)) (fun p hp => Or.inl (by rw [k3 18 (by unfold mK; omega)]))⟩
  · rw [n3] at hp
    obtain ⟨g1, g2⟩ := h2 p hp
    refine ⟨g1.ext (k3 38 (by unfold mK; omega)) (k3 2 (by unfold mK; omega)) (by rw [k3 28 (by unfold mK; omega)]) (by rw [k3 19 (by unfold mK; omega)]) (by rw [k3 15 (by unfold mK; omega)]), ?_⟩
    unfold MX
    rw [k3 28 (by unfold mK; omega), k3 22 (by unfold mK; omega)]
    exact g2
  · rw [cntE_m (k3 31 (by unfold mK; omega)) (k3 40 (by unfold mK; omega))]
    exact h3 p hp
  · rw [n3] at hp
    rw [k3 17 (by unfold mK; omega), k3 22 (by unfold mK; omega), k3 23 (by unfold mK; omega), k3 24 (by unfold mK; omega), k3 26 (by unfold mK; omega), k3 27 (by unfold mK; omega), k3 29 (by unfold mK; omega)]
    exact h5 p hp
/-- a call that changes one parcel -/
theorem Sim.step {n q : Nat} {c m c' m' : MM} (h : Sim n c m) (hq : q < npN m) (hs : Sm c' m') (hN : NX m' q) (hX : MX m' q) (hT : Tr 2 q m m') (h18 : m' 18 q = m 18 q ∨ m' 18 q = m 41 0) : Sim (n + 1) c' m' := by
  obtain ⟨h1, h2, h3, h4, h5, h6, h7, h8⟩ := h
  obtain ⟨t1, t2, t3, t4⟩ := hT
  have n3 : npN m' = npN m := npN_ext (t1 39 (by unfold oK; omega))
  refine ⟨hs, fun p hp => ?_, fun p hp => ?_, by rw [t1 41 (by unfold oK; omega)]; exact ⟨h4.1, h4.2.1, Nat.le_trans h4.2.2 (by omega)⟩, fun p hp => ?_, fun p => by rw [t1 30 (by unfold oK; omega)]; exact h6 p, fun p hp => ?_, h8.ext (t1 37 (by unfold oK; omega)) (t1 39 (by unfold oK; omega)) (t1 0 (by unfold oK; omega)) (t1 41 (by unfold oK; omega)) (fun p hp => ?_)⟩
  · by_cases z : p = q
    · subst z; exact ⟨hN, hX⟩
    · rw [n3] at hp
      obtain ⟨g1, g2⟩ := h2 p hp
      refine ⟨g1.ext (t1 38 (by unfold oK; omega)) (t1 2 (by unfold oK; omega)) (t2 28 p (by omega) z) (t2 19 p (by omega) z) (t2 15 p (by omega) z), ?_⟩
      unfold MX
      rw [t2 28 p (by omega) z, t2 22 p (by omega) z]
      exact g2
  · have x1 := h3 p hp
    have x2 := t3 p hp
    by_cases z : p = q
    · rw [if_pos z] at x2; omega
    · rw [if_neg z] at x2; omega
  · rw [n3] at hp
    have z : p ≠ q := by omega
    rw [t2 17 p (by omega) z, t2 22 p (by omega) z, t2 23 p (by omega) z, t2 24 p (by omega) z, t2 26 p (by omega) z, t2 27 p (by omega) z, t2 29 p (by omega) z]
    exact h5 p hp
  · rw [n3] at hp
    by_cases z : p = q
    · subst z; exact t4.elim (fun y => by rw [y]; exact h7 p hp) Or.inr
    · rw [t2 29 p (by omega) z]; exact h7 p hp
  · by_cases z : p = q
    · subst z; exact h18
    · exact Or.inl (t2 18 p (by omega) z)

