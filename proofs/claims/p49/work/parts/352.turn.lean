/-! deliveries and returns -/
def tK (k : Nat) : Prop := k = 11 ∨ k = 12 ∨ k = 13 ∨ k = 15 ∨ k = 16 ∨ k = 17 ∨ k = 22 ∨ k = 24 ∨ k = 25 ∨ k = 26 ∨ k = 28
def TuP (m m' : MM) (p : Nat) : Prop := m' 29 p = 1 ∧ m' 14 p = m 13 p ∧ m' 23 p = 0 ∧ m' 18 p = m 41 0 ∧ m' 21 p = (if m 15 p = m 13 p then m 41 0 else -1) ∧ m' 20 p = bAr (plR m' p) ∧ m' 19 p = bHd (plR m' p) ∧ ∀ k, tK k → m' k p = m k p
theorem turn_keys {m : MM} {p : Nat} (hm : ML (fTurns m p)) (hP : MP (fTurns m p) p) : TuP m (fTurns m p) p := by
  obtain ⟨X, hX⟩ : ∃ z, z = fProm0 (fTurns0 m p) p := ⟨_, rfl⟩
  have e : fTurns m p = fHap (fPlans (fProm1 X p) p) p 114 (-1) := by rw [hX]; rfl
  have xk : ∀ k, k ≠ 21 → k ≠ 29 → k ≠ 14 → k ≠ 23 → k ≠ 18 → X k = m k := fun k a b d e f => by rw [hX]; unfold fProm0; rw [up_key a, fTurns0_key m p ⟨b, d, e, f⟩]
  have em : X = up (up (up (up (up m 29 p 1) 14 p (m 13 p)) 23 p 0) 18 p (m 41 0)) 21 p (if m 15 p = m 13 p then m 41 0 else -1) := by
    rw [hX]
    unfold fProm0 fTurns0
    rw [up_k (k' := 15) (by omega), up_k (k' := 15) (by omega), up_k (k' := 15) (by omega), up_k (k' := 15) (by omega), up_k (k' := 14) (by omega), up_k (k' := 14) (by omega), up_s, up_k (k' := 41) (by omega), up_k (k' := 41) (by omega), up_k (k' := 41) (by omega), up_k (k' := 41) (by omega)]
  obtain ⟨F, hF⟩ : ∃ F, F = fTurns m p := ⟨_, rfl⟩
  rw [← hF] at hm hP e ⊢
  have p1 : ∀ k, ¬ kTry k → k ≠ 20 → fProm1 X p k = X k := fun k hk h20 => by unfold fProm1; rw [up_key h20, fLays_key X p hk]
  have kF : ∀ k, k ≤ 26 ∨ k = 28 ∨ k = 29 ∨ (37 ≤ k ∧ k ≤ 39) ∨ k = 41 → k ≠ 19 → F k = fProm1 X p k := fun k hk h19 => by rw [e, hpl_key _ _ _ _ hk h19]
  have kX : ∀ k, k ≤ 26 ∨ k = 28 ∨ k = 29 ∨ (37 ≤ k ∧ k ≤ 39) ∨ k = 41 → k ≠ 19 → k ≠ 20 → F k = X k := fun k hk h19 h20 => by rw [kF k hk h19, p1 k (by unfold kTry; omega) h20]
  refine ⟨?_, ?_, ?_, ?_, ?_, ?_, ?_, fun k hk => ?_⟩
  · rw [kX 29 (by omega) (by omega) (by omega), em, up_k (by omega), up_k (by omega), up_k (by omega), up_k (by omega), up_s]
  · rw [kX 14 (by omega) (by omega) (by omega), em, up_k (by omega), up_k (by omega), up_k (by omega), up_s]
  · rw [kX 23 (by omega) (by omega) (by omega), em, up_k (by omega), up_k (by omega), up_s]
  · rw [kX 18 (by omega) (by omega) (by omega), em, up_k (by omega), up_s]
  · rw [kX 21 (by omega) (by omega) (by omega), em, up_s]
  · rw [kF 20 (by omega) (by omega), ← lays_by (Y := X) hm hP (fun q hq => (kX q (by unfold lnKey at hq; omega) (by unfold lnKey at hq; omega) (by unfold lnKey at hq; omega)).symm) (by rw [kX 14 (by omega) (by omega) (by omega)]) (by rw [kX 15 (by omega) (by omega) (by omega)]) (by rw [kX 18 (by omega) (by omega) (by omega)])]
    exact up_s _ _ _ _
  · rw [← fPlan_by (Y := fProm1 X p) hm hP (fun q hq => (kF q (by unfold lnKey at hq; omega) (by unfold lnKey at hq; omega)).symm) (by rw [kF 14 (by omega) (by omega)]) (by rw [kF 15 (by omega) (by omega)]) (by rw [kF 18 (by omega) (by omega)]), e, hap_pk (by omega) (by omega) (by omega) (by omega)]
    exact up_s _ _ _ _
  · unfold tK at hk
    rw [kX k (by omega) (by omega) (by omega), xk k (by omega) (by omega) (by omega) (by omega) (by omega)]
/-- a deed that keeps the plan and the promise -/
theorem IVp.keep {m F : MM} {p : Nat} (hI : IVp m p) (ho : One m F p) (h28 : F 28 p = 115 → m 28 p = 115) (e : ∀ k, k = 11 ∨ k = 12 ∨ k = 19 ∨ k = 20 → F k p = m k p) (h26 : F 28 p = 100 → isN (F 26 p) 0 (2 ^ 17)) : IVp F p := by
  obtain ⟨i1, i2, i3, i4, i5⟩ := hI
  refine ⟨fun z => ?_, by rw [e 20 (by omega)]; exact i2, by rw [e 11 (by omega)]; exact i3, by rw [e 12 (by omega)]; exact i4, h26⟩
  rw [e 19 (by omega), nlN_ext (ho.1 38 ⟨by unfold oK; omega, by omega⟩), ho.1 9 ⟨by unfold oK; omega, by omega⟩]
  exact i1 (h28 z)
theorem IVp.turn {m F : MM} {p : Nat} (hI : IVp m p) (ht : TuP m F p) (h28 : m 28 p = 115) (hm : ML F) (hP : MP F p) (h41 : vN (F 41 0) ≤ 70000) (hq : vN (F 18 p) ≤ vN (F 41 0)) : IVp F p := by
  obtain ⟨t1, t2, t3, t4, t5, t6, t7, t8⟩ := ht
  obtain ⟨i1, i2, i3, i4, i5⟩ := hI
  refine ⟨fun z => by rw [t7]; exact plR_open hm hP, ?_, ?_, ?_, fun z => ?_⟩
  · rw [t6]
    rcases plR_late hm hP hq with e | ⟨a, e, ha⟩
    · exact Or.inl e
    · refine Or.inr ?_
      rw [e]
      unfold isN
      rw [nI_clamp (by omega)]
      exact ⟨rfl, Nat.zero_le _, by omega⟩
  · rw [t8 11 (by unfold tK; omega)]; exact i3
  · rw [t8 12 (by unfold tK; omega)]; exact i4
  · rw [t8 28 (by unfold tK; omega), h28] at z; exact absurd z (by decide)
section TURN
variable {n : Nat} {c m : MM} {p : Nat}
theorem min_le (h : Sim n c m) (hn : n ≤ 512) : vN (m 41 0) ≤ 70000 := by have := h.2.2.2.1.2.2; unfold vN; omega
/-- recalled -/
theorem d_recall (h : Stt n c m) (hc : WFc c) (hn : n < 512) (hp : p < npN m) (z1 : m 28 p = 115) (z2 : m 29 p = 0) :
    xRec c (nI p) = none ∧ ∃ m', Stt (n + 1) (cTurn c p) m' ∧ One m m' p ∧ TuP m m' p ∧ cTurn c p 20 p = m' 20 p := by
  obtain ⟨hS, hw, hI⟩ := h
  have hC := v_pC hw hp
  have hX : xRec c (nI p) = none := by
    unfold xRec
    rw [v_sc hS hw hc hp z1, v_pk hS hw hp (k := 29) rfl, z2]
    rfl
  obtain ⟨N, hN⟩ : ∃ N, N = thr (thr m 0 1) 0 2 := ⟨_, rfl⟩
  have mk : ∀ k, k ≠ 45 → N k = m k := fun k hk => by rw [hN, thrk _ _ _ hk, thrk _ _ _ hk]
  have w2 : WFa N := by rw [hN]; exact (hw.thr 0 1).thr 0 2
  have h2 : Sim n c N := by rw [hN]; exact (hS.thr 0 1).thr 0 2
  have hq2 : p < npN N := by rw [npN_ext (mk 39 (by omega))]; exact hp
  have n40 := hw.np.2
  have hL := hS.log hw
  have hf : fRec m (nI p) = (fTurns N p 20 p, fTurns N p) := by
    unfold fRec
    simp only
    rw [fNone_yes hw (vp_in_nI hp (by omega)), hC]
    dsimp only
    rw [if_neg (fun q => q rfl), bi_f (fun q => q.elim (fun y => y z2) (fun y => y z1)), if_neg (fun q => q rfl), ← hN]
  have q := call_recall hS hn hw hc (nI p)
  have qw := (rw_rec hw (by omega) (nI p)).1
  rw [hf, if_pos hX, hC] at q
  rw [hf] at qw
  have q1 : cTurn c p 20 p = fTurns N p 20 p := q.2.1 hX
  have q2 : Sim (n + 1) (cTurn c p) (fTurns N p) := q.2.2
  have hT := (h2.1.turn w2 hq2 (by rw [mk 28 (by omega)]; exact z1) (by have := h2.cnt hn (q := p) (by omega); omega)).2.2
  have hO := one_of (m := m) mk hT
  have hq3 : p < npN (fTurns N p) := by rw [npN_ext (hO.1 39 ⟨by unfold oK; omega, by omega⟩)]; exact hp
  have ht := turn_keys q2.1.2.1 (q2.1.2.2.1 p hq3).2
  have ht2 : TuP m (fTurns N p) p := by
    obtain ⟨t1, t2, t3, t4, t5, t6, t7, t8⟩ := ht
    rw [mk 13 (by omega)] at t2
    rw [mk 41 (by omega)] at t4
    rw [mk 13 (by omega), mk 15 (by omega), mk 41 (by omega)] at t5
    exact ⟨t1, t2, t3, t4, t5, t6, t7, fun k hk => by rw [t8 k hk, mk k (by unfold tK at hk; omega)]⟩
  exact ⟨hX, fTurns N p, ⟨q2, qw, hI.one hO ((hI p hp).turn ht2 z1 q2.1.2.1 (q2.1.2.2.1 p hq3).2 (min_le q2 (by omega)) (q2.2.2.2.2.2.2.2.2 p hq3))⟩, hO, ht2, q1⟩
theorem d_recX1 (h : Stt n c m) (hc : WFc c) (hp : p < npN m) (z : ¬ (m 28 p = 115 ∧ m 29 p = 0)) : xRec c (nI p) = some iseC := by
  obtain ⟨hS, hw, hI⟩ := h
  unfold xRec xSc
  rw [v_pX hS hw hc hp, v_pk hS hw hp (k := 29) rfl, v_pk hS hw hp (k := 28) rfl]
  by_cases y : m 28 p = 115
  · rw [if_pos y, if_neg (fun q => z ⟨y, q⟩)]; rfl
  · rw [if_neg y]; rfl
theorem del_setup (h : Sim n c m) (hw : WFa m) (hc : WFc c) (hn : n < 512) (hp : p < npN m) (z1 : m 28 p = 115) (z2 : m 15 p = m 14 p) (t : Int32) :
    xDel c (nI p) = none ∧ ∃ N : MM, (∀ k, k ≠ 45 → N k = m k) ∧ cDelR c (nI p) t = (fDel1 N p t).1 ∧ Sim (n + 1) (cDel c (nI p) t) (fDel1 N p t).2 ∧ WFa (fDel1 N p t).2 ∧ Tr 2 p N (fDel1 N p t).2 := by
  have n40 := hw.np.2
  have hC := v_pC hw hp
  have hX : xDel c (nI p) = none := by
    unfold xDel
    rw [v_pX h hw hc hp, v_pk h hw hp (k := 28) rfl, v_pk h hw hp (k := 15) rfl, v_pk h hw hp (k := 14) rfl, if_pos ⟨z1, z2⟩]
    rfl
  obtain ⟨N, hN⟩ : ∃ N, N = thr (thr m 0 1) 0 2 := ⟨_, rfl⟩
  have mk : ∀ k, k ≠ 45 → N k = m k := fun k hk => by rw [hN, thrk _ _ _ hk, thrk _ _ _ hk]
  have w2 : WFa N := by rw [hN]; exact (hw.thr 0 1).thr 0 2
  have h2 : Sim n c N := by rw [hN]; exact (h.thr 0 1).thr 0 2
  have hq2 : p < npN N := by rw [npN_ext (mk 39 (by omega))]; exact hp
  have hf : fDel m (nI p) t = fDel1 N p t := by
    unfold fDel
    simp only
    rw [fNone_yes hw (vp_in_nI hp (by omega)), hC]
    dsimp only
    rw [if_neg (fun q => q rfl), bi_f (fun q => q.elim (fun y => y z1) (fun y => y z2)), if_neg (fun q => q rfl), ← hN]
  have hL := h.log hw
  have hL2 := h2.log w2
  have q := call_deliver h hn hw hc (nI p) t
  have qw := (rw_del hw (by omega) (nI p) t).1
  rw [hf, if_pos hX] at q
  rw [hf] at qw
  have hN2 := h2.2.1 p hq2
  have m28 : N 28 p = 115 := by rw [mk 28 (by omega)]; exact z1
  refine ⟨hX, N, mk, q.2.1 hX, q.2.2, qw, ?_⟩
  by_cases ht : t = 0
  · subst ht
    exact (h2.1.fail w2 hq2 m28 (h2.cnt hn (by omega)) (by omega) hN2.1 hN2.2).2.2.2.2
  · exact (h2.1.deliv w2 hq2 (h2.cnt hn (by omega)) hN2.2 m28 t ht).2.2.2.2
/-- what is the same of a parcel that is delivered, or fails to be -/
def dK (k : Nat) : Prop := 11 ≤ k ∧ k ≤ 29 ∧ k ≠ 23 ∧ k ≠ 26 ∧ k ≠ 27 ∧ k ≠ 28
def DeP (m m' : MM) (p : Nat) (st at9 dl : Int32) : Prop := m' 28 p = st ∧ m' 23 p = at9 ∧ m' 26 p = dl ∧ ∀ k, dK k → m' k p = m k p
theorem d_delD (h : Stt n c m) (hc : WFc c) (hn : n < 512) (hp : p < npN m) (z1 : m 28 p = 115) (z2 : m 15 p = m 14 p) {t : Int32} (ht : ¬ t = 0) :
    xDel c (nI p) = none ∧ cDelR c (nI p) t = 100 ∧ ∃ m', Stt (n + 1) (cDel c (nI p) t) m' ∧ One m m' p ∧ DeP m m' p 100 (m 23 p) (m 41 0) := by
  obtain ⟨hS, hw, hI⟩ := h
  obtain ⟨hX, N, mk, hR, hS2, hW2, hT⟩ := del_setup hS hw hc hn hp z1 z2 t
  have hf : fDel1 N p t = (100, fHap (up (up N 28 p 100) 26 p (N 41 0)) p 100 (-1)) := by unfold fDel1; rw [if_pos ht]
  rw [hf] at hR hS2 hW2 hT
  have hO := one_of (m := m) mk hT
  have hd : DeP m (fHap (up (up N 28 p 100) 26 p (N 41 0)) p 100 (-1)) p 100 (m 23 p) (m 41 0) := by
    refine ⟨?_, ?_, ?_, fun k hk => ?_⟩
    · rw [hap_pk (by omega) (by omega) (by omega) (by omega), up_k (by omega), up_s]
    · rw [hap_pk (by omega) (by omega) (by omega) (by omega), up_k (by omega), up_k (by omega), mk 23 (by omega)]
    · rw [hap_pk (by omega) (by omega) (by omega) (by omega), up_s, mk 41 (by omega)]
    · unfold dK at hk
      rw [hap_pk (by omega) (by omega) (by omega) (by omega), up_k (by omega), up_k (by omega), mk k (by omega)]
  dsimp only at hR hS2 hW2 hT hO
  generalize fHap (up (up N 28 p 100) 26 p (N 41 0)) p 100 (-1) = F at *
  refine ⟨hX, hR, F, ⟨hS2, hW2, hI.one hO ((hI p hp).keep hO (fun z => ?_) (fun k hk => hd.2.2.2 k (by unfold dK; omega)) (fun _ => ?_))⟩, hO, hd⟩
  · rw [hd.1] at z; exact absurd z (by decide)
  · rw [hd.2.2.1]; exact hS.1.2.1.2.2.2
theorem d_delF (h : Stt n c m) (hc : WFc c) (hn : n < 512) (hp : p < npN m) (z1 : m 28 p = 115) (z2 : m 15 p = m 14 p) :
    xDel c (nI p) = none ∧ ∃ m', Stt (n + 1) (cDel c (nI p) 0) m' ∧ One m m' p ∧
      ((m 23 p + 1 < 3 - m 12 p ∧ cDelR c (nI p) 0 = 119 ∧ DeP m m' p 115 (m 23 p + 1) (m 26 p)) ∨ (¬ m 23 p + 1 < 3 - m 12 p ∧ ¬ m 29 p = 0 ∧ cDelR c (nI p) 0 = 104 ∧ DeP m m' p 104 (m 23 p + 1) (m 26 p)) ∨ (¬ m 23 p + 1 < 3 - m 12 p ∧ m 29 p = 0 ∧ cDelR c (nI p) 0 = 114 ∧ TuP m m' p)) := by
  obtain ⟨hS, hw, hI⟩ := h
  obtain ⟨hX, N, mk, hR, hS2, hW2, hT⟩ := del_setup hS hw hc hn hp z1 z2 0
  obtain ⟨B, hB⟩ : ∃ B, B = fHap (up N 23 p (N 23 p + 1)) p 102 (-1) := ⟨_, rfl⟩
  have kx : ∀ k, k ≤ 26 ∨ k = 28 ∨ k = 29 ∨ (37 ≤ k ∧ k ≤ 39) ∨ k = 41 → k ≠ 23 → B k = m k := fun k hk h23 => by rw [hB, hap_pk (by omega) (by omega) (by omega) (by omega), up_key h23, mk k (by omega)]
  have e23 : B 23 p = m 23 p + 1 := by rw [hB, hap_pk (by omega) (by omega) (by omega) (by omega), up_s, mk 23 (by omega)]
  have hf : fDel1 N p 0 = if m 23 p + 1 < 3 - m 12 p then (119, B) else if ¬ m 29 p = 0 then (104, fHap (up B 28 p 104) p 104 (-1)) else (114, fTurns B p) := by
    unfold fDel1
    rw [if_neg (fun q => q rfl)]
    simp only
    rw [← hB, e23, kx 12 (by omega) (by omega), kx 29 (by omega) (by omega)]
  by_cases y1 : m 23 p + 1 < 3 - m 12 p
  · rw [hf, if_pos y1] at hR hS2 hW2 hT
    have hO := one_of (m := m) mk hT
    dsimp only at hR hS2 hW2 hT hO
    have hd : DeP m B p 115 (m 23 p + 1) (m 26 p) := ⟨by rw [kx 28 (by omega) (by omega)]; exact z1, e23, by rw [kx 26 (by omega) (by omega)], fun k hk => by unfold dK at hk; rw [kx k (by omega) (by omega)]⟩
    exact ⟨hX, B, ⟨hS2, hW2, hI.one hO ((hI p hp).keep hO (fun _ => z1) (fun k hk => hd.2.2.2 k (by unfold dK; omega)) (fun z => by rw [hd.1] at z; exact absurd z (by decide)))⟩, hO, Or.inl ⟨y1, hR, hd⟩⟩
  · by_cases y2 : m 29 p = 0
    · rw [hf, if_neg y1, if_neg (fun q => q y2)] at hR hS2 hW2 hT
      have hO := one_of (m := m) mk hT
      dsimp only at hR hS2 hW2 hT hO
      have hq3 : p < npN (fTurns B p) := by rw [npN_ext (hO.1 39 ⟨by unfold oK; omega, by omega⟩)]; exact hp
      have ht2 : TuP m (fTurns B p) p := by
        obtain ⟨t1, t2, t3, t4, t5, t6, t7, t8⟩ := turn_keys hS2.1.2.1 (hS2.1.2.2.1 p hq3).2
        rw [kx 13 (by omega) (by omega)] at t2
        rw [kx 41 (by omega) (by omega)] at t4
        rw [kx 13 (by omega) (by omega), kx 15 (by omega) (by omega), kx 41 (by omega) (by omega)] at t5
        exact ⟨t1, t2, t3, t4, t5, t6, t7, fun k hk => by rw [t8 k hk, kx k (by unfold tK at hk; omega) (by unfold tK at hk; omega)]⟩
      exact ⟨hX, fTurns B p, ⟨hS2, hW2, hI.one hO ((hI p hp).turn ht2 z1 hS2.1.2.1 (hS2.1.2.2.1 p hq3).2 (min_le hS2 (by omega)) (hS2.2.2.2.2.2.2.2.2 p hq3))⟩, hO, Or.inr (Or.inr ⟨y1, y2, hR, ht2⟩)⟩
    · rw [hf, if_neg y1, if_pos y2] at hR hS2 hW2 hT
      have hO := one_of (m := m) mk hT
      dsimp only at hR hS2 hW2 hT hO
      have hd : DeP m (fHap (up B 28 p 104) p 104 (-1)) p 104 (m 23 p + 1) (m 26 p) := by
        refine ⟨?_, ?_, ?_, fun k hk => ?_⟩
        · rw [hap_pk (by omega) (by omega) (by omega) (by omega), up_s]
        · rw [hap_pk (by omega) (by omega) (by omega) (by omega), up_k (by omega), e23]
        · rw [hap_pk (by omega) (by omega) (by omega) (by omega), up_k (by omega), kx 26 (by omega) (by omega)]
        · unfold dK at hk
          rw [hap_pk (by omega) (by omega) (by omega) (by omega), up_k (by omega), kx k (by omega) (by omega)]
      generalize fHap (up B 28 p 104) p 104 (-1) = F at *
      exact ⟨hX, F, ⟨hS2, hW2, hI.one hO ((hI p hp).keep hO (fun z => by rw [hd.1] at z; exact absurd z (by decide)) (fun k hk => hd.2.2.2 k (by unfold dK; omega)) (fun z => by rw [hd.1] at z; exact absurd z (by decide)))⟩, hO, Or.inr (Or.inl ⟨y1, y2, hR, hd⟩)⟩
theorem d_delX (h : Stt n c m) (hc : WFc c) (hp : p < npN m) (z : ¬ (m 28 p = 115 ∧ m 15 p = m 14 p)) : xDel c (nI p) = some iseC := by
  obtain ⟨hS, hw, hI⟩ := h
  unfold xDel
  rw [v_pX hS hw hc hp, v_pk hS hw hp (k := 28) rfl, v_pk hS hw hp (k := 15) rfl, v_pk hS hw hp (k := 14) rfl, if_neg z]
  rfl
end TURN
