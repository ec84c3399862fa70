/-- not one of the parcels -/
theorem fNone_no {m : MM} (hw : WFa m) {x : Int32} (z : ¬ vp_in x (npN m)) : fNone m x = (1, thr m 1 1) := by
  have b1 : bi (¬ isPa m x = true) = 1 := bi_t (fun q => z (hw.isPa.mp q))
  unfold fNone
  rw [b1]
theorem fNone_yes {m : MM} (hw : WFa m) {x : Int32} (z : vp_in x (npN m)) : fNone m x = (0, thr m 0 1) := by
  have b1 : bi (¬ isPa m x = true) = 0 := bi_f (fun q => q (hw.isPa.mpr z))
  unfold fNone
  rw [b1]
theorem Sm.deliv {c m : MM} (h : Sm c m) (hw : WFa m) {q : Nat} (hq : q < npN m) (hcap : cntE m q (logN m) < 1023) (hX : MX m q) (h28 : m 28 q = 115) (t : Int32) (ht : ¬ t = 0) :
    Sm (cNote (up (up c 28 q 100) 26 q (c 41 0)) q 5 (c 41 0) (c 15 q).toNatClampNeg (-1)) (fDel1 m q t).2 ∧ (100 : Int32) = (fDel1 m q t).1 ∧ NX (fDel1 m q t).2 q ∧ MX (fDel1 m q t).2 q ∧ Tr 2 q m (fDel1 m q t).2 := by
  have hq2 := h.2.2.1 q hq
  have n40 := h.2.1.2.2.1
  have e41 : c 41 0 = m 41 0 := h.1.2.1
  have eD : fDel1 m q t = (100, fHap (up (up m 28 q 100) 26 q (m 41 0)) q 100 (-1)) := by
    unfold fDel1
    rw [if_pos ht]
  rw [eD]
  obtain ⟨A, hA⟩ : ∃ z, z = up (up m 28 q 100) 26 q (m 41 0) := ⟨_, rfl⟩
  have kA : ∀ k, k ≠ 28 → k ≠ 26 → A k = m k := fun k a b => by rw [hA, up_key b, up_key a]
  have s1 : Sm (up (up c 28 q 100) 26 q (c 41 0)) A := by
    rw [hA, e41]
    have s0 := h.set (k := 28) (q := q) (x := 100) rfl (fun _ => by decide) (fun _ => hq2.2.oth (by unfold mpk; omega) (by omega))
    exact s0.set (k := 26) (q := q) rfl (by omega) (fun _ => (hq2.2.oth (by unfold mpk; omega) (by omega)).oth (by unfold mpk; omega) (by omega))
  have wA : WFa A := by rw [hA]; exact (hw.up28 (Or.inr (Or.inr (Or.inl rfl)))).upx (by unfold kWF; omega)
  have hqA : q < npN A := by rw [npN_ext (kA 39 (by omega) (by omega))]; exact hq
  have cA : cntE A q (logN A) = cntE m q (logN m) := cntE_m (kA 31 (by omega) (by omega)) (kA 40 (by omega) (by omega)) q
  have s2 := s1.noteH wA hqA 5 100 (t := c 41 0) (x := (c 15 q).toNatClampNeg) (by omega) rfl rfl (by rw [up_k (by omega), up_k (by omega)]) (by rw [kA 15 (by omega) (by omega)]; exact h.own hq)
  rw [← hA]
  dsimp only
  refine ⟨s2, rfl, fun y => ?_, ?_, ?_⟩
  · rw [hap_pk (by omega) (by omega) (by omega) (by omega), hA, up_k (by omega), up_s] at y; exact absurd y (by decide)
  · unfold MX
    rw [hap_pk (by omega) (by omega) (by omega) (by omega), hap_pk (by omega) (by omega) (by omega) (by omega), kA 22 (by omega) (by omega), hA, up_k (by omega), up_s]
    exact Or.inr (hX.resolve_left (fun w => by rw [h28] at w; exact absurd w (by decide)))
  · have tA : Tr 0 q m A := by rw [hA]; exact (Tr.put (by omega) _).trans (Tr.put (by omega) _)
    exact (tA.trans (Tr.hap wA (by omega) 100 (-1))).mono (by omega)
/-- deliver -/
theorem call_deliver {n : Nat} {c m : MM} (h : Sim n c m) (hn : n < 512) (hw : WFa m) (hc : WFc c) (x t : Int32) : CallOK n [nseC, iseC] (if xDel c x = none then cDel c x t else c) (xDel c x) (cDelR c x t) (fDel m x t) := by
  have hpa := h.pa hc (x := x)
  have n40 := hw.np.2
  by_cases z1 : vp_in x (npN m)
  · have hq := vp_nat z1
    have g := (h.1.2.2.1 _ hq).1.1
    have k28 : c 28 x.toNatClampNeg = m 28 x.toNatClampNeg := g 28 rfl
    have k15 : c 15 x.toNatClampNeg = m 15 x.toNatClampNeg := g 15 rfl
    have k14 : c 14 x.toNatClampNeg = m 14 x.toNatClampNeg := g 14 rfl
    have hX0 : xDel c x = if m 28 x.toNatClampNeg = 115 ∧ m 15 x.toNatClampNeg = m 14 x.toNatClampNeg then none else some iseC := by
      unfold xDel
      rw [hpa.mpr z1, k28, k15, k14]
      rfl
    by_cases w : m 28 x.toNatClampNeg = 115 ∧ m 15 x.toNatClampNeg = m 14 x.toNatClampNeg
    · have b2 : bi (¬ m 28 x.toNatClampNeg = 115 ∨ ¬ m 15 x.toNatClampNeg = m 14 x.toNatClampNeg) = 0 := bi_f (fun q => q.elim (fun y => y w.1) (fun y => y w.2))
      have hf : fDel m x t = fDel1 (thr (thr m 0 1) 0 2) x.toNatClampNeg t := by
        unfold fDel
        simp only
        rw [fNone_yes hw z1]
        dsimp only
        rw [if_neg (fun q => q rfl), b2, if_neg (fun q => q rfl)]
      rw [hf]
      have h2 := (h.thr 0 1).thr 0 2
      have w2 : WFa (thr (thr m 0 1) 0 2) := (hw.thr 0 1).thr 0 2
      have mk : ∀ k, k ≠ 45 → thr (thr m 0 1) 0 2 k = m k := fun k hk => by rw [thrk _ _ _ hk, thrk _ _ _ hk]
      obtain ⟨M2, hM2⟩ : ∃ z, z = thr (thr m 0 1) 0 2 := ⟨_, rfl⟩
      have e45 : M2 45 0 = 0 := by rw [hM2, thr45, if_pos rfl]
      rw [← hM2] at h2 w2 mk ⊢
      have hq2 : x.toNatClampNeg < npN M2 := by rw [npN_ext (mk 39 (by omega))]; exact hq
      have hN := h2.2.1 _ hq2
      have hL := h2.log w2
      have m28 : M2 28 x.toNatClampNeg = 115 := by rw [mk 28 (by omega)]; exact w.1
      have hXn : xDel c x = none := by rw [hX0, if_pos w]
      by_cases ht : t = 0
      · subst ht
        obtain ⟨s1, s2, s3, s4, s5⟩ := h2.1.fail w2 hq2 m28 (h2.cnt hn (by omega)) (by omega) hN.1 hN.2
        refine CallOK.done hXn (by rw [s5.1 45 (by unfold oK; omega), e45]) ?_ (h2.step hq2 ?_ s3 s4 s5 (fDel1_18 _ _ _))
        · unfold cDelR; rw [if_pos rfl]; exact s2
        · unfold cDel; rw [if_pos rfl]; exact s1
      · obtain ⟨s1, s2, s3, s4, s5⟩ := h2.1.deliv w2 hq2 (h2.cnt hn (by omega)) hN.2 m28 t ht
        refine CallOK.done hXn (by rw [s5.1 45 (by unfold oK; omega), e45]) ?_ (h2.step hq2 ?_ s3 s4 s5 (fDel1_18 _ _ _))
        · unfold cDelR; rw [if_neg ht]; exact s2
        · unfold cDel; rw [if_neg ht]; exact s1
    · have b2 : bi (¬ m 28 x.toNatClampNeg = 115 ∨ ¬ m 15 x.toNatClampNeg = m 14 x.toNatClampNeg) = 1 := bi_t (by
        by_cases y : m 28 x.toNatClampNeg = 115
        · exact Or.inr (fun q => w ⟨y, q⟩)
        · exact Or.inl y)
      have hf : fDel m x t = (0, thr (thr m 0 1) 1 2) := by
        unfold fDel
        simp only
        rw [fNone_yes hw z1]
        dsimp only
        rw [if_neg (fun q => q rfl), b2, if_pos (by decide)]
      rw [hf]
      refine CallOK.thrown (by rw [hX0, if_neg w]) ?_ ((h.thr _ _).thr _ _)
      dsimp only
      rw [thr45, kd_s2]
      rfl
  · have hf : fDel m x t = (0, thr m 1 1) := by
      unfold fDel
      simp only
      rw [fNone_no hw z1]
      dsimp only
      rw [if_pos (by decide)]
    rw [hf]
    refine CallOK.thrown (e := nseC) (by unfold xDel; rw [xPa_ns (fun q => z1 (hpa.mp q))]; rfl) ?_ (h.thr _ _)
    dsimp only
    rw [thr45, kd_n2]
    rfl
/-- recall -/
theorem call_recall {n : Nat} {c m : MM} (h : Sim n c m) (hn : n < 512) (hw : WFa m) (hc : WFc c) (x : Int32) : CallOK n [nseC, iseC] (if xRec c x = none then cTurn c x.toNatClampNeg else c) (xRec c x) (cTurn c x.toNatClampNeg 20 x.toNatClampNeg) (fRec m x) := by
  have hpa := h.pa hc (x := x)
  have n40 := hw.np.2
  by_cases z1 : vp_in x (npN m)
  · have hq := vp_nat z1
    have g := (h.1.2.2.1 _ hq).1.1
    have k28 : c 28 x.toNatClampNeg = m 28 x.toNatClampNeg := g 28 rfl
    have k29 : c 29 x.toNatClampNeg = m 29 x.toNatClampNeg := g 29 rfl
    by_cases w : m 28 x.toNatClampNeg = 115 ∧ m 29 x.toNatClampNeg = 0
    · have b2 : bi (¬ m 29 x.toNatClampNeg = 0 ∨ ¬ m 28 x.toNatClampNeg = 115) = 0 := bi_f (fun q => q.elim (fun y => y w.2) (fun y => y w.1))
      have hf : fRec m x = (fTurns (thr (thr m 0 1) 0 2) x.toNatClampNeg 20 x.toNatClampNeg, fTurns (thr (thr m 0 1) 0 2) x.toNatClampNeg) := by
        unfold fRec
        simp only
        rw [fNone_yes hw z1]
        dsimp only
        rw [if_neg (fun q => q rfl), b2, if_neg (fun q => q rfl)]
      rw [hf]
      have h2 := (h.thr 0 1).thr 0 2
      have w2 : WFa (thr (thr m 0 1) 0 2) := (hw.thr 0 1).thr 0 2
      have mk : ∀ k, k ≠ 45 → thr (thr m 0 1) 0 2 k = m k := fun k hk => by rw [thrk _ _ _ hk, thrk _ _ _ hk]
      obtain ⟨M2, hM2⟩ : ∃ z, z = thr (thr m 0 1) 0 2 := ⟨_, rfl⟩
      have e45 : M2 45 0 = 0 := by rw [hM2, thr45, if_pos rfl]
      rw [← hM2] at h2 w2 mk ⊢
      have hq2 : x.toNatClampNeg < npN M2 := by rw [npN_ext (mk 39 (by omega))]; exact hq
      have hN := h2.2.1 _ hq2
      have m28 : M2 28 x.toNatClampNeg = 115 := by rw [mk 28 (by omega)]; exact w.1
      have hXn : xRec c x = none := by
        unfold xRec xSc
        rw [hpa.mpr z1, k28, k29, if_pos w.1, if_pos w.2]
        rfl
      have hcap := h2.cnt hn (q := x.toNatClampNeg) (by omega)
      obtain ⟨s1, s2, s3⟩ := h2.1.turn w2 hq2 m28 (by omega)
      have hX : MX (fTurns M2 x.toNatClampNeg) x.toNatClampNeg := by
        unfold MX
        rw [fTurns_k (Or.inl rfl), fTurns_k (Or.inr rfl)]
        exact hN.2
      have hq3 : x.toNatClampNeg < npN (fTurns M2 x.toNatClampNeg) := by rw [npN_ext (s3.1 39 (by unfold oK; omega))]; exact hq2
      have h45 : fTurns M2 x.toNatClampNeg 45 0 = 0 := by rw [s3.1 45 (by unfold oK; omega), e45]
      have hp3 := (s1.2.2.1 x.toNatClampNeg hq3).1
      have e20 : cTurn c x.toNatClampNeg 20 x.toNatClampNeg = fTurns M2 x.toNatClampNeg 20 x.toNatClampNeg := hp3.1 20 rfl
      have hS := h2.step hq2 s1 s2 hX (s3.mono (by omega)) (Or.inr (fTurns_18 _ _))
      clear hX s1 s2 s3 hp3 hq3
      generalize fTurns M2 x.toNatClampNeg = F at *
      generalize cTurn c x.toNatClampNeg = C at *
      exact CallOK.done hXn h45 e20 hS
    · have b2 : bi (¬ m 29 x.toNatClampNeg = 0 ∨ ¬ m 28 x.toNatClampNeg = 115) = 1 := bi_t (by
        by_cases y : m 28 x.toNatClampNeg = 115
        · exact Or.inl (fun q => w ⟨y, q⟩)
        · exact Or.inr y)
      have hf : fRec m x = (0, thr (thr m 0 1) 1 2) := by
        unfold fRec
        simp only
        rw [fNone_yes hw z1]
        dsimp only
        rw [if_neg (fun q => q rfl), b2, if_pos (by decide)]
      rw [hf]
      have hXs : xRec c x = some iseC := by
        unfold xRec xSc
        rw [hpa.mpr z1, k28, k29]
        by_cases y : m 28 x.toNatClampNeg = 115
        · rw [if_pos y, if_neg (fun q => w ⟨y, q⟩)]; rfl
        · rw [if_neg y]; rfl
      refine CallOK.thrown hXs ?_ ((h.thr _ _).thr _ _)
      dsimp only
      rw [thr45, kd_s2]
      rfl
  · have hf : fRec m x = (0, thr m 1 1) := by
      unfold fRec
      simp only
      rw [fNone_no hw z1]
      dsimp only
      rw [if_pos (by decide)]
    rw [hf]
    refine CallOK.thrown (e := nseC) (by unfold xRec xSc; rw [xPa_ns (fun q => z1 (hpa.mp q))]; rfl) ?_ (h.thr _ _)
    dsimp only
    rw [thr45, kd_n2]
    rfl

