/-! openHub -/
theorem Sim.hub {n : Nat} {c m : MM} (h : Sim n c m) (hw : WFa m) (hn : nhN m < 6) {x y : Int32} (hx : isN x 1 999) (hy : isN y 1 20) : Sim (n + 1) (cHb c x y) (up (up (up m 0 (nhN m) x) 1 (nhN m) y) 37 0 (m 37 0 + 1)) := by
  obtain ⟨h1, h2, h3, h4, h5, h6, h7, h8⟩ := h
  have hs := h1.hub (x := x) hn hw.nh.1 hy
  obtain ⟨M, hM⟩ : ∃ z, z = up (up (up m 0 (nhN m) x) 1 (nhN m) y) 37 0 (m 37 0 + 1) := ⟨_, rfl⟩
  rw [← hM] at hs ⊢
  have kM : ∀ k, k ≠ 0 → k ≠ 1 → k ≠ 37 → M k = m k := fun k z1 z2 z3 => by rw [hM, up_key z3, up_key z2, up_key z1]
  have nM : nhN M = nhN m + 1 := by unfold nhN; rw [hM, up_s, hw.nh.1, nI_1, nI_clamp (by omega), nI_clamp (by omega)]
  have n3 : npN M = npN m := npN_ext (kM 39 (by omega) (by omega) (by omega))
  refine ⟨hs, fun p hp => ?_, fun p hp => ?_, ?_, fun p hp => ?_, fun p => ?_, fun p hp => ?_, fun i hi => ?_, fun p hp => ?_⟩
  · rw [n3] at hp
    obtain ⟨g1, g2⟩ := h2 p hp
    refine ⟨g1.ext (kM 38 (by omega) (by omega) (by omega)) (kM 2 (by omega) (by omega) (by omega)) (by rw [kM 28 (by omega) (by omega) (by omega)]) (by rw [kM 19 (by omega) (by omega) (by omega)]) (by rw [kM 15 (by omega) (by omega) (by omega)]), ?_⟩
    unfold MX
    rw [kM 28 (by omega) (by omega) (by omega), kM 22 (by omega) (by omega) (by omega)]
    exact g2
  · rw [cntE_m (kM 31 (by omega) (by omega) (by omega)) (kM 40 (by omega) (by omega) (by omega))]
    exact Nat.le_trans (h3 p hp) (by omega)
  · rw [kM 41 (by omega) (by omega) (by omega)]
    exact ⟨h4.1, h4.2.1, Nat.le_trans h4.2.2 (by omega)⟩
  · rw [n3] at hp
    rw [kM 17 (by omega) (by omega) (by omega), kM 22 (by omega) (by omega) (by omega), kM 23 (by omega) (by omega) (by omega), kM 24 (by omega) (by omega) (by omega), kM 26 (by omega) (by omega) (by omega), kM 27 (by omega) (by omega) (by omega), kM 29 (by omega) (by omega) (by omega)]
    exact h5 p hp
  · rw [kM 30 (by omega) (by omega) (by omega)]; exact h6 p
  · rw [n3] at hp
    rw [kM 29 (by omega) (by omega) (by omega)]; exact h7 p hp
  · have e0 : M 0 i = if i = nhN m then x else m 0 i := by
      rw [hM, up_k (by omega), up_k (by omega)]
      by_cases z : i = nhN m
      · rw [z, up_s, if_pos rfl]
      · rw [up_i z, if_neg z]
    rw [e0]
    by_cases z : i = nhN m
    · rw [if_pos z]; exact hx
    · rw [if_neg z]; exact h8.1 i (by omega)
  · rw [n3] at hp
    rw [kM 18 (by omega) (by omega) (by omega), kM 41 (by omega) (by omega) (by omega)]; exact h8.2 p hp
theorem kd_i3 : kodF iaeC 0 [iaeC] = 1 ∧ kodF iaeC 0 [iaeC, iseC] = 1 ∧ kodF iseC 0 [iaeC, iseC] = 2 ∧ kodF nseC 0 [nseC, iaeC, iseC] = 1 ∧ kodF iaeC 0 [nseC, iaeC, iseC] = 2 ∧ kodF iseC 0 [nseC, iaeC, iseC] = 3 := by decide
theorem call_openHub {n : Nat} {c m : MM} (h : Sim n c m) (hw : WFa m) (hc : WFc c) (x y : Int32) : CallOK n [iaeC, iseC] (if xOpH c x y = none then cHb c x y else c) (xOpH c x y) (nI (nhN c)) (fOpen m x y) := by
  have nh6 := hw.nh.2
  have e37 := hw.nh.1
  have en : nhN c = nhN m := h.1.1.1.1
  have hcod := cod_eq x
  have hcode := hwL_eq h x (nhN m) 0 0 (by omega) (by omega) (Or.inl rfl)
  have hHw : cHwL c x (nhN m) 0 = cHw c x := by unfold cHw; rw [en]
  rw [hHw] at hcode
  by_cases z1 : isDg x 1 999 = 0 ∨ ¬ inn y 1 20 = true
  · have hf : fOpen m x y = (0, thr m 1 1) := by
      unfold fOpen
      simp only
      rw [bi_t z1, if_pos (by decide)]
    have hX : xOpH c x y = some iaeC := by
      unfold xOpH
      rw [if_pos (z1.imp hcod.mpr id)]
    rw [hf]
    refine CallOK.thrown hX ?_ (h.thr _ _)
    dsimp only
    rw [thr45, kd_i3.2.1]
    rfl
  · have z1' : ¬ (cCod x = 0 ∨ ¬ inn y 1 20 = true) := fun q => z1 (q.imp hcod.mp id)
    have h6 : m 37 0 = 6 ↔ ¬ nI (nhN m) < 6 := by
      rw [e37, show (6 : Int32) = nI 6 from rfl, nI_ltI (by omega) (by omega), nI_eq (by omega) (by omega)]
      omega
    have hcc : ¬ hasCode m x (nhN m) 0 0 = 0 ↔ ¬ cHw c x = -1 := by
      rw [hcode]
      by_cases w : cHw c x = -1
      · rw [if_neg (fun q => q.elim (fun y => absurd y (by decide)) (fun y => y w))]; exact ⟨fun q => absurd rfl q, fun q => absurd w q⟩
      · rw [if_pos (Or.inr w)]; exact ⟨fun _ => w, fun _ => by decide⟩
    by_cases z2 : ¬ hasCode m x (nhN m) 0 0 = 0 ∨ m 37 0 = 6
    · have hf : fOpen m x y = (0, thr (thr m 0 1) 1 2) := by
        unfold fOpen
        simp only
        rw [bi_f z1, if_neg (fun q => q rfl), bi_t z2, if_pos (by decide)]
      have hX : xOpH c x y = some iseC := by
        unfold xOpH
        rw [if_neg z1', en, if_pos (z2.imp hcc.mp h6.mp)]
      rw [hf]
      refine CallOK.thrown hX ?_ ((h.thr _ _).thr _ _)
      dsimp only
      rw [thr45, kd_i3.2.2.1]
      rfl
    · have hX : xOpH c x y = none := by
        unfold xOpH
        rw [if_neg z1', en, if_neg (fun q => z2 (q.imp hcc.mpr h6.mpr))]
      have hf : fOpen m x y = (m 37 0 + 1 - 1, up (up (up (thr (thr m 0 1) 0 2) 0 (nhN m) x) 1 (nhN m) y) 37 0 (m 37 0 + 1)) := by
        unfold fOpen
        simp only
        rw [bi_f z1, if_neg (fun q => q rfl), bi_f z2, if_neg (fun q => q rfl)]
      rw [hf]
      have h2 := (h.thr 0 1).thr 0 2
      have w2 : WFa (thr (thr m 0 1) 0 2) := (hw.thr 0 1).thr 0 2
      obtain ⟨N, hN⟩ : ∃ q, q = thr (thr m 0 1) 0 2 := ⟨_, rfl⟩
      have kN : ∀ k, k ≠ 45 → N k = m k := fun k hk => by rw [hN, thrk _ _ _ hk, thrk _ _ _ hk]
      have e45 : N 45 0 = 0 := by rw [hN, thr45, if_pos rfl]
      rw [← hN] at h2 w2 ⊢
      have n2 : nhN N = nhN m := nhN_ext (kN 37 (by omega))
      have hxx : isN x 1 999 := by
        have q : inn x 1 999 = true := by
          by_cases w : inn x 1 999 = true ∧ ¬ cWz x = 0
          · exact w.1
          · exact absurd (show cCod x = 0 from if_neg w) (fun q => z1' (Or.inl q))
        exact inn_isN (a := 1) (b := 999) (by omega) (by omega) q
      have hyy : isN y 1 20 := inn_isN (a := 1) (b := 20) (by omega) (by omega) (Classical.byContradiction fun q => z1 (Or.inr q))
      have hlt : nhN N < 6 := by
        rw [n2]
        have q : nhN m ≠ 6 := fun q => z2 (Or.inr (by rw [e37, q]; rfl))
        omega
      have hs := h2.hub w2 hlt hxx hyy
      rw [n2, kN 37 (by omega)] at hs
      refine CallOK.done hX ?_ ?_ hs
      · dsimp only
        rw [up_k (by omega), up_k (by omega), up_k (by omega)]; exact e45
      · dsimp only
        rw [Int32.add_sub_cancel, en, e37]
/-! addLine -/
theorem Sm.line {c m : MM} (h : Sm c m) (hw : WFa m) (hn : nlN m < 12) {x y f per tr mb : Int32} (hx : vp_in x (nhN m)) (hy : vp_in y (nhN m)) (hf : isN f 0 59) (hp : isN per 5 60) (ht : isN tr 1 60) :
    Sm (cLn c x.toNatClampNeg y.toNatClampNeg f per tr mb) (mAdd m x y f per tr mb) := by
  obtain ⟨⟨⟨a1, a2, a3⟩, b41, a4, a5⟩, ⟨⟨q1, q2, q3⟩, ⟨q4, q5⟩, q6, q7⟩, h3, h4, h5⟩ := h
  have fr := hw.fr.2
  have vx := vp_nI hx (by omega)
  have vy := vp_nI hy (by omega)
  obtain ⟨M, hM⟩ : ∃ z, z = mAdd m x y f per tr mb := ⟨_, rfl⟩
  obtain ⟨C, hC⟩ : ∃ z, z = cLn c x.toNatClampNeg y.toNatClampNeg f per tr mb := ⟨_, rfl⟩
  obtain ⟨D, hD⟩ : ∃ z, z = cLn1 c x.toNatClampNeg y.toNatClampNeg f per tr mb := ⟨_, rfl⟩
  have hCD : C = cLs D 1 := by rw [hC, hD]; rfl
  rw [← hM, ← hC]
  have kM : ∀ k, ¬ (2 ≤ k ∧ k ≤ 7) → k ≠ 38 → M k = m k := fun k z1 z2 => by rw [hM]; unfold mAdd; rw [up_key (by omega), up_key (by omega), up_key (by omega), up_key (by omega), up_key (by omega), up_key (by omega), up_key (by omega)]
  have kC : ∀ k, lnk k = true → k ≠ 171 → k ≠ 172 → C k = c k := fun k z1 z2 z3 => by rw [hCD, cLs_k z2 z3, hD, cLn1_k z1]
  have kD : ∀ k, k ≠ 171 → k ≠ 172 → C k = D k := fun k z2 z3 => by rw [hCD, cLs_k z2 z3]
  have nM : nlN M = nlN m + 1 := by
    show (M 38 0).toNatClampNeg = _
    rw [show M 38 0 = nI (nlN m + 1) by rw [hM]; unfold mAdd; rw [up_s], nI_clamp (by omega)]
  have nC : nlN C = nlN m + 1 := by rw [nlN_ext (kD 38 (by omega) (by omega)), hD, (cLn1_n (by omega)).2.1, a2]
  have n1 : nhN M = nhN m := nhN_ext (kM 37 (by omega) (by omega))
  have n3 : npN M = npN m := npN_ext (kM 39 (by omega) (by omega))
  have M2 : ∀ k v, ((k = 2 ∧ v = x) ∨ (k = 3 ∧ v = y) ∨ (k = 4 ∧ v = f) ∨ (k = 5 ∧ v = per) ∨ (k = 6 ∧ v = tr) ∨ (k = 7 ∧ v = mb)) → ∀ i, M k i = if i = nlN m then v else m k i := by
    intro k v hk i
    rw [hM]
    rcases hk with ⟨rfl, rfl⟩ | ⟨rfl, rfl⟩ | ⟨rfl, rfl⟩ | ⟨rfl, rfl⟩ | ⟨rfl, rfl⟩ | ⟨rfl, rfl⟩ <;> simp [mAdd, up]
  have D2 : ∀ k v, ((k = 2 ∧ v = x) ∨ (k = 3 ∧ v = y) ∨ (k = 4 ∧ v = f) ∨ (k = 5 ∧ v = per) ∨ (k = 6 ∧ v = tr) ∨ (k = 7 ∧ v = mb)) → ∀ i, C k i = if i = nlN m then v else c k i := by
    intro k v hk i
    rw [kD k (by omega) (by omega), hD, ← a2]
    rcases hk with ⟨rfl, rfl⟩ | ⟨rfl, rfl⟩ | ⟨rfl, rfl⟩ | ⟨rfl, rfl⟩ | ⟨rfl, rfl⟩ | ⟨rfl, rfl⟩ <;> simp [cLn1, up, cLnB, ← vx, ← vy]
  have D108 : ∀ i, C 108 i = if i = nlN m then 1 else c 108 i := fun i => by rw [kD 108 (by omega) (by omega), hD, ← a2]; simp [cLn1, up, cLnB]
  have D8 : ∀ i, C 8 i = if i = nlN m then 0 else c 8 i := fun i => by rw [kD 8 (by omega) (by omega), hD, ← a2]; simp [cLn1, up, cLnB]
  have D10 : ∀ i, C 10 i = if i / 40 = nlN m then 0 else c 10 i := fun i => by rw [kD 10 (by omega) (by omega), hD, ← a2]; simp [cLn1, up, cLnB]
  refine ⟨⟨⟨by rw [n1, nhN_ext (kC 37 rfl (by omega) (by omega)), a1], by rw [nC, nM], by rw [n3, npN_ext (kC 39 rfl (by omega) (by omega)), a3]⟩, ?_, fun i hi => ?_, fun l hl => ⟨fun k k2 k7 => ?_, ?_⟩⟩, ⟨⟨by omega, by omega, fun l hl => ?_⟩, ⟨fun i hi => ?_, fun l hl => ?_⟩, by omega, ?_⟩, fun p hp => ?_, fun l hl => ?_, fun p hp => ?_⟩
  · rw [kC 41 rfl (by omega) (by omega), kM 41 (by omega) (by omega)]; exact b41
  · rw [n1] at hi
    rw [kC 0 rfl (by omega) (by omega), kC 1 rfl (by omega) (by omega), kM 0 (by omega) (by omega), kM 1 (by omega) (by omega)]; exact a4 i hi
  · have hv : ∃ v, (k = 2 ∧ v = x) ∨ (k = 3 ∧ v = y) ∨ (k = 4 ∧ v = f) ∨ (k = 5 ∧ v = per) ∨ (k = 6 ∧ v = tr) ∨ (k = 7 ∧ v = mb) := by
      rcases (by omega : k = 2 ∨ k = 3 ∨ k = 4 ∨ k = 5 ∨ k = 6 ∨ k = 7) with rfl | rfl | rfl | rfl | rfl | rfl
      · exact ⟨x, by simp⟩
      · exact ⟨y, by simp⟩
      · exact ⟨f, by simp⟩
      · exact ⟨per, by simp⟩
      · exact ⟨tr, by simp⟩
      · exact ⟨mb, by simp⟩
    obtain ⟨v, hv⟩ := hv
    rw [D2 k v hv, M2 k v hv]
    by_cases z : l = nlN m
    · rw [if_pos z, if_pos z]
    · rw [if_neg z, if_neg z]; exact (a5 l (by omega)).1 k k2 k7
  · rw [D108, kM 9 (by omega) (by omega)]
    by_cases z : l = nlN m
    · rw [if_pos z, z, (fr (nlN m) (Nat.le_refl _)).2]; decide
    · rw [if_neg z]; exact (a5 l (by omega)).2
  · rw [n1, M2 2 x (by simp), M2 3 y (by simp)]
    by_cases z : l = nlN m
    · rw [if_pos z, if_pos z]; exact ⟨hx, hy⟩
    · rw [if_neg z, if_neg z]; exact q3 l (by omega)
  · rw [n1] at hi
    rw [kM 1 (by omega) (by omega)]; exact q4 i hi
  · rw [M2 4 f (by simp), M2 5 per (by simp), M2 6 tr (by simp)]
    by_cases z : l = nlN m
    · rw [if_pos z, if_pos z, if_pos z]; exact ⟨hf, hp, ht⟩
    · rw [if_neg z, if_neg z, if_neg z]; exact q5 l (by omega)
  · rw [kM 41 (by omega) (by omega)]; exact q7
  · rw [n3] at hp
    obtain ⟨g1, g2⟩ := h3 p hp
    refine ⟨g1.ext (fun k hk => ?_) (fun k hk => ?_), g2.ext (kM 37 (by omega) (by omega)) (fun k hk => by have := pk_ne hk; rw [kM k (by omega) (by omega)])⟩
    · have hk2 : 11 ≤ k ∧ k ≤ 29 ∨ k = 116 := hk.imp (fun z => by have := pk_ne z; omega) id
      rw [kC k (by unfold lnk; simp; omega) (by omega) (by omega)]
    · have hk2 : 11 ≤ k ∧ k ≤ 29 := hk.elim (fun z => by have := pk_ne z; omega) (fun z => by omega)
      rw [kM k (by omega) (by omega)]
  · rw [D8, kM 8 (by omega) (by omega), kM 10 (by omega) (by omega)]
    by_cases z : l = nlN m
    · rw [if_pos z, z, (fr (nlN m) (Nat.le_refl _)).1]
      exact ⟨rfl, fun k hk _ => absurd hk (Nat.not_lt_zero _)⟩
    · rw [if_neg z]
      obtain ⟨s1, s2⟩ := h4 l (by omega)
      refine ⟨s1, fun k hk hk4 => ?_⟩
      have v8 := vp_nat (hw.ln (l := l) (by omega)).2.2.2.1
      rw [D10, if_neg (by unfold vN at hk; omega)]
      exact s2 k hk hk4
  · rw [n3] at hp
    refine (h5 p hp).ext ?_ (fun k hk => kC k (by rcases hk with rfl | rfl | rfl <;> rfl) (by omega) (by omega)) (kM 31 (by omega) (by omega)) (kM 40 (by omega) (by omega))
    rw [hCD, cLs_171, if_neg (by omega), hD, cLn1_k rfl]
theorem call_addLine {n : Nat} {c m : MM} (h : Sim n c m) (hw : WFa m) (hc : WFc c) (x y f per tr mb : Int32) : CallOK n [nseC, iaeC, iseC] (if xAdd c x y f per tr mb = none then cAddM c x y f per tr mb else c) (xAdd c x y f per tr mb) (nI (nlN c)) (fAddL m x y f per tr mb) := by
  have hhx := h.hb hc (x := x)
  have hhy := h.hb hc (x := y)
  have nl12 := hw.nl.2
  have nh6 := hw.nh.2
  have en : nlN c = nlN m := h.1.1.1.2.1
  by_cases z1 : vp_in x (nhN m) ∧ vp_in y (nhN m)
  · have i1 : isHb m x = true := hw.isHb.mpr z1.1
    have i2 : isHb m y = true := hw.isHb.mpr z1.2
    have hb1 : bi (¬ isHb m x = true ∨ ¬ isHb m y = true) = 0 := bi_f (fun q => q.elim (fun w => w i1) (fun w => w i2))
    have hX0 : xAdd c x y f per tr mb = if ¬ cLnOK x y f per tr mb then some iaeC else if ¬ nI (nlN m) < 12 then some iseC else none := by
      unfold xAdd
      rw [hhx.mpr z1.1, hhy.mpr z1.2, en]
      rfl
    have hbad : lineBad x y f per tr mb ↔ ¬ cLnOK x y f per tr mb := by
      unfold lineBad cLnOK
      constructor
      · intro q w
        rcases q with q | q | q | q | q
        · exact w.1 q
        · exact q w.2.1
        · exact q w.2.2.1
        · exact q w.2.2.2.1
        · exact q w.2.2.2.2
      · intro q
        refine Classical.byContradiction fun w => q ⟨fun e => w (Or.inl e), ?_, ?_, ?_, ?_⟩
        · exact Classical.byContradiction fun e => w (Or.inr (Or.inl e))
        · exact Classical.byContradiction fun e => w (Or.inr (Or.inr (Or.inl e)))
        · exact Classical.byContradiction fun e => w (Or.inr (Or.inr (Or.inr (Or.inl e))))
        · exact Classical.byContradiction fun e => w (Or.inr (Or.inr (Or.inr (Or.inr e))))
    by_cases z2 : lineBad x y f per tr mb
    · have hf : fAddL m x y f per tr mb = (0, thr (thr m 0 1) 1 2) := by
        unfold fAddL
        simp only
        rw [hb1, if_neg (fun q => q rfl), bi_t z2, if_pos (by decide)]
      rw [hf]
      refine CallOK.thrown (by rw [hX0, if_pos (hbad.mp z2)]) ?_ ((h.thr _ _).thr _ _)
      dsimp only
      rw [thr45, kd_i3.2.2.2.2.1]
      rfl
    · have z2' : ¬ ¬ cLnOK x y f per tr mb := fun q => z2 (hbad.mpr q)
      have h12 : m 38 0 = 12 ↔ ¬ nI (nlN m) < 12 := by
        rw [hw.nl.1, show (12 : Int32) = nI 12 from rfl, nI_ltI (by omega) (by omega), nI_eq (by omega) (by omega)]
        omega
      by_cases z3 : m 38 0 = 12
      · have hf : fAddL m x y f per tr mb = (0, thr (thr (thr m 0 1) 0 2) 1 3) := by
          unfold fAddL
          simp only
          rw [hb1, if_neg (fun q => q rfl), bi_f z2, if_neg (fun q => q rfl), bi_t z3, if_pos (by decide)]
        rw [hf]
        refine CallOK.thrown (by rw [hX0, if_neg z2', if_pos (h12.mp z3)]) ?_ (((h.thr _ _).thr _ _).thr _ _)
        dsimp only
        rw [thr45, kd_i3.2.2.2.2.2]
        rfl
      · have hX : xAdd c x y f per tr mb = none := by rw [hX0, if_neg z2', if_neg (fun q => z3 (h12.mpr q))]
        rw [fAddL_eq hw ⟨i1, i2⟩ z2 z3]
        have h2 := ((h.thr 0 1).thr 0 2).thr 0 3
        have w2 : WFa (thr (thr (thr m 0 1) 0 2) 0 3) := ((hw.thr 0 1).thr 0 2).thr 0 3
        obtain ⟨N, hN⟩ : ∃ q, q = thr (thr (thr m 0 1) 0 2) 0 3 := ⟨_, rfl⟩
        have kN : ∀ k, k ≠ 45 → N k = m k := fun k hk => by rw [hN, thrk _ _ _ hk, thrk _ _ _ hk, thrk _ _ _ hk]
        have e45 : N 45 0 = 0 := by rw [hN, thr45, if_pos rfl]
        rw [← hN] at h2 w2 ⊢
        have n1 : nhN N = nhN m := nhN_ext (kN 37 (by omega))
        have n2 : nlN N = nlN m := nlN_ext (kN 38 (by omega))
        have hlt : nlN N < 12 := by
          rw [n2]
          have q : nlN m ≠ 12 := fun q => z3 (by rw [hw.nl.1, q]; rfl)
          omega
        have hok := Classical.not_not.mp z2'
        have hs := h2.1.line w2 hlt (x := x) (y := y) (f := f) (per := per) (tr := tr) (mb := mb) (by rw [n1]; exact z1.1) (by rw [n1]; exact z1.2) (inn_isN (a := 0) (b := 59) (by omega) (by omega) hok.2.1) (inn_isN (a := 5) (b := 60) (by omega) (by omega) hok.2.2.1) (inn_isN (a := 1) (b := 60) (by omega) (by omega) hok.2.2.2.1)
        have kA : ∀ k, ¬ (2 ≤ k ∧ k ≤ 7) → k ≠ 38 → mAdd N x y f per tr mb k = N k := fun k z1 z2 => by unfold mAdd; rw [up_key (by omega), up_key (by omega), up_key (by omega), up_key (by omega), up_key (by omega), up_key (by omega), up_key (by omega)]
        have hS := h2.replan hs (fun k hk => kA k (by unfold rK at hk; omega) (by unfold rK at hk; omega))
        refine CallOK.done hX ?_ ?_ (hS.mono (by omega))
        · dsimp only
          unfold fPlansAll
          rw [plAll_key _ _ _ (by unfold kTry; omega) (by omega), kA 45 (by omega) (by omega)]
          exact e45
        · dsimp only
          unfold fPlansAll
          rw [plAll_key _ _ _ (by unfold kTry; omega) (by omega), en]
          rw [show mAdd N x y f per tr mb 38 0 = nI (nlN m + 1) by unfold mAdd; rw [up_s, n2]]
          exact (nI_sub (b := 1) (a := nlN m + 1) (by omega)).symm
  · have hb1 : bi (¬ isHb m x = true ∨ ¬ isHb m y = true) = 1 := bi_t (by
      by_cases w : vp_in x (nhN m)
      · exact Or.inr (fun q => z1 ⟨w, hw.isHb.mp q⟩)
      · exact Or.inl (fun q => w (hw.isHb.mp q)))
    have hf : fAddL m x y f per tr mb = (0, thr m 1 1) := by
      unfold fAddL
      simp only
      rw [hb1, if_pos (by decide)]
    have hX : xAdd c x y f per tr mb = some nseC := by
      unfold xAdd
      by_cases w : vp_in x (nhN m)
      · rw [hhx.mpr w, xHb_ns (fun q => z1 ⟨w, hhy.mp q⟩)]; rfl
      · rw [xHb_ns (fun q => w (hhx.mp q))]; rfl
    rw [hf]
    refine CallOK.thrown hX ?_ (h.thr _ _)
    dsimp only
    rw [thr45, kd_i3.2.2.2.1]
    rfl

