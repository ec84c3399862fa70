/-! asking for events -/
theorem hcnt_E (m : MM) (p : Nat) : ∀ (k j : Nat), cntE m p j + hcnt m (nI p) k j = cntE m p (j + k) := by
  intro k
  induction k with
  | zero => intro j; rfl
  | succ k ih =>
    intro j
    have e := ih (j + 1)
    rw [show j + 1 + k = j + (k + 1) by omega] at e
    have e1 : cntE m p (j + 1) = cntE m p j + (if m 31 (4 * j) = nI p then 1 else 0) := rfl
    rw [e1] at e
    show cntE m p j + ((if m 31 (4 * j) = nI p then 1 else 0) + hcnt m (nI p) k (j + 1)) = _
    rw [← e]
    omega
theorem hap_eq {n : Nat} {c m : MM} (h : Sim n c m) {p : Nat} (hp : p < npN m) : hap m (nI p) = nI (szN c (6 + p)) ∧ szN c (6 + p) = cntE m p (logN m) ∧ szN c (6 + p) ≤ 1024 := by
  have hE := h.1.2.2.2.2 p hp
  have e := hcnt_E m p (logN m) 0
  rw [Nat.zero_add] at e
  have e0 : hcnt m (nI p) (logN m) 0 = cntE m p (logN m) := by
    rw [← e]
    show _ = 0 + _
    omega
  exact ⟨by rw [hap_cnt, e0, hE.1.1], hE.1.1, by rw [hE.1.1]; exact hE.1.2⟩
theorem call_events {n : Nat} {c m : MM} (h : Sim n c m) (hw : WFa m) (hc : WFc c) (x : Int32) : CallOK n [nseC] c (xPa c x) (nI (szN c (6 + x.toNatClampNeg))) (fEvs m x) := by
  have hpa := h.pa hc (x := x)
  have n40 := hw.np.2
  by_cases z : vp_in x (npN m)
  · have hf : fEvs m x = (hap (thr m 0 1) x, thr m 0 1) := by
      unfold fEvs
      simp only
      rw [fNone_yes hw z]
      dsimp only
      rw [if_neg (fun q => q rfl)]
    rw [hf, hpa.mpr z]
    refine CallOK.ask (thr45 m 0 1) (fun _ => ?_) (h.thr _ _)
    have e3 : npN (thr m 0 1) = npN m := npN_ext (thrk m 0 1 (by omega))
    have e := (hap_eq (h.thr 0 1) (p := x.toNatClampNeg) (by rw [e3]; exact vp_nat z)).1
    rw [← vp_nI z (by omega)] at e
    exact e.symm
  · have hf : fEvs m x = (0, thr m 1 1) := by
      unfold fEvs
      simp only
      rw [fNone_no hw z]
      dsimp only
      rw [if_pos (by decide)]
    rw [hf, xPa_ns (fun q => z (hpa.mp q))]
    exact CallOK.ask (by dsimp only; rw [thr45]; exact kod_1.1.symm) (fun q => (nomatch q)) (h.thr _ _)
theorem evL_find {m : MM} {p : Nat} (hp : p < 40) : ∀ (k j i : Nat), j + k = logN m → i < 2 ^ 20 → cntE m p j + i < cntE m p (logN m) → evL m (nI p) k j (nI i) < logN m ∧ m 31 (4 * evL m (nI p) k j (nI i)) = nI p ∧ cntE m p (evL m (nI p) k j (nI i)) = cntE m p j + i := by
  intro k
  induction k with
  | zero => intro j i hj _ h; rw [show logN m = j by omega] at h; omega
  | succ k ih =>
    intro j i hj hi h
    simp only [evL]
    have e1 : cntE m p (j + 1) = cntE m p j + (if m 31 (4 * j) = nI p then 1 else 0) := rfl
    by_cases z : m 31 (4 * j) = nI p
    · rw [if_pos z] at e1
      by_cases w : i = 0
      · subst w
        rw [if_pos ⟨z, by decide⟩]
        exact ⟨by omega, z, by omega⟩
      · obtain ⟨i', rfl⟩ : ∃ q, i = q + 1 := ⟨i - 1, by omega⟩
        rw [if_neg (fun q => by have q2 := q.2; rw [nI_pos0 (by omega)] at q2; omega), bi_t z, nI_pred]
        obtain ⟨a1, a2, a3⟩ := ih (j + 1) i' (by omega) (by omega) (by omega)
        exact ⟨a1, a2, by omega⟩
    · rw [if_neg z] at e1
      rw [if_neg (fun q => z q.1), bi_f z, nI_sub0]
      obtain ⟨a1, a2, a3⟩ := ih (j + 1) i (by omega) (by omega) (by omega)
      exact ⟨a1, a2, by omega⟩
theorem call_event {n : Nat} {c m : MM} (h : Sim n c m) (hn : n < 512) (hw : WFa m) (hc : WFc c) (x i : Int32) {k : Nat} {jj : Nat} (hk : (k = 120 ∧ jj = 1) ∨ (k = 121 ∧ jj = 2) ∨ (k = 122 ∧ jj = 3)) : CallOK n [nseC, iobC] c (xEv c x i) (c k (1024 * x.toNatClampNeg + i.toNatClampNeg)) (fEvK (nI jj) m x i) := by
  have hpa := h.pa hc (x := x)
  have n40 := hw.np.2
  by_cases z : vp_in x (npN m)
  · have hq := vp_nat z
    have vx := vp_nI z (by omega)
    have h1 := h.thr 0 1
    have e3 : npN (thr m 0 1) = npN m := npN_ext (thrk m 0 1 (by omega))
    obtain ⟨g1, g2, g3⟩ := hap_eq h1 (p := x.toNatClampNeg) (by rw [e3]; exact hq)
    rw [← vx] at g1
    have hf : fEv m x i = (if ¬ bi (¬ inn i 0 (hap (thr m 0 1) x - 1) = true) = 0 then -1 else nI (4 * evL (thr (thr m 0 1) (bi (¬ inn i 0 (hap (thr m 0 1) x - 1) = true)) 2) x (logN (thr (thr m 0 1) (bi (¬ inn i 0 (hap (thr m 0 1) x - 1) = true)) 2)) 0 i), thr (thr m 0 1) (bi (¬ inn i 0 (hap (thr m 0 1) x - 1) = true)) 2) := by
      unfold fEv
      simp only
      rw [fNone_yes hw z]
      dsimp only
      rw [if_neg (fun q => q rfl)]
    rw [g1] at hf
    have hX : xEv c x i = if i < 0 ∨ ¬ i < nI (szN c (6 + x.toNatClampNeg)) then some iobC else none := by
      unfold xEv
      rw [hpa.mpr z]
      rfl
    have hin := inn_iff (x := i) (n := szN c (6 + x.toNatClampNeg)) (by omega)
    by_cases y : vp_in i (szN c (6 + x.toNatClampNeg))
    · have b0 : bi (¬ inn i 0 (nI (szN c (6 + x.toNatClampNeg)) - 1) = true) = 0 := bi_f (fun q => q (hin.mpr y))
      rw [b0, if_neg (fun q => q rfl)] at hf
      have h2 := h1.thr 0 2
      obtain ⟨M, hM⟩ : ∃ q, q = thr (thr m 0 1) 0 2 := ⟨_, rfl⟩
      rw [← hM] at h2 hf
      have kM : ∀ k, k ≠ 45 → M k = m k := fun k hk => by rw [hM, thrk _ _ _ hk, thrk _ _ _ hk]
      have hp2 : x.toNatClampNeg < npN M := by rw [npN_ext (kM 39 (by omega))]; exact hq
      have hE := h2.1.2.2.2.2 _ hp2
      obtain ⟨ii, hii, ei⟩ := vp_in_of y (by omega)
      rw [ei] at hf ⊢ hX
      have hc2 := hE.1.1
      have hfind := evL_find (m := M) (p := x.toNatClampNeg) (by omega) (logN M) 0 ii (by omega) (by omega) (by show 0 + ii < _; omega)
      rw [← vx] at hfind
      obtain ⟨f1, f2, f3⟩ := hfind
      rw [hX, if_neg (fun q => q.elim (nI_pos (by omega)) (fun w => w (nI_lt hii (by omega))))]
      generalize evL M x (logN M) 0 (nI ii) = J at *
      have f3' : cntE M x.toNatClampNeg J = ii := by rw [f3]; show 0 + ii = ii; omega
      have hJ : J < 2 ^ 20 := by have := h2.log (by rw [hM]; exact (hw.thr 0 1).thr 0 2); omega
      have hef : fEvK (nI jj) m x (nI ii) = (M 31 (4 * J + jj), M) := by
        unfold fEvK
        simp only
        rw [hf]
        dsimp only
        rw [if_neg (nI_pos (by omega)), nI_add, nI_clamp (by omega)]
      rw [hef]
      refine CallOK.ask ?_ (fun _ => ?_) h2
      · dsimp only; rw [hM, thr45]; rfl
      · have hev := hE.2 J f1 (by rw [f2]; exact vx)
        rw [f3'] at hev
        rw [nI_clamp (by omega)]
        rcases hk with ⟨rfl, rfl⟩ | ⟨rfl, rfl⟩ | ⟨rfl, rfl⟩
        · exact hev.1
        · exact hev.2.1
        · exact hev.2.2
    · have b1 : bi (¬ inn i 0 (nI (szN c (6 + x.toNatClampNeg)) - 1) = true) = 1 := bi_t (fun q => y (hin.mp q))
      rw [b1, if_pos (by decide)] at hf
      have hef : fEvK (nI jj) m x i = (0, thr (thr m 0 1) 1 2) := by
        unfold fEvK
        simp only
        rw [hf]
        dsimp only
        rw [if_pos (by decide)]
      rw [hef, hX, if_pos (Classical.byContradiction (fun q => y (vp_of (by omega) (fun w => q (Or.inl w)) (Classical.byContradiction (fun w => q (Or.inr w))))))]
      refine CallOK.ask ?_ (fun q => (nomatch q)) (h1.thr _ _)
      dsimp only; rw [thr45]; exact kod_1.2.2.2.2.symm
  · have hf : fEvK (nI jj) m x i = (0, thr m 1 1) := by
      unfold fEvK fEv
      simp only
      rw [fNone_no hw z]
      dsimp only
      rw [if_pos (show ¬ (1 : Int32) = 0 by decide)]
      rfl
    have hX : xEv c x i = some nseC := by unfold xEv; rw [xPa_ns (fun q => z (hpa.mp q))]; rfl
    rw [hf, hX]
    exact CallOK.ask (by dsimp only; rw [thr45]; exact kod_1.2.2.2.1.symm) (fun q => (nomatch q)) (h.thr _ _)

