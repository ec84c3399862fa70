/-! closeLine -/
/-- what a plan for all keeps -/
def rK (k : Nat) : Prop := k = 0 ∨ k = 37 ∨ (11 ≤ k ∧ k ≤ 31) ∨ (39 ≤ k ∧ k ≤ 41)
theorem Sim.replan {n : Nat} {c m c' m' : MM} (h : Sim n c m) (hs : Sm c' m') (hm : ∀ k, rK k → m' k = m k) : Sim n (cPlA c') (fPlansAll m') := by
  obtain ⟨h1, h2, h3, h4, h5, h6, h7, h8⟩ := h
  have e0 : npN m' = npN m := npN_ext (hm 39 (by unfold rK; omega))
  obtain ⟨s1, s2⟩ := Sm.planAll (npN m') 0 c' m' (by omega) hs (fun q hq => by omega)
  unfold cPlA fPlansAll
  rw [hs.1.1.2.2]
  have kk : ∀ k, rK k → k ≠ 19 → plAll (npN m') 0 m' k = m k := fun k a d => by
    rw [plAll_key _ _ m' (by unfold rK at a; unfold kTry; omega) d, hm k a]
  have n3 : npN (plAll (npN m') 0 m') = npN m := npN_ext (kk 39 (by unfold rK; omega) (by omega))
  refine ⟨s1, fun p hp => ⟨s2 p (by rw [e0]; rw [n3] at hp; exact hp), ?_⟩, fun p hp => ?_, ?_, fun p hp => ?_, fun p => ?_, fun p hp => ?_, h8.ext (kk 37 (by unfold rK; omega) (by omega)) (kk 39 (by unfold rK; omega) (by omega)) (kk 0 (by unfold rK; omega) (by omega)) (kk 41 (by unfold rK; omega) (by omega)) (fun p hp => Or.inl (by rw [kk 18 (by unfold rK; omega) (by omega)]))⟩
  · unfold MX
    rw [kk 28 (by unfold rK; omega) (by omega), kk 22 (by unfold rK; omega) (by omega)]
    exact (h2 p (by rw [n3] at hp; exact hp)).2
  · rw [cntE_m (kk 31 (by unfold rK; omega) (by omega)) (kk 40 (by unfold rK; omega) (by omega))]
    exact h3 p hp
  · rw [kk 41 (by unfold rK; omega) (by omega)]; exact h4
  · rw [n3] at hp
    rw [kk 17 (by unfold rK; omega) (by omega), kk 22 (by unfold rK; omega) (by omega), kk 23 (by unfold rK; omega) (by omega), kk 24 (by unfold rK; omega) (by omega), kk 26 (by unfold rK; omega) (by omega), kk 27 (by unfold rK; omega) (by omega), kk 29 (by unfold rK; omega) (by omega)]
    exact h5 p hp
  · rw [kk 30 (by unfold rK; omega) (by omega)]; exact h6 p
  · rw [n3] at hp
    rw [kk 29 (by unfold rK; omega) (by omega)]; exact h7 p hp
theorem call_closeLine {n : Nat} {c m : MM} (h : Sim n c m) (hw : WFa m) (hc : WFc c) (x : Int32) : CallOK n [nseC, iseC] (cClo c x) (xOpn c x) (cCw c x) (fClose m x) := by
  rcases ln_cases h hw hc x with ⟨z, hX, hf⟩ | ⟨z, hX, hf⟩
  · have hl := vp_nat z
    obtain ⟨f1, f2⟩ := h.1.1.2.2.2 _ hl
    have hXo : xOpn c x = if c 108 x.toNatClampNeg = 0 then some iseC else none := by unfold xOpn; rw [hX]; rfl
    by_cases w : m 9 x.toNatClampNeg = 0
    · have hXn : xOpn c x = none := by rw [hXo, if_neg (fun q => (f2.mp q) w)]
      have e : fClose m x = (waits m x, fPlansAll (up (thr (thr m 0 1) (m 9 x.toNatClampNeg) 2) 9 x.toNatClampNeg 1)) := by
        unfold fClose; simp only; rw [hf]; dsimp only; rw [if_neg (fun q => q rfl), if_neg (fun q => q w)]
      have h2 := (h.thr 0 1).thr (m 9 x.toNatClampNeg) 2
      have hcl : cClo c x = cPlA (up c 108 x.toNatClampNeg 0) := by unfold cClo; rw [if_pos hXn]
      rw [e, hXn, hcl]
      have hS := h2.replan (h2.1.close x.toNatClampNeg) (fun k hk => up_key (by unfold rK at hk; omega))
      refine CallOK.ask ?_ (fun _ => h.waitsC x) hS
      dsimp only
      unfold fPlansAll
      rw [plAll_key _ _ _ (by unfold kTry; omega) (by omega), up_k (by omega), thr45, if_pos w]
      rfl
    · have hXs : xOpn c x = some iseC := by rw [hXo, if_pos (f2.mpr w)]
      have e : fClose m x = (0, thr (thr m 0 1) (m 9 x.toNatClampNeg) 2) := by
        unfold fClose; simp only; rw [hf]; dsimp only; rw [if_neg (fun q => q rfl), if_pos w]
      have hcl : cClo c x = c := by unfold cClo; rw [hXs]; exact if_neg (fun q => (nomatch q))
      rw [e, hXs, hcl]
      refine CallOK.ask ?_ (fun q => (nomatch q)) ((h.thr _ _).thr _ _)
      dsimp only; rw [thr45, if_neg w]; exact kod_1.2.2.1.symm
  · have hXs : xOpn c x = some nseC := by unfold xOpn; rw [hX]; rfl
    have e : fClose m x = (0, thr m 1 1) := by unfold fClose; simp only; rw [hf]; dsimp only; rw [if_pos (by decide)]
    have hcl : cClo c x = c := by unfold cClo; rw [hXs]; exact if_neg (fun q => (nomatch q))
    rw [e, hXs, hcl]
    exact CallOK.ask (by dsimp only; rw [thr45]; exact kod_1.2.1.symm) (fun q => (nomatch q)) (h.thr _ _)

