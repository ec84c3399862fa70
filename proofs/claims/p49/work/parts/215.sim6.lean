/-! first the event, then the plan: as if the other way round -/
theorem hap_pl {X : MM} {q : Nat} (hm : ML X) (hP : MP X q) (kind l : Int32) {k : Nat} (hk : mK k) : fHap (fPlans X q) q kind l k = up (fHap X q kind l) 19 q (bHd (plR X q)) k := by
  have hk2 : ¬ kTry k := by unfold mK at hk; unfold kTry; omega
  rw [fHap_congr (a := fPlans X q) (b := up X 19 q (bHd (plR X q))) (fun k hk => fPlans_eq hm hP hk) q kind l hk2, fHap_up (by omega)]
theorem plR_hap {X : MM} {q : Nat} (kind l : Int32) : plR (fHap X q kind l) q = plR X q := by
  have hap := fun (k : Nat) (a : k ≠ 31) (b : k ≠ 40) (d : k ≠ 27) (e : k ≠ 46) => fHap_key X q kind l a b d e
  refine plR_ext (fun k hk => ?_) ?_ ?_ ?_
  · unfold lnKey at hk; exact hap k (by omega) (by omega) (by omega) (by omega)
  · rw [hap 14 (by omega) (by omega) (by omega) (by omega)]
  · rw [hap 15 (by omega) (by omega) (by omega) (by omega)]
  · rw [hap 18 (by omega) (by omega) (by omega) (by omega)]
theorem NX.of {m : MM} {q : Nat} (hm : ML m) (hP : MP m q) (h19 : m 19 q = bHd (plR m q)) : NX m q := by
  intro _ l hl h
  rw [h19] at h
  exact plR_from hm hP hl h
theorem Sm.planHap {C X : MM} {q : Nat} {kind l : Int32} (h : Sm C (fHap X q kind l)) (hm : ML X) (hP : MP X q) (hq : q < npN X) : Sm (cPlan C q) (fHap (fPlans X q) q kind l) ∧ NX (fHap (fPlans X q) q kind l) q := by
  have n3 : npN (fHap X q kind l) = npN X := npN_ext (fHap_key X q kind l (by omega) (by omega) (by omega) (by omega))
  have hq' : q < npN (fHap X q kind l) := by rw [n3]; exact hq
  obtain ⟨h1, h2⟩ := h.plan hq'
  have hq2 := h.2.2.1 q hq'
  have e : ∀ k, mK k → fHap (fPlans X q) q kind l k = fPlans (fHap X q kind l) q k := fun k hk => by
    rw [hap_pl hm hP kind l hk, fPlans_eq h.2.1 hq2.2 (by unfold mK at hk; unfold kTry; omega), plR_hap]
  exact ⟨h1.ext (fun _ _ => rfl) (fun _ => rfl) e, h2.ext (e 38 (by unfold mK; omega)) (e 2 (by unfold mK; omega)) (by rw [e 28 (by unfold mK; omega)]) (by rw [e 19 (by unfold mK; omega)]) (by rw [e 15 (by unfold mK; omega)])⟩
theorem Sm.promHap {C X : MM} {q : Nat} {kind l : Int32} (h : Sm C (fHap X q kind l)) (hm : ML X) (hP : MP X q) (hq : q < npN X) : Sm (cPlanP C q) (fHap (fPlans (fProm1 X q) q) q kind l) ∧ NX (fHap (fPlans (fProm1 X q) q) q kind l) q := by
  have hap := fun (k : Nat) (a : k ≠ 31) (b : k ≠ 40) (d : k ≠ 27) (e : k ≠ 46) => fHap_key X q kind l a b d e
  have n3 : npN (fHap X q kind l) = npN X := npN_ext (hap 39 (by omega) (by omega) (by omega) (by omega))
  have hq' : q < npN (fHap X q kind l) := by rw [n3]; exact hq
  have hq2 := h.2.2.1 q hq'
  have hb := bAr_ok hm hP
  -- the reference's state, by keys
  have e1 : ∀ k, ¬ kTry k → fPlans (fProm1 X q) q k = up (up X 20 q (bAr (plR X q))) 19 q (bHd (plR X q)) k := fun k hk => by
    have y1 : ML (fProm1 X q) := hm.ext (fun k hk => by unfold lnKey at hk; rw [fProm1_eq hm hP (by unfold kTry; omega), up_key (by omega)])
    have y2 : MP (fProm1 X q) q := (hP.up20 hb).ext (by rw [fProm1_eq hm hP (by unfold kTry; omega)]) (fun k hk => by rw [fProm1_eq hm hP (by have := pk_ne hk; unfold kTry; omega)])
    have y3 : plR (fProm1 X q) q = plR X q := plR_ext (fun k hk => by unfold lnKey at hk; rw [fProm1_eq hm hP (by unfold kTry; omega), up_key (by omega)]) (by rw [fProm1_eq hm hP (by unfold kTry; omega), up_key (by omega)]) (by rw [fProm1_eq hm hP (by unfold kTry; omega), up_key (by omega)]) (by rw [fProm1_eq hm hP (by unfold kTry; omega), up_key (by omega)])
    rw [fPlans_eq y1 y2 hk, y3]
    exact up_eq (fProm1_eq hm hP hk)
  have e : ∀ k, mK k → fHap (fPlans (fProm1 X q) q) q kind l k = up (up (fHap X q kind l) 20 q (bAr (plR X q))) 19 q (bHd (plR X q)) k := fun k hk => by
    rw [fHap_congr e1 q kind l (by unfold mK at hk; unfold kTry; omega), fHap_up (by omega), fHap_up (by omega)]
  have s1 := h.set (k := 20) (q := q) (x := bAr (plR X q)) rfl (by omega) (fun _ => hq2.2.up20 hb)
  have s2 := s1.set (k := 19) (q := q) (x := bHd (plR X q)) rfl (by omega) (fun _ => (hq2.2.up20 hb).oth (by unfold mpk; omega) (by omega))
  have s3 := s2.ext (m' := fHap (fPlans (fProm1 X q) q) q kind l) (c' := cPlanP C q) (fun k hk => ?_) (fun p => ?_) e
  · refine ⟨s3, ?_⟩
    have n3' : npN (fHap (fPlans (fProm1 X q) q) q kind l) = npN X := by rw [npN_ext (e 39 (by unfold mK; omega)), ← n3]; unfold npN; rw [up_k (by omega), up_k (by omega)]
    refine NX.of s3.2.1 (s3.2.2.1 q (by rw [n3']; exact hq)).2 ?_
    rw [e 19 (by unfold mK; omega), up_s]
    refine congrArg bHd (plR_ext (fun k hk => ?_) ?_ ?_ ?_).symm
    · unfold lnKey at hk
      rw [e k (by unfold mK; omega), up_key (by omega), up_key (by omega)]; exact hap k (by omega) (by omega) (by omega) (by omega)
    · rw [e 14 (by unfold mK; omega), up_key (by omega), up_key (by omega), hap 14 (by omega) (by omega) (by omega) (by omega)]
    · rw [e 15 (by unfold mK; omega), up_key (by omega), up_key (by omega), hap 15 (by omega) (by omega) (by omega) (by omega)]
    · rw [e 18 (by unfold mK; omega), up_key (by omega), up_key (by omega), hap 18 (by omega) (by omega) (by omega) (by omega)]
  · rw [cPlanP_eq h.1 h.2.1 hq2.1 hq2.2 (by unfold cK at hk; unfold kPth; omega), plR_hap]
    funext i
    simp only [up]
    by_cases a : k = 19 ∧ i = q
    · rw [if_pos a, if_neg (by omega), if_pos a]
    · rw [if_neg a, if_neg a]
  · rw [cPlanP_eq h.1 h.2.1 hq2.1 hq2.2 (by unfold kPth; omega), up_k (by omega), up_k (by omega), up_k (by omega), up_k (by omega)]

