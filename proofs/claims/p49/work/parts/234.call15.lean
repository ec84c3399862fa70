/-! accept: a parcel more -/
/-- the promise and the plan, whatever stood there before -/
theorem prom_eq {X : MM} {q : Nat} (hm : ML X) (hk : PKp X q) : ∀ k, ¬ kTry k → fPlans (fProm1 X q) q k = up (up X 20 q (bAr (plR X q))) 19 q (bHd (plR X q)) k := by
  have e20 : ∀ k, ¬ kTry k → fProm1 X q k = up X 20 q (bAr (plR X q)) k := fun k hk' => by
    unfold fProm1
    rw [(lays_RB hm.1 hm.2.1 hk).ar]
    exact up_eq (fLays_key X q hk')
  have y1 : ML (fProm1 X q) := hm.ext (fun k hk => by unfold lnKey at hk; rw [e20 k (by unfold kTry; omega), up_key (by omega)])
  have kk : ∀ k, ¬ kTry k → k ≠ 20 → fProm1 X q k = X k := fun k a b => by rw [e20 k a, up_key b]
  have y2 : PKp (fProm1 X q) q := by
    obtain ⟨k1, k2, k3, k4⟩ := hk
    unfold PKp
    rw [nhN_ext (kk 37 (by unfold kTry; omega) (by omega)), kk 15 (by unfold kTry; omega) (by omega), kk 14 (by unfold kTry; omega) (by omega), kk 18 (by unfold kTry; omega) (by omega), kk 41 (by unfold kTry; omega) (by omega)]
    exact ⟨k1, k2, k3, k4⟩
  have y3 : plR (fProm1 X q) q = plR X q := plR_ext (fun k hk => kk k (by unfold lnKey at hk; unfold kTry; omega) (by unfold lnKey at hk; omega)) (by rw [kk 14 (by unfold kTry; omega) (by omega)]) (by rw [kk 15 (by unfold kTry; omega) (by omega)]) (by rw [kk 18 (by unfold kTry; omega) (by omega)])
  intro k hk'
  unfold fPlans
  rw [fPlan_hd y1.1 y1.2.1 y2, y3]
  refine up_eq ?_
  rw [fLays_key _ q hk']
  exact e20 k hk'
theorem cnt_out {m : MM} (hw : WFa m) {p : Nat} (h : npN m ≤ p) (hp : p < 2 ^ 31) : cntE m p (logN m) = 0 := by
  have key : ∀ n, n ≤ logN m → cntE m p n = 0 := by
    intro n
    induction n with
    | zero => intro _; rfl
    | succ n ih =>
      intro hn
      have v := (hw.ev (show n < logN m by omega)).1
      have e : cntE m p (n + 1) = cntE m p n + (if m 31 (4 * n) = nI p then 1 else 0) := rfl
      rw [e, ih (by omega), if_neg (fun z => ?_)]
      rw [z] at v
      have v2 := vp_nat v
      rw [nI_clamp hp] at v2
      omega
  exact key _ (Nat.le_refl _)
/-- the reference's new parcel, with a plan and a promise as the class's has them -/
def mNew (m : MM) (hb d vol srv : Int32) : MM := up (up (fProm0 (mAcc m hb d vol srv (m 41 0)) (npN m)) 19 (npN m) (-1)) 20 (npN m) 0
theorem Sm.parcel {c m : MM} (h : Sm c m) (hw : WFa m) (hc : WFc c) (hF : FR m) (hn : npN m < 40) {x d vol ser : Int32} (hx : vp_in x (nhN m)) (hd : vp_in d (nhN m)) :
    Sm (cSettle (cPc c x.toNatClampNeg d.toNatClampNeg vol ser) (npN m) x (c 41 0)) (mNew m x d vol ser) := by
  obtain ⟨⟨⟨a1, a2, a3⟩, b41, a4, a5⟩, ⟨⟨q1, q2, q3⟩, ⟨q4, q5⟩, q6, q7⟩, h3, h4, h5⟩ := h
  have vx := vp_nI hx (by omega)
  have vd := vp_nI hd (by omega)
  obtain ⟨f17, f22, f23, f24, f26, f27, f29⟩ := hF (npN m) (Nat.le_refl _)
  obtain ⟨D, hD⟩ : ∃ z, z = cPc0 c x.toNatClampNeg d.toNatClampNeg vol ser := ⟨_, rfl⟩
  obtain ⟨E, hE⟩ : ∃ z, z = cPc c x.toNatClampNeg d.toNatClampNeg vol ser := ⟨_, rfl⟩
  have hED : E = cLs D 2 := by rw [hE, hD]; rfl
  obtain ⟨C, hC⟩ : ∃ z, z = cSettle E (npN m) x (c 41 0) := ⟨_, rfl⟩
  obtain ⟨M, hM⟩ : ∃ z, z = mNew m x d vol ser := ⟨_, rfl⟩
  rw [← hE, ← hC, ← hM]
  -- by keys
  have kM : ∀ k, ¬ (11 ≤ k ∧ k ≤ 29) → k ≠ 39 → M k = m k := fun k z1 z2 => by
    rw [hM]; unfold mNew fProm0 mAcc
    rw [up_key (by omega), up_key (by omega), up_key (by omega), up_key (by omega), up_key (by omega), up_key (by omega), up_key (by omega), up_key (by omega), up_key (by omega), up_key (by omega), up_key (by omega), up_key (by omega)]
  have oM : ∀ k i, i ≠ npN m → k ≠ 39 → M k i = m k i := fun k i z1 z2 => by
    rw [hM]; unfold mNew fProm0 mAcc
    rw [up_i z1, up_i z1, up_i z1, up_i z1, up_i z1, up_i z1, up_i z1, up_i z1, up_i z1, up_i z1, up_i z1, up_k z2]
  have kD : ∀ k, pck k = true → D k = c k := fun k hk => by rw [hD, cPc0_k hk]
  have oD : ∀ k i, i ≠ npN m → k ≠ 39 → D k i = c k i := fun k i z1 z2 => by
    rw [hD]; unfold cPc0 cPc1
    rw [a3, up_i z1, up_i z1, up_i z1, up_i z1, up_i z1, up_i z1, up_i z1, up_i z1, up_i z1, up_i z1, up_i z1, up_i z1, up_i z1, up_i z1, up_i z1, up_i z1, up_i z1, up_i z1, up_i z1, up_k z2]
  have kE : ∀ k, k ≠ 171 → k ≠ 172 → E k = D k := fun k z1 z2 => by rw [hED, cLs_k z1 z2]
  have kC : ∀ k, stk k = true → C k = E k := fun k hk => by rw [hC, cSettle_k hk]
  have oC : ∀ k i, i ≠ npN m → C k i = E k i := fun k i z => by
    rw [hC]; unfold cSettle
    split
    · rw [up_i z, up_i z, up_i z, up_i z, up_i z]
    · rw [up_i z, up_i z, up_i z, up_i z]
  have hlow : ∀ k, k ≤ 10 ∨ k = 37 ∨ k = 38 ∨ k = 41 ∨ k = 108 ∨ (120 ≤ k ∧ k ≤ 122) → C k = c k := fun k hk => by
    rw [kC k (by unfold stk; simp; omega), kE k (by omega) (by omega), kD k (by unfold pck; simp; omega)]
  have nM : npN M = npN m + 1 := by
    show (M 39 0).toNatClampNeg = _
    rw [show M 39 0 = nI (npN m + 1) by rw [hM]; simp [mNew, fProm0, mAcc, up], nI_clamp (by omega)]
  have nC : npN C = npN m + 1 := by
    rw [npN_ext (kC 39 rfl), npN_ext (kE 39 (by omega) (by omega)), hD, (cPc0_n (by omega)).2.2, a3]
  have n1 : nhN M = nhN m := nhN_ext (kM 37 (by omega) (by omega))
  have n2 : nlN M = nlN m := nlN_ext (kM 38 (by omega) (by omega))
  have hNew := (hc.2.2.1.2 (npN m)).2 (by rw [a3]; exact Nat.le_refl _)
  refine ⟨⟨⟨by rw [n1, nhN_ext (hlow 37 (by omega)), a1], by rw [n2, nlN_ext (hlow 38 (by omega)), a2], by rw [nC, nM]⟩, ?_, fun i hi => ?_, fun l hl => ⟨fun k k2 k7 => ?_, ?_⟩⟩, ⟨⟨by omega, by omega, fun l hl => ?_⟩, ⟨fun i hi => ?_, fun l hl => ?_⟩, by omega, ?_⟩, fun p hp => ?_, fun l hl => ?_, fun p hp => ?_⟩
  · rw [hlow 41 (by omega), kM 41 (by omega) (by omega)]; exact b41
  · rw [n1] at hi
    rw [hlow 0 (by omega), hlow 1 (by omega), kM 0 (by omega) (by omega), kM 1 (by omega) (by omega)]; exact a4 i hi
  · rw [n2] at hl
    rw [hlow k (by omega), kM k (by omega) (by omega)]; exact (a5 l hl).1 k k2 k7
  · rw [n2] at hl
    rw [hlow 108 (by omega), kM 9 (by omega) (by omega)]; exact (a5 l hl).2
  · rw [n2] at hl
    rw [n1, kM 2 (by omega) (by omega), kM 3 (by omega) (by omega)]; exact q3 l hl
  · rw [n1] at hi
    rw [kM 1 (by omega) (by omega)]; exact q4 i hi
  · rw [n2] at hl
    rw [kM 4 (by omega) (by omega), kM 5 (by omega) (by omega), kM 6 (by omega) (by omega)]; exact q5 l hl
  · rw [kM 41 (by omega) (by omega)]; exact q7
  · by_cases z : p = npN m
    · subst z
      have hMP : MP M (npN m) := by
        unfold MP
        rw [n1]
        have g13 : M 13 (npN m) = x := by rw [hM]; simp [mNew, fProm0, mAcc, up]
        have g14 : M 14 (npN m) = d := by rw [hM]; simp [mNew, fProm0, mAcc, up]
        have g15 : M 15 (npN m) = x := by rw [hM]; simp [mNew, fProm0, mAcc, up]
        have g18 : M 18 (npN m) = m 41 0 := by rw [hM]; simp [mNew, fProm0, mAcc, up]
        have g20 : M 20 (npN m) = 0 := by rw [hM]; simp [mNew, up]
        have g21 : M 21 (npN m) = if x = d then m 41 0 else -1 := by rw [hM]; simp [mNew, fProm0, mAcc, up]
        rw [g13, g14, g15, g18, g20, g21]
        refine ⟨⟨hx, hd, hx⟩, q7, Or.inr ⟨rfl, Nat.zero_le _, by decide⟩, ?_⟩
        split
        · exact Or.inr q7
        · exact Or.inl rfl
      refine ⟨⟨?_, fun y => ?_⟩, hMP⟩
      · have gE : ∀ k, k ≠ 171 → k ≠ 172 → E k (npN m) = cPc0 c x.toNatClampNeg d.toNatClampNeg vol ser k (npN m) := fun k z1 z2 => by rw [kE k z1 z2, hD]
        have e14 : E 14 (npN m) = d := by rw [gE 14 (by omega) (by omega), ← a3]; simp [cPc0, cPc1, up, ← vd]
        have e21 : E 21 (npN m) = -1 := by rw [gE 21 (by omega) (by omega), ← a3]; simp [cPc0, cPc1, up]
        have gs : ∀ k, stk k = true → k ≠ 171 → k ≠ 172 → C k (npN m) = cPc0 c x.toNatClampNeg d.toNatClampNeg vol ser k (npN m) := fun k z0 z1 z2 => by rw [kC k z0, gE k z1 z2]
        have c15 : C 15 (npN m) = x := by rw [hC]; unfold cSettle; split <;> simp [up]
        have c28 : C 28 (npN m) = 115 := by rw [hC]; unfold cSettle; split <;> simp [up]
        have c18 : C 18 (npN m) = c 41 0 := by rw [hC]; unfold cSettle; split <;> simp [up]
        have c21 : C 21 (npN m) = if x = d then c 41 0 else -1 := by
          rw [hC]; unfold cSettle
          rw [e14, e21]
          by_cases w : x = d
          · rw [if_pos ⟨w, rfl⟩, if_pos w, up_s]
          · rw [if_neg (fun y => w y.1), if_neg w, up_k (by omega), up_k (by omega), up_k (by omega), up_k (by omega)]; exact e21
        refine pk_all ⟨?_, ?_, ?_, ?_, ?_, ?_, ?_, ?_, ?_, ?_, ?_, ?_, ?_, ?_, ?_, ?_, ?_, ?_⟩
        · rw [gs 11 rfl (by omega) (by omega), ← a3, hM]; simp [cPc0, cPc1, mNew, fProm0, mAcc, up, a3]
        · rw [gs 12 rfl (by omega) (by omega), ← a3, hM]; simp [cPc0, cPc1, mNew, fProm0, mAcc, up, a3]
        · rw [gs 13 rfl (by omega) (by omega), ← a3, hM]; simp [cPc0, cPc1, mNew, fProm0, mAcc, up, a3, ← vx]
        · rw [kC 14 rfl, e14, hM]; simp [mNew, fProm0, mAcc, up]
        · rw [c15, hM]; simp [mNew, fProm0, mAcc, up]
        · rw [gs 17 rfl (by omega) (by omega), ← a3, hM]; simp [cPc0, cPc1, mNew, fProm0, mAcc, up, a3, f17]
        · rw [c18, hM]; simp [mNew, fProm0, mAcc, up, b41]
        · rw [gs 19 rfl (by omega) (by omega), ← a3, hM]; simp [cPc0, cPc1, mNew, up, a3]
        · rw [gs 20 rfl (by omega) (by omega), ← a3, hM]; simp [cPc0, cPc1, mNew, up, a3]
        · rw [c21, hM]; simp [mNew, fProm0, mAcc, up, b41]
        · rw [gs 22 rfl (by omega) (by omega), ← a3, hM]; simp [cPc0, cPc1, mNew, fProm0, mAcc, up, a3, f22]
        · rw [gs 23 rfl (by omega) (by omega), ← a3, hM]; simp [cPc0, cPc1, mNew, fProm0, mAcc, up, a3, f23]
        · rw [gs 24 rfl (by omega) (by omega), ← a3, hM]; simp [cPc0, cPc1, mNew, fProm0, mAcc, up, a3, f24]
        · rw [gs 25 rfl (by omega) (by omega), ← a3, hM]; simp [cPc0, cPc1, mNew, fProm0, mAcc, up, a3, b41]
        · rw [gs 26 rfl (by omega) (by omega), ← a3, hM]; simp [cPc0, cPc1, mNew, fProm0, mAcc, up, a3, f26]
        · rw [gs 27 rfl (by omega) (by omega), ← a3, hM]; simp [cPc0, cPc1, mNew, fProm0, mAcc, up, a3, f27]
        · rw [c28, hM]; simp [mNew, fProm0, mAcc, up]
        · rw [gs 29 rfl (by omega) (by omega), ← a3, hM]; simp [cPc0, cPc1, mNew, fProm0, mAcc, up, a3, f29]
      · rw [hM] at y
        simp [mNew, fProm0, mAcc, up] at y
    · obtain ⟨g1, g2⟩ := h3 p (by omega)
      refine ⟨g1.ext (fun k hk => ?_) (fun k hk => ?_), g2.ext (kM 37 (by omega) (by omega)) (fun k hk => oM k p z (by have := pk_ne hk; omega))⟩
      · have hk2 : 11 ≤ k ∧ k ≤ 29 ∨ k = 116 := hk.imp (fun z => by have := pk_ne z; omega) id
        rw [oC k p z, kE k (by omega) (by omega), oD k p z (by omega)]
      · have hk2 : 11 ≤ k ∧ k ≤ 29 := hk.elim (fun z => by have := pk_ne z; omega) (fun z => by omega)
        exact oM k p z (by omega)
  · rw [n2] at hl
    rw [hlow 8 (by omega), hlow 10 (by omega), kM 8 (by omega) (by omega), kM 10 (by omega) (by omega)]; exact h4 l hl
  · have e171 : C 171 (6 + p) = c 171 (6 + p) := by
      rw [kC 171 rfl, hED, cLs_171, if_neg (by omega), kD 171 rfl]
    have e31 : M 31 = m 31 := kM 31 (by omega) (by omega)
    have e40 : M 40 = m 40 := kM 40 (by omega) (by omega)
    have eE : ∀ k, k = 120 ∨ k = 121 ∨ k = 122 → C k = c k := fun k hk => hlow k (by omega)
    by_cases z : p = npN m
    · subst z
      have lM : logN M = logN m := logN_ext e40
      have hz := cnt_out hw (Nat.le_refl (npN m)) (by omega)
      have hz2 : cntE M (npN m) (logN M) = 0 := by rw [cntE_m e31 e40]; exact hz
      refine ⟨⟨?_, by rw [hz2]; omega⟩, fun j hj e => ?_⟩
      · rw [hz2]
        unfold szN
        rw [e171, hNew.1]; rfl
      · rw [lM] at hj
        have v := vp_nat (hw.ev hj).1
        rw [e31] at e
        rw [e, nI_clamp (by omega)] at v
        omega
    · exact (h5 p (by omega)).ext e171 eE e31 e40
theorem acc_core {c N : MM} (h : Sm c N) (hF : FR N) (w2 : WFa N) (hc : WFc c) (hlt : npN N < 40) {x d vol ser : Int32} (z1 : vp_in x (nhN N)) (hvd : vp_in d (nhN N)) :
    ∃ F, F = fHap (fProm (mAcc N x d vol ser (N 41 0)) (npN N)) (npN N) 97 (-1) ∧ Sm (cPlanP (cNote (cSettle (cPc c x.toNatClampNeg d.toNatClampNeg vol ser) (npN N) x (c 41 0)) (npN N) 0 (c 41 0) x.toNatClampNeg (-1)) (npN N)) F ∧ NX F (npN N) ∧
      (∀ k, ¬ (11 ≤ k ∧ k ≤ 29) → k ≠ 39 → k ≠ 31 → k ≠ 40 → k ≠ 46 → ¬ kTry k → F k = N k) ∧ npN F = npN N + 1 ∧ (∀ k i, i ≠ npN N → 11 ≤ k → k ≤ 29 → F k i = N k i) ∧
      (∀ p, p < 40 → cntE F p (logN F) ≤ cntE N p (logN N) + (if p = npN N then 1 else 0)) ∧ F 18 (npN N) = N 41 0 ∧ F 22 (npN N) = N 22 (npN N) ∧ F 29 (npN N) = N 29 (npN N) := by
  have nh6 := w2.nh.2
  obtain ⟨A, hA⟩ : ∃ q, q = mAcc N x d vol ser (N 41 0) := ⟨_, rfl⟩
  have hAw : WFa A := by rw [hA]; exact w2.accM hlt z1 hvd vol ser (N 41 0)
  have hS := h.parcel w2 hc hF hlt (x := x) (d := d) (vol := vol) (ser := ser) z1 hvd
  obtain ⟨X, hXx⟩ : ∃ q, q = fProm0 A (npN N) := ⟨_, rfl⟩
  obtain ⟨Y, hY⟩ : ∃ q, q = mNew N x d vol ser := ⟨_, rfl⟩
  have hYX : Y = up (up X 19 (npN N) (-1)) 20 (npN N) 0 := by rw [hY, hXx, hA]; rfl
  have wX : WFa X := by rw [hXx]; exact hAw.prom0 _
  have wY : WFa Y := by rw [hYX]; exact (wX.upx (by unfold kWF; omega)).upx (by unfold kWF; omega)
  rw [← hY] at hS
  have nA : npN A = npN N + 1 := by rw [hA, (acc_gr N x d vol ser (N 41 0) hlt).1]
  have kA : ∀ k, ¬ (11 ≤ k ∧ k ≤ 29) → k ≠ 39 → A k = N k := fun k z1 z2 => by
    rw [hA]; unfold mAcc
    rw [up_key (by omega), up_key (by omega), up_key (by omega), up_key (by omega), up_key (by omega), up_key (by omega), up_key (by omega), up_key (by omega), up_key (by omega)]
  have oA : ∀ k i, i ≠ npN N → k ≠ 39 → A k i = N k i := fun k i z1 z2 => by
    rw [hA]; unfold mAcc
    rw [up_i z1, up_i z1, up_i z1, up_i z1, up_i z1, up_i z1, up_i z1, up_i z1, up_k z2]
  have a18 : A 18 (npN N) = N 41 0 := by rw [hA]; simp [mAcc, up]
  have a15 : A 15 (npN N) = x := by rw [hA]; simp [mAcc, up]
  have a22 : A 22 = N 22 := by rw [hA]; unfold mAcc; rw [up_key (by omega), up_key (by omega), up_key (by omega), up_key (by omega), up_key (by omega), up_key (by omega), up_key (by omega), up_key (by omega), up_key (by omega)]
  have a29 : A 29 = N 29 := by rw [hA]; unfold mAcc; rw [up_key (by omega), up_key (by omega), up_key (by omega), up_key (by omega), up_key (by omega), up_key (by omega), up_key (by omega), up_key (by omega), up_key (by omega)]
  rw [← hA]
  clear hA hY
  have nY : npN Y = npN N + 1 := by
    rw [hYX, npN_up (by omega), npN_up (by omega), hXx]; unfold fProm0; rw [npN_up (by omega), nA]
  have kX : ∀ k, k ≠ 21 → X k = A k := fun k z1 => by rw [hXx]; unfold fProm0; rw [up_key z1]
  have oX : ∀ k i, i ≠ npN N → X k i = A k i := fun k i z => by rw [hXx]; unfold fProm0; rw [up_i z]
  have kY : ∀ k, k ≠ 19 → k ≠ 20 → Y k = X k := fun k z1 z2 => by rw [hYX, up_key z2, up_key z1]
  have oY : ∀ k i, i ≠ npN N → Y k i = X k i := fun k i z => by rw [hYX, up_i z, up_i z]
  have kYN : ∀ k, ¬ (11 ≤ k ∧ k ≤ 29) → k ≠ 39 → Y k = N k := fun k z1 z2 => by rw [kY k (by omega) (by omega), kX k (by omega), kA k z1 z2]
  have eQ : fProm A (npN N) = fPlans (fProm1 X (npN N)) (npN N) := by rw [hXx]; rfl
  rw [eQ]
  have hpY : npN N < npN Y := by rw [nY]; omega
  have cY : ∀ p, cntE Y p (logN Y) = cntE N p (logN N) := fun p => cntE_m (kYN 31 (by omega) (by omega)) (kYN 40 (by omega) (by omega)) p
  have y15 : Y 15 (npN N) = x := by rw [kY 15 (by omega) (by omega), kX 15 (by omega)]; exact a15
  have vx := vp_nI z1 (by omega)
  have e41 : c 41 0 = Y 41 0 := by rw [kYN 41 (by omega) (by omega)]; exact h.1.2.1
  obtain ⟨C, hC⟩ : ∃ q, q = cSettle (cPc c x.toNatClampNeg d.toNatClampNeg vol ser) (npN N) x (c 41 0) := ⟨_, rfl⟩
  rw [← hC] at hS ⊢
  have c41 : C 41 0 = c 41 0 := by rw [hS.1.2.1]; exact e41.symm
  have s1 := hS.noteH wY hpY 0 97 (t := c 41 0) (x := x.toNatClampNeg) (by rw [cY, cnt_out w2 (Nat.le_refl _) (by omega)]; omega) rfl rfl c41.symm (by rw [y15]; exact vx.symm)
  obtain ⟨s2, s3⟩ := s1.promHap hS.2.1 (hS.2.2.1 _ hpY).2 hpY
  have mX : ML X := hS.2.1.ext (fun k hk => (kY k (by unfold lnKey at hk; omega) (by unfold lnKey at hk; omega)).symm)
  have pY := (hS.2.2.1 _ hpY).2.pkp hS.2.1
  have pX : PKp X (npN N) := by
    obtain ⟨k1, k2, k3, k4⟩ := pY
    unfold PKp
    rw [← nhN_ext (kY 37 (by omega) (by omega)), ← kY 15 (by omega) (by omega), ← kY 14 (by omega) (by omega), ← kY 18 (by omega) (by omega), ← kY 41 (by omega) (by omega)]
    exact ⟨k1, k2, k3, k4⟩
  have eP : plR Y (npN N) = plR X (npN N) := plR_ext (fun k hk => kY k (by unfold lnKey at hk; omega) (by unfold lnKey at hk; omega)) (by rw [kY 14 (by omega) (by omega)]) (by rw [kY 15 (by omega) (by omega)]) (by rw [kY 18 (by omega) (by omega)])
  have eF : ∀ k, ¬ kTry k → fPlans (fProm1 X (npN N)) (npN N) k = fPlans (fProm1 Y (npN N)) (npN N) k := fun k hk => by
    rw [prom_eq mX pX k hk, prom_eq hS.2.1 pY k hk, eP, hYX]
    funext i
    simp only [up]
    by_cases w1 : k = 19 ∧ i = npN N
    · rw [if_pos w1, if_pos w1]
    · rw [if_neg w1, if_neg w1]
      by_cases w2 : k = 20 ∧ i = npN N
      · rw [if_pos w2, if_pos w2]
      · rw [if_neg w2, if_neg w2, if_neg w2, if_neg w1]
  have wP : WFa (fPlans (fProm1 Y (npN N)) (npN N)) := (wY.prom1 _).plans _
  have t1 := (((Tr.prom1 (q := npN N) (m := Y)).trans Tr.plans).trans (Tr.hap wP (by omega) 97 (-1))).mono (b := 1) (by omega)
  have eFG : ∀ k, ¬ kTry k → fHap (fPlans (fProm1 X (npN N)) (npN N)) (npN N) 97 (-1) k = fHap (fPlans (fProm1 Y (npN N)) (npN N)) (npN N) 97 (-1) k := fun k hk => fHap_congr eF (npN N) 97 (-1) hk
  have kPY : ∀ k, ¬ kTry k → k ≠ 19 → k ≠ 20 → fPlans (fProm1 Y (npN N)) (npN N) k = Y k := fun k z1 z2 z3 => by rw [prom_eq hS.2.1 pY k z1, up_key z2, up_key z3]
  generalize fPlans (fProm1 X (npN N)) (npN N) = PX at *
  generalize fPlans (fProm1 Y (npN N)) (npN N) = PY at *
  obtain ⟨F, hF⟩ : ∃ q, q = fHap PX (npN N) 97 (-1) := ⟨_, rfl⟩
  obtain ⟨G, hG⟩ : ∃ q, q = fHap PY (npN N) 97 (-1) := ⟨_, rfl⟩
  have kG : ∀ k, k ≠ 31 → k ≠ 40 → k ≠ 27 → k ≠ 46 → k ≠ 19 → k ≠ 20 → ¬ kTry k → G k = Y k := fun k z1 z2 z3 z4 z5 z6 z7 => by
    rw [hG, hap_pk z1 z2 z3 z4, kPY k z7 z5 z6]
  rw [← hF, ← hG] at eFG
  rw [← hG] at s2 s3 t1
  obtain ⟨t2, t3, t4, t5⟩ := t1
  refine ⟨F, hF, s2.ext (fun _ _ => rfl) (fun _ => rfl) (fun k hk => eFG k (by unfold mK at hk; unfold kTry; omega)), ?_, fun k z1 z2 z3 z4 z5 z6 => ?_, ?_, fun k i z1 z2 z3 => ?_, fun p hp => ?_, ?_, ?_, ?_⟩
  · exact s3.ext (eFG 38 (by unfold kTry; omega)) (eFG 2 (by unfold kTry; omega)) (by rw [eFG 28 (by unfold kTry; omega)]) (by rw [eFG 19 (by unfold kTry; omega)]) (by rw [eFG 15 (by unfold kTry; omega)])
  · rw [eFG k z6, kG k z3 z4 (by omega) z5 (by omega) (by omega) z6]; exact kYN k z1 z2
  · rw [npN_ext (eFG 39 (by unfold kTry; omega)), npN_ext (kG 39 (by omega) (by omega) (by omega) (by omega) (by omega) (by omega) (by unfold kTry; omega))]; exact nY
  · rw [eFG k (by unfold kTry; omega), t3 k i ⟨z2, z3⟩ z1, oY k i z1, oX k i z1]; exact oA k i z1 (by omega)
  · have e := t4 p hp
    rw [cY] at e
    rw [cntE_m (eFG 31 (by unfold kTry; omega)) (eFG 40 (by unfold kTry; omega))]
    exact e
  · rw [eFG 18 (by unfold kTry; omega), kG 18 (by omega) (by omega) (by omega) (by omega) (by omega) (by omega) (by unfold kTry; omega), kY 18 (by omega) (by omega), kX 18 (by omega)]; exact a18
  · rw [eFG 22 (by unfold kTry; omega), kG 22 (by omega) (by omega) (by omega) (by omega) (by omega) (by omega) (by unfold kTry; omega), kY 22 (by omega) (by omega), kX 22 (by omega), a22]
  · rw [eFG 29 (by unfold kTry; omega), kG 29 (by omega) (by omega) (by omega) (by omega) (by omega) (by omega) (by unfold kTry; omega), kY 29 (by omega) (by omega), kX 29 (by omega), a29]
theorem Sim.acc {n : Nat} {c N : MM} (h : Sim n c N) (w2 : WFa N) (hc : WFc c) (hlt : npN N < 40) {x d vol ser : Int32} (z1 : vp_in x (nhN N)) (hvd : vp_in d (nhN N)) :
    ∃ F, F = fHap (fProm (mAcc N x d vol ser (N 41 0)) (npN N)) (npN N) 97 (-1) ∧ Sim (n + 1) (cPlanP (cNote (cSettle (cPc c x.toNatClampNeg d.toNatClampNeg vol ser) (npN N) x (c 41 0)) (npN N) 0 (c 41 0) x.toNatClampNeg (-1)) (npN N)) F ∧ F 45 = N 45 := by
  obtain ⟨h1, h2, h3, h4, h5, h6, h7, h8⟩ := h
  obtain ⟨F, e, s1, s2, s3, s4, s5, s6, s7, s8, s9⟩ := acc_core h1 h5 w2 hc hlt (vol := vol) (ser := ser) z1 hvd
  obtain ⟨f17, f22, f23, f24, f26, f27, f29⟩ := h5 (npN N) (Nat.le_refl _)
  refine ⟨F, e, ⟨s1, fun p hp => ?_, fun p hp => ?_, ?_, fun p hp => ?_, fun p => ?_, fun p hp => ?_, fun i hi => ?_, fun p hp => ?_⟩, s3 45 (by omega) (by omega) (by omega) (by omega) (by omega) (by unfold kTry; omega)⟩
  · by_cases z : p = npN N
    · rw [z]
      refine ⟨s2, Or.inr ?_⟩
      rw [s8, f22]
      exact ⟨rfl, Nat.zero_le _, by decide⟩
    · obtain ⟨g1, g2⟩ := h2 p (by omega)
      refine ⟨g1.ext (s3 38 (by omega) (by omega) (by omega) (by omega) (by omega) (by unfold kTry; omega)) (s3 2 (by omega) (by omega) (by omega) (by omega) (by omega) (by unfold kTry; omega)) (s5 28 p z (by omega) (by omega)) (s5 19 p z (by omega) (by omega)) (s5 15 p z (by omega) (by omega)), ?_⟩
      unfold MX
      rw [s5 28 p z (by omega) (by omega), s5 22 p z (by omega) (by omega)]
      exact g2
  · have a := s6 p hp
    have b := h3 p hp
    by_cases z : p = npN N
    · rw [if_pos z] at a; omega
    · rw [if_neg z] at a; omega
  · rw [s3 41 (by omega) (by omega) (by omega) (by omega) (by omega) (by unfold kTry; omega)]
    exact ⟨h4.1, h4.2.1, Nat.le_trans h4.2.2 (by omega)⟩
  · have z : p ≠ npN N := by omega
    rw [s5 17 p z (by omega) (by omega), s5 22 p z (by omega) (by omega), s5 23 p z (by omega) (by omega), s5 24 p z (by omega) (by omega), s5 26 p z (by omega) (by omega), s5 27 p z (by omega) (by omega), s5 29 p z (by omega) (by omega)]
    exact h5 p (by omega)
  · rw [s3 30 (by omega) (by omega) (by omega) (by omega) (by omega) (by unfold kTry; omega)]; exact h6 p
  · by_cases z : p = npN N
    · rw [z, s9]; exact Or.inl f29
    · rw [s5 29 p z (by omega) (by omega)]; exact h7 p (by omega)
  · rw [nhN_ext (s3 37 (by omega) (by omega) (by omega) (by omega) (by omega) (by unfold kTry; omega))] at hi
    rw [s3 0 (by omega) (by omega) (by omega) (by omega) (by omega) (by unfold kTry; omega)]
    exact h8.1 i hi
  · rw [s3 41 (by omega) (by omega) (by omega) (by omega) (by omega) (by unfold kTry; omega)]
    by_cases z : p = npN N
    · rw [z, s7]; exact Nat.le_refl _
    · rw [s5 18 p z (by omega) (by omega)]; exact h8.2 p (by omega)
theorem call_accept {n : Nat} {c m : MM} (h : Sim n c m) (hn : n < 512) (hw : WFa m) (hc : WFc c) (x ad vol ser : Int32) (hfd : ¬ isAd ad = 0 → cHs c ad = found m ad) : CallOK n [nseC, iaeC, iseC] (if xAcc c x ad vol ser = none then cAcc c x ad vol ser else c) (xAcc c x ad vol ser) (nI (npN c)) (fAcc m x ad vol ser) := by
  have hhx := h.hb hc (x := x)
  have np40 := hw.np.2
  have nh6 := hw.nh.2
  have en : npN c = npN m := h.1.1.1.2.2
  by_cases z1 : vp_in x (nhN m)
  · have i1 : isHb m x = true := hw.isHb.mpr z1
    have hb1 : bi (¬ isHb m x = true) = 0 := bi_f (fun q => q i1)
    have hX0 : xAcc c x ad vol ser = if cAdr ad = 0 ∨ ¬ inn vol 1 9 = true ∨ ¬ inn ser 0 2 = true then some iaeC else if cHs c ad = -1 ∨ ¬ nI (npN m) < 40 then some iseC else none := by
      unfold xAcc
      rw [hhx.mpr z1, en]
      rfl
    have had := adr_eq ad
    by_cases z2 : isAd ad = 0 ∨ ¬ inn vol 1 9 = true ∨ ¬ inn ser 0 2 = true
    · have hf : fAcc m x ad vol ser = (0, thr (thr m 0 1) 1 2) := by
        unfold fAcc
        simp only
        rw [hb1, if_neg (fun q => q rfl), bi_t z2, if_pos (by decide)]
      rw [hf]
      refine CallOK.thrown (by rw [hX0, if_pos (z2.imp had.mpr id)]) ?_ ((h.thr _ _).thr _ _)
      dsimp only
      rw [thr45, kd_i3.2.2.2.2.1]
      rfl
    · have z2' : ¬ (cAdr ad = 0 ∨ ¬ inn vol 1 9 = true ∨ ¬ inn ser 0 2 = true) := fun q => z2 (q.imp had.mp id)
      have hfnd := hfd (fun q => z2 (Or.inl q))
      have hfi := found_in hw ad
      have hf0 : found m ad < 0 ↔ cHs c ad = -1 := by
        rcases cHs_ok c ad with e | ⟨v, hv, e⟩
        · rw [← hfnd, e]; exact ⟨fun _ => rfl, fun _ => by decide⟩
        · have := hc.nh
          rw [← hfnd, e]
          exact ⟨fun q => absurd q (nI_pos (by omega)), fun q => absurd q (nI_nm (by omega))⟩
      have h40 : m 39 0 = 40 ↔ ¬ nI (npN m) < 40 := by
        rw [hw.np.1, show (40 : Int32) = nI 40 from rfl, nI_ltI (by omega) (by omega), nI_eq (by omega) (by omega)]
        omega
      by_cases z3 : found m ad < 0 ∨ m 39 0 = 40
      · have hf : fAcc m x ad vol ser = (0, thr (thr (thr m 0 1) 0 2) 1 3) := by
          unfold fAcc
          simp only
          rw [hb1, if_neg (fun q => q rfl), bi_f z2, if_neg (fun q => q rfl), found_thr, found_thr, bi_t z3, if_pos (by decide)]
        rw [hf]
        refine CallOK.thrown (by rw [hX0, if_neg z2', if_pos (z3.imp hf0.mp h40.mp)]) ?_ (((h.thr _ _).thr _ _).thr _ _)
        dsimp only
        rw [thr45, kd_i3.2.2.2.2.2]
        rfl
      · have hX : xAcc c x ad vol ser = none := by rw [hX0, if_neg z2', if_neg (fun q => z3 (q.imp hf0.mpr h40.mpr))]
        rw [fAcc_eq hw i1 z2 z3]
        have h2 := ((h.thr 0 1).thr 0 2).thr 0 3
        have w2 : WFa (thr (thr (thr m 0 1) 0 2) 0 3) := ((hw.thr 0 1).thr 0 2).thr 0 3
        have hvd : vp_in (found m ad) (nhN m) := hfi.resolve_left (fun q => z3 (Or.inl q))
        have hlt : npN m < 40 := by
          have q : npN m ≠ 40 := fun q => z3 (Or.inr (by rw [hw.np.1, q]; rfl))
          omega
        obtain ⟨N, hN⟩ : ∃ q, q = thr (thr (thr m 0 1) 0 2) 0 3 := ⟨_, rfl⟩
        have kN : ∀ k, k ≠ 45 → N k = m k := fun k hk => by rw [hN, thrk _ _ _ hk, thrk _ _ _ hk, thrk _ _ _ hk]
        have e45 : N 45 0 = 0 := by rw [hN, thr45, if_pos rfl]
        rw [← hN] at h2 w2 ⊢
        have n1 : nhN N = nhN m := nhN_ext (kN 37 (by omega))
        have n3 : npN N = npN m := npN_ext (kN 39 (by omega))
        have e41 : N 41 0 = m 41 0 := by rw [kN 41 (by omega)]
        obtain ⟨d, hd⟩ : ∃ q, q = found m ad := ⟨_, rfl⟩
        rw [← hd] at hvd hfnd ⊢
        rw [← e41, ← n3]
        obtain ⟨F, e, s1, s2⟩ := h2.acc w2 hc (by rw [n3]; exact hlt) (x := x) (d := d) (vol := vol) (ser := ser) (by rw [n1]; exact z1) (by rw [n1]; exact hvd)
        rw [← e]
        have hcA : cAcc c x ad vol ser = cPlanP (cNote (cSettle (cPc c x.toNatClampNeg d.toNatClampNeg vol ser) (npN N) x (c 41 0)) (npN N) 0 (c 41 0) x.toNatClampNeg (-1)) (npN N) := by
          unfold cAcc
          rw [hfnd, en, n3]
        rw [hcA]
        exact CallOK.done hX (by dsimp only; rw [s2]; exact e45) (by dsimp only; rw [en, n3]) s1
  · have hb1 : bi (¬ isHb m x = true) = 1 := bi_t (fun q => z1 (hw.isHb.mp q))
    have hf : fAcc m x ad vol ser = (0, thr m 1 1) := by
      unfold fAcc
      simp only
      rw [hb1, if_pos (by decide)]
    have hX : xAcc c x ad vol ser = some nseC := by
      unfold xAcc
      rw [xHb_ns (fun q => z1 (hhx.mp q))]; rfl
    rw [hf]
    refine CallOK.thrown hX ?_ (h.thr _ _)
    dsimp only
    rw [thr45, kd_i3.2.2.2.1]
    rfl

