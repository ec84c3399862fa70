/-! a call on both sides: what is thrown, what is answered, what comes after -/
def kodF (e : String) : Nat → List String → Int32
  | _, [] => -1
  | k, a :: l => if e = a then nI (k + 1) else kodF e (k + 1) l
def kod (l : List String) (X : Option String) : Int32 := match X with
  | none => 0
  | some e => kodF e 0 l
def CallOK (n : Nat) (l : List String) (c' : MM) (X : Option String) (R : Int32) (f : Int32 × MM) : Prop := f.2 45 0 = kod l X ∧ (X = none → R = f.1) ∧ Sim (n + 1) c' f.2
theorem thr45 (m : MM) (b a : Int32) : thr m b a 45 0 = if b = 0 then 0 else a := up_s _ _ _ _
theorem thrk (m : MM) (b a : Int32) {k : Nat} (h : k ≠ 45) : thr m b a k = m k := up_key h
theorem Sim.thr {n : Nat} {c m : MM} (h : Sim n c m) (b a : Int32) : Sim n c (thr m b a) := h.ext (fun _ _ => rfl) (fun _ => rfl) (fun k hk => thrk m b a (by unfold mK at hk; omega))
theorem Sim.cnt {n : Nat} {c m : MM} (h : Sim n c m) (hn : n < 512) {q : Nat} (hq : q < 40) : cntE m q (logN m) < 1023 := by
  have := h.2.2.1 q hq
  omega
/-- the log: what all parcels' events are together -/
theorem log_sum {m : MM} (hw : WFa m) : logN m = sumN (fun p => cntE m p (logN m)) 40 := by
  have h40 := hw.np.2
  have key : ∀ n, n ≤ logN m → n = sumN (fun p => cntE m p n) 40 := by
    intro n
    induction n with
    | zero => intro _; exact (show sumN (fun _ => 0) 40 = 0 by decide).symm
    | succ n ih =>
      intro hn
      have e1 := ih (by omega)
      obtain ⟨q, hq, e⟩ := vp_in_of (hw.ev (show n < logN m by omega)).1 (by omega)
      have e2 : sumN (fun p => cntE m p (n + 1)) 40 = sumN (fun p => cntE m p n) 40 + sumN (fun p => if p = q then 1 else 0) 40 := by
        rw [← sumN_add]
        refine sumN_congr _ (fun p hp => ?_)
        simp only [cntE]
        rw [e]
        by_cases z : p = q
        · rw [if_pos z, if_pos (by rw [z])]
        · rw [if_neg z, if_neg (fun y => z ((nI_eq (by omega) (by omega)).mp y).symm)]
      have e3 : ∀ k, sumN (fun p => if p = q then 1 else 0) k = if q < k then 1 else 0 := by
        intro k
        induction k with
        | zero => rfl
        | succ k ihk =>
          show sumN _ k + (if k = q then 1 else 0) = _
          rw [ihk]
          by_cases z : k = q
          · rw [if_neg (by omega), if_pos z, if_pos (by omega)]
          · by_cases y : q < k
            · rw [if_pos y, if_neg z, if_pos (by omega)]
            · rw [if_neg y, if_neg z, if_neg (by omega)]
      rw [e2, e3, if_pos (by omega)]
      omega
  exact key (logN m) (Nat.le_refl _)
theorem Sim.log {n : Nat} {c m : MM} (h : Sim n c m) (hw : WFa m) : logN m ≤ 80 * n := by
  rw [log_sum hw]
  have h1 : sumN (fun p => cntE m p (logN m)) 40 ≤ sumN (fun _ => 1 * (2 * n)) 40 := sumN_mono 40 (fun p hp => by rw [Nat.one_mul]; exact h.2.2.1 p hp)
  rw [sumN_mul (fun _ => 1) (2 * n) 40, sumN_one] at h1
  omega
theorem Sim.pa {n : Nat} {c m : MM} (h : Sim n c m) (hc : WFc c) {x : Int32} : xPa c x = none ↔ vp_in x (npN m) := by
  rw [xPa_n hc, h.1.1.1.2.2]
theorem Sim.hb {n : Nat} {c m : MM} (h : Sim n c m) (hc : WFc c) {x : Int32} : xHb c x = none ↔ vp_in x (nhN m) := by
  rw [xHb_n hc, h.1.1.1.1]
theorem Sim.ln {n : Nat} {c m : MM} (h : Sim n c m) (hc : WFc c) {x : Int32} : xLn c x = none ↔ vp_in x (nlN m) := by
  rw [xLn_n hc, h.1.1.1.2.1]
theorem xPa_ns {u : MM} {x : Int32} (h : ¬ xPa u x = none) : xPa u x = some nseC := by
  unfold xPa at h ⊢
  split
  · next z => rw [if_pos z] at h; exact absurd rfl h
  · rfl
theorem xHb_ns {u : MM} {x : Int32} (h : ¬ xHb u x = none) : xHb u x = some nseC := by
  unfold xHb at h ⊢
  split
  · next z => rw [if_pos z] at h; exact absurd rfl h
  · rfl
theorem xLn_ns {u : MM} {x : Int32} (h : ¬ xLn u x = none) : xLn u x = some nseC := by
  unfold xLn at h ⊢
  split
  · next z => rw [if_pos z] at h; exact absurd rfl h
  · rfl
theorem kod_1 : kod [nseC] (some nseC) = 1 ∧ kod [nseC, iseC] (some nseC) = 1 ∧ kod [nseC, iseC] (some iseC) = 2 ∧ kod [nseC, iobC] (some nseC) = 1 ∧ kod [nseC, iobC] (some iobC) = 2 := by decide
theorem CallOK.thrown {n : Nat} {l : List String} {c A : MM} {X : Option String} {e : String} {R : Int32} {f : Int32 × MM} (hX : X = some e) (h45 : f.2 45 0 = kodF e 0 l) (hS : Sim n c f.2) : CallOK n l (if X = none then A else c) X R f := by
  subst hX
  rw [if_neg (fun q => (nomatch q))]
  exact ⟨h45, fun q => (nomatch q), hS.mono (by omega)⟩
theorem CallOK.done {n : Nat} {l : List String} {c A : MM} {X : Option String} {R : Int32} {f : Int32 × MM} (hX : X = none) (h45 : f.2 45 0 = 0) (hR : R = f.1) (hS : Sim (n + 1) A f.2) : CallOK n l (if X = none then A else c) X R f := by
  subst hX
  rw [if_pos rfl]
  exact ⟨h45, fun _ => hR, hS⟩
theorem kdn {e : String} : kodF e 0 [nseC] = (if e = nseC then nI 1 else -1) := rfl
theorem kd_n1 : kodF nseC 0 [nseC] = 1 := by decide
theorem kd_n2 : kodF nseC 0 [nseC, iseC] = 1 := by decide
theorem kd_s2 : kodF iseC 0 [nseC, iseC] = 2 := by decide
theorem kd_n3 : kodF nseC 0 [nseC, iobC] = 1 := by decide
theorem kd_b2 : kodF iobC 0 [nseC, iobC] = 2 := by decide
/-- scan -/
theorem call_scan {n : Nat} {c m : MM} (h : Sim n c m) (hn : n < 512) (hw : WFa m) (hc : WFc c) (x y : Int32) : CallOK n [nseC, iseC] (if xScn c x y = none then cScn c x y else c) (xScn c x y) (cScnR c x y) (fScan m x y) := by
  have hpa := h.pa hc (x := x)
  have hhb := h.hb hc (x := y)
  have n40 := hw.np.2
  have nh6 := hw.nh.2
  by_cases z : vp_in x (npN m) ∧ vp_in y (nhN m)
  · obtain ⟨z1, z2⟩ := z
    have hq := vp_nat z1
    have i1 : isPa m x = true := hw.isPa.mpr z1
    have i2 : isHb m y = true := hw.isHb.mpr z2
    have b1 : bi (¬ isPa m x = true ∨ ¬ isHb m y = true) = 0 := bi_f (fun q => q.elim (fun w => w i1) (fun w => w i2))
    have k28 : c 28 x.toNatClampNeg = m 28 x.toNatClampNeg := (h.1.2.2.1 _ hq).1.1 28 rfl
    have hX0 : xScn c x y = if m 28 x.toNatClampNeg = 100 ∨ m 28 x.toNatClampNeg = 104 then some iseC else none := by
      unfold xScn
      rw [hpa.mpr z1, hhb.mpr z2, k28]
      rfl
    by_cases w : m 28 x.toNatClampNeg = 100 ∨ m 28 x.toNatClampNeg = 104
    · have b2 : bi (isOver m x.toNatClampNeg) = 1 := bi_t w
      have hf : fScan m x y = (0, thr (thr m 0 1) 1 2) := by
        unfold fScan
        simp only
        rw [b1, if_neg (fun q => q rfl), b2, if_pos (by decide)]
      rw [hf]
      refine CallOK.thrown (by rw [hX0, if_pos w]) ?_ ((h.thr _ _).thr _ _)
      dsimp only
      rw [thr45, kd_s2]
      rfl
    · have b2 : bi (isOver m x.toNatClampNeg) = 0 := bi_f w
      have hf : fScan m x y = fScan1 (thr (thr m 0 1) 0 2) x.toNatClampNeg y := by
        unfold fScan
        simp only
        rw [b1, if_neg (fun q => q rfl), b2, if_neg (fun q => q rfl)]
      rw [hf]
      have h2 := (h.thr 0 1).thr 0 2
      have w2 : WFa (thr (thr m 0 1) 0 2) := (hw.thr 0 1).thr 0 2
      have mk : ∀ k, k ≠ 45 → thr (thr m 0 1) 0 2 k = m k := fun k hk => by rw [thrk _ _ _ hk, thrk _ _ _ hk]
      obtain ⟨M2, hM2⟩ : ∃ z, z = thr (thr m 0 1) 0 2 := ⟨_, rfl⟩
      have e45 : M2 45 0 = 0 := by rw [hM2, thr45, if_pos rfl]
      rw [← hM2] at h2 w2 mk ⊢
      have hq2 : x.toNatClampNeg < npN M2 := by rw [npN_ext (mk 39 (by omega))]; exact hq
      have hN := h2.2.1 _ hq2
      have h22 : isN (M2 22 x.toNatClampNeg) 0 2 := hN.2.resolve_left (fun q => w (Or.inr (by rw [← mk 28 (by omega)]; exact q)))
      have hL := h2.log w2
      obtain ⟨s1, s2, s3, s4, s5⟩ := h2.1.scan1 w2 hq2 (x := y) (by rw [nhN_ext (mk 37 (by omega))]; exact z2) (h2.cnt hn (by omega)) (by omega) h22 hN.1
      exact CallOK.done (by rw [hX0, if_neg w]) (by rw [s5.1 45 (by unfold oK; omega), e45]) s2 (h2.step hq2 s1 s3 s4 s5 (fScan1_18 _ _ _))
  · have b1 : bi (¬ isPa m x = true ∨ ¬ isHb m y = true) = 1 := bi_t (by
      by_cases w : vp_in x (npN m)
      · exact Or.inr (fun q => z ⟨w, hw.isHb.mp q⟩)
      · exact Or.inl (fun q => w (hw.isPa.mp q)))
    have hf : fScan m x y = (0, thr m 1 1) := by
      unfold fScan
      simp only
      rw [b1, if_pos (by decide)]
    have hX : xScn c x y = some nseC := by
      unfold xScn
      by_cases w : vp_in x (npN m)
      · rw [hpa.mpr w, xHb_ns (fun q => z ⟨w, hhb.mp q⟩)]; rfl
      · rw [xPa_ns (fun q => w (hpa.mp q))]; rfl
    rw [hf]
    refine CallOK.thrown hX ?_ (h.thr _ _)
    dsimp only
    rw [thr45, kd_n2]
    rfl

