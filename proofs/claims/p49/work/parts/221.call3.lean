/-! what only asks -/
/-- a call that asks for a parcel's number -/
theorem CallOK.ask {n : Nat} {l : List String} {c : MM} {X : Option String} {R : Int32} {f : Int32 × MM} (h45 : f.2 45 0 = kod l X) (hR : X = none → R = f.1) (hS : Sim n c f.2) : CallOK n l c X R f := ⟨h45, hR, hS.mono (by omega)⟩
theorem call_get {n : Nat} {c m : MM} (h : Sim n c m) (hw : WFa m) (hc : WFc c) (x : Int32) {k : Nat} {R : Int32} (hR : vp_in x (npN m) → R = m k x.toNatClampNeg) : CallOK n [nseC] c (xPa c x) R (fGet k m x) := by
  have hpa := h.pa hc (x := x)
  by_cases z : vp_in x (npN m)
  · have hf : fGet k m x = (m k x.toNatClampNeg, thr m 0 1) := by
      unfold fGet
      simp only
      rw [fNone_yes hw z]
      dsimp only
      rw [if_neg (fun q => q rfl)]
    rw [hf, hpa.mpr z]
    exact CallOK.ask (thr45 m 0 1) (fun _ => hR z) (h.thr _ _)
  · have hf : fGet k m x = (0, thr m 1 1) := by
      unfold fGet
      simp only
      rw [fNone_no hw z]
      dsimp only
      rw [if_pos (by decide)]
    rw [hf, xPa_ns (fun q => z (hpa.mp q))]
    exact CallOK.ask (by dsimp only; rw [thr45]; exact kod_1.1.symm) (fun q => (nomatch q)) (h.thr _ _)
theorem call_getP {n : Nat} {c m : MM} (h : Sim n c m) (hw : WFa m) (hc : WFc c) (x : Int32) {k : Nat} (hk : pk k = true) : CallOK n [nseC] c (xPa c x) (c k x.toNatClampNeg) (fGet k m x) :=
  call_get h hw hc x (fun z => (h.1.2.2.1 _ (vp_nat z)).1.1 k hk)
theorem call_isReturn {n : Nat} {c m : MM} (h : Sim n c m) (hw : WFa m) (hc : WFc c) (x : Int32) : CallOK n [nseC] c (xPa c x) (c 29 x.toNatClampNeg) (fIsRet m x) := by
  have hpa := h.pa hc (x := x)
  by_cases z : vp_in x (npN m)
  · have hf : fIsRet m x = (bi ((0 : Int32) = 0 ∧ ¬ m 29 x.toNatClampNeg = 0), thr m 0 1) := by
      show (bi ((fNone m x).1 = 0 ∧ ¬ m 29 x.toNatClampNeg = 0), (fNone m x).2) = _
      rw [fNone_yes hw z]
    rw [hf, hpa.mpr z]
    refine CallOK.ask (thr45 m 0 1) (fun _ => ?_) (h.thr _ _)
    rw [(h.1.2.2.1 _ (vp_nat z)).1.1 29 rfl]
    rcases h.2.2.2.2.2.2.1 _ (vp_nat z) with e | e
    · rw [e]
      dsimp only
      rw [bi_f (fun q => q.2 rfl)]
    · rw [e]
      dsimp only
      rw [bi_t ⟨rfl, by decide⟩]
  · have hf : fIsRet m x = (bi ((1 : Int32) = 0 ∧ ¬ m 29 x.toNatClampNeg = 0), thr m 1 1) := by
      show (bi ((fNone m x).1 = 0 ∧ ¬ m 29 x.toNatClampNeg = 0), (fNone m x).2) = _
      rw [fNone_no hw z]
    rw [hf, xPa_ns (fun q => z (hpa.mp q))]
    exact CallOK.ask (by dsimp only; rw [thr45]; exact kod_1.1.symm) (fun q => (nomatch q)) (h.thr _ _)
theorem nn_lt {x : Int32} {b : Nat} (hb : b < 2 ^ 31) (h : x = -1 ∨ isN x 0 b) : 0 ≤ x ↔ ¬ x = -1 := by
  rcases h with rfl | h
  · exact ⟨fun z => absurd z (by decide), fun z => absurd rfl z⟩
  · obtain ⟨h1, -, h3⟩ := h
    rw [h1]
    exact ⟨fun _ => nI_nm (by omega), fun _ => nI_le (Nat.zero_le _) (by omega)⟩
theorem late_iff {n : Nat} {c m : MM} (h : Sim n c m) {p : Nat} (hp : p < npN m) : cMiss c p (c 41 0) = bi (late m p) := by
  have g := (h.1.2.2.1 p hp).1.1
  have hM := (h.1.2.2.1 p hp).2
  have e41 : c 41 0 = m 41 0 := h.1.1.2.1
  have h20 := nn_lt (by decide) hM.2.2.1
  have h21 := nn_lt (by decide) hM.2.2.2
  unfold cMiss
  rw [g 20 rfl, g 21 rfl, e41]
  by_cases z : m 20 p = -1
  · rw [if_pos z]
    exact (bi_f (fun q => (h20.mp q.1) z)).symm
  · rw [if_neg z]
    refine bi_c ?_
    unfold late
    by_cases y : m 21 p = -1
    · rw [if_pos y, if_neg (fun q => (h21.mp q) y)]
      exact ⟨fun q => ⟨h20.mpr z, q⟩, fun q => q.2⟩
    · rw [if_neg y, if_pos (h21.mpr y)]
      exact ⟨fun q => ⟨h20.mpr z, q⟩, fun q => q.2⟩
theorem late_thr (m : MM) (b a : Int32) (p : Nat) : late (thr m b a) p ↔ late m p := by
  unfold late
  rw [thrk m b a (k := 20) (by omega), thrk m b a (k := 21) (by omega), thrk m b a (k := 41) (by omega)]
theorem call_isLate {n : Nat} {c m : MM} (h : Sim n c m) (hw : WFa m) (hc : WFc c) (x : Int32) : CallOK n [nseC] c (xPa c x) (cMiss c x.toNatClampNeg (c 41 0)) (fLate m x) := by
  have hpa := h.pa hc (x := x)
  by_cases z : vp_in x (npN m)
  · have hf : fLate m x = (bi ((0 : Int32) = 0 ∧ late m x.toNatClampNeg), thr m 0 1) := by
      show (bi ((fNone m x).1 = 0 ∧ late m x.toNatClampNeg), (fNone m x).2) = _
      rw [fNone_yes hw z]
    rw [hf, hpa.mpr z]
    refine CallOK.ask (thr45 m 0 1) (fun _ => ?_) (h.thr _ _)
    rw [late_iff h (vp_nat z)]
    exact bi_c ⟨fun q => ⟨rfl, q⟩, fun q => q.2⟩
  · have hf : fLate m x = (bi ((1 : Int32) = 0 ∧ late m x.toNatClampNeg), thr m 1 1) := by
      show (bi ((fNone m x).1 = 0 ∧ late m x.toNatClampNeg), (fNone m x).2) = _
      rw [fNone_no hw z]
    rw [hf, xPa_ns (fun q => z (hpa.mp q))]
    exact CallOK.ask (by dsimp only; rw [thr45]; exact kod_1.1.symm) (fun q => (nomatch q)) (h.thr _ _)
theorem call_at {n : Nat} {c m : MM} (h : Sim n c m) (hw : WFa m) (hc : WFc c) (x : Int32) : CallOK n [nseC, iseC] c (xAt c x) (c 15 x.toNatClampNeg) (fAt m x) := by
  have hpa := h.pa hc (x := x)
  by_cases z : vp_in x (npN m)
  · have g := (h.1.2.2.1 _ (vp_nat z)).1.1
    have hf : fAt m x = (if ¬ bi (m 28 x.toNatClampNeg = 116) = 0 then 0 else m 15 x.toNatClampNeg, thr (thr m 0 1) (bi (m 28 x.toNatClampNeg = 116)) 2) := by
      unfold fAt
      simp only
      rw [fNone_yes hw z]
      dsimp only
      rw [if_neg (fun q => q rfl)]
    rw [hf]
    have hX : xAt c x = if m 28 x.toNatClampNeg = 116 then some iseC else none := by
      unfold xAt
      rw [hpa.mpr z, g 28 rfl]
      rfl
    by_cases y : m 28 x.toNatClampNeg = 116
    · rw [hX, if_pos y]
      refine CallOK.ask ?_ (fun q => (nomatch q)) ((h.thr _ _).thr _ _)
      dsimp only
      rw [thr45, bi_t y]
      exact kod_1.2.2.1.symm
    · rw [hX, if_neg y]
      refine CallOK.ask ?_ (fun _ => ?_) ((h.thr _ _).thr _ _)
      · dsimp only
        rw [thr45, bi_f y]
        rfl
      · show _ = if _ then _ else _
        rw [bi_f y, if_neg (fun q => q rfl), g 15 rfl]
  · have hf : fAt m x = (0, thr m 1 1) := by
      unfold fAt
      simp only
      rw [fNone_no hw z]
      dsimp only
      rw [if_pos (by decide)]
    rw [hf]
    have hX : xAt c x = some nseC := by unfold xAt; rw [xPa_ns (fun q => z (hpa.mp q))]; rfl
    rw [hX]
    exact CallOK.ask (by dsimp only; rw [thr45]; exact kod_1.2.1.symm) (fun q => (nomatch q)) (h.thr _ _)
theorem call_rides {n : Nat} {c m : MM} (h : Sim n c m) (hw : WFa m) (hc : WFc c) (x : Int32) : CallOK n [nseC, iseC] c (xRd c x) (c 116 x.toNatClampNeg) (fRides m x) := by
  have hpa := h.pa hc (x := x)
  have nl12 := hw.nl.2
  by_cases z : vp_in x (npN m)
  · have hp := h.1.2.2.1 _ (vp_nat z)
    have g := hp.1.1
    have hf : fRides m x = (if ¬ bi (¬ m 28 x.toNatClampNeg = 116) = 0 then 0 else m 16 x.toNatClampNeg, thr (thr m 0 1) (bi (¬ m 28 x.toNatClampNeg = 116)) 2) := by
      unfold fRides
      simp only
      rw [fNone_yes hw z]
      dsimp only
      rw [if_neg (fun q => q rfl)]
    rw [hf]
    have hX : xRd c x = if m 28 x.toNatClampNeg = 116 then none else some iseC := by
      unfold xRd
      rw [hpa.mpr z, g 28 rfl]
      show (if _ then _ else _) = _
      by_cases y : m 28 x.toNatClampNeg = 116
      · have v16 := ((hw.pa (vp_nat z)).2.2.2.2.1 y)
        have e : ¬ c 116 x.toNatClampNeg = -1 := fun q => by
          rw [hp.1.2 y] at q
          rw [q] at v16
          exact vp_nn v16 (by decide)
        rw [if_pos ⟨y, e⟩, if_pos y]
      · rw [if_neg (fun q => y q.1), if_neg y]
    by_cases y : m 28 x.toNatClampNeg = 116
    · rw [hX, if_pos y]
      refine CallOK.ask ?_ (fun _ => ?_) ((h.thr _ _).thr _ _)
      · dsimp only
        rw [thr45, bi_f (fun q => q y)]
        rfl
      · show _ = if _ then _ else _
        rw [bi_f (fun q => q y), if_neg (fun q => q rfl), hp.1.2 y]
    · rw [hX, if_neg y]
      refine CallOK.ask ?_ (fun q => (nomatch q)) ((h.thr _ _).thr _ _)
      dsimp only
      rw [thr45, bi_t y]
      exact kod_1.2.2.1.symm
  · have hf : fRides m x = (0, thr m 1 1) := by
      unfold fRides
      simp only
      rw [fNone_no hw z]
      dsimp only
      rw [if_pos (by decide)]
    rw [hf]
    have hX : xRd c x = some nseC := by unfold xRd; rw [xPa_ns (fun q => z (hpa.mp q))]; rfl
    rw [hX]
    exact CallOK.ask (by dsimp only; rw [thr45]; exact kod_1.2.1.symm) (fun q => (nomatch q)) (h.thr _ _)

