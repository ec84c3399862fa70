/-! asking for lines -/
theorem noLine_no {m : MM} (hw : WFa m) {x : Int32} (z : ¬ vp_in x (nlN m)) : fNoLine m x = (1, thr m 1 1) := by
  have b1 : bi (¬ isLn m x = true) = 1 := bi_t (fun q => z (hw.isLn.mp q))
  unfold fNoLine
  rw [b1]
theorem noLine_yes {m : MM} (hw : WFa m) {x : Int32} (z : vp_in x (nlN m)) : fNoLine m x = (0, thr m 0 1) := by
  have b1 : bi (¬ isLn m x = true) = 0 := bi_f (fun q => q (hw.isLn.mpr z))
  unfold fNoLine
  rw [b1]
theorem ln_cases {n : Nat} {c m : MM} (h : Sim n c m) (hw : WFa m) (hc : WFc c) (x : Int32) : (vp_in x (nlN m) ∧ xLn c x = none ∧ fNoLine m x = (0, thr m 0 1)) ∨ (¬ vp_in x (nlN m) ∧ xLn c x = some nseC ∧ fNoLine m x = (1, thr m 1 1)) := by
  have hl := h.ln hc (x := x)
  by_cases z : vp_in x (nlN m)
  · exact Or.inl ⟨z, hl.mpr z, noLine_yes hw z⟩
  · exact Or.inr ⟨z, xLn_ns (fun q => z (hl.mp q)), noLine_no hw z⟩
theorem cw_eq {n : Nat} {c m : MM} (h : Sim n c m) (y : Int32) : ∀ (k p : Nat) (a : Int32), p + k ≤ npN m → cCwL c y k p a = cntW m y k p a := by
  intro k
  induction k with
  | zero => intro p a _; rfl
  | succ k ih =>
    intro p a hp
    have g := (h.1.2.2.1 p (by omega)).1.1
    simp only [cCwL, cntW]
    rw [ih _ _ (by omega)]
    congr 1
    unfold cWf
    rw [g 28 rfl, g 19 rfl]
    by_cases z : m 28 p = 115 ∧ m 19 p = y
    · rw [if_pos (bi_n0.mpr z), if_pos z]
    · rw [if_neg (fun q => z (bi_n0.mp q)), if_neg z, Int32.add_zero]
theorem Sim.waitsC {n : Nat} {c m : MM} (h : Sim n c m) (y : Int32) : cCw c y = waits m y := by
  unfold cCw waits
  rw [h.1.1.1.2.2]
  exact cw_eq h y _ 0 0 (by omega)
theorem call_waiting {n : Nat} {c m : MM} (h : Sim n c m) (hw : WFa m) (hc : WFc c) (x : Int32) : CallOK n [nseC] c (xLn c x) (cCw c x) (fWai m x) := by
  rcases ln_cases h hw hc x with ⟨z, hX, hf⟩ | ⟨z, hX, hf⟩
  · have e : fWai m x = (waits (thr m 0 1) x, thr m 0 1) := by unfold fWai; simp only; rw [hf]; dsimp only; rw [if_neg (fun q => q rfl)]
    rw [e, hX]
    exact CallOK.ask (thr45 m 0 1) (fun _ => (h.thr 0 1).waitsC x) (h.thr _ _)
  · have e : fWai m x = (0, thr m 1 1) := by unfold fWai; simp only; rw [hf]; dsimp only; rw [if_pos (by decide)]
    rw [e, hX]
    exact CallOK.ask (by dsimp only; rw [thr45]; exact kod_1.1.symm) (fun q => (nomatch q)) (h.thr _ _)
theorem call_bags {n : Nat} {c m : MM} (h : Sim n c m) (hw : WFa m) (hc : WFc c) (x : Int32) : CallOK n [nseC] c (xLn c x) (c 8 x.toNatClampNeg) (fBgs m x) := by
  rcases ln_cases h hw hc x with ⟨z, hX, hf⟩ | ⟨z, hX, hf⟩
  · have e : fBgs m x = (m 8 x.toNatClampNeg, thr m 0 1) := by unfold fBgs; simp only; rw [hf]; dsimp only; rw [if_neg (fun q => q rfl)]
    rw [e, hX]
    exact CallOK.ask (thr45 m 0 1) (fun _ => (h.1.2.2.2.1 _ (vp_nat z)).1) (h.thr _ _)
  · have e : fBgs m x = (0, thr m 1 1) := by unfold fBgs; simp only; rw [hf]; dsimp only; rw [if_pos (by decide)]
    rw [e, hX]
    exact CallOK.ask (by dsimp only; rw [thr45]; exact kod_1.1.symm) (fun q => (nomatch q)) (h.thr _ _)
theorem rd_eq {n : Nat} {c m : MM} (h : Sim n c m) (y : Int32) : ∀ (k p : Nat) (a : Int32), p + k ≤ npN m → cRdL c y k p a = rdL m y k p a := by
  intro k
  induction k with
  | zero => intro p a _; rfl
  | succ k ih =>
    intro p a hp
    have hp2 := (h.1.2.2.1 p (by omega)).1
    simp only [cRdL, rdL]
    rw [ih _ _ (by omega)]
    congr 1
    rw [hp2.1 28 rfl]
    by_cases w : m 28 p = 116
    · rw [hp2.2 w]
      by_cases z : m 16 p = y
      · rw [if_pos ⟨w, z⟩, if_pos ⟨w, z⟩]
      · rw [if_neg (fun q => z q.2), if_neg (fun q => z q.2), Int32.add_zero]
    · rw [if_neg (fun q => w q.1), if_neg (fun q => w q.1), Int32.add_zero]
theorem call_riding {n : Nat} {c m : MM} (h : Sim n c m) (hw : WFa m) (hc : WFc c) (x : Int32) : CallOK n [nseC] c (xLn c x) (cRdL c x (npN c) 0 0) (fRdg m x) := by
  rcases ln_cases h hw hc x with ⟨z, hX, hf⟩ | ⟨z, hX, hf⟩
  · have e : fRdg m x = (rdL (thr m 0 1) x (npN (thr m 0 1)) 0 0, thr m 0 1) := by unfold fRdg; simp only; rw [hf]; dsimp only; rw [if_neg (fun q => q rfl)]
    rw [e, hX]
    refine CallOK.ask (thr45 m 0 1) (fun _ => ?_) (h.thr _ _)
    have e3 : npN (thr m 0 1) = npN m := npN_ext (thrk m 0 1 (by omega))
    dsimp only
    rw [h.1.1.1.2.2, e3]
    exact rd_eq (h.thr 0 1) x _ 0 0 (by omega)
  · have e : fRdg m x = (0, thr m 1 1) := by unfold fRdg; simp only; rw [hf]; dsimp only; rw [if_pos (by decide)]
    rw [e, hX]
    exact CallOK.ask (by dsimp only; rw [thr45]; exact kod_1.1.symm) (fun q => (nomatch q)) (h.thr _ _)
theorem call_nextDeparture {n : Nat} {c m : MM} (h : Sim n c m) (hw : WFa m) (hc : WFc c) (x : Int32) : CallOK n [nseC, iseC] c (xOpn c x) (cDep c x.toNatClampNeg (c 41 0 + 1)) (fNext m x) := by
  rcases ln_cases h hw hc x with ⟨z, hX, hf⟩ | ⟨z, hX, hf⟩
  · have hl := vp_nat z
    obtain ⟨f1, f2⟩ := h.1.1.2.2.2 _ hl
    have e : fNext m x = (if ¬ m 9 x.toNatClampNeg = 0 then 0 else lvs m x.toNatClampNeg (m 41 0 + 1), thr (thr m 0 1) (m 9 x.toNatClampNeg) 2) := by unfold fNext; simp only; rw [hf]; dsimp only; rw [if_neg (fun q => q rfl)]
    rw [e]
    have hXo : xOpn c x = if c 108 x.toNatClampNeg = 0 then some iseC else none := by unfold xOpn; rw [hX]; rfl
    rw [hXo]
    by_cases w : m 9 x.toNatClampNeg = 0
    · rw [if_neg (fun q => (f2.mp q) w)]
      refine CallOK.ask ?_ (fun _ => ?_) ((h.thr _ _).thr _ _)
      · dsimp only; rw [thr45, if_pos w]; rfl
      · dsimp only
        rw [if_neg (fun q => q w)]
        obtain ⟨g4, g5, g6⟩ := h.1.2.1.2.1.2 _ hl
        have h41 := h.1.2.1.2.2.2
        have e41 : m 41 0 + 1 = nI ((m 41 0).toNatClampNeg + 1) := by
          have e0 : nI (m 41 0).toNatClampNeg + 1 = nI ((m 41 0).toNatClampNeg + 1) := by rw [nI_1]
          rw [← h41.1] at e0
          exact e0
        have hb := h41.2.2
        rw [h.1.1.2.1, e41, lvs_N g4 g5 (by omega), cDep_N (by rw [f1 4 (by omega) (by omega)]; exact g4) (by rw [f1 5 (by omega) (by omega)]; exact g5) (by omega), f1 4 (by omega) (by omega), f1 5 (by omega) (by omega)]
    · rw [if_pos (f2.mpr w)]
      refine CallOK.ask ?_ (fun q => (nomatch q)) ((h.thr _ _).thr _ _)
      dsimp only; rw [thr45, if_neg w]; exact kod_1.2.2.1.symm
  · have e : fNext m x = (0, thr m 1 1) := by unfold fNext; simp only; rw [hf]; dsimp only; rw [if_pos (by decide)]
    have hXo : xOpn c x = some nseC := by unfold xOpn; rw [hX]; rfl
    rw [e, hXo]
    exact CallOK.ask (by dsimp only; rw [thr45]; exact kod_1.2.1.symm) (fun q => (nomatch q)) (h.thr _ _)

