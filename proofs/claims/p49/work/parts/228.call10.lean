/-! bags -/
theorem vw_eq {n : Nat} {c m : MM} (h : Sim n c m) (y z : Int32) : ∀ (k p : Nat) (a : Int32), p + k ≤ npN m → cVwL c y z k p a = volL m y z k p a := by
  intro k
  induction k with
  | zero => intro p a _; rfl
  | succ k ih =>
    intro p a hp
    have g := (h.1.2.2.1 p (by omega)).1.1
    simp only [cVwL, volL]
    rw [ih _ _ (by omega)]
    congr 1
    unfold cWf
    rw [g 28 rfl, g 19 rfl, g 14 rfl, g 11 rfl]
    by_cases w : m 28 p = 115 ∧ m 19 p = y ∧ m 14 p = z
    · rw [if_pos ⟨bi_n0.mpr ⟨w.1, w.2.1⟩, w.2.2⟩, if_pos w]
    · rw [if_neg (fun q => w ⟨(bi_n0.mp q.1).1, (bi_n0.mp q.1).2, q.2⟩), if_neg w, Int32.add_zero]
theorem ba_eq {n : Nat} {c m : MM} (h : Sim n c m) (y : Int32) : ∀ (k i : Nat) (a : Int32), cBaL c y k i a = bgA m y k i a := by
  intro k
  induction k with
  | zero => intro i a; rfl
  | succ k ih =>
    intro i a
    simp only [cBaL, bgA]
    rw [ih]
    have e : cVw c y (nI i) = volL m y (nI i) (npN m) 0 0 := by
      unfold cVw
      rw [h.1.1.1.2.2]
      exact vw_eq h y (nI i) _ 0 0 (by omega)
    rw [e]
theorem call_bagsAtLeast {n : Nat} {c m : MM} (h : Sim n c m) (hw : WFa m) (hc : WFc c) (x : Int32) : CallOK n [nseC] c (xLn c x) (cBaL c x (nhN c) 0 0) (fBgA m x) := by
  rcases ln_cases h hw hc x with ⟨z, hX, hf⟩ | ⟨z, hX, hf⟩
  · have e : fBgA m x = (bgA (thr m 0 1) x (nhN (thr m 0 1)) 0 0, thr m 0 1) := by unfold fBgA; simp only; rw [hf]; dsimp only; rw [if_neg (fun q => q rfl)]
    rw [e, hX]
    refine CallOK.ask (thr45 m 0 1) (fun _ => ?_) (h.thr _ _)
    have e3 : nhN (thr m 0 1) = nhN m := nhN_ext (thrk m 0 1 (by omega))
    dsimp only
    rw [h.1.1.1.1, e3]
    exact ba_eq (h.thr 0 1) x _ 0 0
  · have e : fBgA m x = (0, thr m 1 1) := by unfold fBgA; simp only; rw [hf]; dsimp only; rw [if_pos (by decide)]
    rw [e, hX]
    exact CallOK.ask (by dsimp only; rw [thr45]; exact kod_1.1.symm) (fun q => (nomatch q)) (h.thr _ _)
theorem call_bagVolume {n : Nat} {c m : MM} (h : Sim n c m) (hw : WFa m) (hc : WFc c) (x i : Int32) : CallOK n [nseC, iobC] c (xBv c x i) (cVol c x.toNatClampNeg 40 i) (fBgV m x i) := by
  rcases ln_cases h hw hc x with ⟨z, hX, hf⟩ | ⟨z, hX, hf⟩
  · have hl := vp_nat z
    have nl12 := hw.nl.2
    have vx := vp_nI z (by omega)
    obtain ⟨b8, b10⟩ := h.1.2.2.2.1 _ hl
    have v8 := (hw.ln hl).2.2.2.1
    have n8 := vp_nI v8 (by omega)
    have l8 := vp_nat v8
    have e : fBgV m x i = (if ¬ bi (¬ inn i 0 (m 8 x.toNatClampNeg - 1) = true) = 0 then 0 else m 10 (4 * x + i).toNatClampNeg, thr (thr m 0 1) (bi (¬ inn i 0 (m 8 x.toNatClampNeg - 1) = true)) 2) := by unfold fBgV; simp only; rw [hf]; dsimp only; rw [if_neg (fun q => q rfl)]
    have hX2 : xBv c x i = if cHas c x.toNatClampNeg 40 i = 0 then some iobC else none := by unfold xBv; rw [hX]; rfl
    have hin := inn_iff (x := i) (n := vN (m 8 x.toNatClampNeg)) (by unfold vN; omega)
    rw [← n8] at hin
    have hhas : ¬ cHas c x.toNatClampNeg 40 i = 0 ↔ vp_in i (vN (m 8 x.toNatClampNeg)) := by
      unfold cHas
      rw [bi_n0, b8]
      constructor
      · intro q
        refine vp_of (by unfold vN; omega) (fun w => ?_) (by rw [← n8]; exact q.2.1)
        have q1 := q.1
        rw [Int32.lt_iff_toInt_lt] at w
        rw [Int32.le_iff_toInt_le] at q1
        omega
      · intro q
        obtain ⟨j, hj, ej⟩ := vp_in_of q (by unfold vN; omega)
        refine ⟨by rw [ej]; exact nI_le (Nat.zero_le _) (by unfold vN at hj; omega), by rw [n8, ej]; exact nI_lt hj (by omega), by rw [ej]; exact nI_lt (by unfold vN at hj; omega) (by omega)⟩
    rw [e, hX2]
    by_cases y : vp_in i (vN (m 8 x.toNatClampNeg))
    · have hh := hhas.mpr y
      have b0 : bi (¬ inn i 0 (m 8 x.toNatClampNeg - 1) = true) = 0 := bi_f (fun q => q (hin.mpr y))
      rw [if_neg hh, b0, if_neg (fun q => q rfl)]
      refine CallOK.ask (by dsimp only; rw [thr45]; rfl) (fun _ => ?_) ((h.thr _ _).thr _ _)
      obtain ⟨j, hj, ej⟩ := vp_in_of y (by unfold vN; omega)
      have hj2 : j < 2 ^ 20 := by unfold vN at hj; omega
      unfold cVol
      rw [if_pos hh]
      dsimp only
      rw [ej, nI_clamp (by omega), b10 j hj (by unfold vN at hj; omega)]
      congr 1
      rw [vx, show (4 : Int32) = nI 4 from rfl, nI_mul, nI_add, nI_clamp (by omega), nI_clamp (by omega)]
    · have hh : cHas c x.toNatClampNeg 40 i = 0 := Classical.byContradiction (fun q => y (hhas.mp q))
      have b1 : bi (¬ inn i 0 (m 8 x.toNatClampNeg - 1) = true) = 1 := bi_t (fun q => y (hin.mp q))
      rw [if_pos hh, b1, if_pos (by decide)]
      refine CallOK.ask ?_ (fun q => (nomatch q)) ((h.thr _ _).thr _ _)
      dsimp only; rw [thr45]; exact kod_1.2.2.2.2.symm
  · have e : fBgV m x i = (0, thr m 1 1) := by unfold fBgV; simp only; rw [hf]; dsimp only; rw [if_pos (by decide)]
    have hX2 : xBv c x i = some nseC := by unfold xBv; rw [hX]; rfl
    rw [e, hX2]
    exact CallOK.ask (by dsimp only; rw [thr45]; exact kod_1.2.2.2.1.symm) (fun q => (nomatch q)) (h.thr _ _)

