theorem acc_gr (m : MM) (hb d vol srv t : Int32) (h : npN m < 40) : npN (mAcc m hb d vol srv t) = npN m + 1 ∧ nlN (mAcc m hb d vol srv t) = nlN m ∧ nhN (mAcc m hb d vol srv t) = nhN m ∧ uC (mAcc m hb d vol srv t) = uC m ∧ uS (mAcc m hb d vol srv t) = uS m ∧ logN (mAcc m hb d vol srv t) = logN m := by
  have e := uC_ext (a := mAcc m hb d vol srv t) (b := m) (by simp [mAcc, up_key])
  refine ⟨?_, nlN_ext (by simp [mAcc, up_key]), nhN_ext (by simp [mAcc, up_key]), e.1, e.2, logN_ext (by simp [mAcc, up_key])⟩
  show (mAcc m hb d vol srv t 39 0).toNatClampNeg = npN m + 1
  rw [show mAcc m hb d vol srv t 39 0 = nI (npN m + 1) from by simp [mAcc, up]]
  exact nI_clamp (by omega)
theorem fAcc_eq {m : MM} (hw : WFa m) {hb x vol srv : Int32} (c1 : isHb m hb = true) (c2 : ¬ (isAd x = 0 ∨ ¬ inn vol 1 9 = true ∨ ¬ inn srv 0 2 = true)) (c3 : ¬ (found m x < 0 ∨ m 39 0 = 40)) :
    fAcc m hb x vol srv = (nI (npN m), fHap (fProm (mAcc (thr (thr (thr m 0 1) 0 2) 0 3) hb (found m x) vol srv (m 41 0)) (npN m)) (npN m) 97 (-1)) := by
  have e1 : bi (¬ isHb m hb = true) = 0 := bi_0.mpr (fun q => q c1)
  have e2 : bi (isAd x = 0 ∨ ¬ inn vol 1 9 = true ∨ ¬ inn srv 0 2 = true) = 0 := bi_0.mpr c2
  have e3 : bi (found (thr (thr m 0 1) 0 2) x < 0 ∨ m 39 0 = 40) = 0 := bi_0.mpr (by rw [found_thr, found_thr]; exact c3)
  have e4 : m 39 0 + 1 = nI (npN m + 1) := by rw [hw.np.1, ← nI_add]; rfl
  unfold fAcc
  simp only [e1, e2, e3]
  rw [if_neg (fun q => q trivial), if_neg (fun q => q trivial), if_neg (fun q => q trivial), e4, hw.np.1]
  rfl
/-- the state of addLine before the plans -/
abbrev mAdd (m : MM) (f t a b c d : Int32) : MM :=
  up (up (up (up (up (up (up m 2 (nlN m) f) 3 (nlN m) t) 4 (nlN m) a) 5 (nlN m) b) 6 (nlN m) c) 7 (nlN m) d) 38 0 (nI (nlN m + 1))
theorem WFa.addM {m : MM} (hw : WFa m) (h : nlN m < 12) {f t b d : Int32} (hf : vp_in f (nhN m)) (ht : vp_in t (nhN m)) (hb : ¬ b = 0) (hd : inn d 1 4 = true) (a c : Int32) : WFa (mAdd m f t a b c d) := by
  unfold mAdd
  have w1 : WFa (up m 2 (nlN m) f) := hw.lset (by omega) (fun z => absurd z (by omega))
  have e1 : nlN (up m 2 (nlN m) f) = nlN m := nlN_ext (up_key (by decide))
  have w2 : WFa (up (up m 2 (nlN m) f) 3 (nlN m) t) := w1.lset (by omega) (fun z => absurd z (by omega))
  have e2 : nlN (up (up m 2 (nlN m) f) 3 (nlN m) t) = nlN m := (nlN_ext (up_key (by decide))).trans e1
  have w3 : WFa (up (up (up m 2 (nlN m) f) 3 (nlN m) t) 4 (nlN m) a) := w2.upx (by unfold kWF; omega)
  have e3 : nlN (up (up (up m 2 (nlN m) f) 3 (nlN m) t) 4 (nlN m) a) = nlN m := (nlN_ext (up_key (by decide))).trans e2
  have w4 : WFa (up (up (up (up m 2 (nlN m) f) 3 (nlN m) t) 4 (nlN m) a) 5 (nlN m) b) := w3.lset (by omega) (fun z => absurd z (by omega))
  have e4 : nlN (up (up (up (up m 2 (nlN m) f) 3 (nlN m) t) 4 (nlN m) a) 5 (nlN m) b) = nlN m := (nlN_ext (up_key (by decide))).trans e3
  have w5 : WFa (up (up (up (up (up m 2 (nlN m) f) 3 (nlN m) t) 4 (nlN m) a) 5 (nlN m) b) 6 (nlN m) c) := w4.upx (by unfold kWF; omega)
  have e5 : nlN (up (up (up (up (up m 2 (nlN m) f) 3 (nlN m) t) 4 (nlN m) a) 5 (nlN m) b) 6 (nlN m) c) = nlN m := (nlN_ext (up_key (by decide))).trans e4
  have w6 : WFa (up (up (up (up (up (up m 2 (nlN m) f) 3 (nlN m) t) 4 (nlN m) a) 5 (nlN m) b) 6 (nlN m) c) 7 (nlN m) d) := w5.lset (by omega) (fun z => absurd z (by omega))
  have e6 : nlN (up (up (up (up (up (up m 2 (nlN m) f) 3 (nlN m) t) 4 (nlN m) a) 5 (nlN m) b) 6 (nlN m) c) 7 (nlN m) d) = nlN m := (nlN_ext (up_key (by decide))).trans e5
  have n1 : nhN (up (up (up (up (up (up m 2 (nlN m) f) 3 (nlN m) t) 4 (nlN m) a) 5 (nlN m) b) 6 (nlN m) c) 7 (nlN m) d) = nhN m := nhN_ext (by simp [up_key])
  have w7 := w6.newL (by omega) (by
    rw [e6]
    unfold lnOK
    rw [n1]
    have h8 := hw.fr.2 (nlN m) (Nat.le_refl _)
    refine ⟨?_, ?_, ?_, ?_, ?_, ?_⟩
    · simpa [up] using hf
    · simpa [up] using ht
    · simpa [up] using hb
    · have : (0 : Int32) = nI 0 := rfl
      simp only [up, h8.1]; simp; rw [this]; exact vp_in_nI (by decide) (by decide)
    · simpa [up] using hd
    · simp [up, h8.2])
  rw [e6] at w7
  exact w7
theorem fAddL_eq {m : MM} (hw : WFa m) {f t a b c d : Int32} (c1 : isHb m f = true ∧ isHb m t = true) (c2 : ¬ lineBad f t a b c d) (c3 : ¬ m 38 0 = 12) :
    fAddL m f t a b c d = (fPlansAll (mAdd (thr (thr (thr m 0 1) 0 2) 0 3) f t a b c d) 38 0 - 1, fPlansAll (mAdd (thr (thr (thr m 0 1) 0 2) 0 3) f t a b c d)) := by
  have e1 : bi (¬ isHb m f = true ∨ ¬ isHb m t = true) = 0 := bi_0.mpr (fun q => q.elim (fun z => z c1.1) (fun z => z c1.2))
  have e2 : bi (lineBad f t a b c d) = 0 := bi_0.mpr c2
  have e3 : bi (m 38 0 = 12) = 0 := bi_0.mpr c3
  have e4 : m 38 0 + 1 = nI (nlN m + 1) := by rw [hw.nl.1, ← nI_add]; rfl
  unfold fAddL
  simp only [e1, e2, e3]
  rw [if_neg (fun q => q trivial), if_neg (fun q => q trivial), if_neg (fun q => q trivial), e4]
  rfl
/-- the state of openHub at its end -/
abbrev mOpn (m : MM) (code cut : Int32) : MM := up (up (up m 0 (nhN m) code) 1 (nhN m) cut) 37 0 (nI (nhN m + 1))
theorem WFa.opnM {m : MM} (hw : WFa m) (h : nhN m < 6) (a b : Int32) : WFa (mOpn m a b) := by
  unfold mOpn
  have w1 : WFa (up (up m 0 (nhN m) a) 1 (nhN m) b) := (hw.upx (by unfold kWF; omega)).upx (by unfold kWF; omega)
  have e1 : nhN (up (up m 0 (nhN m) a) 1 (nhN m) b) = nhN m := nhN_ext (by simp [up_key])
  have w2 := w1.newH (by omega)
  rw [e1] at w2
  exact w2
theorem fOpen_eq {m : MM} (hw : WFa m) {a b : Int32} (c1 : ¬ (isDg a 1 999 = 0 ∨ ¬ inn b 1 20 = true)) (c2 : ¬ (¬ hasCode m a (nhN m) 0 0 = 0 ∨ m 37 0 = 6)) :
    fOpen m a b = (nI (nhN m + 1) - 1, mOpn (thr (thr m 0 1) 0 2) a b) := by
  have e1 : bi (isDg a 1 999 = 0 ∨ ¬ inn b 1 20 = true) = 0 := bi_0.mpr c1
  have e2 : bi (¬ hasCode m a (nhN m) 0 0 = 0 ∨ m 37 0 = 6) = 0 := bi_0.mpr c2
  have e4 : m 37 0 + 1 = nI (nhN m + 1) := by rw [hw.nh.1, ← nI_add]; rfl
  unfold fOpen
  simp only [e1, e2]
  rw [if_neg (fun q => q trivial), if_neg (fun q => q trivial), e4]
  rfl

