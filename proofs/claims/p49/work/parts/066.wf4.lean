theorem Gr.np {B : Nat} {a b : MM} (h : Gr B a b) : npN b = npN a := h.1
theorem Gr.nl {B : Nat} {a b : MM} (h : Gr B a b) : nlN b = nlN a := h.2.1
theorem Gr.nh {B : Nat} {a b : MM} (h : Gr B a b) : nhN b = nhN a := h.2.2.1
theorem Gr.lg {B : Nat} {a b : MM} (h : Gr B a b) : logN b ≤ logN a + B := h.2.2.2.2.2.2
/-- the third attempt and what comes of it -/
theorem del_gr {m : MM} (hw : WFa m) {p : Nat} (hp : p < npN m) {t : Int32} (ht : t = 0) (hU : logN m + 2 ≤ 2 ^ 21) :
    (WFa (fHap (up m 23 p (m 23 p + 1)) p 102 (-1)) ∧ Gr 1 m (fHap (up m 23 p (m 23 p + 1)) p 102 (-1))) ∧ WFa (fDel1 m p t).2 ∧ Gr 1 (fHap (up m 23 p (m 23 p + 1)) p 102 (-1)) (fDel1 m p t).2 := by
  have w1 : WFa (up m 23 p (m 23 p + 1)) := hw.upx (by unfold kWF; omega)
  have g1 : Gr 0 m (up m 23 p (m 23 p + 1)) := Gr.up (by omega)
  have hp1 : p < npN (up m 23 p (m 23 p + 1)) := by rw [g1.np]; exact hp
  have l1 := g1.lg
  have w2 := w1.hap hp1 (kind := 102) rfl (-1) (by omega)
  have g2 := Gr.hap w1 p 102 (-1)
  have hp2 : p < npN (fHap (up m 23 p (m 23 p + 1)) p 102 (-1)) := by rw [g2.np]; exact hp1
  have l2 := g2.lg
  refine ⟨⟨w2, g1.trans g2⟩, ?_⟩
  unfold fDel1
  rw [if_neg (Classical.not_not.mpr ht)]
  generalize fHap (up m 23 p (m 23 p + 1)) p 102 (-1) = M at *
  dsimp only
  split
  · exact ⟨w2, Gr.refl _ _⟩
  · split
    · have w3 : WFa (up M 28 p 104) := w2.up28 (Or.inr (Or.inr (Or.inr rfl)))
      have g3 : Gr 0 M (up M 28 p 104) := Gr.up (by omega)
      have l3 := g3.lg
      exact ⟨w3.hap (by rw [g3.np]; exact hp2) rfl _ (by omega), g3.trans (Gr.hap w3 p 104 (-1))⟩
    · exact ⟨w2.turns hp2 (by omega), Gr.turns w2 hp2⟩
theorem del1_ok {m : MM} (hw : WFa m) {p : Nat} (hp : p < npN m) (t : Int32) (hU : logN m + 2 ≤ 2 ^ 21) : WFa (fDel1 m p t).2 ∧ Gr 2 m (fDel1 m p t).2 := by
  by_cases ht : t = 0
  · have h := del_gr hw hp ht hU
    exact ⟨h.2.1, h.1.2.trans h.2.2⟩
  · unfold fDel1
    rw [if_pos ht]
    have w1 : WFa (up (up m 28 p 100) 26 p (m 41 0)) := (hw.up28 (Or.inr (Or.inr (Or.inl rfl)))).upx (by unfold kWF; omega)
    have g1 : Gr 0 m (up (up m 28 p 100) 26 p (m 41 0)) := (Gr.up (by omega)).trans (Gr.up (by omega))
    have l1 := g1.lg
    exact ⟨w1.hap (by rw [g1.np]; exact hp) rfl _ (by omega), (g1.trans (Gr.hap w1 p 100 (-1))).mono (by omega)⟩
/-- a scan elsewhere and what comes of it -/
theorem scan_gr {m : MM} (hw : WFa m) {p : Nat} (hp : p < npN m) {hb : Int32} (hh : vp_in hb (nhN m)) (hn : ¬ (¬ m 28 p = 116 ∧ m 15 p = hb)) (hU : logN m + 2 ≤ 2 ^ 21) :
    (WFa (fHap (up (up m 15 p hb) 22 p (m 22 p + 1)) p 109 (-1)) ∧ Gr 1 m (fHap (up (up m 15 p hb) 22 p (m 22 p + 1)) p 109 (-1))) ∧ WFa (fScan1 m p hb).2 ∧ Gr 1 (fHap (up (up m 15 p hb) 22 p (m 22 p + 1)) p 109 (-1)) (fScan1 m p hb).2 := by
  have w1 : WFa (up (up m 15 p hb) 22 p (m 22 p + 1)) := (hw.up15 hh).upx (by unfold kWF; omega)
  have g1 : Gr 0 m (up (up m 15 p hb) 22 p (m 22 p + 1)) := (Gr.up (by omega)).trans (Gr.up (by omega))
  have hp1 : p < npN (up (up m 15 p hb) 22 p (m 22 p + 1)) := by rw [g1.np]; exact hp
  have l1 := g1.lg
  have w2 := w1.hap hp1 (kind := 109) rfl (-1) (by omega)
  have g2 := Gr.hap w1 p 109 (-1)
  have hp2 : p < npN (fHap (up (up m 15 p hb) 22 p (m 22 p + 1)) p 109 (-1)) := by rw [g2.np]; exact hp1
  have l2 := g2.lg
  refine ⟨⟨w2, g1.trans g2⟩, ?_⟩
  unfold fScan1
  rw [if_neg (fun q => hn q.1)]
  dsimp only
  rw [if_neg hn]
  generalize fHap (up (up m 15 p hb) 22 p (m 22 p + 1)) p 109 (-1) = M at *
  split
  · have w3 : WFa (up M 28 p 104) := w2.up28 (Or.inr (Or.inr (Or.inr rfl)))
    have g3 : Gr 0 M (up M 28 p 104) := Gr.up (by omega)
    have l3 := g3.lg
    exact ⟨w3.hap (by rw [g3.np]; exact hp2) rfl _ (by omega), g3.trans (Gr.hap w3 p 104 (-1))⟩
  · exact ⟨w2.scans p, (Gr.scans M p).mono (by omega)⟩
theorem scan1_ok {m : MM} (hw : WFa m) {p : Nat} (hp : p < npN m) {hb : Int32} (hh : vp_in hb (nhN m)) (hU : logN m + 2 ≤ 2 ^ 21) : WFa (fScan1 m p hb).2 ∧ Gr 2 m (fScan1 m p hb).2 := by
  by_cases hn : ¬ m 28 p = 116 ∧ m 15 p = hb
  · unfold fScan1
    by_cases h5 : m 28 p = 115
    · rw [if_pos ⟨hn, h5⟩]
      exact ⟨hw, Gr.refl _ _⟩
    · rw [if_neg (fun q => h5 q.2)]
      dsimp only
      rw [if_pos hn]
      have w1 : WFa (fScans (up m 15 p hb) p) := (hw.up15 hh).scans p
      have g1 : Gr 0 m (fScans (up m 15 p hb) p) := (Gr.up (by omega)).trans (Gr.scans _ p)
      have l1 := g1.lg
      exact ⟨w1.hap (by rw [g1.np]; exact hp) rfl _ (by omega), (g1.trans (Gr.hap w1 p 115 (-1))).mono (by omega)⟩
  · have h := scan_gr hw hp hh hn hU
    exact ⟨h.2.1, h.1.2.trans h.2.2⟩
theorem waits_ext {m m' : MM} (h1 : m' 28 = m 28) (h2 : m' 19 = m 19) (h3 : m' 39 = m 39) (x : Int32) : waits m' x = waits m x := by
  have h : ∀ (k p : Nat) (n : Int32), cntW m' x k p n = cntW m x k p n := by
    intro k
    induction k with
    | zero => intro p n; rfl
    | succ k ih => intro p n; unfold cntW; rw [ih, h1, h2]
  unfold waits
  rw [h, npN_ext h3]

