/-- the bags in hand, mo at most -/
def BM (l mo : Nat) (m : MM) : Prop := m 44 0 = nI (bagsN m) ∧ bagsN m ≤ mo ∧ m 7 l = nI mo ∧ mo ≤ 4
theorem bagsN_ext {m m' : MM} (h : m' 44 = m 44) : bagsN m' = bagsN m := by unfold bagsN; rw [h]
theorem BM.ext {l mo : Nat} {m m' : MM} (h : BM l mo m) (h44 : m' 44 = m 44) (h7 : m' 7 = m 7) : BM l mo m' := by
  unfold BM at *
  rw [bagsN_ext h44, h44, h7]; exact h
theorem BM.put {l mo : Nat} {m : MM} (h : BM l mo m) (p : Nat) : BM l mo (fPut m p (m 7 l)).2 := by
  obtain ⟨h1, h2, h3, h4⟩ := h
  have h7 : (fPut m p (m 7 l)).2 7 = m 7 := put_key m p _ (by omega)
  rcases put_bags (m := m) ⟨h1, by omega⟩ p (m 7 l) with e | ⟨c, e⟩
  · have en : bagsN (fPut m p (m 7 l)).2 = bagsN m := by unfold bagsN; rw [e]
    exact ⟨by rw [en, e]; exact h1, by rw [en]; exact h2, by rw [h7]; exact h3, h4⟩
  · have en : bagsN (fPut m p (m 7 l)).2 = bagsN m + 1 := by
      show ((fPut m p (m 7 l)).2 44 0).toNatClampNeg = bagsN m + 1
      rw [e]; exact nI_clamp (by omega)
    refine ⟨by rw [en, e], ?_, by rw [h7]; exact h3, h4⟩
    rw [en]
    have : ¬ bagsN m = mo := fun z => c (by rw [h1, h3, z])
    omega
theorem load1_key (m : MM) (l p : Nat) {k : Nat} (h : k ≠ 34 ∧ k ≠ 35 ∧ k ≠ 44) (h2 : k ≠ 28 ∧ k ≠ 16 ∧ k ≠ 17 ∧ k ≠ 30 ∧ k ≠ 24) (h3 : k ≠ 31 ∧ k ≠ 40 ∧ k ≠ 27 ∧ k ≠ 46) : load1 m l p k = m k := by
  unfold load1
  split
  · rfl
  · dsimp only
    split
    · rw [fHap_key _ _ _ _ h3.1 h3.2.1 h3.2.2.1 h3.2.2.2, up_key h2.2.2.1, up_key h2.2.1, up_key h2.1, put_key m p _ h]
    · rw [up_key h2.2.2.2.2, up_key h2.2.2.2.1, put_key m p _ h]
theorem load1_44 (m : MM) (l p : Nat) : load1 m l p 44 = m 44 ∨ load1 m l p 44 = (fPut m p (m 7 l)).2 44 := by
  unfold load1
  split
  · exact Or.inl rfl
  · dsimp only
    split
    · refine Or.inr ?_
      rw [fHap_key _ _ _ _ (by decide) (by decide) (by decide) (by decide), up_key (by decide), up_key (by decide), up_key (by decide)]
    · refine Or.inr ?_
      rw [up_key (by decide), up_key (by decide)]
theorem BM.ld1 {l mo : Nat} {m : MM} (h : BM l mo m) (p : Nat) : BM l mo (load1 m l p) := by
  have h7 : load1 m l p 7 = m 7 := load1_key m l p (by omega) (by omega) (by omega)
  rcases load1_44 m l p with e | e
  · exact h.ext e h7
  · exact (h.put p).ext e (h7.trans (put_key m p _ (by omega)).symm)
/-- the state before the log of a loaded parcel -/
abbrev mRid (m : MM) (l p : Nat) : MM := up (up (up m 28 p 116) 16 p (nI l)) 17 p (m 41 0 + m 6 l)
theorem WFa.rid {m : MM} (hw : WFa m) {p l : Nat} (hp : p < npN m) (hl : l < nlN m) : WFa (mRid m l p) := (hw.ride hp hl).upx (by unfold kWF; omega)
theorem Gr.rid (m : MM) (l p : Nat) : Gr 0 m (mRid m l p) := ((Gr.up (by omega)).trans (Gr.up (by omega))).trans (Gr.up (by omega))
theorem load1_ok {m : MM} (hw : WFa m) {p l : Nat} (hp : p < npN m) (hl : l < nlN m) (hU : logN m + 1 ≤ 2 ^ 21) : WFa (load1 m l p) ∧ Gr 1 m (load1 m l p) := by
  have w1 := hw.put p (m 7 l)
  have g1 := Gr.put m p (m 7 l)
  have l1 := g1.lg
  unfold load1
  split
  · exact ⟨hw, Gr.refl _ _⟩
  · dsimp only
    split
    · have w2 := w1.rid (p := p) (l := l) (by rw [g1.np]; exact hp) (by rw [g1.nl]; exact hl)
      have g2 := Gr.rid (fPut m p (m 7 l)).2 l p
      have l2 := g2.lg
      exact ⟨w2.hap (by rw [g2.np, g1.np]; exact hp) rfl _ (by omega), ((g1.trans g2).trans (Gr.hap w2 p 108 (nI l))).mono (by omega)⟩
    · exact ⟨(w1.upx (by unfold kWF; omega)).upx (by unfold kWF; omega), ((g1.trans (Gr.up (by omega))).trans (Gr.up (by omega))).mono (by omega)⟩
theorem loadL_ok {l mo : Nat} : ∀ (k j : Nat) (m : MM), WFa m → l < nlN m → rowOK (j + k) m → BM l mo m → logN m + k ≤ 2 ^ 21 → WFa (loadL l k j m) ∧ Gr k m (loadL l k j m) ∧ BM l mo (loadL l k j m) := by
  intro k
  induction k with
  | zero => intro j m hw hl hr hb _; exact ⟨hw, Gr.refl _ _, hb⟩
  | succ k ih =>
    intro j m hw hl hr hb hU
    have hp := vp_nat (hr j (by omega))
    have h1 := load1_ok hw hp hl (by omega)
    have h36 : load1 m l (m 36 j).toNatClampNeg 36 = m 36 := load1_key _ _ _ (by omega) (by omega) (by omega)
    have l1 := h1.2.lg
    have h2 := ih (j + 1) (load1 m l (m 36 j).toNatClampNeg) h1.1 (by rw [h1.2.nl]; exact hl) (fun i hi => by rw [h36, h1.2.np]; exact hr i (by omega)) (hb.ld1 _) (by omega)
    exact ⟨h2.1, (h1.2.trans h2.2.1).mono (by omega), h2.2.2⟩
theorem bagC_key (l : Nat) : ∀ (n k : Nat) (m : MM) {k' : Nat}, k' ≠ 10 → bagC l n k m k' = m k' := by
  intro n
  induction n with
  | zero => intro k m k' _; rfl
  | succ n ih => intro k m k' h; unfold bagC; rw [ih _ _ h]; exact up_key h
theorem mo_of {m : MM} (hw : WFa m) {l : Nat} (hl : l < nlN m) : ∃ mo, m 7 l = nI mo ∧ mo ≤ 4 := by
  have h := (hw.ln hl).2.2.2.2.1
  have h1 : 1 ≤ m 7 l ∧ m 7 l ≤ 4 := by simpa [inn] using h
  refine ⟨(m 7 l).toNatClampNeg, ?_, ?_⟩
  · exact vp_nI (a := 5) (fun q => q.elim (fun z => Int32.lt_irrefl (Int32.lt_of_lt_of_le z (Int32.le_trans (by decide : (0 : Int32) ≤ 1) h1.1))) (fun z => by have := Int32.le_iff_toInt_le.mp h1.2; have e : (4 : Int32).toInt = 4 := rfl; have : (m 7 l).toInt.toNat = (m 7 l).toNatClampNeg := rfl; omega)) (by decide)
  · have := Int32.le_iff_toInt_le.mp h1.2
    have e : (4 : Int32).toInt = 4 := rfl
    have : (m 7 l).toInt.toNat = (m 7 l).toNatClampNeg := rfl
    omega
theorem fLoads_ok {m : MM} (hw : WFa m) {l : Nat} (hl : l < nlN m) (hU : logN m + 40 ≤ 2 ^ 21) : WFa (fLoads m l) ∧ Gr 40 m (fLoads m l) := by
  have hnp := hw.np
  obtain ⟨mo, hmo, hm4⟩ := mo_of hw hl
  have hL := fLin_ok hw (nI l)
  have gL := Gr.lin hw (nI l)
  have lL := gL.lg
  have w1 : WFa (up (fLin m (nI l)).2 44 0 0) := hL.1.upx (by unfold kWF; omega)
  have g1 : Gr 0 m (up (fLin m (nI l)).2 44 0 0) := gL.trans (Gr.up (by omega))
  have l1 := g1.lg
  have hb : BM l mo (up (fLin m (nI l)).2 44 0 0) := by
    have e0 : bagsN (up (fLin m (nI l)).2 44 0 0) = 0 := by show (up (fLin m (nI l)).2 44 0 0 44 0).toNatClampNeg = 0; rw [up_s]; rfl
    refine ⟨by rw [e0, up_s]; rfl, by omega, ?_, hm4⟩
    rw [up_k (by decide), hL.2.1 (by decide)]; exact hmo
  have h2 := loadL_ok (l := l) (mo := mo) (fLin m (nI l)).1 0 _ w1 (by rw [g1.nl]; exact hl) (fun j hj => by rw [g1.np, up_k (by decide)]; have := hL.2.2.1 j (by omega); rw [gL.np] at this; exact this) hb (by omega)
  have g2 := g1.trans h2.2.1
  unfold fLoads
  dsimp only
  generalize loadL l (fLin m (nI l)).1 0 (up (fLin m (nI l)).2 44 0 0) = M at *
  split
  · have w3 : WFa (up M 8 l (M 44 0)) := h2.1.lset (Or.inr (Or.inr (Or.inr (Or.inr ⟨Or.inl rfl, by rw [g2.nl]; exact hl⟩)))) (fun z => by
      have h9 := h2.1.ln z
      unfold lnOK at *
      rw [nhN_up (by decide), up_k (k' := 2) (by decide), up_k (k' := 3) (by decide), up_k (k' := 5) (by decide), up_k (k' := 9) (by decide), up_k (k' := 7) (by decide), up_s]
      exact ⟨h9.1, h9.2.1, h9.2.2.1, by rw [h2.2.2.1]; exact vp_in_nI (by have := h2.2.2.2.1; omega) (by omega), h9.2.2.2.2⟩)
    refine ⟨w3.ext (fun k hk => bagC_key l _ _ _ (by unfold kWF at hk; omega)), ?_⟩
    exact (g2.trans ((Gr.up (k := 8) (i := l) (x := M 44 0) (by omega)).trans (Gr.of fun k hk => bagC_key l _ _ _ (by omega)))).mono (by omega)
  · exact ⟨h2.1, g2.mono (by omega)⟩

