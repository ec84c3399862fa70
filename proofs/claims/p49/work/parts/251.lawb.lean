/-! what a state's lists may have taken, bounded: beyond the parcels nothing grows -/
def Bx (u v : MM) : Prop := (∀ q, 6 + npN u ≤ q → capN v q = capN u q) ∧ ∀ p, npN u ≤ p → evN v p = evN u p
def LB (u v : MM) : Prop := LW u → LW v ∧ (Gw u v ∧ Bx u v) ∧ nhN v = nhN u ∧ nlN v = nlN u ∧ npN v = npN u
theorem capN_upx {u : MM} {k i : Nat} {x : Int32} (hk : k ≠ 172) (q : Nat) : capN (up u k i x) q = capN u q := by unfold capN; rw [up_key (fun e => hk e.symm)]
theorem evN_upx {u : MM} {k i : Nat} {x : Int32} (hk : k ≠ 173) (q : Nat) : evN (up u k i x) q = evN u q := by unfold evN; rw [up_key (fun e => hk e.symm)]
theorem LB.refl (u : MM) : LB u u := fun h => ⟨h, ⟨Gw.refl u, fun _ _ => rfl, fun _ _ => rfl⟩, rfl, rfl, rfl⟩
theorem LB.trans {u v w : MM} (a : LB u v) (b : LB v w) : LB u w := fun h => by
  obtain ⟨a1, ⟨a2, a6, a7⟩, a3, a4, a5⟩ := a h
  obtain ⟨b1, ⟨b2, b6, b7⟩, b3, b4, b5⟩ := b a1
  exact ⟨b1, ⟨a2.trans b2, fun q hq => (b6 q (by rw [a5]; exact hq)).trans (a6 q hq), fun p hp => (b7 p (by rw [a5]; exact hp)).trans (a7 p hp)⟩, b3.trans a3, b4.trans a4, b5.trans a5⟩
theorem LB.ext {u v : MM} (e : ∀ k, kSz k → v k = u k) : LB u v := fun h => by
  obtain ⟨a1, a2, a3, a4, a5⟩ := LG.ext e h
  exact ⟨a1, ⟨a2, fun q _ => by unfold capN; rw [e 172 (by unfold kSz; omega)], fun p _ => by unfold evN; rw [e 173 (by unfold kSz; omega)]⟩, a3, a4, a5⟩
theorem LB.upk {u : MM} {k i : Nat} {x : Int32} (hk : ¬ kSz k) : LB u (up u k i x) := LB.ext (fun k' h' => up_key (fun e => hk (e ▸ h')))
theorem LB.ite {P : Prop} [Decidable P] {u v w : MM} (a : P → LB u v) (b : ¬ P → LB u w) : LB u (if P then v else w) := by
  by_cases h : P
  · rw [if_pos h]; exact a h
  · rw [if_neg h]; exact b h
theorem LB.note {u : MM} {p j : Nat} {t : Int32} {x : Nat} {y : Int32} (hp : p < npN u) : LB u (cNote u p j t x y) := fun h => by
  obtain ⟨a1, a2, a3, a4, a5⟩ := LG.note (j := j) (t := t) (x := x) (y := y) hp h
  refine ⟨a1, ⟨a2, ?_⟩, a3, a4, a5⟩
  unfold cNote
  by_cases z : 1024 ≤ szN u (6 + p)
  · rw [if_pos z]; exact ⟨fun _ _ => rfl, fun _ _ => rfl⟩
  · rw [if_neg z]
    have hl := h.2.1 (6 + p) (by omega)
    have ec := cEv_cap (L := lw_letters.getD j 0) (t := t) (x := x) (show szN u (6 + p) < 1024 by omega) hl.2.1
    have ee := cEv_ev (L := lw_letters.getD j 0) (t := t) (x := x) (show szN u (6 + p) < 1024 by omega)
    refine ⟨fun q hq => ?_, fun q hq => ?_⟩
    · rw [capN_upx (by omega), ec, if_neg (by omega)]
    · rw [evN_upx (by omega), ee, if_neg (by omega)]
theorem LB.lq {u : MM} {q key i : Nat} {x : Int32} (hq : q = 3 ∧ key = 36 ∨ q = 4 ∧ key = 176) (hn : szN u q < 1000) : LB u (cLq u q key i x) := fun hw => by
  obtain ⟨a1, a2, a3, a4, a5⟩ := LG.lq (i := i) (x := x) hq hn hw
  refine ⟨a1, ⟨a2, fun q' h' => cLq_cap' (by omega) (by omega), fun p _ => ?_⟩, a3, a4, a5⟩
  unfold evN
  rw [cLq_k (by omega) (by omega) (by omega)]
theorem LB.clr {u : MM} {q : Nat} (hq : q = 3 ∨ q = 4) : LB u (up u 171 q 0) := fun hw => by
  obtain ⟨a1, a2, a3, a4, a5⟩ := LG.clr hq hw
  exact ⟨a1, ⟨a2, fun q' _ => by unfold capN; rw [up_key (by omega)], fun p _ => by unfold evN; rw [up_key (by omega)]⟩, a3, a4, a5⟩
theorem LB.settle {u : MM} {p : Nat} {x now : Int32} : LB u (cSettle u p x now) := LB.ext (fun k hk => cSettle_k (by
  unfold kSz at hk
  rcases hk with rfl | rfl | rfl | rfl | rfl | rfl <;> rfl))
theorem LB.plan {u : MM} {p : Nat} : LB u (cPlan u p) := LB.ext (fun k hk => cPlan_key u p (by unfold kSz at hk; omega) (by unfold kSz at hk; omega))
theorem LB.planP {u : MM} {p : Nat} : LB u (cPlanP u p) := LB.ext (fun k hk => cPlanP_key u p (by unfold kSz at hk; omega) (by unfold kSz at hk; omega) (by unfold kSz at hk; omega))
theorem LB.hold {u : MM} {p : Nat} (hp : p < npN u) : LB u (cHold u p) := (LB.upk (by unfold kSz; decide)).trans (LB.note hp)
theorem LB.tb0 {u : MM} {p : Nat} : LB u (cTb0 u p) := ((((LB.upk (by unfold kSz; decide)).trans (LB.upk (by unfold kSz; decide))).trans (LB.upk (by unfold kSz; decide))).trans (LB.upk (by unfold kSz; decide))).trans LB.settle
theorem LB.turn {u : MM} {p : Nat} (hp : p < npN u) : LB u (cTurn u p) := fun h => ((LB.tb0.trans (LB.note (by rw [(LB.tb0 h).2.2.2.2]; exact hp))).trans LB.planP) h
theorem LB.fail0 {u : MM} {p : Nat} (hp : p < npN u) : LB u (cFail0 u p) := (LB.upk (by unfold kSz; decide)).trans (LB.note hp)
theorem LB.fail1 {u : MM} {p : Nat} (hp : p < npN u) : LB (cFail0 u p) (cFail u p) := fun h => by
  have h3 : npN (cFail0 u p) = npN u := npN_ext (by unfold cFail0; rw [cNote_k rfl, up_key (by omega)])
  exact LB.ite (fun _ => LB.refl _) (fun _ => LB.ite (fun _ => LB.hold (by rw [h3]; exact hp)) (fun _ => LB.turn (by rw [h3]; exact hp))) h
theorem LB.fail {u : MM} {p : Nat} (hp : p < npN u) : LB u (cFail u p) := (LB.fail0 hp).trans (LB.fail1 hp)
theorem LB.mis0 {u : MM} {p x : Nat} (hp : p < npN u) : LB u (cMis0 u p x) := (LB.upk (by unfold kSz; decide)).trans (LB.note hp)
theorem LB.mis1 {u : MM} {p x : Nat} (hp : p < npN u) : LB (cMis0 u p x) (cMis u p x) := fun h => by
  have h3 : npN (cMis0 u p x) = npN u := npN_ext (by unfold cMis0; rw [cNote_k rfl, up_key (by omega)])
  exact LB.ite (fun _ => LB.settle.trans LB.plan) (fun _ => ((LB.upk (by unfold kSz; decide)).trans (LB.upk (by unfold kSz; decide))).trans (LB.hold (show p < npN (cMis0 u p x) by rw [h3]; exact hp))) h
theorem LB.mis {u : MM} {p x : Nat} (hp : p < npN u) : LB u (cMis u p x) := (LB.mis0 hp).trans (LB.mis1 hp)
theorem LB.load {u : MM} {p l : Nat} (hp : p < npN u) : LB u (cLoad u p l) := (((LB.upk (by unfold kSz; decide)).trans (LB.upk (by unfold kSz; decide))).trans (LB.upk (by unfold kSz; decide))).trans (LB.note hp)
theorem LB.un1 {u : MM} {p : Nat} (hp : p < npN u) : LB u (cUn1 u p) := LB.ite (fun _ => (((LB.upk (by unfold kSz; decide)).trans (LB.upk (by unfold kSz; decide))).trans (LB.upk (by unfold kSz; decide))).trans (LB.note hp)) (fun _ => LB.refl u)
theorem LB.unL : ∀ (k p : Nat) (n : Int32) {u : MM}, p + k ≤ npN u → LB u (cUnL k p n u).2 := by
  intro k
  induction k with
  | zero => intro p n u _; exact LB.refl u
  | succ k ih =>
    intro p n u hp h
    simp only [cUnL]
    have h1 := LB.un1 (p := p) (by omega) h
    exact (LB.un1 (by omega)).trans (ih (p + 1) _ (by rw [h1.2.2.2.2]; omega)) h
theorem LB.unld {u : MM} : LB u (cUnld u).2 := LB.unL _ _ _ (by omega)
theorem LB.put {u : MM} {q n p : Nat} {most : Int32} : LB u (cPut u q n p most).2 := LB.ext (fun k hk => cPut_k (pkk_sz hk))
theorem cLt1_qB {l k : Nat} {e : Int32} {u : MM} (hq : QuV u) (hn : npN u ≤ 40) (hk : k < szN u 3) (hs : szN u 4 < 1000) : LB u (cLt1 l k e u).2 ∧ QuV (cLt1 l k e u).2 ∧ szN (cLt1 l k e u).2 3 = szN u 3 ∧ szN (cLt1 l k e u).2 4 ≤ szN u 4 + 1 := by
  have hp := vp_nat (hq k hk)
  obtain ⟨v, hv⟩ : ∃ z, z = (if ¬ e = 0 then up u 8 l 0 else u) := ⟨_, rfl⟩
  have v1 : LB u v := by rw [hv]; exact LB.ite (fun _ => LB.upk (by unfold kSz; decide)) (fun _ => LB.refl u)
  have v2 : ∀ q, szN v q = szN u q := fun q => by rw [hv]; split <;> rfl
  have v3 : v 36 = u 36 := by rw [hv]; split <;> rfl
  have v4 : npN v = npN u := by rw [hv]; split <;> rfl
  obtain ⟨w, hw⟩ : ∃ z, z = cPut v l 40 (u 36 k).toNatClampNeg (u 7 l) := ⟨_, rfl⟩
  have w1 : LB u w.2 := by rw [hw]; exact v1.trans LB.put
  have w2 : ∀ q, szN w.2 q = szN u q := fun q => by rw [hw, ← v2 q]; unfold szN; rw [cPut_k rfl]
  have w3 : w.2 36 = u 36 := by rw [hw, cPut_k rfl, v3]
  have w4 : npN w.2 = npN u := by rw [hw, ← v4]; exact npN_ext (cPut_k rfl)
  have hc : cLt1 l k e u = if u 41 0 - u 18 (u 36 k).toNatClampNeg < u 1 (u 2 l).toNatClampNeg then (e, u) else if ¬ w.1 = 0 then (0, cLoad w.2 (u 36 k).toNatClampNeg l) else (0, cLq (up w.2 24 (u 36 k).toNatClampNeg (w.2 24 (u 36 k).toNatClampNeg + 1)) 4 176 (szN u 4) (u 36 k)) := by
    rw [hw, hv]; rfl
  rw [hc]
  split
  · exact ⟨LB.refl u, hq, rfl, Nat.le_succ _⟩
  · split
    · have a1 : ∀ q, q < 6 → szN (cLoad w.2 (u 36 k).toNatClampNeg l) q = szN u q := fun q h6 => by
        rw [← w2 q]; unfold cLoad; exact cNote_sz h6
      refine ⟨w1.trans (LB.load (by rw [w4]; exact hp)), hq.ext (a1 3 (by omega)) (by show cLoad w.2 _ l 36 = u 36; unfold cLoad; rw [cNote_k rfl]; exact w3) ?_, a1 3 (by omega), by rw [show szN ((0 : Int32), cLoad w.2 (u 36 k).toNatClampNeg l).2 4 = szN u 4 from a1 4 (by omega)]; omega⟩
      exact (npN_ext (by show cLoad w.2 _ l 39 = w.2 39; unfold cLoad; rw [cNote_k rfl]; rfl)).trans w4
    · have hs4 : szN (up w.2 24 (u 36 k).toNatClampNeg (w.2 24 (u 36 k).toNatClampNeg + 1)) 4 = szN u 4 := w2 4
      have hs3 : szN (up w.2 24 (u 36 k).toNatClampNeg (w.2 24 (u 36 k).toNatClampNeg + 1)) 3 = szN u 3 := w2 3
      have b3 : szN (cLq (up w.2 24 (u 36 k).toNatClampNeg (w.2 24 (u 36 k).toNatClampNeg + 1)) 4 176 (szN u 4) (u 36 k)) 3 = szN u 3 := by rw [cLq_sz' (by omega) (by omega)]; exact hs3
      have b4 : cLq (up w.2 24 (u 36 k).toNatClampNeg (w.2 24 (u 36 k).toNatClampNeg + 1)) 4 176 (szN u 4) (u 36 k) 36 = u 36 := by rw [cLq_k (by omega) (by omega) (by omega)]; exact w3
      refine ⟨(w1.trans (LB.upk (by unfold kSz; decide))).trans (LB.lq (Or.inr ⟨rfl, rfl⟩) (by rw [hs4]; exact hs)), hq.ext b3 b4 ?_, b3, ?_⟩
      · exact (npN_ext (cLq_k (by omega) (by omega) (by omega))).trans w4
      · show szN (cLq _ 4 176 _ _) 4 ≤ _
        rw [cLq_sz (by rw [hs4]; exact hs), hs4]; omega
theorem cLtL_qB (l : Nat) : ∀ (n k : Nat) (e : Int32) {u : MM}, QuV u → npN u ≤ 40 → LW u → k + n ≤ szN u 3 → szN u 4 + n ≤ 1000 → LB u (cLtL l n k e u) ∧ szN (cLtL l n k e u) 4 ≤ szN u 4 + n := by
  intro n
  induction n with
  | zero => intro k e u _ _ _ _ _; exact ⟨LB.refl u, Nat.le_refl _⟩
  | succ n ih =>
    intro k e u hq hn h hk hs
    obtain ⟨a1, a2, a3, a4⟩ := cLt1_qB (l := l) (e := e) hq hn (k := k) (by omega) (by omega)
    obtain ⟨b1, -, -, -, b5⟩ := a1 h
    obtain ⟨c1, c2⟩ := ih (k + 1) (cLt1 l k e u).1 a2 (by rw [b5]; exact hn) b1 (by omega) (by omega)
    simp only [cLtL]
    exact ⟨a1.trans c1, by omega⟩
theorem LB.qu1 {u : MM} {y : Int32} {p : Nat} (hs : szN u 3 < 1000) : LB u (cQu1 u y p) := LB.ite (fun _ => LB.lq (Or.inl ⟨rfl, rfl⟩) hs) (fun _ => LB.refl u)
theorem cQuL_sB (y : Int32) : ∀ (n p : Nat) {u : MM}, szN u 3 + n ≤ 1000 → LB u (cQuL y n p u) ∧ szN (cQuL y n p u) 3 ≤ szN u 3 + n ∧ ∀ q, q ≠ 3 → szN (cQuL y n p u) q = szN u q := by
  intro n
  induction n with
  | zero => intro p u _; exact ⟨LB.refl u, Nat.le_refl _, fun _ _ => rfl⟩
  | succ n ih =>
    intro p u hs
    obtain ⟨a, b⟩ := cQu1_s (y := y) (p := p) (show szN u 3 < 1000 by omega)
    obtain ⟨c, d, e⟩ := ih (p + 1) (u := cQu1 u y p) (by omega)
    simp only [cQuL]
    exact ⟨(LB.qu1 (by omega)).trans c, by omega, fun q h => (e q h).trans (b q h)⟩
theorem cQu_sB {u : MM} (y : Int32) (hn : npN u ≤ 40) : LB u (cQu u y) ∧ szN (cQu u y) 3 ≤ npN u ∧ ∀ q, q ≠ 3 → szN (cQu u y) q = szN u q := by
  have e0 : szN (up u 171 3 0) 3 = 0 := by unfold szN; rw [up_s]; rfl
  obtain ⟨a, b, c⟩ := cQuL_sB y (npN u) 0 (u := up u 171 3 0) (by omega)
  unfold cQu
  exact ⟨(LB.clr (Or.inl rfl)).trans a, by omega, fun q h => (c q h).trans (by unfold szN; rw [up_i h])⟩
theorem LB.qu {u : MM} {y : Int32} : LB u (cQu u y) := fun h => (cQu_sB y h.1).1 h
theorem cLt_gB {u : MM} (h : LW u) (l : Nat) (hs : szN u 4 + 40 ≤ 1000) : LB u (cLt u l) ∧ szN (cLt u l) 4 ≤ szN u 4 + 40 := by
  obtain ⟨a1, a2, a3⟩ := cQu_sB (u := u) (nI l) h.1
  obtain ⟨b1, -, -, -, b5⟩ := a1 h
  have hnp := h.1
  have h4 := a3 4 (by omega)
  obtain ⟨c1, c2⟩ := cLtL_qB l (szN (cQu u (nI l)) 3) 0 1 (QuV.qu (nI l) h.1) (by omega) b1 (by omega) (by omega)
  unfold cLt
  exact ⟨a1.trans c1, by omega⟩
theorem LB.lfL : ∀ (k i : Nat) {u : MM}, LB u (cLfL k i u) := by
  intro k
  induction k with
  | zero => intro i u; exact LB.refl u
  | succ k ih => intro i u; simp only [cLfL]; exact LB.plan.trans (ih (i + 1))
theorem cLdT1_gB {u : MM} (h : LW u) (l : Nat) (hs : szN u 4 + 40 ≤ 1000) : LB u (cLdT1 u l) ∧ szN (cLdT1 u l) 4 ≤ szN u 4 + 40 := by
  unfold cLdT1
  split
  · exact cLt_gB h l hs
  · exact ⟨LB.refl u, by omega⟩
theorem cLdTL_gB : ∀ (k l : Nat) {u : MM}, LW u → szN u 4 + 40 * k ≤ 1000 → LB u (cLdTL k l u) := by
  intro k
  induction k with
  | zero => intro l u _ _; exact LB.refl u
  | succ k ih =>
    intro l u h hs
    obtain ⟨a1, a2⟩ := cLdT1_gB h l (by omega)
    simp only [cLdTL]
    exact a1.trans (ih (l + 1) (a1 h).1 (by omega))
theorem LB.lds {u : MM} (hn : nlN u ≤ 12) : LB u (cLds u) := fun h => by
  have a : LB u (up u 171 4 0) := LB.clr (Or.inr rfl)
  unfold cLds
  exact (a.trans ((cLdTL_gB (nlN u) 0 (a h).1 (by rw [sz_clr]; omega)).trans (LB.lfL _ _))) h
theorem LB.ps1 {u : MM} (hn : nlN u ≤ 12) : LB u (cPs1 u).2 := fun h => by
  have a : LB u (cUnld (up u 41 0 (u 41 0 + 1))).2 := (LB.upk (by unfold kSz; decide)).trans LB.unld
  exact (a.trans (LB.lds (by rw [(a h).2.2.2.1]; exact hn))) h
theorem LB.psL : ∀ (k : Nat) (n : Int32) {u : MM}, nlN u ≤ 12 → LB u (cPsL k n u).2 := by
  intro k
  induction k with
  | zero => intro n u _; exact LB.refl u
  | succ k ih =>
    intro n u hn h
    simp only [cPsL]
    have b := (LB.ps1 hn) h
    exact ((LB.ps1 hn).trans (ih _ (by rw [b.2.2.2.1]; exact hn))) h
theorem LB.wt {u : MM} {x : Int32} : LB u (cWt u x) := LB.ite (fun _ => LB.qu) (fun _ => LB.refl u)
theorem LB.bnL : ∀ (k j : Nat) {u : MM}, LB u (cBnL k j u) := by
  intro k
  induction k with
  | zero => intro j u; exact LB.refl u
  | succ k ih => intro j u; simp only [cBnL]; exact LB.put.trans (ih (j + 1))
theorem LB.planL : ∀ (k p : Nat) {u : MM}, LB u (cPlL k p u) := by
  intro k
  induction k with
  | zero => intro p u; exact LB.refl u
  | succ k ih => intro p u; simp only [cPlL]; exact (LB.ite (fun _ => LB.plan) (fun _ => LB.refl u)).trans (ih (p + 1))
theorem LB.planA {u : MM} : LB u (cPlA u) := LB.planL _ _
/-- all that the class's state can ever have taken -/
theorem sumN_le_c {f : Nat → Nat} {a : Nat} (h : ∀ i, f i ≤ a) (n : Nat) : sumN f n ≤ n * a := by
  have h1 := sumN_le (f := f) (g := fun _ => 1 * a) (fun i => by rw [Nat.one_mul]; exact h i) n
  rw [sumN_mul (fun _ => 1) a n, sumN_one] at h1
  exact h1
theorem UC_max {u : MM} (hw : WFc u) : UC u ≤ 114900 ∧ US u ≤ 424000 := by
  have hc : ∀ q, capN u q ≤ 1600 := fun q => by
    by_cases z : q < 6 + npN u
    · exact Nat.le_of_lt (hw.ls (q := q) z).2.1
    · have e : q = 6 + (q - 6) := by omega
      have h0 := ((hw.2.2.1.2 (q - 6)).2 (by omega)).2.1
      rw [← e] at h0
      unfold capN; rw [h0]; exact Nat.zero_le _
  have he : ∀ p, evN u p ≤ 1024 := fun p => by
    by_cases z : p < npN u
    · obtain ⟨h1, h2⟩ := hw.sz6 z
      omega
    · have h0 := ((hw.2.2.1.2 p).2 (by omega)).2.2
      unfold evN; rw [h0]; exact Nat.zero_le _
  have s1 := sumN_le_c hc 46
  have s2 := sumN_le_c he 40
  obtain ⟨n1, n2, n3⟩ := hw.1
  unfold UC US
  omega
theorem UC_maxB {u v : MM} (hw : WFc u) (h : LB u v) : UC v ≤ 114900 ∧ US v ≤ 424000 := by
  obtain ⟨w, ⟨g, b1, b2⟩, e1, e2, e3⟩ := h hw.lw
  have hc : ∀ q, capN v q ≤ 1600 := fun q => by
    by_cases z : q < 6 + npN v
    · exact Nat.le_of_lt (w.2.1 q z).2.1
    · have e : q = 6 + (q - 6) := by omega
      have h0 := ((hw.2.2.1.2 (q - 6)).2 (by omega)).2.1
      rw [← e] at h0
      rw [b1 q (by omega)]
      unfold capN; rw [h0]; exact Nat.zero_le _
  have he : ∀ p, evN v p ≤ 1024 := fun p => by
    by_cases z : p < npN v
    · obtain ⟨h1, h2⟩ := w.2.2 p z
      omega
    · have h0 := ((hw.2.2.1.2 p).2 (by omega)).2.2
      rw [b2 p (by omega)]
      unfold evN; rw [h0]; exact Nat.zero_le _
  have s1 := sumN_le_c hc 46
  have s2 := sumN_le_c he 40
  obtain ⟨n1, n2, n3⟩ := hw.1
  unfold UC US
  omega

