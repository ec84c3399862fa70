/-! scan, deliver, recall; trucks -/
theorem cMisR_nar {u : MM} {p : Nat} : narrow .char (.int (cMisR u p)) = .int (cMisR u p) := by
  unfold cMisR
  split <;> decide
theorem cFailR_nar {u : MM} {p : Nat} : narrow .char (.int (cFailR u p)) = .int (cFailR u p) := by
  unfold cFailR
  split
  · decide
  · split <;> decide
def xScn (u : MM) (x y : Int32) : Option String := xo (xPa u x) (xo (xHb u y) (if u 28 x.toNatClampNeg = 100 ∨ u 28 x.toNatClampNeg = 104 then some iseC else none))
def cScnR (u : MM) (x y : Int32) : Int32 := if u 28 x.toNatClampNeg = 116 ∨ ¬ u 15 x.toNatClampNeg = y then cMisR u x.toNatClampNeg else if u 28 x.toNatClampNeg = 115 then 97 else 111
def cScn (u : MM) (x y : Int32) : MM := if u 28 x.toNatClampNeg = 116 ∨ ¬ u 15 x.toNatClampNeg = y then cMis u x.toNatClampNeg y.toNatClampNeg else if u 28 x.toNatClampNeg = 115 then u else cPlan (cNote (cSettle u x.toNatClampNeg y (u 41 0)) x.toNatClampNeg 1 (u 41 0) y.toNatClampNeg (-1)) x.toNatClampNeg
def xDel (u : MM) (x : Int32) : Option String := xo (xPa u x) (if u 28 x.toNatClampNeg = 115 ∧ u 15 x.toNatClampNeg = u 14 x.toNatClampNeg then none else some iseC)
def cDelR (u : MM) (x t : Int32) : Int32 := if t = 0 then cFailR u x.toNatClampNeg else 100
def cDel (u : MM) (x t : Int32) : MM := if t = 0 then cFail u x.toNatClampNeg else cNote (up (up u 28 x.toNatClampNeg 100) 26 x.toNatClampNeg (u 41 0)) x.toNatClampNeg 5 (u 41 0) (u 15 x.toNatClampNeg).toNatClampNeg (-1)
def xRec (u : MM) (x : Int32) : Option String := xo (xSc u x) (if u 29 x.toNatClampNeg = 0 then none else some iseC)
/-! arrivals -/
abbrev cUnC (u : MM) (p : Nat) : Prop := u 28 p = 116 ∧ ¬ u 116 p = -1 ∧ u 17 p = u 41 0
def cUn1 (u : MM) (p : Nat) : MM := if cUnC u p then cNote (up (up (up u 116 p (-1)) 15 p (u 3 (u 116 p).toNatClampNeg)) 28 p 117) p 4 (u 41 0) (u 3 (u 116 p).toNatClampNeg).toNatClampNeg (u 116 p) else u
def cUnL : Nat → Nat → Int32 → MM → Int32 × MM
  | 0, _, n, u => (n, u)
  | k + 1, p, n, u => cUnL k (p + 1) (if cUnC u p then n + 1 else n) (cUn1 u p)
def cUnld (u : MM) : Int32 × MM := cUnL (npN u) 0 0 u
theorem LG.un1 {u : MM} {p : Nat} (hp : p < npN u) : LG u (cUn1 u p) := LG.ite (fun _ => (((LG.upk (by unfold kSz; decide)).trans (LG.upk (by unfold kSz; decide))).trans (LG.upk (by unfold kSz; decide))).trans (LG.note hp)) (fun _ => LG.refl u)
theorem LG.unL : ∀ (k p : Nat) (n : Int32) {u : MM}, p + k ≤ npN u → LG u (cUnL k p n u).2 := by
  intro k
  induction k with
  | zero => intro p n u _; exact LG.refl u
  | succ k ih =>
    intro p n u hp h
    simp only [cUnL]
    have h1 := LG.un1 (p := p) (by omega) h
    exact (LG.un1 (by omega)).trans (ih (p + 1) _ (by rw [h1.2.2.2.2]; omega)) h
theorem LG.unld {u : MM} : LG u (cUnld u).2 := LG.unL _ _ _ (by omega)
/-! departures -/
def cLt1 (l : Nat) (k : Nat) (e : Int32) (u : MM) : Int32 × MM :=
  if u 41 0 - u 18 (u 36 k).toNatClampNeg < u 1 (u 2 l).toNatClampNeg then (e, u)
  else if ¬ (cPut (if ¬ e = 0 then up u 8 l 0 else u) l 40 (u 36 k).toNatClampNeg (u 7 l)).1 = 0 then (0, cLoad (cPut (if ¬ e = 0 then up u 8 l 0 else u) l 40 (u 36 k).toNatClampNeg (u 7 l)).2 (u 36 k).toNatClampNeg l)
  else (0, cLq (up (cPut (if ¬ e = 0 then up u 8 l 0 else u) l 40 (u 36 k).toNatClampNeg (u 7 l)).2 24 (u 36 k).toNatClampNeg ((cPut (if ¬ e = 0 then up u 8 l 0 else u) l 40 (u 36 k).toNatClampNeg (u 7 l)).2 24 (u 36 k).toNatClampNeg + 1)) 4 176 (szN u 4) (u 36 k))
def cLtL (l : Nat) : Nat → Nat → Int32 → MM → MM
  | 0, _, _, u => u
  | n + 1, k, e, u => cLtL l n (k + 1) (cLt1 l k e u).1 (cLt1 l k e u).2
def cLt (u : MM) (l : Nat) : MM := cLtL l (szN (cQu u (nI l)) 3) 0 1 (cQu u (nI l))
def pkk (k : Nat) : Bool := !(k == 8 || k == 10 || k == 111)
theorem cOpenB_k {u : MM} {q n p : Nat} {most : Int32} {k : Nat} (h : pkk k = true) : (cOpenB u q n p most).2 k = u k := by
  have e : k ≠ 8 ∧ k ≠ 10 ∧ k ≠ 111 := by refine ⟨?_, ?_, ?_⟩ <;> (intro e; subst e; exact absurd h (by decide))
  unfold cOpenB
  split
  · rfl
  · show up (up (up u 111 _ _) 10 _ _) 8 _ _ k = u k
    rw [up_key e.1, up_key e.2.1, up_key e.2.2]
theorem cPutL_k {u : MM} {q n p : Nat} {most : Int32} {k : Nat} (h : pkk k = true) : ∀ (m i : Nat), (cPutL u q n p most m i).2 k = u k := by
  have e : k ≠ 10 := by intro e; subst e; exact absurd h (by decide)
  intro m
  induction m with
  | zero => intro i; exact cOpenB_k h
  | succ m ih =>
    intro i
    simp only [cPutL]
    split
    · exact cOpenB_k h
    · split
      · exact up_key e
      · exact ih (i + 1)
theorem cPut_k {u : MM} {q n p : Nat} {most : Int32} {k : Nat} (h : pkk k = true) : (cPut u q n p most).2 k = u k := cPutL_k h _ _
theorem pkk_sz {k : Nat} (h : kSz k) : pkk k = true := by
  unfold kSz at h
  rcases h with rfl | rfl | rfl | rfl | rfl | rfl <;> rfl
theorem LG.put {u : MM} {q n p : Nat} {most : Int32} : LG u (cPut u q n p most).2 := LG.ext (fun k hk => cPut_k (pkk_sz hk))
/-- the queue's entries are parcels -/
def QuV (u : MM) : Prop := ∀ k, k < szN u 3 → vp_in (u 36 k) (npN u)
theorem QuV.ext {u v : MM} (h : QuV u) (e1 : szN v 3 = szN u 3) (e2 : v 36 = u 36) (e3 : npN v = npN u) : QuV v := fun k hk => by
  rw [e2, e3]; exact h k (by rw [← e1]; exact hk)
theorem cEv_sz3 {u : MM} {p : Nat} {L t : Int32} {x q : Nat} (hq : q < 6) : szN (cEv u p L t x) q = szN u q := by
  unfold szN cEv
  rw [if_neg (by omega), if_neg (by omega), cEv1_k (by omega) (by omega) (by omega) (by omega)]
theorem cNote_sz {u : MM} {p j : Nat} {t : Int32} {x : Nat} {y : Int32} {q : Nat} (hq : q < 6) : szN (cNote u p j t x y) q = szN u q := by
  unfold cNote
  split
  · rfl
  · show szN (cEv u p _ t x) q = _
    exact cEv_sz3 hq
theorem cLt1_q {l k : Nat} {e : Int32} {u : MM} (hq : QuV u) (hn : npN u ≤ 40) (hk : k < szN u 3) (hs : szN u 4 < 1000) : LG u (cLt1 l k e u).2 ∧ QuV (cLt1 l k e u).2 ∧ szN (cLt1 l k e u).2 3 = szN u 3 ∧ szN (cLt1 l k e u).2 4 ≤ szN u 4 + 1 := by
  have hp := vp_nat (hq k hk)
  obtain ⟨v, hv⟩ : ∃ z, z = (if ¬ e = 0 then up u 8 l 0 else u) := ⟨_, rfl⟩
  have v1 : LG u v := by rw [hv]; exact LG.ite (fun _ => LG.upk (by unfold kSz; decide)) (fun _ => LG.refl u)
  have v2 : ∀ q, szN v q = szN u q := fun q => by rw [hv]; split <;> rfl
  have v3 : v 36 = u 36 := by rw [hv]; split <;> rfl
  have v4 : npN v = npN u := by rw [hv]; split <;> rfl
  obtain ⟨w, hw⟩ : ∃ z, z = cPut v l 40 (u 36 k).toNatClampNeg (u 7 l) := ⟨_, rfl⟩
  have w1 : LG u w.2 := by rw [hw]; exact v1.trans LG.put
  have w2 : ∀ q, szN w.2 q = szN u q := fun q => by rw [hw, ← v2 q]; unfold szN; rw [cPut_k rfl]
  have w3 : w.2 36 = u 36 := by rw [hw, cPut_k rfl, v3]
  have w4 : npN w.2 = npN u := by rw [hw, ← v4]; exact npN_ext (cPut_k rfl)
  have hc : cLt1 l k e u = if u 41 0 - u 18 (u 36 k).toNatClampNeg < u 1 (u 2 l).toNatClampNeg then (e, u) else if ¬ w.1 = 0 then (0, cLoad w.2 (u 36 k).toNatClampNeg l) else (0, cLq (up w.2 24 (u 36 k).toNatClampNeg (w.2 24 (u 36 k).toNatClampNeg + 1)) 4 176 (szN u 4) (u 36 k)) := by
    rw [hw, hv]; rfl
  rw [hc]
  split
  · exact ⟨LG.refl u, hq, rfl, Nat.le_succ _⟩
  · split
    · have a1 : ∀ q, q < 6 → szN (cLoad w.2 (u 36 k).toNatClampNeg l) q = szN u q := fun q h6 => by
        rw [← w2 q]; unfold cLoad; exact cNote_sz h6
      refine ⟨w1.trans (LG.load (by rw [w4]; exact hp)), hq.ext (a1 3 (by omega)) (by show cLoad w.2 _ l 36 = u 36; unfold cLoad; rw [cNote_k rfl]; exact w3) ?_, a1 3 (by omega), by rw [show szN ((0 : Int32), cLoad w.2 (u 36 k).toNatClampNeg l).2 4 = szN u 4 from a1 4 (by omega)]; omega⟩
      exact (npN_ext (by show cLoad w.2 _ l 39 = w.2 39; unfold cLoad; rw [cNote_k rfl]; rfl)).trans w4
    · have hs4 : szN (up w.2 24 (u 36 k).toNatClampNeg (w.2 24 (u 36 k).toNatClampNeg + 1)) 4 = szN u 4 := w2 4
      have hs3 : szN (up w.2 24 (u 36 k).toNatClampNeg (w.2 24 (u 36 k).toNatClampNeg + 1)) 3 = szN u 3 := w2 3
      have b3 : szN (cLq (up w.2 24 (u 36 k).toNatClampNeg (w.2 24 (u 36 k).toNatClampNeg + 1)) 4 176 (szN u 4) (u 36 k)) 3 = szN u 3 := by rw [cLq_sz' (by omega) (by omega)]; exact hs3
      have b4 : cLq (up w.2 24 (u 36 k).toNatClampNeg (w.2 24 (u 36 k).toNatClampNeg + 1)) 4 176 (szN u 4) (u 36 k) 36 = u 36 := by rw [cLq_k (by omega) (by omega) (by omega)]; exact w3
      refine ⟨(w1.trans (LG.upk (by unfold kSz; decide))).trans (LG.lq (Or.inr ⟨rfl, rfl⟩) (by rw [hs4]; exact hs)), hq.ext b3 b4 ?_, b3, ?_⟩
      · exact (npN_ext (cLq_k (by omega) (by omega) (by omega))).trans w4
      · show szN (cLq _ 4 176 _ _) 4 ≤ _
        rw [cLq_sz (by rw [hs4]; exact hs), hs4]; omega
theorem cLtL_q (l : Nat) : ∀ (n k : Nat) (e : Int32) {u : MM}, QuV u → npN u ≤ 40 → LW u → k + n ≤ szN u 3 → szN u 4 + n ≤ 1000 → LG u (cLtL l n k e u) ∧ szN (cLtL l n k e u) 4 ≤ szN u 4 + n := by
  intro n
  induction n with
  | zero => intro k e u _ _ _ _ _; exact ⟨LG.refl u, Nat.le_refl _⟩
  | succ n ih =>
    intro k e u hq hn h hk hs
    obtain ⟨a1, a2, a3, a4⟩ := cLt1_q (l := l) (e := e) hq hn (k := k) (by omega) (by omega)
    obtain ⟨b1, -, -, -, b5⟩ := a1 h
    obtain ⟨c1, c2⟩ := ih (k + 1) (cLt1 l k e u).1 a2 (by rw [b5]; exact hn) b1 (by omega) (by omega)
    simp only [cLtL]
    exact ⟨a1.trans c1, by omega⟩
theorem LG.qu1 {u : MM} {y : Int32} {p : Nat} (hs : szN u 3 < 1000) : LG u (cQu1 u y p) := LG.ite (fun _ => LG.lq (Or.inl ⟨rfl, rfl⟩) hs) (fun _ => LG.refl u)
theorem cQu1_s {u : MM} {y : Int32} {p : Nat} (hs : szN u 3 < 1000) : szN (cQu1 u y p) 3 ≤ szN u 3 + 1 ∧ ∀ q, q ≠ 3 → szN (cQu1 u y p) q = szN u q := by
  unfold cQu1
  split
  · exact ⟨by rw [cLq_sz hs]; exact Nat.le_refl _, fun q h => cLq_sz' h (by omega)⟩
  · exact ⟨Nat.le_succ _, fun _ _ => rfl⟩
theorem cQuL_s (y : Int32) : ∀ (n p : Nat) {u : MM}, szN u 3 + n ≤ 1000 → LG u (cQuL y n p u) ∧ szN (cQuL y n p u) 3 ≤ szN u 3 + n ∧ ∀ q, q ≠ 3 → szN (cQuL y n p u) q = szN u q := by
  intro n
  induction n with
  | zero => intro p u _; exact ⟨LG.refl u, Nat.le_refl _, fun _ _ => rfl⟩
  | succ n ih =>
    intro p u hs
    obtain ⟨a, b⟩ := cQu1_s (y := y) (p := p) (show szN u 3 < 1000 by omega)
    obtain ⟨c, d, e⟩ := ih (p + 1) (u := cQu1 u y p) (by omega)
    simp only [cQuL]
    exact ⟨(LG.qu1 (by omega)).trans c, by omega, fun q h => (e q h).trans (b q h)⟩
theorem cQu_s {u : MM} (y : Int32) (hn : npN u ≤ 40) : LG u (cQu u y) ∧ szN (cQu u y) 3 ≤ npN u ∧ ∀ q, q ≠ 3 → szN (cQu u y) q = szN u q := by
  have e0 : szN (up u 171 3 0) 3 = 0 := by unfold szN; rw [up_s]; rfl
  obtain ⟨a, b, c⟩ := cQuL_s y (npN u) 0 (u := up u 171 3 0) (by omega)
  unfold cQu
  exact ⟨(LG.clr (Or.inl rfl)).trans a, by omega, fun q h => (c q h).trans (by unfold szN; rw [up_i h])⟩
theorem LG.qu {u : MM} {y : Int32} : LG u (cQu u y) := fun h => (cQu_s y h.1).1 h
theorem cLt_q {u : MM} (hw : WFc u) (l : Nat) (hs : szN u 4 + 40 ≤ 1000) : LG u (cLt u l) ∧ szN (cLt u l) 4 ≤ szN u 4 + 40 := by
  obtain ⟨w1, w2, w3⟩ := cQu_ok hw (nI l)
  obtain ⟨a1, a2, a3⟩ := cQu_s (u := u) (nI l) hw.np
  obtain ⟨-, -, -, -, b5⟩ := a1 hw.lw
  have hnp := hw.np
  have h4 := a3 4 (by omega)
  obtain ⟨c1, c2⟩ := cLtL_q l (szN (cQu u (nI l)) 3) 0 1 (u := cQu u (nI l)) (fun k hk => w1.qu hk) (by omega) w1.lw (by omega) (by omega)
  unfold cLt
  exact ⟨a1.trans c1, by omega⟩

