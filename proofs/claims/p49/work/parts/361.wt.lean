/-! the class's state behind askings of a row -/
def wtI (l : Nat) : Nat → MM → MM
  | 0, c => c
  | k + 1, c => cWt (wtI l k c) (nI l)
theorem wtI_s (l k : Nat) (c : MM) : wtI l (k + 1) c = cWt (wtI l k c) (nI l) := rfl
theorem wt_wfc {c : MM} (hc : WFc c) (x : Int32) : WFc (cWt c x) := by
  unfold cWt
  split
  · exact (cQu_ok hc x).1
  · exact hc
theorem wtI_wfc {c : MM} (hc : WFc c) (l : Nat) : ∀ k, WFc (wtI l k c)
  | 0 => hc
  | k + 1 => wt_wfc (wtI_wfc hc l k) _
theorem wtI_mono {c : MM} (hc : WFc c) (l : Nat) {r k : Nat} (h : r ≤ k) : UC (wtI l r c) ≤ UC (wtI l k c) ∧ US (wtI l r c) ≤ US (wtI l k c) := by
  obtain ⟨d, rfl⟩ : ∃ d, k = r + d := ⟨k - r, by omega⟩
  clear h
  induction d with
  | zero => exact ⟨Nat.le_refl _, Nat.le_refl _⟩
  | succ d ih =>
    have g := (gm_wt (wtI_wfc hc l (r + d)) (nI l)).1
    exact ⟨Nat.le_trans ih.1 g.1, Nat.le_trans ih.2 g.2⟩
theorem wtI_mono1 {c : MM} (hc : WFc c) (l : Nat) {r k : Nat} (h : r < k) : UC (cWt (wtI l r c) (nI l)) ≤ UC (wtI l k c) ∧ US (cWt (wtI l r c) (nI l)) ≤ US (wtI l k c) := by
  rw [← wtI_s]
  exact wtI_mono hc l h
theorem bgL_s (m : MM) (mi : Int32) (l most k r : Nat) (x : (Nat → Int32) × (Nat → Int32)) : bgL m mi l most (k + 1) r x = bgL m mi l most k (r + 1) (if bgC m mi l (rowN m l r) then bgS m l most (rowN m l r) x else x) := rfl
theorem wtI_add (l : Nat) (c : MM) (a : Nat) : ∀ b, wtI l b (wtI l a c) = wtI l (a + b) c
  | 0 => rfl
  | b + 1 => by show cWt (wtI l b (wtI l a c)) (nI l) = cWt (wtI l (a + b) c) (nI l); rw [wtI_add l c a b]
theorem v_wtS {n : Nat} {c m : MM} (h : Sim n c m) (hw : WFa m) (hc : WFc c) {l : Nat} (hl : l < nlN m) : Sim n (cWt c (nI l)) m := by
  have q := v_row h hw hc hl
  rw [q.1]
  exact q.2.2
theorem wtI_sim {n : Nat} {c m : MM} (h : Sim n c m) (hw : WFa m) (hc : WFc c) {l : Nat} (hl : l < nlN m) : ∀ k, Sim n (wtI l k c) m
  | 0 => h
  | k + 1 => v_wtS (wtI_sim h hw hc hl k) hw (wtI_wfc hc l k) hl
theorem v_wtV {n : Nat} {c m : MM} (h : Sim n c m) (hw : WFa m) (hc : WFc c) {l r : Nat} (hl : l < nlN m) (hr : r < rowC m l) (hrow : RowI m l) : xWat c (nI l) (nI r) = none ∧ cQu c (nI l) 36 (nI r).toNatClampNeg = nI (rowN m l r) :=
  ⟨(v_wt h hw hc hl hr).1, (v_wt h hw hc hl hr).2.trans (hrow.1 r hr).2.1⟩
theorem setL_id {L : LNum} {a n : Nat} {f : Nat → Int32} (h : L a = some (n, f)) : setL L a n f = L := funext fun q => by
  unfold setL
  split
  · next e => rw [e, h]
  · rfl
theorem setL_3 {L : LNum} {a q n k : Nat} {f f' g : Nat → Int32} (h : q ≠ a) : setL (setL (setL L a k f) q n g) a k f' = setL (setL L a k f') q n g := funext fun x => by
  unfold setL
  by_cases e1 : x = a
  · rw [if_pos e1, if_neg (by omega), if_pos e1]
  · rw [if_neg e1, if_neg e1, if_neg e1]
theorem bgPut_0 {m : MM} {g : Nat → Int32} {p most : Nat} (h0 : g 0 = nI (bgN9 g)) (h1 : bgN9 g ≤ most) (h2 : most ≤ 45) : bgPut m p most g 0 = nI (bgN9 (bgPut m p most g)) ∧ bgN9 (bgPut m p most g) ≤ most := by
  have hle := bgF_le m g p
  have e : bgPut m p most g 0 = if bgF m g p < most ∧ bgF m g p = bgN9 g then nI (bgF m g p + 1) else g 0 := by
    unfold bgPut
    rw [upF_o (by omega), upF_o (by omega), upF_s]
  have e2 : bgN9 (bgPut m p most g) = vN (bgPut m p most g 0) := rfl
  rw [e2, e]
  split
  · next z => rw [show vN (nI (bgF m g p + 1)) = bgF m g p + 1 from nI_clamp (by omega)]; exact ⟨rfl, by omega⟩
  · rw [h0, show vN (nI (bgN9 g)) = bgN9 g from nI_clamp (by omega)]; exact ⟨rfl, h1⟩
