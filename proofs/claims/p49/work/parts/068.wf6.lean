/-- the arrivals -/
theorem arr1_wf {m : MM} (hw : WFa m) {p : Nat} (hp : p < npN m) (c : m 28 p = 116) : WFa (up (up m 28 p 117) 15 p (m 3 (m 16 p).toNatClampNeg)) := by
  have h16 := (hw.pa hp).2.2.2.2.1 c
  have h3 := (hw.ln (vp_nat h16)).2.1
  exact (hw.up28 (Or.inr (Or.inl rfl))).up15 (by rw [nhN_up (by decide)]; exact h3)
theorem arr_ok : ∀ (k i : Nat) (n : Int32) (m : MM), WFa m → i + k ≤ npN m → logN m + k ≤ 2 ^ 21 → WFa (arrL k i n m).2 ∧ Gr k m (arrL k i n m).2 := by
  intro k
  induction k with
  | zero => intro i n m hw _ _; exact ⟨hw, Gr.refl _ _⟩
  | succ k ih =>
    intro i n m hw hi hU
    unfold arrL
    split
    · rename_i c
      have w1 := arr1_wf hw (show i < npN m by omega) c.1
      have g1 : Gr 0 m (up (up m 28 i 117) 15 i (m 3 (m 16 i).toNatClampNeg)) := (Gr.up (by omega)).trans (Gr.up (by omega))
      have l1 := g1.lg
      have n1 := g1.np
      have w2 := w1.hap (show i < npN _ by omega) (kind := 117) rfl (m 16 i) (by omega)
      have g2 := Gr.hap w1 i 117 (m 16 i)
      have l2 := g2.lg
      have n2 := g2.np
      have h := ih (i + 1) (n + 1) _ w2 (by omega) (by omega)
      exact ⟨h.1, ((g1.trans g2).trans h.2).mono (by omega)⟩
    · have h := ih (i + 1) n m hw (by omega) (by omega)
      exact ⟨h.1, h.2.mono (by omega)⟩
theorem fArr_ok {m : MM} (hw : WFa m) (hU : logN m + 40 ≤ 2 ^ 21) : WFa (fArr m).2 ∧ Gr 40 m (fArr m).2 := by
  have hnp := hw.np
  have h := arr_ok (npN m) 0 0 m hw (by omega) (by omega)
  exact ⟨h.1, h.2.mono (by omega)⟩
/-- the row -/
def rowOK (n : Nat) (m : MM) : Prop := ∀ j, j < n → vp_in (m 36 j) (npN m)
theorem sink_key (p : Nat) : ∀ (k : Nat) (m : MM) {k' : Nat}, k' ≠ 36 → sinkL p k m k' = m k' := by
  intro k
  induction k with
  | zero => intro m k' h; exact up_key h
  | succ k ih =>
    intro m k' h
    unfold sinkL
    split
    · rw [ih _ h]; exact up_key h
    · exact up_key h
theorem sink_row {N p : Nat} (hp : p < N) (hN : N ≤ 40) : ∀ (k n : Nat) (m : MM), k ≤ n → (∀ j, j < n + 1 → j ≠ k → vp_in (m 36 j) N) → ∀ j, j < n + 1 → vp_in (sinkL p k m 36 j) N := by
  intro k
  induction k with
  | zero =>
    intro n m _ h j hj
    show vp_in (up m 36 0 (nI p) 36 j) N
    by_cases e : j = 0
    · subst e; rw [up_s]; exact vp_in_nI hp (by omega)
    · rw [up_i e]; exact h j hj e
  | succ k ih =>
    intro n m hk h j hj
    unfold sinkL
    split
    · refine ih n _ (by omega) (fun j hj hne => ?_) j hj
      by_cases e : j = k + 1
      · subst e; rw [up_s]; exact h k (by omega) (by omega)
      · rw [up_i e]; exact h j hj e
    · by_cases e : j = k + 1
      · subst e; rw [up_s]; exact vp_in_nI hp (by omega)
      · rw [up_i e]; exact h j hj e
theorem WFa.sink {m : MM} (hw : WFa m) (p k : Nat) : WFa (sinkL p k m) := hw.ext (fun k' h => sink_key p k m (by unfold kWF at h; omega))
theorem rowOK.sink {m : MM} {n p : Nat} (h : rowOK n m) (hp : p < npN m) (hN : npN m ≤ 40) : rowOK (n + 1) (sinkL p n m) := by
  intro j hj
  rw [npN_ext (sink_key p n m (by decide))]
  exact sink_row hp hN n n m (Nat.le_refl _) (fun j hj hne => h j (by omega)) j hj
theorem lin_ok (l : Int32) : ∀ (k p n : Nat) (m : MM), WFa m → rowOK n m → n ≤ p → p + k ≤ npN m → WFa (linL l k p n m).2 ∧ (∀ {k' : Nat}, k' ≠ 36 → (linL l k p n m).2 k' = m k') ∧ rowOK (linL l k p n m).1 (linL l k p n m).2 ∧ (linL l k p n m).1 ≤ p + k := by
  intro k
  induction k with
  | zero => intro p n m hw h hn _; exact ⟨hw, fun _ => rfl, h, by show n ≤ p + 0; omega⟩
  | succ k ih =>
    intro p n m hw h hn hk
    have hnp := hw.np
    unfold linL
    split
    · have e := npN_ext (sink_key p n m (k' := 39) (by decide))
      have q := ih (p + 1) (n + 1) (sinkL p n m) (hw.sink p n) (h.sink (by omega) hnp.2) (by omega) (by omega)
      exact ⟨q.1, fun hk' => (q.2.1 hk').trans (sink_key p n m hk'), q.2.2.1, by omega⟩
    · have q := ih (p + 1) n m hw h (by omega) (by omega)
      exact ⟨q.1, fun hk' => q.2.1 hk', q.2.2.1, by omega⟩
theorem fLin_ok {m : MM} (hw : WFa m) (l : Int32) : WFa (fLin m l).2 ∧ (∀ {k' : Nat}, k' ≠ 36 → (fLin m l).2 k' = m k') ∧ rowOK (fLin m l).1 (fLin m l).2 ∧ (fLin m l).1 ≤ npN m := by
  have h := lin_ok l (npN m) 0 0 m hw (fun j hj => absurd hj (Nat.not_lt_zero _)) (Nat.le_refl _) (by omega)
  rw [Nat.zero_add] at h
  exact h
theorem Gr.lin {m : MM} (hw : WFa m) (l : Int32) : Gr 0 m (fLin m l).2 := Gr.of fun k hk => (fLin_ok hw l).2.1 (by omega)

