/-! lateShare, meanTime: the counts -/
theorem ls_eq {n : Nat} {c m : MM} (h : Sim n c m) : ∀ (k p : Nat) (a : Int32), p + k ≤ npN m → cLsL c k p a = ltL m k p a := by
  intro k
  induction k with
  | zero => intro p a _; rfl
  | succ k ih =>
    intro p a hp
    simp only [cLsL, ltL]
    rw [ih _ _ (by omega)]
    congr 1
    rw [late_iff h (by omega)]
    by_cases z : late m p
    · rw [if_pos (bi_n0.mpr z), bi_t z]
    · rw [if_neg (fun q => z (bi_n0.mp q)), bi_f z, Int32.add_zero]
theorem mt_eq {n : Nat} {c m : MM} (h : Sim n c m) : ∀ (k p : Nat) (a b : Int32), p + k ≤ npN m → cMtL c k p a b = mtL m k p a b := by
  intro k
  induction k with
  | zero => intro p a b _; rfl
  | succ k ih =>
    intro p a b hp
    have g := (h.1.2.2.1 p (by omega)).1.1
    simp only [cMtL, mtL]
    rw [ih _ _ _ (by omega), g 28 rfl, g 26 rfl, g 25 rfl]
    by_cases z : m 28 p = 100
    · rw [if_pos z, if_pos z, if_pos z, bi_t z]
    · rw [if_neg z, if_neg z, if_neg z, bi_f z, Int32.add_zero, Int32.add_zero]
theorem call_lateShare {n : Nat} {c m : MM} (h : Sim n c m) (hw : WFa m) : cLsL c (npN c) 0 0 = (fLtS m).1 ∧ nI (npN c) = m 39 0 ∧ (fLtS m).2 45 0 = (if m 39 0 = 0 then 1 else 0) ∧ xLat c = (if m 39 0 = 0 then some aeC else none) ∧ Sim (n + 1) c (fLtS m).2 := by
  have e39 : nI (npN c) = m 39 0 := by rw [h.1.1.1.2.2, hw.np.1]
  refine ⟨?_, e39, ?_, ?_, (h.thr _ _).mono (by omega)⟩
  · rw [h.1.1.1.2.2]; exact ls_eq h _ 0 0 (by omega)
  · show thr m _ 1 45 0 = _
    rw [thr45]
    by_cases z : m 39 0 = 0
    · rw [bi_t z, if_pos z]; decide
    · rw [bi_f z, if_neg z]; decide
  · unfold xLat; rw [e39]
theorem call_meanTime {n : Nat} {c m : MM} (h : Sim n c m) : cMtL c (npN c) 0 0 0 = (fMnT m).1 ∧ (fMnT m).2 45 0 = (if (fMnT m).1.1 = 0 then 1 else 0) ∧ xMea c = (if (fMnT m).1.1 = 0 then some aeC else none) ∧ Sim (n + 1) c (fMnT m).2 := by
  have e : cMtL c (npN c) 0 0 0 = (fMnT m).1 := by rw [h.1.1.1.2.2]; exact mt_eq h _ 0 0 0 (by omega)
  refine ⟨e, ?_, by unfold xMea; rw [e], (h.thr _ _).mono (by omega)⟩
  show thr m (bi ((fMnT m).1.1 = 0)) 1 45 0 = _
  rw [thr45]
  by_cases z : (fMnT m).1.1 = 0
  · rw [bi_t z, if_pos z]; decide
  · rw [bi_f z, if_neg z]; decide

