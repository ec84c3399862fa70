/-! the law's numbers behind a delivery, a return -/
theorem NP.del {f f' : Nat → Int32} {m m1 : MM} {p : Nat} {st a dl : Int32} (h : NP f m p) (hd : DeP m m1 p st a dl) (h116 : ¬ st = 116) (e11 : f' (140 + 12 * p + 11) = if st = 100 then dl else -1) (e : ∀ j, j < 12 → j ≠ 11 → f' (140 + 12 * p + j) = f (140 + 12 * p + j)) : NP f' m1 p := by
  obtain ⟨d1, d2, d3, d4⟩ := hd
  obtain ⟨a0, a1, a2, a3, a4, a6, a8, a9, a10, a11⟩ := h
  have e0 : f' (140 + 12 * p) = f (140 + 12 * p) := e 0 (by omega) (by omega)
  refine ⟨?_, ?_, ?_, ?_, fun z => absurd (d1.symm.trans z) h116, ?_, ?_, ?_, ?_, ?_⟩
  · rw [e0, d4 11 (by unfold dK; omega)]; exact a0
  · rw [e 1 (by omega) (by omega), d4 12 (by unfold dK; omega)]; exact a1
  · rw [e 2 (by omega) (by omega), d4 13 (by unfold dK; omega)]; exact a2
  · rw [e 3 (by omega) (by omega), d4 18 (by unfold dK; omega)]; exact a3
  · rw [e 6 (by omega) (by omega), d4 22 (by unfold dK; omega)]; exact a6
  · rw [e 8 (by omega) (by omega), d4 21 (by unfold dK; omega)]; exact a8
  · rw [e 9 (by omega) (by omega), d4 25 (by unfold dK; omega)]; exact a9
  · rw [e 10 (by omega) (by omega), d4 24 (by unfold dK; omega)]; exact a10
  · rw [e11, d1, d3]
theorem NP.turn {f f' : Nat → Int32} {m m1 : MM} {p : Nat} (h : NP f m p) (ht : TuP m m1 p) (h28 : m 28 p = 115) (e3 : f' (140 + 12 * p + 3) = m 41 0) (e8 : f' (140 + 12 * p + 8) = if m 15 p = m 13 p then m 41 0 else -1) (e : ∀ j, j < 12 → j ≠ 3 → j ≠ 8 → f' (140 + 12 * p + j) = f (140 + 12 * p + j)) : NP f' m1 p := by
  obtain ⟨t1, t2, t3, t4, t5, t6, t7, t8⟩ := ht
  obtain ⟨a0, a1, a2, a3, a4, a6, a8, a9, a10, a11⟩ := h
  have e0 : f' (140 + 12 * p) = f (140 + 12 * p) := e 0 (by omega) (by omega) (by omega)
  have s28 : m1 28 p = 115 := (t8 28 (by unfold tK; omega)).trans h28
  refine ⟨?_, ?_, ?_, e3.trans t4.symm, fun z => absurd (s28.symm.trans z) (by decide), ?_, e8.trans t5.symm, ?_, ?_, ?_⟩
  · rw [e0, t8 11 (by unfold tK; omega)]; exact a0
  · rw [e 1 (by omega) (by omega) (by omega), t8 12 (by unfold tK; omega)]; exact a1
  · rw [e 2 (by omega) (by omega) (by omega), t8 13 (by unfold tK; omega)]; exact a2
  · rw [e 6 (by omega) (by omega) (by omega), t8 22 (by unfold tK; omega)]; exact a6
  · rw [e 9 (by omega) (by omega) (by omega), t8 25 (by unfold tK; omega)]; exact a9
  · rw [e 10 (by omega) (by omega) (by omega), t8 24 (by unfold tK; omega)]; exact a10
  · rw [e 11 (by omega) (by omega) (by omega), a11, s28, h28, if_neg (by decide), if_neg (by decide)]
