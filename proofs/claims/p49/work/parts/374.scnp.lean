/-! the law's numbers behind a scan -/
theorem NP.scn {f f' : Nat → Int32} {m m1 : MM} {p : Nat} {st hb sc rc mi : Int32} (h : NP f m p) (hs : ScP m m1 p st hb sc rc mi) (h116 : ¬ st = 116) (h100 : ¬ st = 100) (hm : ¬ m 28 p = 100) (e3 : f' (140 + 12 * p + 3) = sc) (e6 : f' (140 + 12 * p + 6) = mi) (e8 : f' (140 + 12 * p + 8) = rc)
    (e : ∀ j, j < 12 → j ≠ 3 → j ≠ 6 → j ≠ 8 → f' (140 + 12 * p + j) = f (140 + 12 * p + j)) : NP f' m1 p := by
  obtain ⟨s1, s2, s3, s4, s5, s6⟩ := hs
  obtain ⟨a0, a1, a2, a3, a4, a6, a8, a9, a10, a11⟩ := h
  have e0 : f' (140 + 12 * p) = f (140 + 12 * p) := e 0 (by omega) (by omega) (by omega) (by omega)
  refine ⟨?_, ?_, ?_, e3.trans s3.symm, fun z => absurd (s1.symm.trans z) h116, e6.trans s5.symm, e8.trans s4.symm, ?_, ?_, ?_⟩
  · rw [e0, s6 11 (by unfold sK; omega)]; exact a0
  · rw [e 1 (by omega) (by omega) (by omega) (by omega), s6 12 (by unfold sK; omega)]; exact a1
  · rw [e 2 (by omega) (by omega) (by omega) (by omega), s6 13 (by unfold sK; omega)]; exact a2
  · rw [e 9 (by omega) (by omega) (by omega) (by omega), s6 25 (by unfold sK; omega)]; exact a9
  · rw [e 10 (by omega) (by omega) (by omega) (by omega), s6 24 (by unfold sK; omega)]; exact a10
  · rw [e 11 (by omega) (by omega) (by omega) (by omega), a11, s1, if_neg hm, if_neg h100]
/-- one parcel's row, in the whole -/
theorem NT.par {f f' : Nat → Int32} {m m1 : MM} {p : Nat} (h : NT f m) (hw : WFa m) (ho : One m m1 p) (hp : p < npN m) (hf : ∀ i, (∀ j, j < 12 → i ≠ 140 + 12 * p + j) → f' i = f i) (hq : NP f' m1 p) : NT f' m1 ∧ Kp m m1 := by
  obtain ⟨h1, h2⟩ := id ho
  refine ⟨h.one hw ho hf hq (fun z => absurd z (by omega)), nhN_ext (h1 37 ⟨by unfold oK; omega, by omega⟩), Nat.le_of_eq (nlN_ext (h1 38 ⟨by unfold oK; omega, by omega⟩)).symm, h1 0 ⟨by unfold oK; omega, by omega⟩⟩
theorem upF_id {f : Nat → Int32} {i : Nat} {x : Int32} (h : f i = x) : upF f i x = f := funext fun k => by
  unfold upF
  split
  · next e => rw [e, h]
  · rfl
