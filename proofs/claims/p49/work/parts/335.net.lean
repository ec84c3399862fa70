/-! the law's own numbers beside the reference's state -/
def NP (f : Nat → Int32) (m : MM) (p : Nat) : Prop := f (140 + 12 * p) = m 11 p ∧ f (140 + 12 * p + 1) = m 12 p ∧ f (140 + 12 * p + 2) = m 13 p ∧ f (140 + 12 * p + 3) = m 18 p ∧ (m 28 p = 116 → f (140 + 12 * p + 4) = m 17 p ∧ f (140 + 12 * p + 5) = m 16 p) ∧ f (140 + 12 * p + 6) = m 22 p ∧ f (140 + 12 * p + 8) = m 21 p ∧ f (140 + 12 * p + 9) = m 25 p ∧ f (140 + 12 * p + 10) = m 24 p ∧ f (140 + 12 * p + 11) = if m 28 p = 100 then m 26 p else -1
def NT (f : Nat → Int32) (m : MM) : Prop :=
  (f 0 = nI (nhN m) ∧ f 1 = nI (nlN m) ∧ f 2 = nI (npN m)) ∧ (∀ h, h < nhN m → f (10 + 2 * h) = m 0 h ∧ f (11 + 2 * h) = m 1 h) ∧
  (∀ l, l < nlN m → ∀ j, j < 6 → f (30 + 8 * l + j) = m (2 + j) l) ∧ (∀ l, l < 12 → f (36 + 8 * l) = m 9 l) ∧ (∀ p, p < npN m → NP f m p) ∧ ∀ p, npN m ≤ p → p < 40 → f (140 + 12 * p + 10) = 0
theorem NT.h0 {f : Nat → Int32} {m : MM} (h : NT f m) : f 0 = nI (nhN m) := h.1.1
theorem NT.l0 {f : Nat → Int32} {m : MM} (h : NT f m) : f 1 = nI (nlN m) := h.1.2.1
theorem NT.p0 {f : Nat → Int32} {m : MM} (h : NT f m) : f 2 = nI (npN m) := h.1.2.2
theorem NT.cd {f : Nat → Int32} {m : MM} (h : NT f m) {i : Nat} (hi : i < nhN m) : f (10 + 2 * i) = m 0 i := (h.2.1 i hi).1
theorem NT.ct {f : Nat → Int32} {m : MM} (h : NT f m) {i : Nat} (hi : i < nhN m) : f (11 + 2 * i) = m 1 i := (h.2.1 i hi).2
theorem NT.ln {f : Nat → Int32} {m : MM} (h : NT f m) {l : Nat} (hl : l < nlN m) {i : Nat} (j : Nat) (hj : j < 6) (e : i = 30 + 8 * l + j) : f i = m (2 + j) l := by rw [e]; exact h.2.2.1 l hl j hj
theorem NT.cl {f : Nat → Int32} {m : MM} (h : NT f m) {l : Nat} (hl : l < 12) : f (36 + 8 * l) = m 9 l := h.2.2.2.1 l hl
theorem NT.pa {f : Nat → Int32} {m : MM} (h : NT f m) {p : Nat} (hp : p < npN m) : NP f m p := h.2.2.2.2.1 p hp
/-! the script -/
def cellG (v : Int32) (i : Nat) : Int32 := (69069 * (v + nI (1009 * i)) + nI 12345)
def cellH (x : Int32) : Int32 := (x ^^^ (x.toUInt32 >>> ((nI 13).toUInt32 &&& Int32.toUInt32 31)).toInt32) * 1103515245
def cellK (x : Int32) : Int32 := x ^^^ (x.toUInt32 >>> ((nI 16).toUInt32 &&& Int32.toUInt32 31)).toInt32
def cellF (Sc : SCR) (i : Nat) : Int32 := cellK (cellH (cellG (if i < Sc.2.1 then Sc.2.2 i else nI 0) i))
/-- the number that the script's cell i gives below n -/
def inN (Sc : SCR) (i n : Nat) : Nat := (cellF Sc i &&& 2147483647).toNatClampNeg % n
theorem inN_lt (Sc : SCR) (i : Nat) {n : Nat} (h : 0 < n) : inN Sc i n < n := Nat.mod_lt _ h
theorem and_pos (x : Int32) : ∃ a : Nat, a < 2 ^ 31 ∧ x &&& 2147483647 = nI a := by
  refine nI_of (fun h => ?_)
  have h1 : (x &&& 2147483647).toBitVec.msb = false := by
    rw [Int32.toBitVec_and, BitVec.msb_and, show (2147483647 : Int32).toBitVec.msb = false by decide, Bool.and_false]
  have h2 : 0 ≤ (x &&& 2147483647).toBitVec.toInt := BitVec.toInt_nonneg_of_msb_false h1
  have h3 := Int32.lt_iff_toInt_lt.mp h
  have h4 : (x &&& 2147483647).toInt = (x &&& 2147483647).toBitVec.toInt := rfl
  have h5 : (0 : Int32).toInt = 0 := by decide
  omega
theorem in_mod (Sc : SCR) (i : Nat) {n : Nat} (h0 : 0 < n) (hn : n < 2 ^ 31) : (cellF Sc i &&& 2147483647) - (cellF Sc i &&& 2147483647) / nI n * nI n = nI (inN Sc i n) := by
  unfold inN
  obtain ⟨a, ha, e⟩ := and_pos (cellF Sc i)
  rw [e, nI_clamp ha, nI_div ha hn, nI_mul, nI_sub (Nat.div_mul_le_self a n)]
  congr 1
  have := Nat.div_add_mod a n
  rw [Nat.mul_comm] at this
  omega
def codeN (k : Nat) : Nat := if k = 0 then 1 else if k = 1 then 12 else if k = 2 then 2 else if k = 3 then 121 else if k = 4 then 3 else 22
/-! the hub of an address, as the law finds it -/
def hfS (m : MM) (A h : Nat) (a : Int32) : Int32 := if (if m 0 h < nI 10 then nI A / nI 1000 else if m 0 h < nI 100 then nI A / nI 100 else nI A / nI 10) = m 0 h ∧ (a < 0 ∨ m 0 a.toNatClampNeg < m 0 h) then nI h else a
def hfL (m : MM) (A : Nat) : Nat → Nat → Int32 → Int32
  | 0, _, a => a
  | k + 1, h, a => hfL m A k (h + 1) (hfS m A h a)
theorem fndI_at (m : MM) (h : Nat) {A : Nat} (h1 : 1000 ≤ A) (h2 : A ≤ 9999) (hc : isN (m 0 h) 1 999) (a : Int32) : fndI m h 11 (nI A / 10) a = hfS m A h a := by
  obtain ⟨c, hcd, c1, c2⟩ : ∃ c, m 0 h = nI c ∧ 1 ≤ c ∧ c ≤ 999 := ⟨_, hc.1, hc.2.1, hc.2.2⟩
  have d : ∀ x, x < 2 ^ 31 → nI x / 10 = nI (x / 10) := fun x hx => nI_div (b := 10) hx (by omega)
  have p : ∀ x, x < 2 ^ 31 → (nI x ≤ 0 ↔ x = 0) := fun x hx => by rw [show (0 : Int32) = nI 0 from rfl, nI_leI hx (by omega)]; omega
  have e1 : A / 10 / 10 = A / 100 := by omega
  have e2 : A / 10 / 10 / 10 = A / 1000 := by omega
  rw [d A (by omega)]
  show (if nI (A / 10) ≤ 0 then a else fndI m h 10 (nI (A / 10) / 10) _) = _
  rw [if_neg (fun z => by have := (p _ (by omega)).mp z; omega), d _ (by omega)]
  show (if nI (A / 10 / 10) ≤ 0 then _ else fndI m h 9 (nI (A / 10 / 10) / 10) _) = _
  rw [if_neg (fun z => by have := (p _ (by omega)).mp z; omega), d _ (by omega)]
  show (if nI (A / 10 / 10 / 10) ≤ 0 then _ else fndI m h 8 (nI (A / 10 / 10 / 10) / 10) _) = _
  rw [if_neg (fun z => by have := (p _ (by omega)).mp z; omega), d _ (by omega)]
  show (if nI (A / 10 / 10 / 10 / 10) ≤ 0 then _ else _) = _
  rw [if_pos ((p _ (by omega)).mpr (by omega))]
  unfold hfS
  rw [hcd, e2, e1, nI_div (by omega) (by omega), nI_div (by omega) (by omega), nI_div (by omega) (by omega)]
  have q : ∀ x, x < 2 ^ 31 → (nI x = nI c ↔ x = c) := fun x hx => nI_eq hx (by omega)
  have l10 : nI c < nI 10 ↔ c < 10 := nI_ltI (by omega) (by omega)
  have l100 : nI c < nI 100 ↔ c < 100 := nI_ltI (by omega) (by omega)
  have irr : ∀ z : Int32, ¬ z < z := fun z => Int32.lt_irrefl
  by_cases g1 : c < 10
  · have n1 : ¬ nI (A / 10) = nI c := fun z => by have := (q _ (by omega)).mp z; omega
    have n2 : ¬ nI (A / 100) = nI c := fun z => by have := (q _ (by omega)).mp z; omega
    simp only [n1, n2, l10.mpr g1, false_and, if_false, if_true]
  · have m1 : ¬ nI c < nI 10 := fun z => g1 (l10.mp z)
    have n3 : ¬ nI (A / 1000) = nI c := fun z => by have := (q _ (by omega)).mp z; omega
    by_cases g2 : c < 100
    · have n1 : ¬ nI (A / 10) = nI c := fun z => by have := (q _ (by omega)).mp z; omega
      simp only [n1, n3, m1, l100.mpr g2, false_and, if_false, if_true]
    · have m2 : ¬ nI c < nI 100 := fun z => g2 (l100.mp z)
      have n2 : ¬ nI (A / 100) = nI c := fun z => by have := (q _ (by omega)).mp z; omega
      simp only [n2, n3, m1, m2, false_and, if_false]
theorem hf_found {m : MM} {A : Nat} (h1 : 1000 ≤ A) (h2 : A ≤ 9999) (hc : ∀ h, h < nhN m → isN (m 0 h) 1 999) : ∀ (k h : Nat) (a : Int32), h + k ≤ nhN m → hfL m A k h a = fndO m (nI A) k h a := by
  intro k
  induction k with
  | zero => intro h a _; rfl
  | succ k ih =>
    intro h a hk
    show hfL m A k (h + 1) _ = fndO m (nI A) k (h + 1) _
    rw [ih _ _ (by omega), fndI_at m h h1 h2 (hc h (by omega)) a]
/-! departures -/
theorem dep_stop {f p e j : Nat} (hp : 0 < p) (h1 : e ≤ f + j * p) (h2 : j = 0 ∨ f + j * p < e + p) : depN f p e = f + j * p := by
  unfold depN
  by_cases z : e ≤ f
  · rw [if_pos z]
    have : j = 0 := by
      rcases h2 with h | h
      · exact h
      · rcases Nat.eq_zero_or_pos j with g | g
        · exact g
        · have := Nat.le_mul_of_pos_left p g
          omega
    rw [this]; omega
  · rw [if_neg z]
    have hj : 0 < j := by
      rcases Nat.eq_zero_or_pos j with g | g
      · rw [g] at h1; omega
      · exact g
    obtain ⟨j', rfl⟩ : ∃ j', j = j' + 1 := ⟨j - 1, by omega⟩
    have h3 : f + (j' + 1) * p < e + p := h2.resolve_left (by omega)
    rw [Nat.add_mul, Nat.one_mul] at h1 h3 ⊢
    by_cases w : e = f + (j' * p + p)
    · have : (e - f) % p = 0 := by rw [w, show f + (j' * p + p) - f = (j' + 1) * p by rw [Nat.add_mul]; omega]; exact Nat.mul_mod_left _ _
      rw [if_pos this]; exact w
    · have e1 : e - f = (e - f - j' * p) + j' * p := by omega
      have e2 : (e - f) % p = e - f - j' * p := by
        rw [e1, Nat.add_mul_mod_self_right, Nat.mod_eq_of_lt (by omega)]
        omega
      rw [if_neg (by omega), e2]
      omega
