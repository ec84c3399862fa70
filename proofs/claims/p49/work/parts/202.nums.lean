/-! numbers: sums, differences, quotients of small ones; sets of hubs as bits -/
theorem nI_sub {a b : Nat} (h : b ≤ a) : nI a - nI b = nI (a - b) := by
  rw [show nI a = nI (a - b) + nI b by rw [nI_add]; congr 1; omega]
  exact Int32.add_sub_cancel _ _
theorem nI_mul {a b : Nat} : nI a * nI b = nI (a * b) := (Int32.ofNat_mul a b).symm
theorem nI_div {a b : Nat} (ha : a < 2 ^ 31) (hb : b < 2 ^ 31) : nI a / nI b = nI (a / b) := by
  have hq : a / b < 2 ^ 31 := Nat.lt_of_le_of_lt (Nat.div_le_self a b) ha
  apply Int32.toInt_inj.mp
  rw [Int32.toInt_div, nI_toInt ha, nI_toInt hb, nI_toInt hq]
  rw [show ((a : Int).tdiv (b : Int)) = ((a / b : Nat) : Int) from (Int.ofNat_tdiv a b).symm]
  generalize a / b = c at hq ⊢
  exact Int.bmod_eq_of_le (by omega) (by omega)
theorem mx_nI {a b : Nat} (ha : a < 2 ^ 31) (hb : b < 2 ^ 31) : mx (nI a) (nI b) = nI (max a b) := by
  unfold mx
  by_cases h : a < b
  · rw [if_pos ((nI_ltI ha hb).mpr h), Nat.max_eq_right (by omega)]
  · rw [if_neg (fun z => h ((nI_ltI ha hb).mp z)), Nat.max_eq_left (by omega)]
/-- the first departure not earlier than e, of a line that leaves in f, f + p, .. -/
def depN (f p e : Nat) : Nat := if e ≤ f then f else if (e - f) % p = 0 then e else e - (e - f) % p + p
theorem depN_ge {f p e : Nat} (hp : 0 < p) : e ≤ depN f p e := by
  unfold depN
  split
  · assumption
  · split
    · exact Nat.le_refl _
    · have := Nat.mod_lt (e - f) hp
      omega
theorem depN_le {f p e : Nat} (hp : 0 < p) : depN f p e ≤ max f (e + p) := by
  unfold depN
  split
  · omega
  · split
    · omega
    · omega
theorem depN_ref {f p e : Nat} (hp : 0 < p) (h : f < e) : f + (e - f + p - 1) / p * p = depN f p e := by
  unfold depN
  rw [if_neg (by omega)]
  have h1 := Nat.div_add_mod (e - f) p
  have h2 := Nat.mod_lt (e - f) hp
  have h3 : p * ((e - f) / p) = (e - f) / p * p := Nat.mul_comm _ _
  by_cases z : (e - f) % p = 0
  · rw [if_pos z]
    have h4 : e - f + p - 1 = p - 1 + p * ((e - f) / p) := by omega
    rw [h4, Nat.add_mul_div_left _ _ hp, Nat.div_eq_of_lt (by omega), Nat.zero_add]
    omega
  · rw [if_neg z]
    have h4 : e - f + p - 1 = (e - f) % p - 1 + p * ((e - f) / p + 1) := by rw [Nat.mul_add]; omega
    rw [h4, Nat.add_mul_div_left _ _ hp, Nat.div_eq_of_lt (by omega), Nat.zero_add, Nat.add_mul]
    omega
/-- monotone: who is ready earlier does not leave later -/
theorem depN_mono {f p a b : Nat} (hp : 0 < p) (h : a ≤ b) : depN f p a ≤ depN f p b := by
  unfold depN
  by_cases ha : a ≤ f
  · rw [if_pos ha]
    by_cases hb : b ≤ f
    · rw [if_pos hb]; exact Nat.le_refl _
    · rw [if_neg hb]
      have := Nat.mod_lt (b - f) hp
      split <;> omega
  · rw [if_neg ha, if_neg (show ¬ b ≤ f by omega)]
    have a1 := Nat.div_add_mod (a - f) p
    have a2 := Nat.mod_lt (a - f) hp
    have b1 := Nat.div_add_mod (b - f) p
    have b2 := Nat.mod_lt (b - f) hp
    have hq : (a - f) / p ≤ (b - f) / p := Nat.div_le_div_right (by omega)
    by_cases e : (a - f) / p = (b - f) / p
    · rw [e] at a1
      by_cases za : (a - f) % p = 0
      · rw [if_pos za]
        by_cases zb : (b - f) % p = 0
        · rw [if_pos zb]; omega
        · rw [if_neg zb]; omega
      · rw [if_neg za]
        by_cases zb : (b - f) % p = 0
        · omega
        · rw [if_neg zb]; omega
    · have hm : p * ((a - f) / p + 1) ≤ p * ((b - f) / p) := Nat.mul_le_mul_left _ (by omega)
      rw [Nat.mul_add] at hm
      by_cases za : (a - f) % p = 0
      · rw [if_pos za]
        by_cases zb : (b - f) % p = 0
        · rw [if_pos zb]; omega
        · rw [if_neg zb]; omega
      · rw [if_neg za]
        by_cases zb : (b - f) % p = 0
        · rw [if_pos zb]; omega
        · rw [if_neg zb]; omega
/-- it is a departure: the next one from it on is itself -/
theorem depN_idem {f p e : Nat} (hp : 0 < p) : depN f p (depN f p e) = depN f p e := by
  by_cases h : e ≤ f
  · have e1 : depN f p e = f := by unfold depN; rw [if_pos h]
    rw [e1]; unfold depN; rw [if_pos (Nat.le_refl _)]
  · have h1 := depN_ref hp (show f < e by omega)
    have hk : f < depN f p e := by have := depN_ge (f := f) (p := p) (e := e) hp; omega
    rw [← depN_ref hp hk, ← h1]
    have e2 : f + (e - f + p - 1) / p * p - f + p - 1 = p - 1 + p * ((e - f + p - 1) / p) := by rw [Nat.mul_comm p]; omega
    rw [e2, Nat.add_mul_div_left _ _ hp, Nat.div_eq_of_lt (by omega), Nat.zero_add]
/-! the reference's and the class's timetable -/
def isN (x : Int32) (a b : Nat) : Prop := x = nI x.toNatClampNeg ∧ a ≤ x.toNatClampNeg ∧ x.toNatClampNeg ≤ b
abbrev vN (x : Int32) : Nat := x.toNatClampNeg
theorem lvs_N {m : MM} {l e : Nat} (h4 : isN (m 4 l) 0 59) (h5 : isN (m 5 l) 5 60) (he : e < 2 ^ 24) : lvs m l (nI e) = nI (depN (vN (m 4 l)) (vN (m 5 l)) e) := by
  obtain ⟨f1, -, f3⟩ := h4
  obtain ⟨p1, p2, p3⟩ := h5
  unfold lvs vN
  generalize (m 4 l).toNatClampNeg = f at *
  generalize (m 5 l).toNatClampNeg = p at *
  rw [f1, p1]
  by_cases h : e ≤ f
  · rw [if_pos, show depN f p e = f by unfold depN; rw [if_pos h]]
    rw [Int32.le_iff_toInt_le, Int32.toInt_sub, nI_toInt (by omega), nI_toInt (by omega)]
    rw [Int.bmod_eq_of_le (by omega) (by omega)]
    show (e : Int) - f ≤ 0
    omega
  · rw [nI_sub (by omega), if_neg (nI_nle (by omega) (by omega)), nI_add, nI_sub (b := 1) (by omega) (a := e - f + p) |> (fun z => show nI (e - f + p) - 1 = nI (e - f + p - 1) from z), nI_div (by omega) (by omega), nI_mul, nI_add, depN_ref (by omega) (by omega)]
theorem cDep_N {u : MM} {l e : Nat} (h4 : isN (u 4 l) 0 59) (h5 : isN (u 5 l) 5 60) (he : e < 2 ^ 24) : cDep u l (nI e) = nI (depN (vN (u 4 l)) (vN (u 5 l)) e) := by
  obtain ⟨f1, -, f3⟩ := h4
  obtain ⟨p1, p2, p3⟩ := h5
  unfold cDep cLateBy vN
  generalize (u 4 l).toNatClampNeg = f at *
  generalize (u 5 l).toNatClampNeg = p at *
  rw [f1, p1]
  by_cases h : e ≤ f
  · rw [if_pos (Or.inl (nI_le h (by omega))), show depN f p e = f by unfold depN; rw [if_pos h]]
  · rw [if_neg (fun z => z.elim (fun y => h ((nI_leI (by omega) (by omega)).mp y)) (nI_nle (by omega) (by omega)))]
    have h1 := Nat.div_add_mod (e - f) p
    have h2 := Nat.mod_lt (e - f) (show 0 < p by omega)
    have h3 : p * ((e - f) / p) = (e - f) / p * p := Nat.mul_comm _ _
    rw [nI_sub (by omega), nI_div (by omega) (by omega), nI_mul, nI_sub (by omega), show e - f - (e - f) / p * p = (e - f) % p by omega]
    unfold depN
    rw [if_neg h]
    by_cases z : (e - f) % p = 0
    · rw [if_pos (by rw [z]; rfl), if_pos z]
    · rw [if_neg (nI_ne0 (by omega) (by omega)), if_neg z, nI_sub (by omega), nI_add]
/-! hubs as bits -/
theorem bt_ref : ∀ n, n < 64 → ∀ t, t < 6 → (((nI n >>> (nI t &&& 31)) &&& 1 = 0) ↔ n.testBit t = false) := by decide +kernel
theorem bt_cls : ∀ n, n < 64 → ∀ t, t < 6 → ((nI n &&& (1 <<< (nI t &&& 31)) = 0) ↔ n.testBit t = false) := by decide +kernel
theorem bt_or : ∀ n, n < 64 → ∀ t, t < 6 → (nI n ||| (1 <<< (nI t &&& 31)) = nI (n ||| 2 ^ t) ∧ (n ||| 2 ^ t) < 64) := by decide +kernel
theorem bt_or2 : ∀ n, n < 64 → ∀ t, t < 6 → ∀ k, k < 6 → (n ||| 2 ^ t).testBit k = (n.testBit k || decide (k = t)) := by decide +kernel
theorem bt_one : ∀ t, t < 6 → ((1 : Int32) <<< (nI t &&& 31) = nI (2 ^ t) ∧ 2 ^ t < 64 ∧ ∀ k, k < 6 → (2 ^ t).testBit k = decide (k = t)) := by decide +kernel
def MK (x : Int32) (vis : List Nat) : Prop := ∃ n, n < 64 ∧ x = nI n ∧ ∀ k, k < 6 → (n.testBit k = true ↔ k ∈ vis)
theorem MK.one {t : Nat} (ht : t < 6) : MK (1 <<< (nI t &&& 31)) [t] := by
  obtain ⟨a, b, c⟩ := bt_one t ht
  exact ⟨2 ^ t, b, a, fun k hk => by rw [c k hk]; simp⟩
theorem MK.or {x : Int32} {vis : List Nat} {t : Nat} (h : MK x vis) (ht : t < 6) : MK (x ||| (1 <<< (nI t &&& 31))) (t :: vis) := by
  obtain ⟨n, h1, h2, h3⟩ := h
  obtain ⟨a, b⟩ := bt_or n h1 t ht
  refine ⟨n ||| 2 ^ t, b, by rw [h2]; exact a, fun k hk => ?_⟩
  rw [bt_or2 n h1 t ht k hk]
  simp [h3 k hk, or_comm]
theorem MK.ref {x : Int32} {vis : List Nat} {t : Nat} (h : MK x vis) (ht : t < 6) : ((x >>> (nI t &&& 31)) &&& 1 = 0) ↔ ¬ t ∈ vis := by
  obtain ⟨n, h1, h2, h3⟩ := h
  rw [h2, bt_ref n h1 t ht, ← h3 t ht]
  simp
theorem MK.cls {x : Int32} {vis : List Nat} {t : Nat} (h : MK x vis) (ht : t < 6) : (x &&& (1 <<< (nI t &&& 31)) = 0) ↔ ¬ t ∈ vis := by
  obtain ⟨n, h1, h2, h3⟩ := h
  rw [h2, bt_cls n h1 t ht, ← h3 t ht]
  simp

