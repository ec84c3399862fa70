/-! codes, addresses, waiting -/
def wz : Nat → Int32 → Int32
  | 0, _ => 1
  | n + 1, k => if k ≤ 0 then 1 else if k - k / 10 * 10 = 0 then 0 else wz n (k / 10)
def cWz (x : Int32) : Int32 := wz 11 x
def cPrL (c : Int32) : Nat → Int32 → Int32
  | 0, _ => 0
  | n + 1, k => if k ≤ 0 then 0 else if k = c then 1 else cPrL c n (k / 10)
def cPre (c x : Int32) : Int32 := cPrL c 11 x
def cCod (x : Int32) : Int32 := if inn x 1 999 = true ∧ ¬ cWz x = 0 then 1 else 0
def cAdr (x : Int32) : Int32 := if inn x 1000 9999 = true ∧ ¬ cWz x = 0 then 1 else 0
def cHwL (u : MM) (x : Int32) : Nat → Nat → Int32
  | 0, _ => -1
  | k + 1, h => if u 0 h = x then nI h else cHwL u x k (h + 1)
def cHw (u : MM) (x : Int32) : Int32 := cHwL u x (nhN u) 0
def cHsL (u : MM) : Nat → Int32 → Int32
  | 0, _ => -1
  | n + 1, k => if k ≤ 0 then -1 else if cHw u k = -1 then cHsL u n (k / 10) else cHw u k
def cHs (u : MM) (x : Int32) : Int32 := cHsL u 11 x
def cHtL (u : MM) (x : Int32) : Nat → Nat → Int32 → Int32
  | 0, _, a => a
  | k + 1, h, a => cHtL u x k (h + 1) (if ¬ cPre (u 0 h) x = 0 ∧ (a = -1 ∨ u 0 a.toNatClampNeg < u 0 h) then nI h else a)
def cHt (u : MM) (x : Int32) : Int32 := cHtL u x (nhN u) 0 (-1)
theorem cHwL_ok (u : MM) (x : Int32) : ∀ (k h : Nat), cHwL u x k h = -1 ∨ ∃ v, v < h + k ∧ cHwL u x k h = nI v := by
  intro k
  induction k with
  | zero => intro h; exact Or.inl rfl
  | succ k ih =>
    intro h
    simp only [cHwL]
    split
    · exact Or.inr ⟨h, by omega, rfl⟩
    · rcases ih (h + 1) with e | ⟨v, hv, e⟩
      · exact Or.inl e
      · exact Or.inr ⟨v, by omega, e⟩
theorem cHw_ok (u : MM) (x : Int32) : cHw u x = -1 ∨ ∃ v, v < nhN u ∧ cHw u x = nI v := by
  have := cHwL_ok u x (nhN u) 0
  rw [Nat.zero_add] at this
  exact this
theorem cHsL_ok (u : MM) : ∀ (n : Nat) (k : Int32), cHsL u n k = -1 ∨ ∃ v, v < nhN u ∧ cHsL u n k = nI v := by
  intro n
  induction n with
  | zero => intro k; exact Or.inl rfl
  | succ n ih =>
    intro k
    simp only [cHsL]
    split
    · exact Or.inl rfl
    · split
      · exact ih _
      · exact cHw_ok u k
theorem cHs_ok (u : MM) (x : Int32) : cHs u x = -1 ∨ ∃ v, v < nhN u ∧ cHs u x = nI v := cHsL_ok u 11 x
def xAt (u : MM) (x : Int32) : Option String := xo (xPa u x) (if u 28 x.toNatClampNeg = 116 then some iseC else none)
def xRd (u : MM) (x : Int32) : Option String := xo (xPa u x) (if u 28 x.toNatClampNeg = 116 ∧ ¬ u 116 x.toNatClampNeg = -1 then none else some iseC)
def xAd (x : Int32) : Option String := if cAdr x = 0 then some iaeC else none
def xBv (u : MM) (x i : Int32) : Option String := xo (xLn u x) (if cHas u x.toNatClampNeg 40 i = 0 then some iobC else none)
def cRdL (u : MM) (y : Int32) : Nat → Nat → Int32 → Int32
  | 0, _, n => n
  | k + 1, p, n => cRdL u y k (p + 1) (if u 28 p = 116 ∧ u 116 p = y then n + 1 else n)
def cCwL (u : MM) (y : Int32) : Nat → Nat → Int32 → Int32
  | 0, _, n => n
  | k + 1, p, n => cCwL u y k (p + 1) (if ¬ cWf u p y = 0 then n + 1 else n)
def cCw (u : MM) (y : Int32) : Int32 := cCwL u y (npN u) 0 0
def cVwL (u : MM) (y z : Int32) : Nat → Nat → Int32 → Int32
  | 0, _, n => n
  | k + 1, p, n => cVwL u y z k (p + 1) (if ¬ cWf u p y = 0 ∧ u 14 p = z then n + u 11 p else n)
def cVw (u : MM) (y z : Int32) : Int32 := cVwL u y z (npN u) 0 0
def cBaL (u : MM) (y : Int32) : Nat → Nat → Int32 → Int32
  | 0, _, n => n
  | k + 1, h, n => cBaL u y k (h + 1) (n + (cVw u y (nI h) + 12 - 1) / 12)

