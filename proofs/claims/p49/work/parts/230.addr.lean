/-! codes and addresses: digits -/
theorem digs_0 : ∀ (n : Nat) (k : Int32), digs n k 0 = 0 := by
  intro n
  induction n with
  | zero => intro k; rfl
  | succ n ih =>
    intro k
    simp only [digs]
    split
    · rfl
    · rw [Int32.zero_and, ih]
theorem digs_1 : ∀ (n : Nat) (k : Int32), digs n k 1 = wz n k := by
  intro n
  induction n with
  | zero => intro k; rfl
  | succ n ih =>
    intro k
    simp only [digs, wz]
    by_cases c : k ≤ 0
    · rw [if_pos c, if_pos c]
    · rw [if_neg c, if_neg c]
      by_cases d : k - k / 10 * 10 = 0
      · rw [if_pos d, if_pos d, show (1 : Int32) &&& 0 = 0 by decide, digs_0]
      · rw [if_neg d, if_neg d, show (1 : Int32) &&& 1 = 1 by decide, ih]
theorem dg_eq (x lo hi : Int32) : (if inn x lo hi = true ∧ ¬ cWz x = 0 then (1 : Int32) else 0) = 0 ↔ isDg x lo hi = 0 := by
  unfold isDg cWz
  by_cases a : inn x lo hi = true
  · rw [bi_t a, digs_1]
    by_cases b : wz 11 x = 0
    · rw [if_neg (fun q => q.2 b)]; exact ⟨fun _ => b, fun _ => rfl⟩
    · rw [if_pos ⟨a, b⟩]; exact ⟨fun q => absurd q (by decide), fun q => absurd q b⟩
  · rw [bi_f a, digs_0, if_neg (fun q => a q.1)]
theorem cod_eq (x : Int32) : cCod x = 0 ↔ isDg x 1 999 = 0 := dg_eq x 1 999
theorem adr_eq (x : Int32) : cAdr x = 0 ↔ isAd x = 0 := dg_eq x 1000 9999
/-! is a code taken -/
theorem hwL_eq {n : Nat} {c m : MM} (h : Sim n c m) (x : Int32) : ∀ (k i : Nat) (is : Int32), i + k ≤ nhN m → i + k < 2 ^ 31 → (is = 0 ∨ is = 1) → hasCode m x k i is = if is = 1 ∨ ¬ cHwL c x k i = -1 then 1 else 0 := by
  intro k
  induction k with
  | zero =>
    intro i is _ _ his
    have eL : cHwL c x 0 i = -1 := rfl
    rw [eL]
    show is = _
    rcases his with rfl | rfl <;> decide
  | succ k ih =>
    intro i is hi h31 his
    have e0 : c 0 i = m 0 i := (h.1.1.2.2.1 i (by omega)).1
    have eL : cHwL c x (k + 1) i = if m 0 i = x then nI i else cHwL c x k (i + 1) := by rw [← e0]; rfl
    show hasCode m x k (i + 1) (is ||| bi (m 0 i = x)) = _
    by_cases z : m 0 i = x
    · have e1 : is ||| bi (m 0 i = x) = 1 := by rw [bi_t z]; rcases his with rfl | rfl <;> decide
      rw [if_pos z] at eL
      rw [e1, eL, ih (i + 1) 1 (by omega) (by omega) (Or.inr rfl), if_pos (Or.inl rfl), if_pos (Or.inr (nI_nm (by omega)))]
    · have e1 : is ||| bi (m 0 i = x) = is := by rw [bi_f z]; rcases his with rfl | rfl <;> decide
      rw [if_neg z] at eL
      rw [e1, eL]
      exact ih (i + 1) is (by omega) (by omega) his

