/-! the order of the queue, as the law's numbers say it -/
theorem nI_sbI {a b : Nat} (ha : a < 2 ^ 30) (hb : b < 2 ^ 30) : (nI a - nI b).toInt = (a : Int) - b := by
  rw [Int32.toInt_sub, nI_toInt (by omega), nI_toInt (by omega), Int.bmod_eq_of_le (by omega) (by omega)]
theorem nI_sb0 {a b : Nat} (ha : a < 2 ^ 30) (hb : b < 2 ^ 30) : nI a - nI b = 0 ↔ a = b := by
  rw [← Int32.toInt_inj, nI_sbI ha hb]
  have : (0 : Int32).toInt = 0 := rfl
  omega
theorem nI_sbl {a b : Nat} (ha : a < 2 ^ 30) (hb : b < 2 ^ 30) : nI a - nI b < 0 ↔ a < b := by
  rw [Int32.lt_iff_toInt_lt, nI_sbI ha hb]
  have : (0 : Int32).toInt = 0 := rfl
  omega
def prL (m : MM) (p : Nat) : Int32 := if m 20 p < 0 then 1000000 else m 20 p
theorem prL_nat {m : MM} {p : Nat} (h : IVp m p) : (m 20 p = -1 ∧ prL m p = nI 1000000) ∨ ∃ a, a ≤ 900000 ∧ m 20 p = nI a ∧ prL m p = nI a := by
  rcases h.2.1 with e | e
  · exact Or.inl ⟨e, by unfold prL; rw [e, if_pos (by decide)]; rfl⟩
  · refine Or.inr ⟨_, e.2.2, e.1, ?_⟩
    unfold prL
    rw [if_neg (fun z => by rw [e.1, show (0 : Int32) = nI 0 from rfl, nI_ltI (by have := e.2.2; omega) (by omega)] at z; omega)]
    exact e.1
def ahL (m : MM) (p q : Nat) : Int32 := if ¬ m 12 p - m 12 q = 0 then bi (m 12 p - m 12 q < 0) else if ¬ prL m p - prL m q = 0 then bi (prL m p - prL m q < 0) else bi (p < q)
theorem ahL_eq {m : MM} {p q : Nat} (hp : IVp m p) (hq : IVp m q) : ahL m p q = bi (ahead m p q) := by
  obtain ⟨a, a1, a2⟩ : ∃ a, m 12 p = nI a ∧ a ≤ 2 := ⟨_, hp.2.2.2.1.1, hp.2.2.2.1.2.2⟩
  obtain ⟨b, b1, b2⟩ : ∃ a, m 12 q = nI a ∧ a ≤ 2 := ⟨_, hq.2.2.2.1.1, hq.2.2.2.1.2.2⟩
  have s12 : m 12 p - m 12 q = 0 ↔ a = b := by rw [a1, b1]; exact nI_sb0 (by omega) (by omega)
  have s12' := nI_eq (a := a) (b := b) (by omega) (by omega)
  unfold ahL
  by_cases z : a = b
  · have hA : ahead m p q ↔ if ¬ m 20 p = m 20 q then (m 20 q < 0 ∨ (0 ≤ m 20 p ∧ m 20 p < m 20 q)) else p < q := by
      unfold ahead
      rw [if_neg (fun w => w (by rw [a1, b1, z]))]
    rw [bi_c hA, if_neg (fun w => w (s12.mpr z))]
    have k0 : ∀ x, x < 2 ^ 31 → ¬ nI x < 0 := fun x hx w => by rw [show (0 : Int32) = nI 0 from rfl, nI_ltI hx (by omega)] at w; omega
    have k1 : ∀ x, x < 2 ^ 31 → 0 ≤ nI x := fun x hx => Int32.not_lt.mp (k0 x hx)
    by_cases g : m 20 p = m 20 q
    · have hP : prL m p = prL m q := by unfold prL; rw [g]
      rw [if_neg (fun w => w (by rw [hP]; exact Int32.sub_self _))]
      exact bi_c (by rw [if_neg (fun w => w g)])
    · have hB : (if ¬ m 20 p = m 20 q then (m 20 q < 0 ∨ (0 ≤ m 20 p ∧ m 20 p < m 20 q)) else p < q) ↔ (m 20 q < 0 ∨ (0 ≤ m 20 p ∧ m 20 p < m 20 q)) := by rw [if_pos g]
      rw [bi_c hB]
      rcases prL_nat hp with ⟨e1, e2⟩ | ⟨x, x1, x2, x3⟩ <;> rcases prL_nat hq with ⟨f1, f2⟩ | ⟨y, y1, y2, y3⟩
      · exact absurd (e1.trans f1.symm) g
      · rw [if_pos (fun w => by rw [e2, y3, nI_sb0 (by omega) (by omega)] at w; omega)]
        refine bi_c ⟨fun w => ?_, fun w => ?_⟩
        · rw [e2, y3, nI_sbl (by omega) (by omega)] at w; omega
        · rw [e1, y2] at w
          exact w.elim (fun w => absurd w (k0 y (by omega))) (fun w => absurd w.1 (by decide))
      · rw [if_pos (fun w => by rw [x3, f2, nI_sb0 (by omega) (by omega)] at w; omega)]
        exact bi_c ⟨fun w => Or.inl (by rw [f1]; decide), fun w => by rw [x3, f2, nI_sbl (by omega) (by omega)]; omega⟩
      · have h9 : ¬ x = y := fun w => g (by rw [x2, y2, w])
        rw [if_pos (fun w => by rw [x3, y3, nI_sb0 (by omega) (by omega)] at w; omega)]
        refine bi_c ?_
        rw [x3, y3, x2, y2, nI_sbl (by omega) (by omega), nI_ltI (by omega) (by omega)]
        exact ⟨fun g => Or.inr ⟨k1 x (by omega), g⟩, fun g => g.elim (fun g => absurd g (k0 y (by omega))) (fun g => g.2)⟩
  · have hA : ahead m p q ↔ m 12 p < m 12 q := by
      unfold ahead
      rw [if_pos (fun w => z (s12'.mp (by rw [← a1, ← b1, w])))]
    rw [bi_c hA, if_pos (fun w => z (s12.mp w))]
    refine bi_c ?_
    rw [a1, b1, nI_sbl (by omega) (by omega), nI_ltI (by omega) (by omega)]
