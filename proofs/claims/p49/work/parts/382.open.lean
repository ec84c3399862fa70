/-! hubs are opened -/
theorem hasCode_no {m : MM} {x : Int32} : ∀ (k i : Nat), (∀ j, i ≤ j → j < i + k → ¬ m 0 j = x) → hasCode m x k i 0 = 0 := by
  intro k
  induction k with
  | zero => intro i _; rfl
  | succ k ih =>
    intro i h
    simp only [hasCode]
    rw [bi_f (h i (Nat.le_refl _) (by omega)), show (0 : Int32) ||| 0 = 0 by decide]
    exact ih (i + 1) (fun j a b => h j (by omega) (by omega))
def OpP (m m' : MM) (cd co : Int32) : Prop := m' 37 0 = nI (nhN m + 1) ∧ (∀ k, k ≠ 0 → k ≠ 1 → k ≠ 37 → k ≠ 45 → m' k = m k) ∧ (∀ i, m' 0 i = if i = nhN m then cd else m 0 i) ∧ ∀ i, m' 1 i = if i = nhN m then co else m 1 i
theorem code_ok : ∀ k, k < 6 → ¬ isDg (nI (codeN k)) 1 999 = 0 := by decide +kernel
theorem kod_n {X : Option String} (h : X = none ∨ X = some iaeC ∨ X = some iseC) (h0 : kod [iaeC, iseC] X = 0) : X = none := by
  rcases h with e | e | e
  · exact e
  · rw [e] at h0; exact absurd h0 (by decide)
  · rw [e] at h0; exact absurd h0 (by decide)
theorem d_open {n : Nat} {c m : MM} (h : Stt n c m) (hc : WFc c) (hnh : nhN m < 6) (hnp : npN m = 0) {cd co : Nat} (hcd : ¬ isDg (nI cd) 1 999 = 0) (hco : 1 ≤ co ∧ co ≤ 20) (hno : ∀ j, j < nhN m → ¬ m 0 j = nI cd) :
    xOpH c (nI cd) (nI co) = none ∧ ∃ m', Stt (n + 1) (cHb c (nI cd) (nI co)) m' ∧ OpP m m' (nI cd) (nI co) := by
  obtain ⟨hS, hw, hI⟩ := h
  have j1 : inn (nI co) 1 20 = true := inn_of (a := 1) (b := 20) hco.1 hco.2 (by omega)
  have hhc : hasCode m (nI cd) (nhN m) 0 0 = 0 := hasCode_no (nhN m) 0 (fun j _ hj => hno j (by omega))
  have e37 := hw.nh.1
  have q := call_openHub hS hw hc (nI cd) (nI co)
  have qw := (rw_open hw (nI cd) (nI co)).1
  have e := fOpen_eq hw (a := nI cd) (b := nI co) (fun z => z.elim hcd (fun w => w j1)) (fun z => z.elim (fun w => w hhc) (fun w => by rw [e37] at w; have := (nI_eq (b := 6) (by omega) (by omega)).mp w; omega))
  rw [e] at q qw
  dsimp only at q qw
  obtain ⟨N, hN⟩ : ∃ N, N = thr (thr m 0 1) 0 2 := ⟨_, rfl⟩
  have mk : ∀ k, k ≠ 45 → N k = m k := fun k hk => by rw [hN, thrk _ _ _ hk, thrk _ _ _ hk]
  have nN : nhN N = nhN m := nhN_ext (mk 37 (by omega))
  rw [← hN] at q qw
  have hX : xOpH c (nI cd) (nI co) = none := by
    refine kod_n ?_ ?_
    · unfold xOpH
      split
      · exact Or.inr (Or.inl rfl)
      · split
        · exact Or.inr (Or.inr rfl)
        · exact Or.inl rfl
    · rw [← q.1]
      show mOpn N (nI cd) (nI co) 45 0 = 0
      unfold mOpn
      rw [up_k (by omega), up_k (by omega), up_k (by omega), hN, thr45]
      rfl
  have q2 := q.2.2
  rw [if_pos hX] at q2
  dsimp only at q2
  have kF : ∀ k, k ≠ 0 → k ≠ 1 → k ≠ 37 → mOpn N (nI cd) (nI co) k = N k := fun k a b d => by unfold mOpn; rw [up_key d, up_key b, up_key a]
  refine ⟨hX, _, ⟨q2, qw, fun p hp => ?_⟩, ?_, fun k a b d e => by rw [kF k a b d, mk k e], fun i => ?_, fun i => ?_⟩
  · rw [npN_ext (kF 39 (by omega) (by omega) (by omega)), npN_ext (mk 39 (by omega)), hnp] at hp
    exact absurd hp (Nat.not_lt_zero _)
  · unfold mOpn; rw [up_s, nN]
  · unfold mOpn
    rw [up_k (by omega), up_k (by omega), nN]
    by_cases z : i = nhN m
    · rw [z, up_s, if_pos rfl]
    · rw [up_i z, if_neg z, mk 0 (by omega)]
  · unfold mOpn
    rw [up_k (by omega), nN]
    by_cases z : i = nhN m
    · rw [z, up_s, if_pos rfl]
    · rw [up_i z, if_neg z, up_k (by omega), mk 1 (by omega)]
