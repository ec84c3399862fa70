/-! paths, abstractly: D = (lines, open, from, to, arrival of line l for one who is ready at r, ready at hub x for one who arrives at a) -/
abbrev PD : Type := Nat × (Nat → Bool) × (Nat → Nat) × (Nat → Nat) × (Nat → Nat → Nat) × (Nat → Nat → Nat)
def dN (D : PD) : Nat := D.1
def dO (D : PD) : Nat → Bool := D.2.1
def dF (D : PD) : Nat → Nat := D.2.2.1
def dT (D : PD) : Nat → Nat := D.2.2.2.1
def dA (D : PD) : Nat → Nat → Nat := D.2.2.2.2.1
def dR (D : PD) : Nat → Nat → Nat := D.2.2.2.2.2
/-- what is asked of D: at most 12 lines between at most 6 hubs; time goes on -/
def PDok (D : PD) : Prop := dN D ≤ 12 ∧ (∀ l, l < dN D → dT D l < 6) ∧ (∀ l r, l < dN D → r < dA D l r) ∧ ∀ x a, a ≤ dR D x a
def extD (D : PD) (x : Nat) (vis : List Nat) (l : Nat) : Prop := l < dN D ∧ dO D l = true ∧ dF D l = x ∧ ¬ dT D l ∈ vis
theorem extD_dec (D : PD) (x : Nat) (vis : List Nat) (l : Nat) : extD D x vis l ∨ ¬ extD D x vis l := Classical.em _
/-- a state on the way: hub, now, ready, visited -/
abbrev PS : Type := Nat × Nat × Nat × List Nat
def stepD (D : PD) (s : PS) (l : Nat) : PS := (dT D l, dA D l s.2.2.1, dR D (dT D l) (dA D l s.2.2.1), dT D l :: s.2.2.2)
/-- the route p can be gone from s, and ends in s' -/
def run (D : PD) : List Nat → PS → PS → Prop
  | [], s, s' => s' = s
  | l :: p, s, s' => extD D s.1 s.2.2.2 l ∧ run D p (stepD D s l) s'
theorem run_app (D : PD) : ∀ (p q : List Nat) (s s' : PS), run D (p ++ q) s s' ↔ ∃ t, run D p s t ∧ run D q t s' := by
  intro p
  induction p with
  | nil => intro q s s'; exact ⟨fun h => ⟨s, rfl, h⟩, fun ⟨t, h1, h2⟩ => by rw [show t = s from h1] at h2; exact h2⟩
  | cons l p ih =>
    intro q s s'
    show extD D s.1 s.2.2.2 l ∧ run D (p ++ q) (stepD D s l) s' ↔ _
    rw [ih]
    exact ⟨fun ⟨h1, t, h2, h3⟩ => ⟨t, ⟨h1, h2⟩, h3⟩, fun ⟨t, ⟨h1, h2⟩, h3⟩ => ⟨h1, t, h2, h3⟩⟩
theorem run_one (D : PD) (l : Nat) (s s' : PS) : run D [l] s s' ↔ extD D s.1 s.2.2.2 l ∧ s' = stepD D s l := Iff.rfl
theorem run_det (D : PD) : ∀ (p : List Nat) (s a b : PS), run D p s a → run D p s b → a = b := by
  intro p
  induction p with
  | nil => intro s a b h1 h2; rw [show a = s from h1, show b = s from h2]
  | cons l p ih => intro s a b h1 h2; exact ih _ a b h1.2 h2.2
/-- now is not behind ready -/
def PSok (s : PS) : Prop := s.2.1 ≤ s.2.2.1
theorem PSok.step {D : PD} (hD : PDok D) (s : PS) (l : Nat) : PSok (stepD D s l) := hD.2.2.2 _ _
theorem run_time {D : PD} (hD : PDok D) : ∀ (p : List Nat) (s s' : PS), PSok s → run D p s s' → PSok s' ∧ s.2.1 + p.length ≤ s'.2.1 := by
  intro p
  induction p with
  | nil => intro s s' hs h; rw [show s' = s from h]; exact ⟨hs, Nat.le_refl _⟩
  | cons l p ih =>
    intro s s' hs h
    obtain ⟨h1, h2⟩ := h
    obtain ⟨a, b⟩ := ih _ s' (PSok.step hD s l) h2
    refine ⟨a, ?_⟩
    have h3 := hD.2.2.1 l s.2.2.1 h1.1
    have h4 : (stepD D s l).2.1 = dA D l s.2.2.1 := rfl
    have h5 : s.2.1 ≤ s.2.2.1 := hs
    rw [h4] at b
    show s.2.1 + (p.length + 1) ≤ _
    omega
theorem run_lt {D : PD} : ∀ (p : List Nat) (s s' : PS), run D p s s' → ∀ l, l ∈ p → l < dN D := by
  intro p
  induction p with
  | nil => intro s s' _ l hl; cases hl
  | cons k p ih =>
    intro s s' h l hl
    rcases List.mem_cons.mp hl with e | e
    · rw [e]; exact h.1.1
    · exact ih _ s' h.2 l e
/-- the hub is among those visited -/
theorem run_vis {D : PD} : ∀ (p : List Nat) (s s' : PS), run D p s s' → s.1 ∈ s.2.2.2 → s'.1 ∈ s'.2.2.2 ∧ ∀ x, x ∈ s.2.2.2 → x ∈ s'.2.2.2 := by
  intro p
  induction p with
  | nil => intro s s' h hs; rw [show s' = s from h]; exact ⟨hs, fun _ z => z⟩
  | cons l p ih =>
    intro s s' h hs
    obtain ⟨a, b⟩ := ih _ s' h.2 (List.mem_cons_self)
    exact ⟨a, fun x hx => b x (List.mem_cons_of_mem _ hx)⟩
/-- none comes back to a hub -/
theorem run_new {D : PD} : ∀ (p : List Nat) (s s' : PS), run D p s s' → p ≠ [] → ∀ x, x ∈ s.2.2.2 → s'.1 ≠ x := by
  intro p
  induction p with
  | nil => intro s s' _ h; exact absurd rfl h
  | cons l p ih =>
    intro s s' h _ x hx
    cases p with
    | nil =>
      rw [show s' = stepD D s l from h.2]
      intro e
      exact h.1.2.2.2 (by rw [show dT D l = x from e]; exact hx)
    | cons k p => exact ih _ s' h.2 (by simp) x (List.mem_cons_of_mem _ hx)
/-! the worth of a route: its end, its length, its number -/
def pcode (p : List Nat) : Nat := p.foldl (fun c l => c * 16 + l) 0
theorem snoc_ind {P : List Nat → Prop} (h0 : P []) (hs : ∀ p a, P p → P (p ++ [a])) : ∀ p, P p := by
  have h : ∀ (n : Nat) (p : List Nat), p.length = n → P p := by
    intro n
    induction n with
    | zero => intro p hp; rw [List.length_eq_zero_iff.mp hp]; exact h0
    | succ n ih =>
      intro p hp
      rcases List.eq_nil_or_concat p with rfl | ⟨p', a, rfl⟩
      · cases hp
      · rw [List.concat_eq_append] at *
        rw [List.length_append, List.length_singleton] at hp
        exact hs p' a (ih p' (by omega))
  exact fun p => h p.length p rfl
theorem code_snoc (p : List Nat) (l : Nat) : pcode (p ++ [l]) = pcode p * 16 + l := by unfold pcode; rw [List.foldl_append]; rfl
abbrev KY : Type := Nat × Nat × Nat
def kle (a b : KY) : Prop := a.1 < b.1 ∨ (a.1 = b.1 ∧ (a.2.1 < b.2.1 ∨ (a.2.1 = b.2.1 ∧ a.2.2 ≤ b.2.2)))
theorem kle_refl (a : KY) : kle a a := Or.inr ⟨rfl, Or.inr ⟨rfl, Nat.le_refl _⟩⟩
theorem kle_trans {a b c : KY} (h : kle a b) (g : kle b c) : kle a c := by unfold kle at *; omega
theorem kle_anti {a b : KY} (h : kle a b) (g : kle b a) : a = b := by
  obtain ⟨a1, a2, a3⟩ := a
  obtain ⟨b1, b2, b3⟩ := b
  unfold kle at *
  dsimp only at *
  have e1 : a1 = b1 := by omega
  have e2 : a2 = b2 := by omega
  have e3 : a3 = b3 := by omega
  rw [e1, e2, e3]
theorem kle_total (a b : KY) : kle a b ∨ kle b a := by unfold kle; omega
def keyD (s : PS) (p : List Nat) : KY := (s.2.1, p.length, pcode p)
theorem code_inj : ∀ (n : Nat) (p q : List Nat), p.length = n → q.length = n → (∀ l, l ∈ p → l < 16) → (∀ l, l ∈ q → l < 16) → pcode p = pcode q → p = q := by
  intro n
  induction n with
  | zero =>
    intro p q hp hq _ _ _
    rw [List.length_eq_zero_iff.mp hp, List.length_eq_zero_iff.mp hq]
  | succ n ih =>
    intro p q hp hq h1 h2 e
    rcases List.eq_nil_or_concat p with rfl | ⟨p', a, rfl⟩
    · cases hp
    · rcases List.eq_nil_or_concat q with rfl | ⟨q', b, rfl⟩
      · cases hq
      · rw [List.concat_eq_append] at *
        rw [List.concat_eq_append] at *
        rw [code_snoc, code_snoc] at e
        have ha := h1 a (by simp)
        have hb := h2 b (by simp)
        have e1 : a = b := by omega
        have e2 : pcode p' = pcode q' := by omega
        rw [List.length_append, List.length_singleton] at hp hq
        rw [ih p' q' (by omega) (by omega) (fun l hl => h1 l (by simp [hl])) (fun l hl => h2 l (by simp [hl])) e2, e1]
theorem code_lt : ∀ (p : List Nat), (∀ l, l ∈ p → l < 16) → pcode p < 16 ^ p.length := by
  refine snoc_ind (fun _ => by decide) (fun p a ih h => ?_)
  rw [code_snoc, List.length_append, List.length_singleton, Nat.pow_succ]
  have := ih (fun l hl => h l (by simp [hl]))
  have := h a (by simp)
  omega
theorem code_app (p : List Nat) : ∀ q : List Nat, pcode (p ++ q) = pcode p * 16 ^ q.length + pcode q := by
  refine snoc_ind (by simp [pcode]) (fun q a ih => ?_)
  rw [← List.append_assoc, code_snoc, ih, code_snoc, List.length_append, List.length_singleton, Nat.pow_succ, Nat.add_mul, Nat.mul_assoc]
  omega
/-- of two routes of one length the one that turns off earlier, to a lower line, has the lower number -/
theorem code_lex (p : List Nat) {a b : Nat} (q q' : List Nat) (hab : a < b) (hl : q.length = q'.length) (hq : ∀ l, l ∈ q → l < 16) : pcode (p ++ a :: q) < pcode (p ++ b :: q') := by
  rw [show p ++ a :: q = (p ++ [a]) ++ q by simp, show p ++ b :: q' = (p ++ [b]) ++ q' by simp, code_app (p ++ [a]) q, code_app (p ++ [b]) q', code_snoc, code_snoc, ← hl]
  have h1 := code_lt q hq
  have h2 : (pcode p * 16 + a + 1) * 16 ^ q.length ≤ (pcode p * 16 + b) * 16 ^ q.length := Nat.mul_le_mul_right _ (by omega)
  rw [Nat.add_mul] at h2
  omega
/-! the best of the routes of which P speaks, to the hub g -/
def isBest (D : PD) (s0 : PS) (g : Nat) (P : List Nat → Prop) (b : Option (Nat × List Nat)) : Prop :=
  match b with
  | none => ∀ q t, P q → run D q s0 t → t.1 ≠ g
  | some (a, p) => (∃ t, P p ∧ run D p s0 t ∧ t.1 = g ∧ t.2.1 = a) ∧ ∀ q t, P q → run D q s0 t → t.1 = g → kle (a, p.length, pcode p) (keyD t q)
theorem isBest.uniq {D : PD} (hD : PDok D) {s0 : PS} {g : Nat} {b c : Option (Nat × List Nat)} (hb : isBest D s0 g (fun _ => True) b) (hc : isBest D s0 g (fun _ => True) c) : b = c := by
  cases b with
  | none =>
    cases c with
    | none => rfl
    | some y => obtain ⟨⟨t, -, h1, h2, -⟩, -⟩ := hc; exact absurd h2 (hb _ t trivial h1)
  | some x =>
    cases c with
    | none => obtain ⟨⟨t, -, h1, h2, -⟩, -⟩ := hb; exact absurd h2 (hc _ t trivial h1)
    | some y =>
      obtain ⟨a, p⟩ := x
      obtain ⟨a', p'⟩ := y
      obtain ⟨⟨t, -, h1, h2, h3⟩, h4⟩ := hb
      obtain ⟨⟨t', -, g1, g2, g3⟩, g4⟩ := hc
      have k1 := h4 p' t' trivial g1 g2
      have k2 := g4 p t trivial h1 h2
      unfold keyD at k1 k2
      rw [g3] at k1
      rw [h3] at k2
      have e := kle_anti k1 k2
      have e1 : a = a' := congrArg (fun z => z.1) e
      have e2 : p.length = p'.length := congrArg (fun z => z.2.1) e
      have e3 : pcode p = pcode p' := congrArg (fun z => z.2.2) e
      have hn := hD.1
      rw [code_inj p.length p p' rfl e2.symm (fun l hl => Nat.lt_of_lt_of_le (run_lt p s0 t h1 l hl) (by omega)) (fun l hl => Nat.lt_of_lt_of_le (run_lt p' s0 t' g1 l hl) (by omega)) e3, e1]

