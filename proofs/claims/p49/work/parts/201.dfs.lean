/-! the trial of all routes, and that it finds the best -/
def extB (D : PD) (x : Nat) (vis : List Nat) (l : Nat) : Bool := decide (l < dN D) && dO D l && (dF D l == x) && !(vis.contains (dT D l))
theorem extB_iff {D : PD} {x : Nat} {vis : List Nat} {l : Nat} : extB D x vis l = true ↔ extD D x vis l := by
  unfold extB extD
  simp [and_assoc]
def hubU (vis : List Nat) : Nat := (if 0 ∈ vis then 0 else 1) + (if 1 ∈ vis then 0 else 1) + (if 2 ∈ vis then 0 else 1) + (if 3 ∈ vis then 0 else 1) + (if 4 ∈ vis then 0 else 1) + (if 5 ∈ vis then 0 else 1)
theorem hubU_step {vis : List Nat} {t : Nat} (ht : t < 6) (hn : ¬ t ∈ vis) : hubU (t :: vis) + 1 ≤ hubU vis := by
  unfold hubU
  rcases (by omega : t = 0 ∨ t = 1 ∨ t = 2 ∨ t = 3 ∨ t = 4 ∨ t = 5) with rfl | rfl | rfl | rfl | rfl | rfl <;> simp [hn] <;> omega
theorem hubU_one {x : Nat} (hx : x < 6) : hubU [x] ≤ 5 := by
  have h := hubU_step (vis := []) hx (by simp)
  have e : hubU [] = 6 := rfl
  omega
theorem run_len {D : PD} (hD : PDok D) : ∀ (p : List Nat) (s s' : PS), run D p s s' → p.length + hubU s'.2.2.2 ≤ hubU s.2.2.2 := by
  intro p
  induction p with
  | nil => intro s s' h; rw [show s' = s from h]; simp
  | cons l p ih =>
    intro s s' h
    have a := ih _ s' h.2
    have b := hubU_step (hD.2.1 l h.1.1) h.1.2.2.2
    have c : (stepD D s l).2.2.2 = dT D l :: s.2.2.2 := rfl
    rw [c] at a
    show p.length + 1 + _ ≤ _
    omega
def better (b : Option (Nat × List Nat)) (a : Nat) (p : List Nat) : Option (Nat × List Nat) := match b with
  | none => some (a, p)
  | some (a0, p0) => if a < a0 ∨ (a = a0 ∧ p.length < p0.length) then some (a, p) else some (a0, p0)
def dfsL (rec : Option (Nat × List Nat) → PS → List Nat → Option (Nat × List Nat)) (D : PD) (s : PS) (px : List Nat) : Nat → Nat → Option (Nat × List Nat) → Option (Nat × List Nat)
  | 0, _, b => b
  | k + 1, l, b => dfsL rec D s px k (l + 1) (if extB D s.1 s.2.2.2 l = true then rec b (stepD D s l) (px ++ [l]) else b)
def dfs (D : PD) (g : Nat) : Nat → Option (Nat × List Nat) → PS → List Nat → Option (Nat × List Nat)
  | 0, b, _, _ => b
  | d + 1, b, s, px => if s.1 = g then better b s.2.1 px else dfsL (fun b' s' p' => dfs D g d b' s' p') D s px (dN D) 0 b
/-- sets with the same goals -/
theorem isBest.congr {D : PD} {s0 : PS} {g : Nat} {P Q : List Nat → Prop} {b : Option (Nat × List Nat)} (h : isBest D s0 g P b) (hPQ : ∀ q t, run D q s0 t → t.1 = g → (P q ↔ Q q)) : isBest D s0 g Q b := by
  cases b with
  | none =>
    intro q t hq hr e
    exact h q t ((hPQ q t hr e).mpr hq) hr e
  | some x =>
    obtain ⟨a, p⟩ := x
    obtain ⟨⟨t, h1, h2, h3, h4⟩, h5⟩ := h
    exact ⟨⟨t, (hPQ p t h2 h3).mp h1, h2, h3, h4⟩, fun q t hq hr e => h5 q t ((hPQ q t hr e).mpr hq) hr e⟩
theorem isBest.better {D : PD} {s0 s : PS} {g : Nat} {P : List Nat → Prop} {b : Option (Nat × List Nat)} {px : List Nat} (h : isBest D s0 g P b) (hr : run D px s0 s) (hg : s.1 = g) (hlex : ∀ q t, P q → run D q s0 t → t.1 = g → q.length = px.length → pcode q < pcode px) : isBest D s0 g (fun q => P q ∨ q = px) (better b s.2.1 px) := by
  cases b with
  | none =>
    refine ⟨⟨s, Or.inr rfl, hr, hg, rfl⟩, fun q t hq hrq e => ?_⟩
    rcases hq with hq | rfl
    · exact absurd e (h q t hq hrq)
    · rw [run_det D q s0 t s hrq hr]; exact kle_refl _
  | some x =>
    obtain ⟨a0, p0⟩ := x
    obtain ⟨⟨t0, k1, k2, k3, k4⟩, k5⟩ := h
    show isBest D s0 g _ (if _ then _ else _)
    by_cases c : s.2.1 < a0 ∨ (s.2.1 = a0 ∧ px.length < p0.length)
    · rw [if_pos c]
      refine ⟨⟨s, Or.inr rfl, hr, hg, rfl⟩, fun q t hq hrq e => ?_⟩
      rcases hq with hq | rfl
      · refine kle_trans ?_ (k5 q t hq hrq e)
        unfold kle
        dsimp only
        omega
      · rw [run_det D q s0 t s hrq hr]; exact kle_refl _
    · rw [if_neg c]
      refine ⟨⟨t0, Or.inl k1, k2, k3, k4⟩, fun q t hq hrq e => ?_⟩
      rcases hq with hq | rfl
      · exact k5 q t hq hrq e
      · rw [run_det D q s0 t s hrq hr]
        have hl := hlex p0 t0 k1 k2 k3
        unfold kle keyD
        dsimp only
        by_cases z : p0.length = q.length
        · have := hl z
          omega
        · omega
theorem dfs_best {D : PD} (hD : PDok D) {s0 : PS} {g : Nat} (h0 : hubU s0.2.2.2 ≤ 5) (hv0 : s0.1 ∈ s0.2.2.2) : ∀ (d : Nat) (b : Option (Nat × List Nat)) (s : PS) (px : List Nat) (P : List Nat → Prop), run D px s0 s → 6 ≤ d + px.length → isBest D s0 g P b →
    (∀ q t r t', P q → run D q s0 t → t.1 = g → run D (px ++ r) s0 t' → t'.1 = g → q.length = (px ++ r).length → pcode q < pcode (px ++ r)) → isBest D s0 g (fun q => P q ∨ ∃ r, q = px ++ r) (dfs D g d b s px) := by
  intro d
  induction d with
  | zero =>
    intro b s px P hr hd _ _
    have := run_len hD px s0 s hr
    omega
  | succ d ih =>
    intro b s px P hr hd hb hlex
    have hvs := run_vis px s0 s hr hv0
    simp only [dfs]
    by_cases hg : s.1 = g
    · rw [if_pos hg]
      refine (hb.better hr hg (fun q t hq hrq e hl => ?_)).congr (fun q t hrq e => ⟨fun z => z.imp id (fun w => ⟨[], by rw [w, List.append_nil]⟩), fun z => z.imp id (fun ⟨r, w⟩ => ?_)⟩)
      · have := hlex q t [] s hq hrq e (by rw [List.append_nil]; exact hr) hg (by rw [List.append_nil]; exact hl)
        rw [List.append_nil] at this
        exact this
      · subst w
        by_cases hnil : r = []
        · rw [hnil, List.append_nil]
        · obtain ⟨t2, g1, g2⟩ := (run_app D px r s0 t).mp hrq
          rw [run_det D px s0 t2 s g1 hr] at g2
          exact absurd (e.trans hg.symm) (run_new r s t g2 hnil s.1 hvs.1)
    · rw [if_neg hg]
      have key : ∀ (k l : Nat) (b : Option (Nat × List Nat)), l + k = dN D → isBest D s0 g (fun q => P q ∨ ∃ l' r, l' < l ∧ q = px ++ l' :: r) b → isBest D s0 g (fun q => P q ∨ ∃ l' r, l' < dN D ∧ q = px ++ l' :: r) (dfsL (fun b' s' p' => dfs D g d b' s' p') D s px k l b) := by
        intro k
        induction k with
        | zero =>
          intro l b hl hb
          rw [show dN D = l by omega]
          exact hb
        | succ k ihk =>
          intro l b hl hb
          simp only [dfsL]
          refine ihk (l + 1) _ (by omega) ?_
          by_cases he : extB D s.1 s.2.2.2 l = true
          · rw [if_pos he]
            have hrl : run D (px ++ [l]) s0 (stepD D s l) := (run_app D px [l] s0 _).mpr ⟨s, hr, extB_iff.mp he, rfl⟩
            have h2 := ih b (stepD D s l) (px ++ [l]) (fun q => P q ∨ ∃ l' r, l' < l ∧ q = px ++ l' :: r) hrl (by rw [List.length_append, List.length_singleton]; omega) hb (fun q t r t' hq hrq e hr' e' hlen => ?_)
            · refine h2.congr (fun q t hrq e => ⟨fun z => ?_, fun z => ?_⟩)
              · rcases z with (z | ⟨l', r, z1, z2⟩) | ⟨r, z⟩
                · exact Or.inl z
                · exact Or.inr ⟨l', r, by omega, z2⟩
                · exact Or.inr ⟨l, r, by omega, by rw [z]; simp⟩
              · rcases z with z | ⟨l', r, z1, z2⟩
                · exact Or.inl (Or.inl z)
                · by_cases w : l' = l
                  · exact Or.inr ⟨r, by rw [z2, w]; simp⟩
                  · exact Or.inl (Or.inr ⟨l', r, by omega, z2⟩)
            · have e3 : (px ++ [l]) ++ r = px ++ ([l] ++ r) := by simp
              rcases hq with hq | ⟨l', r', z1, rfl⟩
              · rw [e3] at hr' hlen ⊢
                exact hlex q t ([l] ++ r) t' hq hrq e hr' e' hlen
              · rw [show (px ++ [l]) ++ r = px ++ l :: r by simp] at hlen ⊢
                refine code_lex px r' r z1 ?_ (fun y hy => ?_)
                · simp at hlen; exact hlen
                · have hn := hD.1
                  exact Nat.lt_of_lt_of_le (run_lt _ s0 t hrq y (by simp [hy])) (by omega)
          · rw [if_neg he]
            refine hb.congr (fun q t hrq e => ⟨fun z => z.imp id (fun ⟨l', r, z1, z2⟩ => ⟨l', r, by omega, z2⟩), fun z => z.imp id (fun ⟨l', r, z1, z2⟩ => ?_)⟩)
            by_cases w : l' = l
            · subst z2
              subst w
              obtain ⟨t2, g1, g2⟩ := (run_app D px (l' :: r) s0 t).mp hrq
              rw [run_det D px s0 t2 s g1 hr] at g2
              exact absurd (extB_iff.mpr g2.1) he
            · exact ⟨l', r, by omega, z2⟩
      refine (key (dN D) 0 b (by omega) (hb.congr (fun q t _ _ => ⟨Or.inl, fun z => z.elim id (fun ⟨l', r, z1, _⟩ => by omega)⟩))).congr (fun q t hrq e => ⟨fun z => z.imp id (fun ⟨l', r, _, z2⟩ => ⟨l' :: r, z2⟩), fun z => z.imp id (fun ⟨r, z2⟩ => ?_)⟩)
      subst z2
      cases r with
      | nil =>
        rw [List.append_nil] at hrq
        rw [run_det D px s0 t s hrq hr] at e
        exact absurd e hg
      | cons l' r =>
        obtain ⟨t2, g1, g2⟩ := (run_app D px (l' :: r) s0 t).mp hrq
        exact ⟨l', r, g2.1.1, rfl⟩
theorem dfs_all {D : PD} (hD : PDok D) {s0 : PS} {g : Nat} (h0 : hubU s0.2.2.2 ≤ 5) (hv0 : s0.1 ∈ s0.2.2.2) : isBest D s0 g (fun _ => True) (dfs D g 6 none s0 []) := by
  refine (dfs_best hD h0 hv0 6 none s0 [] (fun _ => False) rfl (by simp) (fun q t hq => absurd hq id) (fun q t r t' hq => absurd hq id)).congr (fun q t _ _ => ⟨fun _ => trivial, fun _ => Or.inr ⟨q, rfl⟩⟩)

