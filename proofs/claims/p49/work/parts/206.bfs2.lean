/-! the paths that the class has made -/
def kPth (k : Nat) : Prop := 130 ≤ k ∧ k ≤ 140
/-- the i-th path shows the route p, which ends in s -/
def PR1 (u : MM) (i : Nat) (p : List Nat) (s : PS) : Prop :=
  u 130 i = nI s.1 ∧ u 131 i = hd1 p ∧ u 132 i = nI s.2.1 ∧ u 133 i = nI p.length ∧ u 134 i = nI (pcode p) ∧ MK (u 135 i) s.2.2.2 ∧ (u 136 i = 0 ∨ u 136 i = 1)
def PRep (m0 : MM) (s0 : PS) (u : MM) (R : Nat → List Nat) (S : Nat → PS) (md : Nat) : Prop :=
  (∀ k, ¬ kPth k → u k = m0 k) ∧ u 140 0 = nI md ∧ (∀ i, i < md → run (pdC m0) (R i) s0 (S i) ∧ PR1 u i (R i) (S i)) ∧ (0 < md ∧ R 0 = [] ∧ S 0 = s0) ∧ ∀ i, 0 < i → i < md → R i ≠ []
/-- what is fixed while a search runs -/
def BFix (m0 : MM) (s0 : PS) : Prop := LNk m0 ∧ NBl m0 ∧ s0.1 < nhN m0 ∧ s0.2.2.2 = [s0.1] ∧ s0.2.1 ≤ s0.2.2.1 ∧ s0.2.2.1 < 2 ^ 19
theorem BFix.D {m0 : MM} {s0 : PS} (h : BFix m0 s0) : PDok (pdC m0) := pdM_ok h.1.nl (fun l hl => vp_mono (h.1.ln hl).2 h.1.nh) h.2.1
theorem BFix.U {m0 : MM} {s0 : PS} (h : BFix m0 s0) : hubU s0.2.2.2 ≤ 5 ∧ s0.1 ∈ s0.2.2.2 := by
  obtain ⟨h1, -, h3, h4, -⟩ := h
  have := h1.nh
  rw [h4]
  exact ⟨hubU_one (by omega), by simp⟩
/-- on a route: the hub is one of ours, times are small, no route is longer than five lines -/
theorem BFix.rn {m0 : MM} {s0 : PS} (h : BFix m0 s0) : ∀ (p : List Nat) (s : PS), run (pdC m0) p s0 s → s.1 < nhN m0 ∧ s.2.1 ≤ s.2.2.1 ∧ s.2.2.1 + 200 * (6 - p.length) < 2 ^ 20 ∧ p.length ≤ 5 ∧ s.1 ∈ s.2.2.2 ∧ hubU s.2.2.2 + p.length ≤ 5 := by
  have hD := h.D
  have hU := h.U
  obtain ⟨hw, hb, h3, h4, h5, h6⟩ := h
  have hlen : ∀ (p : List Nat) (s : PS), run (pdC m0) p s0 s → hubU s.2.2.2 + p.length ≤ 5 := fun p s hr => by
    have := run_len hD p s0 s hr
    omega
  refine snoc_ind (fun s hr => ?_) (fun p l ih s hr => ?_)
  · have e : s = s0 := hr
    subst e
    exact ⟨h3, h5, by simp; omega, by simp, hU.2, by have := hlen [] s hr; exact this⟩
  · obtain ⟨t, ht, hx⟩ := (run_app _ p [l] s0 s).mp hr
    obtain ⟨a1, a2, a3, a4, a5, a6⟩ := ih t ht
    have hl := hlen _ s hr
    obtain ⟨he, hs⟩ := (run_one _ l t s).mp hx
    have hlm : l < nlN m0 := he.1
    have l3 := vp_nat (hw.ln hlm).2
    have q1 := arr_le (op := fun l => decide (¬ m0 108 l = 0)) (r := t.2.2.1) hb hlm
    have q2 := rdy_le (op := fun l => decide (¬ m0 108 l = 0)) (a := dA (pdC m0) l t.2.2.1) hb l3
    have q1' : dA (pdC m0) l t.2.2.1 ≤ max 59 (t.2.2.1 + 60) + 60 := q1
    have q2' : dR (pdC m0) (vN (m0 3 l)) (dA (pdC m0) l t.2.2.1) ≤ dA (pdC m0) l t.2.2.1 + 20 := q2
    rw [List.length_append, List.length_singleton] at hl ⊢
    rw [hs] at hl ⊢
    refine ⟨l3, Nat.le_trans (Nat.le_succ _) (Nat.le_max_left _ _), ?_, by omega, List.mem_cons_self, hl⟩
    show dR (pdC m0) (vN (m0 3 l)) (dA (pdC m0) l t.2.2.1) + _ < _
    omega
theorem run_rd {D : PD} : ∀ (p : List Nat) (s s' : PS), p ≠ [] → run D p s s' → s'.2.2.1 = dR D s'.1 s'.2.1 := by
  intro p
  induction p with
  | nil => intro s s' h _; exact absurd rfl h
  | cons l p ih =>
    intro s s' _ h
    cases p with
    | nil => rw [show s' = stepD D s l from h.2]; rfl
    | cons k p => exact ih _ s' (by simp) h.2
theorem code_small {D : PD} (hD : PDok D) {p : List Nat} {s s' : PS} (h : run D p s s') (hl : p.length ≤ 5) : pcode p < 2 ^ 20 := by
  have h1 := code_lt p (fun l hm => by have := run_lt p s s' h l hm; have := hD.1; omega)
  have h2 : 16 ^ p.length ≤ 16 ^ 5 := Nat.pow_le_pow_right (by omega) hl
  have h3 : (16 : Nat) ^ 5 = 2 ^ 20 := by decide
  omega
theorem PR1.ext {u v : MM} {i : Nat} {p : List Nat} {s : PS} (h : PR1 u i p s) (e : ∀ k, 130 ≤ k → k ≤ 135 → v k i = u k i) (e6 : v 136 i = 0 ∨ v 136 i = 1) : PR1 v i p s := by
  obtain ⟨h1, h2, h3, h4, h5, h6, -⟩ := h
  exact ⟨by rw [e 130 (by omega) (by omega)]; exact h1, by rw [e 131 (by omega) (by omega)]; exact h2, by rw [e 132 (by omega) (by omega)]; exact h3, by rw [e 133 (by omega) (by omega)]; exact h4, by rw [e 134 (by omega) (by omega)]; exact h5, by rw [e 135 (by omega) (by omega)]; exact h6, e6⟩
/-- one line: either it goes on, to a new path, or it doesn't -/
theorem cExt1_rep {m0 u : MM} {s0 : PS} (hF : BFix m0 s0) {R : Nat → List Nat} {S : Nat → PS} {md i l : Nat} (hP : PRep m0 s0 u R S md) (hi : i < md) (hl : l < nlN m0) (hmd : md < 266) :
    (extB (pdC m0) (S i).1 (S i).2.2.2 l = true → PRep m0 s0 (cExt1 u i l (nI (S i).2.2.1)) (fun j => if j = md then R i ++ [l] else R j) (fun j => if j = md then stepD (pdC m0) (S i) l else S j) (md + 1) ∧ ∀ j, cExt1 u i l (nI (S i).2.2.1) 136 j = if j = md then 0 else u 136 j) ∧
    (¬ extB (pdC m0) (S i).1 (S i).2.2.2 l = true → cExt1 u i l (nI (S i).2.2.1) = u) := by
  have hD := hF.D
  obtain ⟨p1, p2, p3, p4, p5⟩ := hP
  have hrun := (p3 i hi).1
  obtain ⟨b1, b2, b3, b4, b5, b6⟩ := hF.rn _ _ hrun
  obtain ⟨hw, hb, -⟩ := hF
  have hnh := hw.nh
  have hnl := hw.nl
  obtain ⟨q1, q2, q3, q4, q5, q6, q7⟩ := (p3 i hi).2
  have ln := hw.ln hl
  have v2 := vp_nI ln.1 (by omega)
  have v3 := vp_nI ln.2 (by omega)
  have l2 := vp_nat ln.1
  have l3 := vp_nat ln.2
  have f2 : u 2 l = m0 2 l := by rw [p1 2 (by unfold kPth; omega)]
  have f3 : u 3 l = m0 3 l := by rw [p1 3 (by unfold kPth; omega)]
  have hgo : (¬ u 108 l = 0 ∧ u 2 l = u 130 i ∧ cVis u i (u 3 l) = 0) ↔ extB (pdC m0) (S i).1 (S i).2.2.2 l = true := by
    rw [extB_iff]
    unfold extD cVis
    rw [bi_0, Classical.not_not, f2, f3, p1 108 (by unfold kPth; omega), q1, v2, nI_eq (by omega) (by omega), v3, q6.cls (by omega)]
    show _ ↔ l < nlN m0 ∧ decide (¬ m0 108 l = 0) = true ∧ vN (m0 2 l) = (S i).1 ∧ ¬ vN (m0 3 l) ∈ (S i).2.2.2
    rw [decide_eq_true_iff]
    exact ⟨fun z => ⟨hl, z⟩, fun z => z.2⟩
  have hmdc : (u 140 0).toNatClampNeg = md := by rw [p2]; exact nI_clamp (by omega)
  refine ⟨fun c => ?_, fun c => if_neg (fun z => c (hgo.mp z))⟩
  unfold cExt1
  rw [if_pos (hgo.mpr c), hmdc]
  obtain ⟨h4, h5, h6⟩ := hb.2 l hl
  have e4 : u 4 = m0 4 := p1 4 (by unfold kPth; omega)
  have e5 : u 5 = m0 5 := p1 5 (by unfold kPth; omega)
  have e6 : u 6 = m0 6 := p1 6 (by unfold kPth; omega)
  have hth : cDep u l (nI (S i).2.2.1) + u 6 l = nI (dA (pdC m0) l (S i).2.2.1) := by
    rw [cDep_N (by rw [e4]; exact h4) (by rw [e5]; exact h5) (by omega), e4, e5, e6, h6.1, nI_add]
    rfl
  have hcs := code_small hD hrun b4
  rw [hth]
  obtain ⟨v, hv⟩ : ∃ z, z = up (cFollow u md i l (nI (dA (pdC m0) l (S i).2.2.1))) 140 0 (u 140 0 + 1) := ⟨_, rfl⟩
  rw [← hv]
  have vk : ∀ k j, 130 ≤ k → k ≤ 136 → j ≠ md → v k j = u k j := fun k j h1 h2 h3 => by
    rw [hv]; unfold cFollow
    rw [up_k (by omega)]
    rw [up_i h3, up_i h3, up_i h3, up_i h3, up_i h3, up_i h3, up_i h3] <;> skip
  have v136 : v 136 md = 0 := by rw [hv]; unfold cFollow; rw [up_k (by omega), up_s]
  refine ⟨⟨fun k hk => ?_, ?_, fun j hj => ?_, ⟨by omega, ?_, ?_⟩, fun j h0 hj => ?_⟩, fun j => ?_⟩
  · rw [hv, up_key (fun z => hk (by subst z; unfold kPth; omega)), cFollow_k _ _ _ _ _ (by unfold kPth at hk; omega)]; exact p1 k hk
  · rw [hv, up_s, p2, nI_1]
  · dsimp only
    by_cases z : j = md
    · rw [if_pos z, if_pos z, z]
      have hrun2 : run (pdC m0) (R i ++ [l]) s0 (stepD (pdC m0) (S i) l) := (run_app _ _ [l] s0 _).mpr ⟨_, hrun, extB_iff.mp c, rfl⟩
      refine ⟨hrun2, ?_, ?_, ?_, ?_, ?_, ?_, Or.inl v136⟩
      · rw [hv]; unfold cFollow; simp only [up]; simp; rw [f3]; exact v3
      · rw [hv]; unfold cFollow; simp only [up]; simp
        rw [q2]
        by_cases w : R i = []
        · rw [w]; exact if_pos rfl
        · rw [hd1_app w, if_neg (fun y => ?_)]
          cases hR : R i with
          | nil => exact w hR
          | cons a q =>
            rw [hR] at y
            have := run_lt (R i) s0 (S i) hrun a (by rw [hR]; exact List.mem_cons_self)
            exact nI_nm (show a < 2 ^ 31 by have := hD.1; omega) y
      · rw [hv]; unfold cFollow; simp only [up]; simp; try rfl
      · rw [hv]; unfold cFollow; simp only [up]; simp; rw [q4, nI_1]
      · rw [hv]; unfold cFollow; simp only [up]; simp; rw [q5, code_snoc, ← nI_add, ← shl4 (by omega)]
      · rw [hv]; unfold cFollow; simp only [up]; simp; rw [f3, v3]; exact q6.or (by omega)
    · rw [if_neg z, if_neg z]
      obtain ⟨g1, g2⟩ := p3 j (by omega)
      exact ⟨g1, g2.ext (fun k h1 h2 => vk k j h1 (by omega) z) (by rw [vk 136 j (by omega) (by omega) z]; exact g2.2.2.2.2.2.2)⟩
  · dsimp only; rw [if_neg (by omega)]; exact p4.2.1
  · dsimp only; rw [if_neg (by omega)]; exact p4.2.2
  · dsimp only
    by_cases z : j = md
    · rw [if_pos z]; simp
    · rw [if_neg z]; exact p5 j h0 (by omega)
  · by_cases z : j = md
    · rw [if_pos z, z]; exact v136
    · rw [if_neg z]; exact vk 136 j (by omega) (by omega) z

