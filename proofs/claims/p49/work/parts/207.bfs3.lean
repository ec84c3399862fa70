/-! the search goes on: all lines of a path, all paths -/
def wtP (m0 u : MM) (R : Nat → List Nat) (S : Nat → PS) (i : Nat) : Nat := if u 136 i = 0 then cntD (pdC m0) (6 - (R i).length) (S i) else 1
/-- what the search has done: extended paths have all their extensions, and none of them is at the goal; what is to come is counted -/
def BInv (m0 : MM) (s0 : PS) (g : Nat) (u : MM) (R : Nat → List Nat) (S : Nat → PS) (md : Nat) : Prop :=
  PRep m0 s0 u R S md ∧ (∀ i, i < md → u 136 i = 1 → (S i).1 ≠ g ∧ ∀ l, extB (pdC m0) (S i).1 (S i).2.2.2 l = true → ∃ j, j < md ∧ R j = R i ++ [l]) ∧ sumN (wtP m0 u R S) md = cntD (pdC m0) 6 s0
theorem wtP_pos (m0 u : MM) (R : Nat → List Nat) (S : Nat → PS) (i : Nat) : 1 ≤ wtP m0 u R S i := by
  unfold wtP
  split
  · exact cntD_pos _ _ _
  · exact Nat.le_refl _
theorem BInv.md {m0 : MM} {s0 : PS} {g : Nat} {u : MM} {R : Nat → List Nat} {S : Nat → PS} {md : Nat} (hF : BFix m0 s0) (h : BInv m0 s0 g u R S md) : md ≤ 148 := by
  have h1 : md ≤ sumN (wtP m0 u R S) md := by
    have := sumN_mono (f := fun _ => 1) (g := wtP m0 u R S) md (fun i _ => wtP_pos m0 u R S i)
    rw [sumN_one] at this
    exact this
  rw [h.2.2] at h1
  exact Nat.le_trans h1 (cntD_148 hF.D 6 hF.U.2)
/-- one path is extended -/
theorem cExt_inv {m0 u : MM} {s0 : PS} {g : Nat} (hF : BFix m0 s0) {R : Nat → List Nat} {S : Nat → PS} {md i : Nat} (hI : BInv m0 s0 g u R S md) (hi : i < md) (hu : u 136 i = 0) (hg : (S i).1 ≠ g) :
    ∃ R' S' md', BInv m0 s0 g (cExt u i (nI (S i).2.2.1)) R' S' md' ∧ md ≤ md' ∧ (∀ j, j < md → R' j = R j ∧ S' j = S j) ∧ (∀ j, j < md → cExt u i (nI (S i).2.2.1) 136 j = if j = i then 1 else u 136 j) ∧ ∀ j, md ≤ j → j < md' → cExt u i (nI (S i).2.2.1) 136 j = 0 := by
  have hmd := hI.md hF
  have hD := hF.D
  obtain ⟨hP, hC, hW⟩ := hI
  have hrun := (hP.2.2.1 i hi).1
  obtain ⟨b1, b2, b3, b4, b5, b6⟩ := hF.rn _ _ hrun
  have hT := cntD_148 hD 6 hF.U.2
  obtain ⟨T, hTT⟩ : ∃ z, z = cntD (pdC m0) 6 s0 := ⟨_, rfl⟩
  rw [← hTT] at hW hT
  obtain ⟨v, hv⟩ : ∃ z, z = up u 136 i 1 := ⟨_, rfl⟩
  have hvP : PRep m0 s0 v R S md := by
    obtain ⟨p1, p2, p3, p4, p5⟩ := hP
    refine ⟨fun k hk => by rw [hv, up_key (fun z => hk (by subst z; unfold kPth; omega))]; exact p1 k hk, by rw [hv, up_k (by omega)]; exact p2, fun j hj => ⟨(p3 j hj).1, (p3 j hj).2.ext (fun k h1 h2 => by rw [hv, up_k (by omega)]) ?_⟩, p4, p5⟩
    rw [hv]
    by_cases z : j = i
    · rw [z, up_s]; exact Or.inr rfl
    · rw [up_i z]; exact (p3 j hj).2.2.2.2.2.2.2
  have hv136 : ∀ j, v 136 j = if j = i then 1 else u 136 j := fun j => by
    rw [hv]
    by_cases z : j = i
    · rw [if_pos z, z, up_s]
    · rw [if_neg z, up_i z]
  have hsplit : ∀ n, i < n → sumN (wtP m0 u R S) n + 1 = sumN (wtP m0 v R S) n + cntD (pdC m0) (6 - (R i).length) (S i) := by
    intro n hn
    have e1 := sumN_pt (f := wtP m0 v R S) (g := wtP m0 u R S) (j := i) (fun j hj => by unfold wtP; rw [hv136, if_neg hj]) (by unfold wtP; rw [hv136, if_pos rfl, if_pos hu, if_neg (by decide)]; exact cntD_pos _ _ _) n
    rw [if_pos hn] at e1
    have e2 : wtP m0 v R S i = 1 := by unfold wtP; rw [hv136, if_pos rfl, if_neg (by decide)]
    have e3 : wtP m0 u R S i = cntD (pdC m0) (6 - (R i).length) (S i) := by unfold wtP; rw [if_pos hu]
    have e4 := cntD_pos (pdC m0) (6 - (R i).length) (S i)
    rw [e2, e3] at e1
    omega
  have hcnt : cntD (pdC m0) (6 - (R i).length) (S i) = 1 + sumN (fun l => if extB (pdC m0) (S i).1 (S i).2.2.2 l = true then cntD (pdC m0) (6 - (R i).length - 1) (stepD (pdC m0) (S i) l) else 0) (nlN m0) := by
    obtain ⟨d, hd⟩ : ∃ d, 6 - (R i).length = d + 1 := ⟨6 - (R i).length - 1, by omega⟩
    rw [hd]
    rfl
  have n2 : nlN u = nlN m0 := nlN_ext (hP.1 38 (by unfold kPth; omega))
  have hsp := hsplit md hi
  rw [hW, hcnt] at hsp
  obtain ⟨ff, hff⟩ : ∃ z, z = (fun l => if extB (pdC m0) (S i).1 (S i).2.2.2 l = true then cntD (pdC m0) (6 - (R i).length - 1) (stepD (pdC m0) (S i) l) else 0) := ⟨_, rfl⟩
  rw [← hff] at hsp
  have key : ∀ (k l : Nat) (w : MM) (R1 : Nat → List Nat) (S1 : Nat → PS) (m1 : Nat), l + k = nlN m0 → PRep m0 s0 w R1 S1 m1 → md ≤ m1 → (∀ j, j < md → R1 j = R j ∧ S1 j = S j) → (∀ j, j < md → w 136 j = if j = i then 1 else u 136 j) → (∀ j, md ≤ j → j < m1 → w 136 j = 0) →
      (∀ l', l' < l → extB (pdC m0) (S i).1 (S i).2.2.2 l' = true → ∃ j, j < m1 ∧ R1 j = R i ++ [l']) → sumN (wtP m0 w R1 S1) m1 = sumN (wtP m0 v R S) md + sumN ff l →
      ∃ R' S' md', PRep m0 s0 (cExtL i (nI (S i).2.2.1) k l w) R' S' md' ∧ m1 ≤ md' ∧ md ≤ md' ∧ (∀ j, j < md → R' j = R j ∧ S' j = S j) ∧ (∀ j, j < md → cExtL i (nI (S i).2.2.1) k l w 136 j = if j = i then 1 else u 136 j) ∧ (∀ j, md ≤ j → j < md' → cExtL i (nI (S i).2.2.1) k l w 136 j = 0) ∧
        (∀ l', l' < nlN m0 → extB (pdC m0) (S i).1 (S i).2.2.2 l' = true → ∃ j, j < md' ∧ R' j = R i ++ [l']) ∧ sumN (wtP m0 (cExtL i (nI (S i).2.2.1) k l w) R' S') md' = sumN (wtP m0 v R S) md + sumN ff (nlN m0) := by
    intro k
    induction k with
    | zero =>
      intro l w R1 S1 m1 hl hR h1 h2 h3 h4 h5 h6
      have e : l = nlN m0 := by omega
      subst e
      exact ⟨R1, S1, m1, hR, Nat.le_refl _, h1, h2, h3, h4, h5, h6⟩
    | succ k ih =>
      intro l w R1 S1 m1 hl hR h1 h2 h3 h4 h5 h6
      have hlm : l < nlN m0 := by omega
      have hsum : sumN ff l + ff l ≤ sumN ff (nlN m0) := by
        have : sumN ff (l + 1) ≤ sumN ff (nlN m0) := by
          obtain ⟨c, hc⟩ : ∃ c, nlN m0 = l + 1 + c := ⟨nlN m0 - (l + 1), by omega⟩
          rw [hc]
          clear hc
          induction c with
          | zero => exact Nat.le_refl _
          | succ c ihc => exact Nat.le_trans ihc (by show _ ≤ sumN ff (l + 1 + c) + _; omega)
        exact this
      have hm1 : m1 ≤ sumN (wtP m0 w R1 S1) m1 := by
        have := sumN_mono (f := fun _ => 1) (g := wtP m0 w R1 S1) m1 (fun j _ => wtP_pos m0 w R1 S1 j)
        rw [sumN_one] at this
        exact this
      have h266 : m1 < 266 := by omega
      simp only [cExtL]
      rw [if_neg (by rw [hR.2.1]; exact nI_ge h266 (by omega))]
      have hSi : S1 i = S i := (h2 i hi).2
      have hRi : R1 i = R i := (h2 i hi).1
      obtain ⟨c1, c2⟩ := cExt1_rep hF hR (i := i) (by omega) hlm h266
      rw [hSi, hRi] at c1
      rw [hSi] at c2
      by_cases c : extB (pdC m0) (S i).1 (S i).2.2.2 l = true
      · obtain ⟨d1, d2⟩ := c1 c
        have hx := extB_iff.mp c
        have hu6 : hubU (stepD (pdC m0) (S i) l).2.2.2 + 1 ≤ hubU (S i).2.2.2 := hubU_step (hD.2.1 l hx.1) hx.2.2.2
        obtain ⟨R', S', md', g1, g2, g3, g4, g5, g6, g7, g8⟩ := ih (l + 1) _ _ _ (m1 + 1) (by omega) d1 (by omega) (fun j hj => by rw [if_neg (show ¬ j = m1 by omega), if_neg (show ¬ j = m1 by omega)]; exact h2 j hj) (fun j hj => by rw [d2, if_neg (by omega)]; exact h3 j hj)
          (fun j hj hj2 => by
            rw [d2]
            by_cases z : j = m1
            · rw [if_pos z]
            · rw [if_neg z]; exact h4 j hj (by omega))
          (fun l' hl' he => by
            by_cases z : l' = l
            · exact ⟨m1, by omega, by rw [if_pos rfl, z]⟩
            · obtain ⟨j, y1, y2⟩ := h5 l' (by omega) he
              exact ⟨j, by omega, by rw [if_neg (show ¬ j = m1 by omega)]; exact y2⟩)
          (by
            show sumN _ m1 + _ = _
            rw [show sumN ff (l + 1) = sumN ff l + ff l from rfl, ← Nat.add_assoc, ← h6]
            congr 1
            · refine sumN_congr _ (fun j hj => ?_)
              have nj : ¬ j = m1 := by omega
              unfold wtP
              simp only [d2, if_neg nj]
            · unfold wtP
              dsimp only
              rw [d2, if_pos rfl, if_pos rfl, if_pos rfl, if_pos rfl, hff]
              dsimp only
              rw [if_pos c, List.length_append, List.length_singleton]
              exact congrArg (fun z => cntD (pdC m0) z (stepD (pdC m0) (S i) l)) (by omega))
        exact ⟨R', S', md', g1, by omega, g3, g4, g5, g6, g7, g8⟩
      · rw [c2 c]
        exact ih (l + 1) w R1 S1 m1 (by omega) hR h1 h2 h3 h4 (fun l' hl' he => h5 l' (by
            by_cases z : l' = l
            · rw [z] at he; exact absurd he c
            · omega) he) (by rw [show sumN ff (l + 1) = sumN ff l + ff l from rfl, h6, show ff l = 0 by rw [hff]; exact if_neg c, Nat.add_zero])
  obtain ⟨R', S', md', g1, g2, g3, g4, g5, g6, g7, g8⟩ := key (nlN m0) 0 v R S md (by omega) hvP (Nat.le_refl _) (fun _ _ => ⟨rfl, rfl⟩) (fun j _ => hv136 j) (fun j h1 h2 => by omega) (fun l' h => by omega) (by simp [sumN])
  have hce : cExt u i (nI (S i).2.2.1) = cExtL i (nI (S i).2.2.1) (nlN m0) 0 v := by unfold cExt; rw [n2, hv]
  rw [hce]
  refine ⟨R', S', md', ⟨g1, fun j hj h1 => ?_, by rw [g8, ← hTT]; omega⟩, g3, g4, g5, g6⟩
  by_cases z : j < md
  · rw [g5 j z] at h1
    rw [(g4 j z).1, (g4 j z).2]
    by_cases w : j = i
    · subst w
      exact ⟨hg, fun l hl => g7 l (extB_iff.mp hl).1 hl⟩
    · rw [if_neg w] at h1
      obtain ⟨y1, y2⟩ := hC j z h1
      refine ⟨y1, fun l hl => ?_⟩
      obtain ⟨j2, y3, y4⟩ := y2 l hl
      exact ⟨j2, by omega, by rw [(g4 j2 y3).1]; exact y4⟩
  · rw [g6 j (by omega) hj] at h1
    exact absurd h1 (by decide)

