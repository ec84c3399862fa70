/-! the class's trial finds the same -/
def pdC (u : MM) : PD := pdM (fun l => decide (¬ u 108 l = 0)) u
/-- what the trial shows of the best so far, and of the first line of the way -/
def TB (u : MM) (b : Option (Nat × List Nat)) : Prop := match b with
  | none => u 153 0 = -1 ∧ u 154 0 = -1
  | some (a, p) => u 153 0 = nI a ∧ a < 2 ^ 24 ∧ u 152 0 = nI p.length ∧ p.length < 2 ^ 24 ∧ u 154 0 = (match p with
    | [] => -1
    | l :: _ => nI l)
def kTr (k : Nat) : Prop := k = 151 ∨ k = 152 ∨ k = 153 ∨ k = 154
def SameT (m0 m : MM) : Prop := ∀ k, ¬ kTr k → m k = m0 k
def hd1 (px : List Nat) : Int32 := match px with
  | [] => -1
  | l :: _ => nI l
theorem hd1_app {px : List Nat} (h : px ≠ []) (l : Nat) : hd1 (px ++ [l]) = hd1 px := by
  cases px with
  | nil => exact absurd rfl h
  | cons a q => rfl
theorem TB.put {u : MM} {b : Option (Nat × List Nat)} (h : TB u b) {a : Nat} {px : List Nat} (ha : a < 2 ^ 24) (hp : px.length < 2 ^ 24) (hf : u 151 0 = hd1 px) : TB (cCmp u (nI a) (nI px.length)) (better b a px) := by
  have hnew : TB (up (up (up u 153 0 (nI a)) 152 0 (nI px.length)) 154 0 (u 151 0)) (some (a, px)) := by
    refine ⟨by rw [up_k (by omega), up_k (by omega), up_s], ha, by rw [up_k (by omega), up_s], hp, ?_⟩
    rw [up_s, hf]
    rfl
  unfold cCmp
  cases b with
  | none =>
    have h1 : u 153 0 = -1 := h.1
    rw [if_pos (Or.inl h1)]
    exact hnew
  | some x =>
    obtain ⟨a0, p0⟩ := x
    obtain ⟨h1, h2, h3, h4, h5⟩ := h
    have hiff : (u 153 0 = -1 ∨ nI a < u 153 0 ∨ (nI a = u 153 0 ∧ nI px.length < u 152 0)) ↔ (a < a0 ∨ (a = a0 ∧ px.length < p0.length)) := by
      rw [h1, h3, nI_ltI (by omega) (by omega), nI_eq (by omega) (by omega), nI_ltI (by omega) (by omega)]
      exact ⟨fun z => z.elim (fun y => absurd y (nI_nm (by omega))) id, Or.inr⟩
    show TB _ (if _ then _ else _)
    by_cases c : a < a0 ∨ (a = a0 ∧ px.length < p0.length)
    · rw [if_pos c, if_pos (hiff.mpr c)]; exact hnew
    · rw [if_neg c, if_neg (fun z => c (hiff.mp z))]; exact ⟨h1, h2, h3, h4, h5⟩
theorem TB.ext {m m' : MM} {b : Option (Nat × List Nat)} (h : TB m b) (e : ∀ k, k = 152 ∨ k = 153 ∨ k = 154 → m' k = m k) : TB m' b := by
  cases b with
  | none => show m' 153 0 = -1 ∧ m' 154 0 = -1; rw [e 153 (by omega), e 154 (by omega)]; exact h
  | some x => obtain ⟨a, p⟩ := x; show _ ∧ _ ∧ _ ∧ _ ∧ _; rw [e 152 (by omega), e 153 (by omega), e 154 (by omega)]; exact h
theorem cCmp_k (u : MM) (e sz : Int32) {k : Nat} (hk : ¬ kTr k) : cCmp u e sz k = u k := by
  unfold cCmp
  split
  · rw [up_key (fun z => hk (by subst z; unfold kTr; omega)), up_key (fun z => hk (by subst z; unfold kTr; omega)), up_key (fun z => hk (by subst z; unfold kTr; omega))]
  · rfl
theorem cCmp_151 (u : MM) (e sz : Int32) : cCmp u e sz 151 = u 151 := by
  unfold cCmp
  split
  · rw [up_key (by omega), up_key (by omega), up_key (by omega)]
  · rfl
theorem cTry_dfs {m0 : MM} (hw : LNk m0) (hb : NBl m0) {g : Nat} (hg : g < nhN m0) (h150 : m0 150 0 = nI g) {s0 : PS} (h0 : hubU s0.2.2.2 ≤ 5) (hv0 : s0.1 ∈ s0.2.2.2) : ∀ (d : Nat) (u : MM) (b : Option (Nat × List Nat)) (s : PS) (px : List Nat) (vis : Int32), SameT m0 u → TB u b → (px ≠ [] → u 151 0 = hd1 px) → (px = [] → u 151 0 = -1) →
    run (pdC m0) px s0 s → s.1 < nhN m0 → MK vis s.2.2.2 → s.2.1 ≤ s.2.2.1 → s.2.2.1 + 200 * d < 2 ^ 20 → px.length + d = 6 →
    TB (cTry d px.length u (nI s.1) (nI s.2.1) (nI s.2.2.1) vis) (dfs (pdC m0) g d b s px) ∧ SameT m0 (cTry d px.length u (nI s.1) (nI s.2.1) (nI s.2.2.1) vis) ∧ (px ≠ [] → cTry d px.length u (nI s.1) (nI s.2.1) (nI s.2.2.1) vis 151 0 = hd1 px) := by
  have hD : PDok (pdC m0) := pdM_ok hw.nl (fun l hl => vp_mono (hw.ln hl).2 hw.nh) hb
  have hnh := hw.nh
  have hnl := hw.nl
  intro d
  induction d with
  | zero => intro u b s px vis hS hB hf _ _ _ _ _ _ _; exact ⟨hB, hS, hf⟩
  | succ d ih =>
    intro u b s px vis hS hB hf hf0 hrun hsn hM hs ht hlen
    have n2 : nlN u = nlN m0 := nlN_ext (hS 38 (by unfold kTr; omega))
    simp only [cTry, dfs]
    rw [hS 150 (by unfold kTr; omega), h150]
    by_cases e : s.1 = g
    · rw [if_pos e, if_pos (by rw [e])]
      refine ⟨hB.put (by omega) (by omega) ?_, fun k hk => by rw [cCmp_k _ _ _ hk]; exact hS k hk, fun z => by rw [cCmp_151]; exact hf z⟩
      cases px with
      | nil => exact hf0 rfl
      | cons a q => exact hf (by simp)
    · rw [if_neg e, if_neg (fun z => e ((nI_eq (by omega) (by omega)).mp z))]
      have key : ∀ (k l : Nat) (u : MM) (b : Option (Nat × List Nat)), l + k = nlN m0 → SameT m0 u → TB u b → (px ≠ [] → u 151 0 = hd1 px) →
          TB (cTryL (fun u' hb' now' rd' vis' => cTry d (px.length + 1) u' hb' now' rd' vis') (nI s.1) (nI s.2.2.1) vis px.length k l u) (dfsL (fun b' s' p' => dfs (pdC m0) g d b' s' p') (pdC m0) s px k l b) ∧
          SameT m0 (cTryL (fun u' hb' now' rd' vis' => cTry d (px.length + 1) u' hb' now' rd' vis') (nI s.1) (nI s.2.2.1) vis px.length k l u) ∧
          (px ≠ [] → cTryL (fun u' hb' now' rd' vis' => cTry d (px.length + 1) u' hb' now' rd' vis') (nI s.1) (nI s.2.2.1) vis px.length k l u 151 0 = hd1 px) := by
        intro k
        induction k with
        | zero => intro l u b _ hS hB hf; exact ⟨hB, hS, hf⟩
        | succ k ihk =>
          intro l u b hl hS hB hf
          simp only [cTryL, dfsL]
          have hlm : l < nlN m0 := by omega
          have f2 : u 2 l = m0 2 l := by rw [hS 2 (by unfold kTr; omega)]
          have f3 : u 3 l = m0 3 l := by rw [hS 3 (by unfold kTr; omega)]
          have ln := hw.ln hlm
          have v2 := vp_nI ln.1 (by omega)
          have v3 := vp_nI ln.2 (by omega)
          have l2 := vp_nat ln.1
          have l3 := vp_nat ln.2
          obtain ⟨h4, h5, h6⟩ := hb.2 l hlm
          have hgo : cGo u (nI s.1) vis l ↔ extB (pdC m0) s.1 s.2.2.2 l = true := by
            rw [extB_iff]
            unfold cGo extD
            rw [f2, f3, hS 108 (by unfold kTr; omega), v2, nI_eq (by omega) (by omega), v3, hM.cls (by omega)]
            show _ ↔ l < nlN m0 ∧ decide (¬ m0 108 l = 0) = true ∧ vN (m0 2 l) = s.1 ∧ ¬ vN (m0 3 l) ∈ s.2.2.2
            rw [decide_eq_true_iff]
            exact ⟨fun z => ⟨hlm, z⟩, fun z => z.2⟩
          by_cases c : extB (pdC m0) s.1 s.2.2.2 l = true
          · rw [if_pos c, if_pos (hgo.mpr c)]
            have e1 : u 1 = m0 1 := hS 1 (by unfold kTr; omega)
            have e4 : u 4 = m0 4 := hS 4 (by unfold kTr; omega)
            have e5 : u 5 = m0 5 := hS 5 (by unfold kTr; omega)
            have e6 : u 6 = m0 6 := hS 6 (by unfold kTr; omega)
            have hth : cDep u l (nI s.2.2.1) + u 6 l = nI (dA (pdC m0) l s.2.2.1) := by
              rw [cDep_N (by rw [e4]; exact h4) (by rw [e5]; exact h5) (by omega), e4, e5, e6, h6.1, nI_add]
              rfl
            have hal : dA (pdC m0) l s.2.2.1 ≤ max 59 (s.2.2.1 + 60) + 60 := arr_le hb hlm
            have hrl : dR (pdC m0) (vN (m0 3 l)) (dA (pdC m0) l s.2.2.1) ≤ dA (pdC m0) l s.2.2.1 + 20 := rdy_le hb l3
            have hrd : cRdy u (u 3 l).toNatClampNeg (cDep u l (nI s.2.2.1) + u 6 l) (cDep u l (nI s.2.2.1) + u 6 l) = nI (dR (pdC m0) (vN (m0 3 l)) (dA (pdC m0) l s.2.2.1)) := by
              unfold cRdy
              rw [hth, f3, e1, (hb.1 _ l3).1, nI_1, nI_add, mx_nI (by have := (hb.1 _ l3).2.2; omega) (by have := (hb.1 _ l3).2.2; omega)]
              rfl
            have hrun2 : run (pdC m0) (px ++ [l]) s0 (stepD (pdC m0) s l) := (run_app _ px [l] s0 _).mpr ⟨s, hrun, extB_iff.mp c, rfl⟩
            have hlen2 : (px ++ [l]).length = px.length + 1 := by rw [List.length_append, List.length_singleton]
            obtain ⟨U, hU⟩ : ∃ z, z = (if px.length = 0 then up u 151 0 (nI l) else u) := ⟨_, rfl⟩
            have hU1 : ∀ k, ¬ k = 151 → U k = u k := fun k hk => by rw [hU]; split <;> first | exact up_key hk | rfl
            have hU2 : U 151 0 = hd1 (px ++ [l]) := by
              rw [hU]
              by_cases z : px.length = 0
              · rw [if_pos z, up_s, List.length_eq_zero_iff.mp z]; rfl
              · have z2 : px ≠ [] := fun y => z (by rw [y]; rfl)
                rw [if_neg z, hd1_app z2]; exact hf z2
            have q := ih U b (stepD (pdC m0) s l) (px ++ [l]) (vis ||| (1 <<< (u 3 l &&& 31)))
              (fun k hk => by rw [hU1 k (fun z => hk (by subst z; unfold kTr; omega))]; exact hS k hk) (hB.ext (fun k hk => hU1 k (by omega))) (fun _ => hU2) (fun z => by simp at z) hrun2 l3 (by rw [f3, v3]; exact hM.or (by omega)) (Nat.le_trans (Nat.le_succ _) (Nat.le_max_left _ _)) (by show dR (pdC m0) (vN (m0 3 l)) (dA (pdC m0) l s.2.2.1) + 200 * d < _; omega) (by rw [hlen2]; omega)
            rw [hlen2, show nI (stepD (pdC m0) s l).1 = u 3 l from by rw [f3]; exact v3.symm, show nI (stepD (pdC m0) s l).2.1 = cDep u l (nI s.2.2.1) + u 6 l from hth.symm, show nI (stepD (pdC m0) s l).2.2.1 = _ from hrd.symm] at q
            rw [← hU]
            obtain ⟨q1, q2, q3⟩ := q
            exact ihk (l + 1) _ _ (by omega) q2 q1 (fun z => by rw [q3 (by simp), hd1_app z])
          · rw [if_neg c, if_neg (fun z => c (hgo.mp z))]
            exact ihk (l + 1) u b (by omega) hS hB hf
      by_cases h5 : 5 ≤ px.length
      · -- all hubs are seen: no line goes on
        rw [if_pos h5]
        have hr := run_len hD px s0 s hrun
        have hno : ∀ l, ¬ extB (pdC m0) s.1 s.2.2.2 l = true := by
          intro l hl
          have hx := extB_iff.mp hl
          have := hubU_step (hD.2.1 l hx.1) hx.2.2.2
          omega
        have hdL : ∀ (k l : Nat) (b : Option (Nat × List Nat)), dfsL (fun b' s' p' => dfs (pdC m0) g d b' s' p') (pdC m0) s px k l b = b := by
          intro k
          induction k with
          | zero => intro l b; rfl
          | succ k ihk => intro l b; simp only [dfsL]; rw [if_neg (hno l)]; exact ihk (l + 1) b
        rw [hdL]
        exact ⟨hB, hS, hf⟩
      · rw [if_neg h5, n2]
        exact key (nlN m0) 0 u b (by omega) hS hB hf

