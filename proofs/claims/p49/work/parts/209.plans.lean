/-! plans: what the class and the reference find is the same best route -/
/-- what is asked of a parcel's numbers -/
def PKp (m : MM) (p : Nat) : Prop := vp_in (m 15 p) (nhN m) ∧ vp_in (m 14 p) (nhN m) ∧ isN (m 18 p) 0 (2 ^ 17) ∧ isN (m 41 0) 0 (2 ^ 17)
def psP (m : MM) (p : Nat) : PS := psAt m (vN (m 15 p)) (vN (m 18 p)) (vN (m 41 0))
theorem BFix.of {m : MM} {p : Nat} (hL : LNk m) (hb : NBl m) (hp : PKp m p) : BFix m (psP m p) := by
  obtain ⟨p1, p2, p3, p4⟩ := hp
  have q1 := vp_nat p1
  have h1 := (hb.1 _ q1).2.2
  refine ⟨hL, hb, q1, rfl, Nat.le_trans (Nat.le_succ _) (Nat.le_max_left _ _), ?_⟩
  show max (vN (m 41 0) + 1) (vN (m 18 p) + vN (m 1 (vN (m 15 p)))) < _
  have h2 := p3.2.2
  have h3 := p4.2.2
  unfold vN at *
  omega
theorem psP_rd {m : MM} {p : Nat} (hb : NBl m) (hp : PKp m p) : mx (m 41 0 + 1) (m 18 p + m 1 (m 15 p).toNatClampNeg) = nI (psP m p).2.2.1 := by
  obtain ⟨p1, p2, p3, p4⟩ := hp
  have h1 := hb.1 _ (vp_nat p1)
  have h2 := p3.2.2
  have h3 := p4.2.2
  have h4 := h1.2.2
  rw [p4.1, p3.1, h1.1, nI_1, nI_add, mx_nI (by omega) (by omega)]
  rfl
theorem cBp_best {u : MM} {p : Nat} (hL : LNk u) (hb : NBl u) (hp : PKp u p) : (∃ b, isBest (pdC u) (psP u p) (vN (u 14 p)) (fun _ => True) b ∧ BRes u (psP u p) (cBp u p (u 41 0)) b) ∧ ∀ k, ¬ kPth k → (cBp u p (u 41 0)).2 k = u k := by
  have hF := BFix.of hL hb hp
  have hrd := psP_rd hb hp
  obtain ⟨p1, p2, p3, p4⟩ := hp
  have hnh := hL.nh
  have v15 := vp_nI p1 (by omega)
  have v14 := vp_nI p2 (by omega)
  have l15 := vp_nat p1
  have e1 : cRdy u (u 15 p).toNatClampNeg (u 18 p) (u 41 0) = nI (psP u p).2.2.1 := hrd
  unfold cBp
  rw [e1]
  obtain ⟨v, hv⟩ : ∃ z, z = up (cBegin u 0 (u 15 p) (u 41 0)) 140 0 1 := ⟨_, rfl⟩
  rw [← hv]
  have w0 : v 136 0 = 0 := by rw [hv]; unfold cBegin; simp [up]
  have hI : BInv u (psP u p) (vN (u 14 p)) v (fun _ => []) (fun _ => psP u p) 1 := by
    refine ⟨⟨fun k hk => ?_, by rw [hv, up_s]; rfl, fun i hi => ⟨rfl, ?_⟩, ⟨by omega, rfl, rfl⟩, fun i h1 h2 => by omega⟩, fun i hi h => ?_, ?_⟩
    · rw [hv]
      unfold cBegin
      unfold kPth at hk
      rw [up_key (by omega), up_key (by omega), up_key (by omega), up_key (by omega), up_key (by omega), up_key (by omega), up_key (by omega), up_key (by omega)]
    · obtain rfl : i = 0 := by omega
      refine ⟨?_, ?_, ?_, ?_, ?_, ?_, Or.inl w0⟩
      · rw [hv]; unfold cBegin; simp [up]; exact v15
      · rw [hv]; unfold cBegin; simp [up]; rfl
      · rw [hv]; unfold cBegin; simp [up]; exact p4.1
      · rw [hv]; unfold cBegin; simp [up]; rfl
      · rw [hv]; unfold cBegin; simp [up]; rfl
      · rw [hv]; unfold cBegin; simp [up]
        have hm := MK.one (t := vN (u 15 p)) (by unfold vN; omega)
        rw [← v15] at hm
        exact hm
    · obtain rfl : i = 0 := by omega
      rw [w0] at h
      exact absurd h (by decide)
    · show 0 + wtP u v _ _ 0 = _
      unfold wtP
      rw [if_pos w0, Nat.zero_add]
      rfl
  exact cBpL_best hF (vp_nat p2) v14 266 v _ _ 1 hI (by omega)
/-- what the first line of the best route is, in a plan -/
def bHd (b : Option (Nat × List Nat)) : Int32 := match b with
  | none => -1
  | some (_, q) => hd1 q
def bAr (b : Option (Nat × List Nat)) : Int32 := match b with
  | none => -1
  | some (a, _) => nI a
def bSz (b : Option (Nat × List Nat)) : Int32 := match b with
  | none => 0
  | some (_, q) => nI q.length
theorem BRes.hd {m0 : MM} {s0 : PS} {z : Int32 × MM} {b : Option (Nat × List Nat)} (h : BRes m0 s0 z b) : (if z.1 = -1 then -1 else z.2 131 z.1.toNatClampNeg) = bHd b := by
  cases b with
  | none => rw [if_pos (show z.1 = -1 from h)]; rfl
  | some x =>
    obtain ⟨a, q⟩ := x
    obtain ⟨v, s, h1, h2, h3, h4, h5⟩ := h
    rw [h2, if_neg (nI_nm (by omega)), nI_clamp (by omega), h3.2.1]
    rfl
theorem BRes.ar {m0 : MM} {s0 : PS} {z : Int32 × MM} {b : Option (Nat × List Nat)} (h : BRes m0 s0 z b) : (if z.1 = -1 then -1 else z.2 132 z.1.toNatClampNeg) = bAr b := by
  cases b with
  | none => rw [if_pos (show z.1 = -1 from h)]; rfl
  | some x =>
    obtain ⟨a, q⟩ := x
    obtain ⟨v, s, h1, h2, h3, h4, h5⟩ := h
    rw [h2, if_neg (nI_nm (by omega)), nI_clamp (by omega), h3.2.2.1, h4]
    rfl
theorem BRes.sz {m0 : MM} {s0 : PS} {z : Int32 × MM} {b : Option (Nat × List Nat)} (h : BRes m0 s0 z b) : (if z.1 = -1 then 0 else z.2 133 z.1.toNatClampNeg) = bSz b := by
  cases b with
  | none => rw [if_pos (show z.1 = -1 from h)]; rfl
  | some x =>
    obtain ⟨a, q⟩ := x
    obtain ⟨v, s, h1, h2, h3, h4, h5⟩ := h
    rw [h2, if_neg (nI_nm (by omega)), nI_clamp (by omega), h3.2.2.2.1]
    rfl
/-! the reference's -/
def plR (m : MM) (p : Nat) : Option (Nat × List Nat) := dfs (pdR m) (vN (m 14 p)) 6 none (psP m p) []
theorem lays_RB {m : MM} {p : Nat} (hL : LNk m) (hb : NBl m) (hp : PKp m p) : RB (fLays m p) (plR m p) := by
  have hF := BFix.of hL hb hp
  have hrd := psP_rd hb hp
  obtain ⟨p1, p2, p3, p4⟩ := hp
  have hnh := hL.nh
  have v15 := vp_nI p1 (by omega)
  have v14 := vp_nI p2 (by omega)
  have l15 := vp_nat p1
  have l14 := vp_nat p2
  have h3 := hF.2.2.2.2.2
  obtain ⟨v, hv⟩ : ∃ z, z = up (up m 42 0 (-1)) 43 0 0 := ⟨_, rfl⟩
  have hm := MK.one (t := vN (m 15 p)) (by unfold vN; omega)
  rw [← v15] at hm
  have h := tries_dfs (m0 := m) hL hb (g := vN (m 14 p)) l14 6 v none (psP m p) [] (m 15 p) (m 18 p) (m 41 0) (1 <<< (m 15 p &&& 31))
    (fun k hk => by unfold kTry at hk; rw [hv, up_key (by omega), up_key (by omega)]) (by show v 42 0 = -1; rw [hv, up_k (by omega), up_s])
    ⟨by rw [hv, nhN_up (by omega), nhN_up (by omega)]; exact l15, v15, p4.1, by rw [hv, up_k (by omega), up_k (by omega)]; exact hrd, hm, fun k hk => absurd hk (Nat.not_lt_zero _)⟩ hF.2.2.2.2.1 (by omega) (by simp)
  have e : nI (vN (m 14 p)) = m 14 p := v14.symm
  rw [e, hv] at h
  exact h.1
theorem RB.hasB {m : MM} {b : Option (Nat × List Nat)} (h : RB m b) : hasP m ↔ b ≠ none := by
  unfold hasP
  cases b with
  | none => rw [show m 42 0 = -1 from h]; exact ⟨fun z => absurd z (by decide), fun z => absurd rfl z⟩
  | some x =>
    obtain ⟨a, q⟩ := x
    rw [h.1]
    exact ⟨fun _ => (fun z => nomatch z), fun _ => nI_le (Nat.zero_le a) (by have := h.2.1; omega)⟩
theorem RB.ar {m : MM} {b : Option (Nat × List Nat)} (h : RB m b) : (if hasP m then m 42 0 else -1) = bAr b := by
  have hh := h.hasB
  cases b with
  | none => rw [if_neg (fun z => hh.mp z rfl)]; rfl
  | some x => obtain ⟨a, q⟩ := x; rw [if_pos (hh.mpr (fun z => nomatch z)), h.1]; rfl
theorem RB.sz {m : MM} {b : Option (Nat × List Nat)} (h : RB m b) : (if hasP m then m 43 0 else 0) = bSz b := by
  have hh := h.hasB
  cases b with
  | none => rw [if_neg (fun z => hh.mp z rfl)]; rfl
  | some x => obtain ⟨a, q⟩ := x; rw [if_pos (hh.mpr (fun z => nomatch z)), h.2.2.1]; rfl
theorem RB.hd {m : MM} {b : Option (Nat × List Nat)} (h : RB m b) : (if hasP m ∧ 0 < m 43 0 then m 33 0 else -1) = bHd b := by
  have hh := h.hasB
  cases b with
  | none => rw [if_neg (fun z => hh.mp z.1 rfl)]; rfl
  | some x =>
    obtain ⟨a, q⟩ := x
    obtain ⟨h1, h2, h3, h4, h5⟩ := h
    rw [h3]
    cases q with
    | nil => rw [if_neg (fun z => absurd z.2 (by decide))]; rfl
    | cons l q =>
      rw [if_pos ⟨hh.mpr (fun z => nomatch z), (nI_ltI (a := 0) (by omega) (by omega)).mpr (by simp)⟩, h5 0 (by simp)]
      rfl
theorem fPlan_hd {m : MM} {p : Nat} (hL : LNk m) (hb : NBl m) (hp : PKp m p) : fPlan m p = bHd (plR m p) := (lays_RB hL hb hp).hd
/-! two timetables that agree -/
def PDeq (D E : PD) : Prop := dN D = dN E ∧ ∀ l, l < dN D → dO D l = dO E l ∧ dF D l = dF E l ∧ dT D l = dT E l ∧ (∀ r, dA D l r = dA E l r) ∧ ∀ a, dR D (dT D l) a = dR E (dT D l) a
theorem PDeq.sym {D E : PD} (h : PDeq D E) : PDeq E D := ⟨h.1.symm, fun l hl => by
  obtain ⟨a1, a2, a3, a4, a5⟩ := h.2 l (by rw [h.1]; exact hl)
  exact ⟨a1.symm, a2.symm, a3.symm, fun r => (a4 r).symm, fun a => by rw [← a3]; exact (a5 a).symm⟩⟩
theorem PDeq.rn {D E : PD} (h : PDeq D E) : ∀ (p : List Nat) (s s' : PS), run D p s s' → run E p s s' := by
  intro p
  induction p with
  | nil => intro s s' hr; exact hr
  | cons l p ih =>
    intro s s' hr
    obtain ⟨⟨h1, h2, h3, h4⟩, h5⟩ := hr
    obtain ⟨a1, a2, a3, a4, a5⟩ := h.2 l h1
    refine ⟨⟨by rw [← h.1]; exact h1, by rw [← a1]; exact h2, by rw [← a2]; exact h3, by rw [← a3]; exact h4⟩, ?_⟩
    have e : stepD E s l = stepD D s l := by unfold stepD; rw [← a3, ← a4, ← a5]
    rw [e]
    exact ih _ _ h5
theorem PDeq.best {D E : PD} (h : PDeq D E) {s0 : PS} {g : Nat} {b : Option (Nat × List Nat)} (hb : isBest D s0 g (fun _ => True) b) : isBest E s0 g (fun _ => True) b := by
  cases b with
  | none => exact fun q t _ hr => hb q t trivial (h.sym.rn q s0 t hr)
  | some x =>
    obtain ⟨a, p⟩ := x
    obtain ⟨⟨t, -, h1, h2⟩, h3⟩ := hb
    exact ⟨⟨t, trivial, h.rn p s0 t h1, h2⟩, fun q t _ hr => h3 q t trivial (h.sym.rn q s0 t hr)⟩

