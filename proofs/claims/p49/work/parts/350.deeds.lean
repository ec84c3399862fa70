/-! what the deeds do to a parcel's numbers -/
theorem plR_some {m : MM} {p : Nat} (hm : ML m) (hP : MP m p) : plR m p = none ∨ ∃ a q t, plR m p = some (a, q) ∧ run (pdR m) q (psP m p) t ∧ t.2.1 = a ∧ q.length ≤ 5 := by
  have hF := BFix.of hm.1 hm.2.1 (hP.pkp hm)
  have hD : PDok (pdR m) := pdM_ok hm.1.nl (fun l hl => vp_mono (hm.1.ln hl).2 hm.1.nh) hm.2.1
  have hb : isBest (pdR m) (psP m p) (vN (m 14 p)) (fun _ => True) (plR m p) := dfs_all hD hF.U.1 hF.U.2
  cases e : plR m p with
  | none => exact Or.inl rfl
  | some x =>
    obtain ⟨a, q⟩ := x
    rw [e] at hb
    obtain ⟨⟨t, -, h1, -, h2⟩, -⟩ := hb
    have h3 := run_len hD q _ _ h1
    have h4 := hF.U.1
    exact Or.inr ⟨a, q, t, rfl, h1, h2, by omega⟩
theorem plR_open {m : MM} {p : Nat} (hm : ML m) (hP : MP m p) : bHd (plR m p) = -1 ∨ ∃ l, l < nlN m ∧ bHd (plR m p) = nI l ∧ m 9 l = 0 := by
  rcases plR_some hm hP with e | ⟨a, q, t, e, h1, -, -⟩
  · rw [e]; exact Or.inl rfl
  · rw [e]
    cases q with
    | nil => exact Or.inl rfl
    | cons l q =>
      have h2 : extD (pdR m) (psP m p).1 (psP m p).2.2.2 l := h1.1
      exact Or.inr ⟨l, h2.1, rfl, of_decide_eq_true h2.2.1⟩
theorem run_by {m : MM} (hm : ML m) : ∀ (q : List Nat) (s t : PS) (B : Nat), run (pdR m) q s t → s.2.1 ≤ B → s.2.2.1 ≤ B → 100 ≤ B → t.2.1 ≤ B + 200 * q.length := by
  intro q
  induction q with
  | nil => intro s t B h h1 _ _; rw [show t = s from h]; exact Nat.le_trans h1 (Nat.le_add_right _ _)
  | cons l q ih =>
    intro s t B h h1 h2 h3
    have hl : l < nlN m := h.1.1
    have ha := arr_le (op := fun l => decide (m 9 l = 0)) hm.2.1 (r := s.2.2.1) hl
    have hr := rdy_le (op := fun l => decide (m 9 l = 0)) hm.2.1 (a := dA (pdR m) l s.2.2.1) (vp_nat (hm.1.ln hl).2)
    have := ih (stepD (pdR m) s l) t (B + 200) h.2 (by show dA (pdR m) l s.2.2.1 ≤ _; unfold pdR; omega) (by show dR (pdR m) (dT (pdR m) l) (dA (pdR m) l s.2.2.1) ≤ _; show dR (pdR m) (vN (m 3 l)) _ ≤ _; unfold pdR vN at *; omega) (by omega)
    show _ ≤ B + 200 * (q.length + 1)
    omega
theorem plR_late {m : MM} {p : Nat} (hm : ML m) (hP : MP m p) (h18 : vN (m 18 p) ≤ vN (m 41 0)) : bAr (plR m p) = -1 ∨ ∃ a, bAr (plR m p) = nI a ∧ a ≤ vN (m 41 0) + 1200 := by
  rcases plR_some hm hP with e | ⟨a, q, t, e, h1, h2, h3⟩
  · rw [e]; exact Or.inl rfl
  · rw [e]
    refine Or.inr ⟨a, rfl, ?_⟩
    have h4 := (hm.2.1.1 _ (vp_nat hP.1.2.2)).2.2
    have h5 := run_by hm q _ t (vN (m 41 0) + 200) h1 (by show vN (m 41 0) ≤ _; omega) (by show max (vN (m 41 0) + 1) (vN (m 18 p) + vN (m 1 (vN (m 15 p)))) ≤ _; unfold vN at *; omega) (by omega)
    omega
/-- the plan, by the state that comes of it -/
theorem fPlan_by {Y M : MM} {p : Nat} (hm : ML M) (hP : MP M p) (e : ∀ k, lnKey k ∨ k = 9 → Y k = M k) (e14 : Y 14 p = M 14 p) (e15 : Y 15 p = M 15 p) (e18 : Y 18 p = M 18 p) : fPlan Y p = bHd (plR M p) := by
  have h1 := hP.pkp hm
  rw [← plR_ext e e14 e15 e18]
  refine fPlan_hd (hm.1.ext (fun k hk => e k (Or.inl hk))) (hm.2.1.ext (fun k hk => e k (Or.inl hk))) ?_
  obtain ⟨p1, p2, p3, p4⟩ := h1
  exact ⟨by rw [e15, nhN_ext (e 37 (Or.inl (by unfold lnKey; omega)))]; exact p1, by rw [e14, nhN_ext (e 37 (Or.inl (by unfold lnKey; omega)))]; exact p2, by rw [e18]; exact p3, by rw [e 41 (Or.inl (by unfold lnKey; omega))]; exact p4⟩
theorem lays_by {Y M : MM} {p : Nat} (hm : ML M) (hP : MP M p) (e : ∀ k, lnKey k ∨ k = 9 → Y k = M k) (e14 : Y 14 p = M 14 p) (e15 : Y 15 p = M 15 p) (e18 : Y 18 p = M 18 p) : (if hasP (fLays Y p) then fLays Y p 42 0 else -1) = bAr (plR M p) := by
  rw [← plR_ext e e14 e15 e18]
  obtain ⟨p1, p2, p3, p4⟩ := hP.pkp hm
  exact (lays_RB (hm.1.ext (fun k hk => e k (Or.inl hk))) (hm.2.1.ext (fun k hk => e k (Or.inl hk))) ⟨by rw [e15, nhN_ext (e 37 (Or.inl (by unfold lnKey; omega)))]; exact p1, by rw [e14, nhN_ext (e 37 (Or.inl (by unfold lnKey; omega)))]; exact p2, by rw [e18]; exact p3, by rw [e 41 (Or.inl (by unfold lnKey; omega))]; exact p4⟩).ar
/-! what the law's numbers need of every state -/
def IVp (m : MM) (p : Nat) : Prop := (m 28 p = 115 → m 19 p = -1 ∨ ∃ l, l < nlN m ∧ m 19 p = nI l ∧ m 9 l = 0) ∧ (m 20 p = -1 ∨ isN (m 20 p) 0 900000) ∧ isN (m 11 p) 1 9 ∧ isN (m 12 p) 0 2 ∧ (m 28 p = 100 → isN (m 26 p) 0 (2 ^ 17))
def IV (m : MM) : Prop := ∀ p, p < npN m → IVp m p
/-- n deeds and minutes are done -/
def Stt (n : Nat) (c m : MM) : Prop := Sim n c m ∧ WFa m ∧ IV m
theorem IVp.ext {m m' : MM} {p : Nat} (h : IVp m p) (e38 : m' 38 = m 38) (e9 : m' 9 = m 9) (e : ∀ k, k = 11 ∨ k = 12 ∨ k = 19 ∨ k = 20 ∨ k = 26 ∨ k = 28 → m' k p = m k p) : IVp m' p := by
  unfold IVp
  rw [e 11 (by omega), e 12 (by omega), e 19 (by omega), e 20 (by omega), e 26 (by omega), e 28 (by omega), nlN_ext e38, e9]
  exact h
/-- a deed of one parcel, as a whole: other parcels keep all -/
def One (m m' : MM) (q : Nat) : Prop := (∀ k, oK k ∧ k ≠ 45 → m' k = m k) ∧ ∀ k i, 11 ≤ k ∧ k ≤ 29 → i ≠ q → m' k i = m k i
theorem IV.one {m m' : MM} {q : Nat} (h : IV m) (ho : One m m' q) (hq : IVp m' q) : IV m' := by
  obtain ⟨h1, h2⟩ := ho
  intro p hp
  rw [npN_ext (h1 39 (by unfold oK; omega))] at hp
  by_cases z : p = q
  · rw [z]; exact hq
  · exact (h p hp).ext (h1 38 (by unfold oK; omega)) (h1 9 (by unfold oK; omega)) (fun k hk => h2 k p (by omega) z)
theorem NP.ext {f f' : Nat → Int32} {m m' : MM} {p : Nat} (h : NP f m p) (ef : ∀ j, j < 12 → f' (140 + 12 * p + j) = f (140 + 12 * p + j)) (e : ∀ k, 11 ≤ k ∧ k ≤ 29 → k ≠ 27 → m' k p = m k p) : NP f' m' p := by
  unfold NP
  have ef0 : f' (140 + 12 * p) = f (140 + 12 * p) := ef 0 (by omega)
  rw [ef0, ef 1 (by omega), ef 2 (by omega), ef 3 (by omega), ef 4 (by omega), ef 5 (by omega), ef 6 (by omega), ef 8 (by omega), ef 9 (by omega), ef 10 (by omega), ef 11 (by omega)]
  rw [e 11 (by omega) (by omega), e 12 (by omega) (by omega), e 13 (by omega) (by omega), e 18 (by omega) (by omega), e 28 (by omega) (by omega), e 17 (by omega) (by omega), e 16 (by omega) (by omega), e 22 (by omega) (by omega), e 21 (by omega) (by omega), e 25 (by omega) (by omega), e 24 (by omega) (by omega), e 26 (by omega) (by omega)]
  exact h
theorem NT.one {f f' : Nat → Int32} {m m' : MM} {q : Nat} (h : NT f m) (hw : WFa m) (ho : One m m' q) (hf : ∀ i, (∀ j, j < 12 → i ≠ 140 + 12 * q + j) → f' i = f i) (hq : NP f' m' q) (hz : npN m ≤ q → f' (140 + 12 * q + 10) = 0) : NT f' m' := by
  obtain ⟨⟨a1, a2, a3⟩, a4, a5, a6, a7, a8⟩ := h
  obtain ⟨h1, h2⟩ := ho
  have e39 := npN_ext (h1 39 (by unfold oK; omega))
  have e38 := nlN_ext (h1 38 (by unfold oK; omega))
  have e37 := nhN_ext (h1 37 (by unfold oK; omega))
  have n9 := h1 9 (by unfold oK; omega)
  refine ⟨⟨by rw [hf 0 (fun j _ => by omega), e37]; exact a1, by rw [hf 1 (fun j _ => by omega), e38]; exact a2, by rw [hf 2 (fun j _ => by omega), e39]; exact a3⟩, fun i hi => ?_, fun l hl j hj => ?_, fun l hl => ?_, fun p hp => ?_, fun p hp hp4 => ?_⟩
  · rw [e37] at hi
    have := hw.nh.2
    rw [hf _ (fun j _ => by omega), hf _ (fun j _ => by omega), h1 0 (by unfold oK; omega), h1 1 (by unfold oK; omega)]
    exact a4 i hi
  · rw [e38] at hl
    have := hw.nl.2
    rw [hf _ (fun j _ => by omega), h1 (2 + j) (by unfold oK; omega)]
    exact a5 l hl j hj
  · rw [hf _ (fun j _ => by omega), n9]
    exact a6 l hl
  · rw [e39] at hp
    by_cases z : p = q
    · rw [z]; exact hq
    · exact (a7 p hp).ext (fun j hj => hf _ (fun j' _ => by omega)) (fun k hk _ => h2 k p hk z)
  · rw [e39] at hp
    by_cases z : p = q
    · subst z
      exact hz hp
    · rw [hf _ (fun j _ => by omega)]
      exact a8 p hp hp4
theorem NP.g0 {f : Nat → Int32} {m : MM} {p : Nat} (h : NP f m p) : f (140 + 12 * p) = m 11 p := h.1
theorem NP.g1 {f : Nat → Int32} {m : MM} {p : Nat} (h : NP f m p) : f (140 + 12 * p + 1) = m 12 p := h.2.1
theorem NP.g2 {f : Nat → Int32} {m : MM} {p : Nat} (h : NP f m p) : f (140 + 12 * p + 2) = m 13 p := h.2.2.1
theorem NP.g3 {f : Nat → Int32} {m : MM} {p : Nat} (h : NP f m p) : f (140 + 12 * p + 3) = m 18 p := h.2.2.2.1
theorem NP.g4 {f : Nat → Int32} {m : MM} {p : Nat} (h : NP f m p) (h28 : m 28 p = 116) : f (140 + 12 * p + 4) = m 17 p := (h.2.2.2.2.1 h28).1
theorem NP.g5 {f : Nat → Int32} {m : MM} {p : Nat} (h : NP f m p) (h28 : m 28 p = 116) : f (140 + 12 * p + 5) = m 16 p := (h.2.2.2.2.1 h28).2
theorem NP.g6 {f : Nat → Int32} {m : MM} {p : Nat} (h : NP f m p) : f (140 + 12 * p + 6) = m 22 p := h.2.2.2.2.2.1
theorem NP.g8 {f : Nat → Int32} {m : MM} {p : Nat} (h : NP f m p) : f (140 + 12 * p + 8) = m 21 p := h.2.2.2.2.2.2.1
theorem NP.g9 {f : Nat → Int32} {m : MM} {p : Nat} (h : NP f m p) : f (140 + 12 * p + 9) = m 25 p := h.2.2.2.2.2.2.2.1
theorem NP.g10 {f : Nat → Int32} {m : MM} {p : Nat} (h : NP f m p) : f (140 + 12 * p + 10) = m 24 p := h.2.2.2.2.2.2.2.2.1
theorem NP.g11 {f : Nat → Int32} {m : MM} {p : Nat} (h : NP f m p) : f (140 + 12 * p + 11) = if m 28 p = 100 then m 26 p else -1 := h.2.2.2.2.2.2.2.2.2
/-- a wrapper's answer, where the call goes through and changes the state -/
theorem hv_in {E0 : Nat} {c c' : MM} {b : BA} {X : Option String} {R v : Int32} {nms : List (String × Int32)} {xp : String → AH → Prop} (hX : X = none) (hR : R = v) (hxp : ∀ E h, xp E h → X = some E) : ∀ (r : Int32) (h1 : AH), ((X = none ∧ r = R ∧ ∃ b', BE c b b' ∧ RC E0 h1 b' c' ∧ WFc c') ∨ ∃ E, xp E h1 ∧ r = kdL E nms) → r = v ∧ ∃ b', b' 14 0 = b 14 0 ∧ RC E0 h1 b' c' ∧ WFc c' := by
  intro r h1 z
  rcases z with ⟨-, e, b', hb, hr, hc⟩ | ⟨E, hx, -⟩
  · exact ⟨e.trans hR, b', hb 14 0 (by decide) rfl, hr, hc⟩
  · exact absurd (hX.symm.trans (hxp E h1 hx)) (fun q => nomatch q)
theorem hv_in0 {E0 : Nat} {c' : MM} {b : BA} {X : Option String} {R v : Int32} {nms : List (String × Int32)} {xp : String → AH → Prop} (hX : X = none) (hR : R = v) (hxp : ∀ E h, xp E h → X = some E) : ∀ (r : Int32) (h1 : AH), ((X = none ∧ r = R ∧ RC E0 h1 b c' ∧ WFc c') ∨ ∃ E, xp E h1 ∧ r = kdL E nms) → r = v ∧ ∃ b', b' 14 0 = b 14 0 ∧ RC E0 h1 b' c' ∧ WFc c' := by
  intro r h1 z
  rcases z with ⟨-, e, hr, hc⟩ | ⟨E, hx, -⟩
  · exact ⟨e.trans hR, b, rfl, hr, hc⟩
  · exact absurd (hX.symm.trans (hxp E h1 hx)) (fun q => nomatch q)
/-- .. where it throws, and the state has changed all the same -/
theorem hv_x {E0 : Nat} {c c' : MM} {b : BA} {X : Option String} {Ex : String} {v : Int32} {nms : List (String × Int32)} {P : Int32 → AH → Prop} (hX : X = some Ex) (hv : kdL Ex nms = v) (hP : ∀ r h, P r h → X = none) : ∀ (r : Int32) (h1 : AH), (P r h1 ∨ ∃ E, (X = some E ∧ ∃ b', BE c b b' ∧ RC E0 h1 b' c' ∧ WFc c') ∧ r = kdL E nms) → r = v ∧ ∃ b', b' 14 0 = b 14 0 ∧ RC E0 h1 b' c' ∧ WFc c' := by
  intro r h1 z
  rcases z with z | ⟨E, ⟨e, b', hb, hr, hc⟩, er⟩
  · exact absurd (hX.symm.trans (hP r h1 z)) (fun q => nomatch q)
  · have q := Option.some.inj (hX.symm.trans e)
    subst q
    exact ⟨er.trans hv, b', hb 14 0 (by decide) rfl, hr, hc⟩
/-- .. where it throws and nothing has changed -/
theorem hv_x0 {X : Option String} {Ex : String} {v : Int32} {h0 : AH} {nms : List (String × Int32)} {P : Int32 → AH → Prop} (hX : X = some Ex) (hv : kdL Ex nms = v) (hP : ∀ r h, P r h → X = none) : ∀ (r : Int32) (h1 : AH), (P r h1 ∨ ∃ E, (X = some E ∧ h1 = h0) ∧ r = kdL E nms) → r = v ∧ h1 = h0 := by
  intro r h1 z
  rcases z with z | ⟨E, ⟨e, eh⟩, er⟩
  · exact absurd (hX.symm.trans (hP r h1 z)) (fun q => nomatch q)
  · have q := Option.some.inj (hX.symm.trans e)
    subst q
    exact ⟨er.trans hv, eh⟩
theorem hin_x {X : Option String} {Ex : String} {nms : List (String × Int32)} {xp : String → AH → Prop} (hX : X = some Ex) (hxp : ∀ E h, xp E h → X = some E) (hm : ∃ v, (Ex, v) ∈ nms) : ∀ E h', xp E h' → ∃ v, (E, v) ∈ nms := by
  intro E h' z
  have q := Option.some.inj (hX.symm.trans (hxp E h' z))
  subst q
  exact hm
theorem hin_n {X : Option String} {nms : List (String × Int32)} {xp : String → AH → Prop} (hX : X = none) (hxp : ∀ E h, xp E h → X = some E) : ∀ E h', xp E h' → ∃ v, (E, v) ∈ nms := fun E h' z => absurd (hX.symm.trans (hxp E h' z)) (fun q => nomatch q)
