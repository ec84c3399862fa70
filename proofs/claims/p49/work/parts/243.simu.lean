/-! the simulation, abstractly: S when a hub's first copy was scanned, W when its next one comes -/
def dpt (u : MM) (l r : Nat) : Nat := depN (vN (u 4 l)) (vN (u 5 l)) r
def trv (u : MM) (l : Nat) : Nat := vN (u 6 l)
def cutN (u : MM) (x : Nat) : Nat := vN (u 1 x)
theorem pdC_A (u : MM) (l r : Nat) : dA (pdC u) l r = dpt u l r + trv u l := rfl
theorem pdC_R (u : MM) (x a : Nat) : dR (pdC u) x a = max (a + 1) (a + cutN u x) := rfl
theorem pdC_F (u : MM) (l : Nat) : dF (pdC u) l = vN (u 2 l) := rfl
theorem pdC_T (u : MM) (l : Nat) : dT (pdC u) l = vN (u 3 l) := rfl
theorem pdC_N (u : MM) : dN (pdC u) = nlN u := rfl
def OT : Type := Nat → Option Nat
def rdyS (u : MM) (s0 : PS) (h s : Nat) : Nat := if h = s0.1 then s0.2.2.1 else dR (pdC u) h s
def RTS (u : MM) (s0 : PS) (S : Nat → Option Nat) (h : Nat) (t : PS) : Prop := ∃ q, run (pdC u) q s0 t ∧ t.1 = h ∧ ∀ x, x ∈ t.2.2.2 → S x ≠ none
/-- behind the arrivals of the minute T; of its departures those of the lines below j are done -/
def JS (u : MM) (s0 : PS) (sc T j : Nat) (S W : Nat → Option Nat) : Prop :=
  S s0.1 = some sc ∧ (∀ h s, S h = some s → (∃ t, RTS u s0 S h t ∧ t.2.2.1 = rdyS u s0 h s ∧ (h ≠ s0.1 → t.2.1 = s)) ∧ s ≤ T) ∧
  (∀ h w, W h = some w → ∃ l, l < nlN u ∧ dO (pdC u) l = true ∧ dT (pdC u) l = h ∧ ∃ s, S (dF (pdC u) l) = some s ∧ w = dA (pdC u) l (rdyS u s0 (dF (pdC u) l) s)) ∧
  (∀ l s, l < nlN u → dO (pdC u) l = true → S (dF (pdC u) l) = some s → (dpt u l (rdyS u s0 (dF (pdC u) l) s) < T ∨ (l < j ∧ dpt u l (rdyS u s0 (dF (pdC u) l) s) ≤ T)) → ∃ w, W (dT (pdC u) l) = some w ∧ w ≤ dA (pdC u) l (rdyS u s0 (dF (pdC u) l) s)) ∧
  (∀ h w, W h = some w → w ≤ T → S h ≠ none) ∧ ∀ h s w, h ≠ s0.1 → S h = some s → W h = some w → s ≤ w
/-- what is asked of the numbers -/
def UQ (u : MM) (s0 : PS) (sc : Nat) : Prop := NBl u ∧ LNk u ∧ s0.2.2.2 = [s0.1] ∧ s0.2.2.1 = max (s0.2.1 + 1) (sc + cutN u s0.1) ∧ sc ≤ s0.2.1
theorem UQ.A {u : MM} {s0 : PS} {sc : Nat} (h : UQ u s0 sc) : PDok (pdC u) := pdM_ok h.2.1.nl (fun l hl => vp_mono (h.2.1.ln hl).2 h.2.1.nh) h.1
theorem rdyS_lt {u : MM} {s0 : PS} {h s : Nat} (hne : h ≠ s0.1) : s < rdyS u s0 h s := by
  unfold rdyS
  rw [if_neg hne, pdC_R]
  omega
theorem dpt_ge {u : MM} (hb : NBl u) {l r : Nat} (hl : l < nlN u) : r ≤ dpt u l r := depN_ge (by have := (hb.2 l hl).2.1.2.1; unfold vN; omega)
theorem dpt_mono {u : MM} (hb : NBl u) {l a b : Nat} (hl : l < nlN u) (h : a ≤ b) : dpt u l a ≤ dpt u l b := depN_mono (by have := (hb.2 l hl).2.1.2.1; unfold vN; omega) h
theorem dpt_idem {u : MM} (hb : NBl u) {l r : Nat} (hl : l < nlN u) : dpt u l (dpt u l r) = dpt u l r := depN_idem (by have := (hb.2 l hl).2.1.2.1; unfold vN; omega)
theorem trv_1 {u : MM} (hb : NBl u) {l : Nat} (hl : l < nlN u) : 1 ≤ trv u l ∧ trv u l ≤ 60 := ⟨(hb.2 l hl).2.2.2.1, (hb.2 l hl).2.2.2.2⟩
/-- arrivals -/
def unS (T : Nat) (S W : Nat → Option Nat) : Nat → Option Nat := fun h => if W h = some T ∧ S h = none then some T else S h
theorem unS_old {T : Nat} {S W : Nat → Option Nat} {h s : Nat} (hs : S h = some s) : unS T S W h = some s := by
  unfold unS
  rw [if_neg (fun z => by rw [hs] at z; exact (nomatch z.2))]
  exact hs
theorem unS_inv {T : Nat} {S W : Nat → Option Nat} {h s : Nat} (hs : unS T S W h = some s) : S h = some s ∨ (S h = none ∧ W h = some T ∧ s = T) := by
  unfold unS at hs
  split at hs
  · next z => exact Or.inr ⟨z.2, z.1, (Option.some.inj hs).symm⟩
  · exact Or.inl hs
theorem JS.un {u : MM} {s0 : PS} {sc T : Nat} {S W : Nat → Option Nat} (hU : UQ u s0 sc) (h : JS u s0 sc T (nlN u) S W) : JS u s0 sc (T + 1) 0 (unS (T + 1) S W) W := by
  obtain ⟨a, b, c, d, e, f⟩ := h
  have hD := hU.A
  have hmon : ∀ x, S x ≠ none → unS (T + 1) S W x ≠ none := fun x hx => by
    cases hc : S x with
    | none => exact absurd hc hx
    | some s => rw [unS_old hc]; exact fun z => (nomatch z)
  have hRT : ∀ h t, RTS u s0 S h t → RTS u s0 (unS (T + 1) S W) h t := fun h t ⟨q, r1, r2, r3⟩ => ⟨q, r1, r2, fun x hx => hmon x (r3 x hx)⟩
  have hst : ∀ h, S h = none → h ≠ s0.1 := fun h hn z => by rw [z, a] at hn; exact (nomatch hn)
  refine ⟨unS_old a, fun h s hs => ?_, fun h w hw => ?_, fun l s hl ho hs hd => ?_, fun h w hw hT => ?_, fun h s w hne hs hw => ?_⟩
  · rcases unS_inv hs with g | ⟨g1, g2, g3⟩
    · obtain ⟨⟨t, t1, t2⟩, t3⟩ := b h s g
      exact ⟨⟨t, hRT h t t1, t2⟩, by omega⟩
    · obtain ⟨l, l1, l2, l3, s', l4, l5⟩ := c h (T + 1) g2
      obtain ⟨⟨t, ⟨q, r1, r2, r3⟩, t2, t3⟩, t4⟩ := b _ s' l4
      have hnv : ¬ dT (pdC u) l ∈ t.2.2.2 := fun z => r3 _ z (by rw [l3]; exact g1)
      have hx : extD (pdC u) t.1 t.2.2.2 l := ⟨l1, l2, r2.symm, hnv⟩
      have hA : dA (pdC u) l t.2.2.1 = T + 1 := by rw [t2]; exact l5.symm
      refine ⟨⟨stepD (pdC u) t l, ⟨q ++ [l], (run_app _ q [l] s0 _).mpr ⟨t, r1, (run_one _ l t _).mpr ⟨hx, rfl⟩⟩, l3, fun x hx' => ?_⟩, ?_, fun _ => ?_⟩, by omega⟩
      · rcases List.mem_cons.mp hx' with z | z
        · rw [z, l3, hs]; exact fun y => (nomatch y)
        · exact hmon x (r3 x z)
      · show dR (pdC u) (dT (pdC u) l) (dA (pdC u) l t.2.2.1) = _
        unfold rdyS
        rw [if_neg (hst h g1), hA, l3, g3]
      · show dA (pdC u) l t.2.2.1 = s
        rw [hA, g3]
  · obtain ⟨l, l1, l2, l3, s', l4, l5⟩ := c h w hw
    exact ⟨l, l1, l2, l3, s', unS_old l4, l5⟩
  · rcases unS_inv hs with g | ⟨g1, g2, g3⟩
    · exact d l s hl ho g (Or.inr ⟨hl, by omega⟩)
    · have h1 := rdyS_lt (u := u) (s := s) (hst _ g1)
      have h2 := dpt_ge hU.1 (r := rdyS u s0 (dF (pdC u) l) s) hl
      omega
  · by_cases z : w ≤ T
    · exact hmon h (e h w hw z)
    · have : w = T + 1 := by omega
      subst this
      cases hc : S h with
      | none => unfold unS; rw [if_pos ⟨hw, hc⟩]; exact fun y => (nomatch y)
      | some s => rw [unS_old hc]; exact fun y => (nomatch y)
  · rcases unS_inv hs with g | ⟨g1, g2, g3⟩
    · exact f h s w hne g hw
    · rw [g2] at hw
      have := Option.some.inj hw
      omega
/-- a departure -/
def ldS (u : MM) (T l : Nat) (W : Nat → Option Nat) : Nat → Option Nat := fun h => if h = dT (pdC u) l then some (T + trv u l) else W h
def lvC (u : MM) (s0 : PS) (T l : Nat) (S : Nat → Option Nat) : Prop := dO (pdC u) l = true ∧ dpt u l T = T ∧ ∃ s, S (dF (pdC u) l) = some s ∧ rdyS u s0 (dF (pdC u) l) s ≤ T
theorem JS.no {u : MM} {s0 : PS} {sc T j : Nat} {S W : Nat → Option Nat} (hU : UQ u s0 sc) (h : JS u s0 sc T j S W) (hj : j < nlN u)
    (hc : ¬ lvC u s0 T j S ∨ ∃ w, W (dT (pdC u) j) = some w ∧ w ≤ T + trv u j) : JS u s0 sc T (j + 1) S W := by
  obtain ⟨a, b, c, d, e, f⟩ := h
  refine ⟨a, b, c, fun l s hl ho hs hd => ?_, e, f⟩
  by_cases z : dpt u l (rdyS u s0 (dF (pdC u) l) s) < T ∨ (l < j ∧ dpt u l (rdyS u s0 (dF (pdC u) l) s) ≤ T)
  · exact d l s hl ho hs z
  · have el : l = j := by omega
    have ed : dpt u l (rdyS u s0 (dF (pdC u) l) s) = T := by omega
    subst el
    rcases hc with hc | ⟨w, w1, w2⟩
    · refine absurd ⟨ho, ?_, s, hs, ?_⟩ hc
      · rw [← ed]; exact dpt_idem hU.1 hl
      · rw [← ed]; exact dpt_ge hU.1 hl
    · exact ⟨w, w1, by rw [pdC_A, ed]; exact w2⟩
theorem JS.ld {u : MM} {s0 : PS} {sc T j : Nat} {S W : Nat → Option Nat} (hU : UQ u s0 sc) (h : JS u s0 sc T j S W) (hj : j < nlN u) (hc : lvC u s0 T j S)
    (hw : ∀ w, W (dT (pdC u) j) = some w → T + trv u j < w) : JS u s0 sc T (j + 1) S (ldS u T j W) := by
  obtain ⟨a, b, c, d, e, f⟩ := h
  obtain ⟨c1, c2, s1, c3, c4⟩ := hc
  have ht := trv_1 hU.1 hj
  have hle : dpt u j (rdyS u s0 (dF (pdC u) j) s1) ≤ T := by
    have := dpt_mono hU.1 hj c4
    omega
  have ed : dpt u j (rdyS u s0 (dF (pdC u) j) s1) = T := by
    by_cases z : dpt u j (rdyS u s0 (dF (pdC u) j) s1) < T
    · obtain ⟨w, w1, w2⟩ := d j s1 hj c1 c3 (Or.inl z)
      have := hw w w1
      rw [pdC_A] at w2
      omega
    · omega
  refine ⟨a, b, fun h w hh => ?_, fun l s hl ho hs hd => ?_, fun h w hh hT => ?_, fun h s w hne hs hh => ?_⟩
  · unfold ldS at hh
    split at hh
    · next z => exact ⟨j, hj, c1, z.symm, s1, c3, by rw [pdC_A, ed]; exact (Option.some.inj hh).symm⟩
    · exact c h w hh
  · by_cases el : l = j
    · subst el
      rw [c3] at hs
      have := Option.some.inj hs
      subst this
      exact ⟨T + trv u l, if_pos rfl, by rw [pdC_A, ed]; exact Nat.le_refl _⟩
    · obtain ⟨w, w1, w2⟩ := d l s hl ho hs (by omega)
      by_cases y : dT (pdC u) l = dT (pdC u) j
      · rw [y] at w1
        have := hw w w1
        exact ⟨T + trv u j, if_pos y, by omega⟩
      · exact ⟨w, by unfold ldS; rw [if_neg y]; exact w1, w2⟩
  · unfold ldS at hh
    split at hh
    · have := Option.some.inj hh
      omega
    · exact e h w hh hT
  · unfold ldS at hh
    split at hh
    · have := Option.some.inj hh
      have := (b h s hs).2
      omega
    · exact f h s w hne hs hh
/-- who can have come is there -/
theorem JS.cpl {u : MM} {s0 : PS} {sc T : Nat} {S W : Nat → Option Nat} (hU : UQ u s0 sc) (h : JS u s0 sc T 0 S W) : ∀ q t, run (pdC u) q s0 t → t.2.1 ≤ T → ∃ s, S t.1 = some s ∧ rdyS u s0 t.1 s ≤ t.2.2.1 := by
  obtain ⟨a, b, c, d, e, f⟩ := h
  have hD := hU.A
  have hs0 : PSok s0 := by
    unfold PSok
    rw [hU.2.2.2.1]
    omega
  have hv0 : s0.1 ∈ s0.2.2.2 := by rw [hU.2.2.1]; simp
  refine snoc_ind (fun t ht _ => ?_) (fun q l ih t ht hT => ?_)
  · rw [show t = s0 from ht]
    exact ⟨sc, a, by unfold rdyS; rw [if_pos rfl]; exact Nat.le_refl _⟩
  · obtain ⟨t1, r1, r2⟩ := (run_app _ q [l] s0 t).mp ht
    obtain ⟨⟨x1, x2, x3, x4⟩, r3⟩ := (run_one _ l t1 t).mp r2
    have x1' : l < nlN u := x1
    have hk := (run_time hD q s0 t1 hs0 r1).1
    have hvis := run_vis q s0 t1 r1 hv0
    have hA : t.2.1 = dpt u l t1.2.2.1 + trv u l := by rw [r3]; rfl
    have htr := trv_1 hU.1 x1'
    have hge := dpt_ge hU.1 (r := t1.2.2.1) x1'
    have hk2 : t1.2.1 ≤ t1.2.2.1 := hk
    obtain ⟨s1, y1, y2⟩ := ih t1 r1 (by omega)
    rw [← x3] at y1 y2
    have hmo := dpt_mono hU.1 x1' y2
    obtain ⟨w, w1, w2⟩ := d l s1 x1' x2 y1 (Or.inl (by omega))
    rw [pdC_A] at w2
    have hne : dT (pdC u) l ≠ s0.1 := fun z => x4 (by rw [z]; exact hvis.2 _ hv0)
    have hSn := e _ w w1 (by omega)
    cases hc : S (dT (pdC u) l) with
    | none => exact absurd hc hSn
    | some s =>
      have hf := f _ s w hne hc w1
      have e1 : t.1 = dT (pdC u) l := by rw [r3]; rfl
      have e2 : t.2.2.1 = dR (pdC u) (dT (pdC u) l) (dA (pdC u) l t1.2.2.1) := by rw [r3]; rfl
      rw [e1, e2]
      refine ⟨s, hc, ?_⟩
      unfold rdyS
      rw [if_neg hne, pdC_R, pdC_R, pdC_A]
      omega
def stS (s0 : PS) (sc : Nat) : Nat → Option Nat := fun h => if h = s0.1 then some sc else none
def noS : Nat → Option Nat := fun _ => none
theorem JS.start {u : MM} {s0 : PS} {sc : Nat} (hU : UQ u s0 sc) : JS u s0 sc s0.2.1 (nlN u) (stS s0 sc) noS := by
  have e : ∀ h, stS s0 sc h = if h = s0.1 then some sc else none := fun _ => rfl
  refine ⟨if_pos rfl, fun h s hs => ?_, fun h w hw => (nomatch hw), fun l s hl ho hs hd => ?_, fun h w hw => (nomatch hw), fun h s w _ _ hw => (nomatch hw)⟩
  · rw [e] at hs
    by_cases z : h = s0.1
    · rw [if_pos z] at hs
      have := Option.some.inj hs
      refine ⟨⟨s0, ⟨[], rfl, z.symm, fun x hx => ?_⟩, by unfold rdyS; rw [if_pos z], fun y => absurd z y⟩, by have := hU.2.2.2.2; omega⟩
      rw [hU.2.2.1] at hx
      rw [List.mem_singleton.mp hx, e, if_pos rfl]
      exact fun y => (nomatch y)
    · rw [if_neg z] at hs; exact (nomatch hs)
  · exfalso
    rw [e] at hs
    by_cases z : dF (pdC u) l = s0.1
    · have hr : rdyS u s0 (dF (pdC u) l) s = s0.2.2.1 := by unfold rdyS; rw [if_pos z]
      rw [hr] at hd
      have h1 := dpt_ge hU.1 (r := s0.2.2.1) hl
      have h2 := hU.2.2.2.1
      omega
    · rw [if_neg z] at hs; exact (nomatch hs)
/-- how late one may be -/
theorem run_late {u : MM} {s0 : PS} {sc : Nat} (hU : UQ u s0 sc) (hx : s0.1 < nhN u) : ∀ q t, run (pdC u) q s0 t → t.2.1 ≤ s0.2.1 + 140 * q.length ∧ t.2.2.1 ≤ s0.2.1 + 20 + 140 * q.length := by
  refine snoc_ind (fun t ht => ?_) (fun q l ih t ht => ?_)
  · rw [show t = s0 from ht]
    have h1 := hU.2.2.2.1
    have h2 := hU.2.2.2.2
    have h3 : cutN u s0.1 ≤ 20 := (hU.1.1 _ hx).2.2
    exact ⟨Nat.le_add_right _ _, by omega⟩
  · obtain ⟨t1, r1, r2⟩ := (run_app _ q [l] s0 t).mp ht
    obtain ⟨⟨x1, x2, x3, x4⟩, r3⟩ := (run_one _ l t1 t).mp r2
    have x1' : l < nlN u := x1
    obtain ⟨i1, i2⟩ := ih t1 r1
    have hA : t.2.1 = dpt u l t1.2.2.1 + trv u l := by rw [r3]; rfl
    have hR : t.2.2.1 = max (t.2.1 + 1) (t.2.1 + cutN u (dT (pdC u) l)) := by rw [r3]; rfl
    have htr := trv_1 hU.1 x1'
    have hc : cutN u (dT (pdC u) l) ≤ 20 := (hU.1.1 _ (vp_nat (hU.2.1.ln x1').2)).2.2
    have hd : dpt u l t1.2.2.1 ≤ t1.2.2.1 + 60 := by
      obtain ⟨n4, n5, -⟩ := hU.1.2 l x1'
      have a1 := n4.2.2
      have a2 := n5.2.1
      have a3 := n5.2.2
      have := depN_le (f := vN (u 4 l)) (p := vN (u 5 l)) (e := t1.2.2.1) (by unfold vN; omega)
      unfold dpt
      have b1 : vN (u 4 l) ≤ 59 := a1
      have b2 : vN (u 5 l) ≤ 60 := a3
      have : max (vN (u 4 l)) (t1.2.2.1 + vN (u 5 l)) ≤ t1.2.2.1 + 60 := by omega
      omega
    rw [List.length_append, List.length_singleton]
    omega

