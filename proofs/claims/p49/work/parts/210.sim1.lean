/-! the class's state beside the reference's -/
def pk (k : Nat) : Bool := (decide (11 ≤ k) && decide (k ≤ 15)) || (decide (17 ≤ k) && decide (k ≤ 29))
/-- counts, minute, hubs, lines -/
def SL (c m : MM) : Prop := (nhN c = nhN m ∧ nlN c = nlN m ∧ npN c = npN m) ∧ c 41 0 = m 41 0 ∧ (∀ h, h < nhN m → c 0 h = m 0 h ∧ c 1 h = m 1 h) ∧ ∀ l, l < nlN m → (∀ k, 2 ≤ k → k ≤ 7 → c k l = m k l) ∧ (c 108 l = 0 ↔ ¬ m 9 l = 0)
def ML (m : MM) : Prop := LNk m ∧ NBl m ∧ npN m ≤ 40 ∧ isN (m 41 0) 0 (2 ^ 17)
/-- a parcel -/
def SP (c m : MM) (p : Nat) : Prop := (∀ k, pk k = true → c k p = m k p) ∧ (m 28 p = 116 → c 116 p = m 16 p)
def MP (m : MM) (p : Nat) : Prop := (vp_in (m 13 p) (nhN m) ∧ vp_in (m 14 p) (nhN m) ∧ vp_in (m 15 p) (nhN m)) ∧ isN (m 18 p) 0 (2 ^ 17) ∧ (m 20 p = -1 ∨ isN (m 20 p) 0 (2 ^ 24)) ∧ (m 21 p = -1 ∨ isN (m 21 p) 0 (2 ^ 17))
/-- who waits for a line waits where it leaves -/
def NX (m : MM) (p : Nat) : Prop := m 28 p = 115 → ∀ l, l < nlN m → m 19 p = nI l → m 2 l = m 15 p
theorem MP.pkp {m : MM} {p : Nat} (h : MP m p) (hm : ML m) : PKp m p := ⟨h.1.2.2, h.1.2.1, h.2.1, hm.2.2.2⟩
def lnKey (k : Nat) : Prop := k ≤ 7 ∨ k = 37 ∨ k = 38 ∨ k = 39 ∨ k = 41
theorem SL.ext {c m c' m' : MM} (h : SL c m) (e1 : ∀ k, lnKey k → c' k = c k) (e2 : ∀ k, lnKey k → m' k = m k) (e3 : c' 108 = c 108) (e4 : m' 9 = m 9) : SL c' m' := by
  obtain ⟨⟨a1, a2, a3⟩, b, d, f⟩ := h
  have n1 : nhN m' = nhN m := nhN_ext (e2 37 (by unfold lnKey; omega))
  have n2 : nlN m' = nlN m := nlN_ext (e2 38 (by unfold lnKey; omega))
  have n3 : npN m' = npN m := npN_ext (e2 39 (by unfold lnKey; omega))
  refine ⟨⟨?_, ?_, ?_⟩, ?_, fun h hh => ?_, fun l hl => ⟨fun k h2 h7 => ?_, ?_⟩⟩
  · rw [n1, nhN_ext (e1 37 (by unfold lnKey; omega)), a1]
  · rw [n2, nlN_ext (e1 38 (by unfold lnKey; omega)), a2]
  · rw [n3, npN_ext (e1 39 (by unfold lnKey; omega)), a3]
  · rw [e1 41 (by unfold lnKey; omega), e2 41 (by unfold lnKey; omega), b]
  · rw [n1] at hh
    rw [e1 0 (by unfold lnKey; omega), e1 1 (by unfold lnKey; omega), e2 0 (by unfold lnKey; omega), e2 1 (by unfold lnKey; omega)]
    exact d h hh
  · rw [n2] at hl
    rw [e1 k (by unfold lnKey; omega), e2 k (by unfold lnKey; omega)]
    exact (f l hl).1 k h2 h7
  · rw [n2] at hl
    rw [e3, e4]
    exact (f l hl).2
theorem LNk.ext {m m' : MM} (h : LNk m) (e : ∀ k, lnKey k → m' k = m k) : LNk m' := by
  obtain ⟨a1, a2, a3⟩ := h
  have n1 : nhN m' = nhN m := nhN_ext (e 37 (by unfold lnKey; omega))
  have n2 : nlN m' = nlN m := nlN_ext (e 38 (by unfold lnKey; omega))
  refine ⟨by rw [n1]; exact a1, by rw [n2]; exact a2, fun l hl => ?_⟩
  rw [n2] at hl
  rw [n1, e 2 (by unfold lnKey; omega), e 3 (by unfold lnKey; omega)]
  exact a3 l hl
theorem NBl.ext {m m' : MM} (h : NBl m) (e : ∀ k, lnKey k → m' k = m k) : NBl m' := by
  obtain ⟨a1, a2⟩ := h
  have n1 : nhN m' = nhN m := nhN_ext (e 37 (by unfold lnKey; omega))
  have n2 : nlN m' = nlN m := nlN_ext (e 38 (by unfold lnKey; omega))
  refine ⟨fun x hx => ?_, fun l hl => ?_⟩
  · rw [n1] at hx
    rw [e 1 (by unfold lnKey; omega)]
    exact a1 x hx
  · rw [n2] at hl
    rw [e 4 (by unfold lnKey; omega), e 5 (by unfold lnKey; omega), e 6 (by unfold lnKey; omega)]
    exact a2 l hl
theorem ML.ext {m m' : MM} (h : ML m) (e : ∀ k, lnKey k → m' k = m k) : ML m' :=
  ⟨h.1.ext e, h.2.1.ext e, by rw [npN_ext (e 39 (by unfold lnKey; omega))]; exact h.2.2.1, by rw [e 41 (by unfold lnKey; omega)]; exact h.2.2.2⟩
/-- what is asked of the class's numbers follows -/
theorem SL.lnk {c m : MM} (h : SL c m) (hm : LNk m) : LNk c := by
  obtain ⟨⟨a1, a2, a3⟩, b, d, f⟩ := h
  refine ⟨by rw [a1]; exact hm.1, by rw [a2]; exact hm.2.1, fun l hl => ?_⟩
  rw [a2] at hl
  rw [a1, (f l hl).1 2 (by omega) (by omega), (f l hl).1 3 (by omega) (by omega)]
  exact hm.2.2 l hl
theorem SL.nbl {c m : MM} (h : SL c m) (hm : NBl m) : NBl c := by
  obtain ⟨⟨a1, a2, a3⟩, b, d, f⟩ := h
  refine ⟨fun x hx => ?_, fun l hl => ?_⟩
  · rw [a1] at hx
    rw [(d x hx).2]
    exact hm.1 x hx
  · rw [a2] at hl
    rw [(f l hl).1 4 (by omega) (by omega), (f l hl).1 5 (by omega) (by omega), (f l hl).1 6 (by omega) (by omega)]
    exact hm.2 l hl
theorem SL.pd {c m : MM} (h : SL c m) (hm : LNk m) : PDeq (pdC c) (pdR m) := by
  obtain ⟨⟨a1, a2, a3⟩, b, d, f⟩ := h
  refine ⟨a2, fun l hl => ?_⟩
  have hl' : l < nlN m := by rw [← a2]; exact hl
  obtain ⟨g1, g2⟩ := f l hl'
  have e2 := g1 2 (by omega) (by omega)
  have e3 := g1 3 (by omega) (by omega)
  have e4 := g1 4 (by omega) (by omega)
  have e5 := g1 5 (by omega) (by omega)
  have e6 := g1 6 (by omega) (by omega)
  refine ⟨?_, ?_, ?_, fun r => ?_, fun a => ?_⟩
  · show decide (¬ c 108 l = 0) = decide (m 9 l = 0)
    by_cases z : m 9 l = 0
    · have y : ¬ c 108 l = 0 := fun y => (g2.mp y) z
      rw [decide_eq_true z, decide_eq_true y]
    · have y : ¬ ¬ c 108 l = 0 := fun y => y (g2.mpr z)
      rw [decide_eq_false z, decide_eq_false y]
  · show vN (c 2 l) = vN (m 2 l); rw [e2]
  · show vN (c 3 l) = vN (m 3 l); rw [e3]
  · show depN (vN (c 4 l)) (vN (c 5 l)) r + vN (c 6 l) = depN (vN (m 4 l)) (vN (m 5 l)) r + vN (m 6 l); rw [e4, e5, e6]
  · show max (a + 1) (a + vN (c 1 (vN (c 3 l)))) = max (a + 1) (a + vN (m 1 (vN (c 3 l))))
    rw [e3, (d _ (vp_nat (hm.ln hl').2)).2]
theorem SP.psp {c m : MM} {p : Nat} (h : SL c m) (hp : SP c m p) (hv : vp_in (m 15 p) (nhN m)) : psP c p = psP m p := by
  unfold psP psAt
  rw [hp.1 15 rfl, hp.1 18 rfl, h.2.1, (h.2.2.1 _ (vp_nat hv)).2]
/-- both find the same route -/
theorem plan_res {c m : MM} {p : Nat} (h : SL c m) (hm : ML m) (hp : SP c m p) (hP : MP m p) : BRes c (psP m p) (cBp c p (c 41 0)) (plR m p) ∧ ∀ k, ¬ kPth k → (cBp c p (c 41 0)).2 k = c k := by
  have hk := hP.pkp hm
  have hkc : PKp c p := by
    obtain ⟨k1, k2, k3, k4⟩ := hk
    exact ⟨by rw [hp.1 15 rfl, h.1.1]; exact k1, by rw [hp.1 14 rfl, h.1.1]; exact k2, by rw [hp.1 18 rfl]; exact k3, by rw [h.2.1]; exact k4⟩
  obtain ⟨⟨b, h1, h2⟩, h3⟩ := cBp_best (h.lnk hm.1) (h.nbl hm.2.1) hkc
  have e := hp.psp h hk.1
  have hF := BFix.of hm.1 hm.2.1 hk
  have hD : PDok (pdR m) := pdM_ok hm.1.nl (fun l hl => vp_mono (hm.1.ln hl).2 hm.1.nh) hm.2.1
  have hb : isBest (pdR m) (psP m p) (vN (m 14 p)) (fun _ => True) (plR m p) := dfs_all hD hF.U.1 hF.U.2
  rw [hp.1 14 rfl, e] at h1
  have hbb := isBest.uniq hD ((h.pd hm.1).best h1) hb
  rw [hbb, e] at h2
  exact ⟨h2, h3⟩
/-- the first line of the route leaves from where one is -/
theorem plR_from {m : MM} {p : Nat} (hm : ML m) (hP : MP m p) {l : Nat} (hl : l < nlN m) (h : bHd (plR m p) = nI l) : m 2 l = m 15 p := by
  have hk := hP.pkp hm
  have hF := BFix.of hm.1 hm.2.1 hk
  have hnl := hm.1.nl
  have hnh := hm.1.nh
  have hD : PDok (pdR m) := pdM_ok hm.1.nl (fun l hl => vp_mono (hm.1.ln hl).2 hm.1.nh) hm.2.1
  have hb : isBest (pdR m) (psP m p) (vN (m 14 p)) (fun _ => True) (plR m p) := dfs_all hD hF.U.1 hF.U.2
  cases hc : plR m p with
  | none => rw [hc] at h; exact absurd h.symm (nI_nm (by omega))
  | some x =>
    obtain ⟨a, q⟩ := x
    rw [hc] at h hb
    cases q with
    | nil => exact absurd h.symm (nI_nm (by omega))
    | cons k q =>
      obtain ⟨⟨t, -, h1, -⟩, -⟩ := hb
      have hx := h1.1
      have hkl : k < nlN m := hx.1
      have e : k = l := (nI_eq (by omega) (by omega)).mp h
      subst e
      have h2 : vN (m 2 k) = vN (m 15 p) := hx.2.2.1
      have v2 := vp_nI (hm.1.ln hl).1 (by omega)
      have v15 := vp_nI hk.1 (by omega)
      rw [v2, v15]
      exact congrArg nI h2

