/-! the class's simulation finds the earliest arrival -/
def eo : Option Nat → Int32
  | none => -1
  | some t => nI t
def SRS (v : MM) (S W : Nat → Option Nat) : Prop := ∀ h, h < 6 → v 160 h = eo (S h) ∧ v 161 h = eo (W h)
theorem eo_n {o : Option Nat} (h : ∀ t, o = some t → t < 2 ^ 24) : eo o = -1 ↔ o = none := by
  cases o with
  | none => exact ⟨fun _ => rfl, fun _ => rfl⟩
  | some t => exact ⟨fun z => absurd z (nI_nm (by have := h t rfl; omega)), fun z => (nomatch z)⟩
theorem eo_s {o : Option Nat} (h : ∀ t, o = some t → t < 2 ^ 24) {T : Nat} (hT : T < 2 ^ 24) : eo o = nI T ↔ o = some T := by
  cases o with
  | none => exact ⟨fun z => absurd z.symm (nI_nm (by omega)), fun z => (nomatch z)⟩
  | some t =>
    have := h t rfl
    exact ⟨fun z => by rw [(nI_eq (by omega) (by omega)).mp z], fun z => by rw [Option.some.inj z]; rfl⟩
theorem JS.sb {u : MM} {s0 : PS} {sc T j : Nat} {S W : Nat → Option Nat} (h : JS u s0 sc T j S W) (hT : T < 2 ^ 20) : ∀ x t, S x = some t → t < 2 ^ 24 := fun x t hs => by
  have := (h.2.1 x t hs).2
  omega
theorem JS.wb {u : MM} {s0 : PS} {sc T j : Nat} {S W : Nat → Option Nat} (hU : UQ u s0 sc) (hx : s0.1 < nhN u) (h : JS u s0 sc T j S W) (hT : T < 2 ^ 20) (hn : s0.2.1 ≤ T) : ∀ x t, W x = some t → t < 2 ^ 24 := fun x t hw => by
  obtain ⟨l, l1, l2, l3, s, l4, l5⟩ := h.2.2.1 x t hw
  have hs := (h.2.1 _ s l4).2
  have htr := trv_1 hU.1 l1
  have hr : rdyS u s0 (dF (pdC u) l) s ≤ T + 20 := by
    unfold rdyS
    split
    · have h1 := hU.2.2.2.1
      have h2 := hU.2.2.2.2
      have h3 : cutN u s0.1 ≤ 20 := (hU.1.1 _ hx).2.2
      omega
    · have h3 : cutN u (dF (pdC u) l) ≤ 20 := (hU.1.1 _ (vp_nat (hU.2.1.ln l1).1)).2.2
      rw [pdC_R]
      omega
  have hd : dpt u l (rdyS u s0 (dF (pdC u) l) s) ≤ T + 80 := by
    obtain ⟨n4, n5, -⟩ := hU.1.2 l l1
    have b1 : vN (u 4 l) ≤ 59 := n4.2.2
    have b2 : vN (u 5 l) ≤ 60 := n5.2.2
    have b3 : 5 ≤ vN (u 5 l) := n5.2.1
    have := depN_le (f := vN (u 4 l)) (p := vN (u 5 l)) (e := rdyS u s0 (dF (pdC u) l) s) (by omega)
    unfold dpt
    have : max (vN (u 4 l)) (rdyS u s0 (dF (pdC u) l) s + vN (u 5 l)) ≤ T + 80 := by omega
    omega
  rw [pdC_A] at l5
  omega
theorem cUnl_160 (now : Int32) : ∀ (k i : Nat) (u : MM) (h : Nat), cUnl now k i u 160 h = if (i ≤ h ∧ h < i + k) ∧ u 161 h = now ∧ u 160 h = -1 then now else u 160 h := by
  intro k
  induction k with
  | zero => intro i u h; rw [if_neg (by omega)]; rfl
  | succ k ih =>
    intro i u h
    have e : cUnl now (k + 1) i u = cUnl now k (i + 1) (if u 161 i = now ∧ u 160 i = -1 then up u 160 i now else u) := rfl
    rw [e, ih]
    by_cases c : u 161 i = now ∧ u 160 i = -1
    · rw [if_pos c, up_k (k' := 161) (by omega)]
      by_cases z : h = i
      · subst z
        rw [if_neg (by omega), up_s, if_pos ⟨by omega, c⟩]
      · rw [up_i z]
        by_cases w : (i + 1 ≤ h ∧ h < i + 1 + k) ∧ u 161 h = now ∧ u 160 h = -1
        · rw [if_pos w, if_pos ⟨by omega, w.2⟩]
        · rw [if_neg w, if_neg (fun y => w ⟨by omega, y.2⟩)]
    · rw [if_neg c]
      by_cases z : h = i
      · subst z
        rw [if_neg (by omega), if_neg (fun y => c y.2)]
      · by_cases w : (i + 1 ≤ h ∧ h < i + 1 + k) ∧ u 161 h = now ∧ u 160 h = -1
        · rw [if_pos w, if_pos ⟨by omega, w.2⟩]
        · rw [if_neg w, if_neg (fun y => w ⟨by omega, y.2⟩)]
theorem SRS.un {v : MM} {S W : Nat → Option Nat} (h : SRS v S W) {T : Nat} (hT : T < 2 ^ 24) (hS : ∀ x t, S x = some t → t < 2 ^ 24) (hW : ∀ x t, W x = some t → t < 2 ^ 24) : SRS (cUnl (nI T) 6 0 v) (unS T S W) W := by
  intro x hx
  obtain ⟨h1, h2⟩ := h x hx
  refine ⟨?_, by rw [cUnl_key _ _ _ _ (by omega)]; exact h2⟩
  rw [cUnl_160, h1, h2]
  unfold unS
  by_cases z : W x = some T ∧ S x = none
  · rw [if_pos z, if_pos ⟨by omega, (eo_s (hW x) hT).mpr z.1, (eo_n (hS x)).mpr z.2⟩]; rfl
  · rw [if_neg z, if_neg (fun y => z ⟨(eo_s (hW x) hT).mp y.2.1, (eo_n (hS x)).mp y.2.2⟩)]
theorem SRS.ld {u v : MM} {s0 : PS} {sc T l : Nat} {S W : Nat → Option Nat} (hU : UQ u s0 sc) (hx0 : s0.1 < nhN u) (hv : ∀ k, k ≠ 160 → k ≠ 161 → v k = u k) (h : SRS v S W) (hJ : JS u s0 sc T l S W) (hl : l < nlN u) (hT : s0.2.1 + 1 ≤ T) (hT2 : T < 2 ^ 20) :
    ∃ W', SRS (cLd1 v (nI T) l) S W' ∧ JS u s0 sc T (l + 1) S W' := by
  have hSb := hJ.sb hT2
  have hWb := hJ.wb hU hx0 hT2 (by omega)
  have nh6 := hU.2.1.nh
  obtain ⟨n4, n5, n6⟩ := hU.1.2 l hl
  obtain ⟨v2, v3⟩ := hU.2.1.ln hl
  have l2 := vp_nat v2
  have l3 := vp_nat v3
  have hcut := hU.1.1 _ l2
  have eF : dF (pdC u) l = vN (u 2 l) := rfl
  have eT : dT (pdC u) l = vN (u 3 l) := rfl
  obtain ⟨x, hx⟩ : ∃ z, z = vN (u 2 l) := ⟨_, rfl⟩
  obtain ⟨y, hy⟩ : ∃ z, z = vN (u 3 l) := ⟨_, rfl⟩
  have l2' : x < nhN u := by rw [hx]; exact l2
  have l3' : y < nhN u := by rw [hy]; exact l3
  rw [← hx] at eF
  rw [← hy] at eT
  have hcut' : isN (u 1 x) 1 20 := by rw [hx]; exact hcut
  obtain ⟨g1, -⟩ := h x (by omega)
  obtain ⟨-, g2⟩ := h y (by omega)
  have eD : cDep v l (nI T) = nI (dpt u l T) := by
    rw [cDep_N (by rw [hv 4 (by omega) (by omega)]; exact n4) (by rw [hv 5 (by omega) (by omega)]; exact n5) (by omega), hv 4 (by omega) (by omega), hv 5 (by omega) (by omega)]
    rfl
  have e6 : nI T + v 6 l = nI (T + trv u l) := by
    rw [hv 6 (by omega) (by omega), n6.1, nI_add]; rfl
  have hdl : dpt u l T < 2 ^ 24 := by
    have b1 : vN (u 4 l) ≤ 59 := n4.2.2
    have b2 : vN (u 5 l) ≤ 60 := n5.2.2
    have b3 : 5 ≤ vN (u 5 l) := n5.2.1
    have := depN_le (f := vN (u 4 l)) (p := vN (u 5 l)) (e := T) (by omega)
    unfold dpt
    omega
  have hC : (¬ v 160 (v 2 l).toNatClampNeg = -1 ∧ ¬ cLvn v l (nI T) = 0 ∧ v 1 (v 2 l).toNatClampNeg ≤ nI T - v 160 (v 2 l).toNatClampNeg) ↔ lvC u s0 T l S := by
    have ex : (v 2 l).toNatClampNeg = x := by rw [hv 2 (by omega) (by omega)]; exact hx.symm
    unfold cLvn lvC
    rw [ex, g1, hv 108 (by omega) (by omega), hv 1 (by omega) (by omega), eD, bi_n0, eF, nI_eq (by omega) (by omega)]
    have eO : dO (pdC u) l = true ↔ ¬ u 108 l = 0 := by
      show decide (¬ u 108 l = 0) = true ↔ _
      rw [decide_eq_true_iff]
    rw [eO]
    have hkey : ∀ s, S x = some s → (u 1 x ≤ nI T - nI s ↔ rdyS u s0 x s ≤ T) := fun s hs => by
      have hsT := (hJ.2.1 x s hs).2
      have c1 : 1 ≤ cutN u x := hcut'.2.1
      have ec : u 1 x = nI (cutN u x) := hcut'.1
      have c2 : cutN u x ≤ 20 := hcut'.2.2
      rw [ec, nI_sub hsT, nI_leI (by omega) (by omega)]
      unfold rdyS
      by_cases z : x = s0.1
      · rw [if_pos z, hU.2.2.2.1]
        have hs0 : s = sc := by
          have := hJ.1
          rw [← z, hs] at this
          exact Option.some.inj this
        rw [← z]
        omega
      · rw [if_neg z, pdC_R]
        omega
    constructor
    · rintro ⟨p1, ⟨p2, p3⟩, p4⟩
      cases hc : S x with
      | none => rw [hc] at p1; exact absurd rfl p1
      | some s =>
        rw [hc] at p4
        exact ⟨p2, p3, s, rfl, (hkey s hc).mp p4⟩
    · rintro ⟨p1, p2, s, p3, p4⟩
      rw [p3]
      exact ⟨nI_nm (by have := hSb x s p3; omega), ⟨p1, p2⟩, (hkey s p3).mpr p4⟩
  have ey : (v 3 l).toNatClampNeg = y := by rw [hv 3 (by omega) (by omega)]; exact hy.symm
  have hT24 : T + trv u l < 2 ^ 24 := by
    have : trv u l ≤ 60 := n6.2.2
    omega
  unfold cLd1
  by_cases z : lvC u s0 T l S
  · rw [if_pos (hC.mpr z), ey, g2, e6]
    by_cases w : ∃ t, W y = some t ∧ t ≤ T + trv u l
    · obtain ⟨t, w1, w2⟩ := w
      rw [if_neg]
      · exact ⟨W, h, hJ.no hU hl (Or.inr ⟨t, by rw [eT]; exact w1, w2⟩)⟩
      · rw [w1]
        have := hWb y t w1
        rintro (q | q)
        · exact nI_nm (by omega) q
        · have := (nI_ltI (by omega) (by omega)).mp q
          omega
    · rw [if_pos]
      · refine ⟨ldS u T l W, fun i hi => ?_, hJ.ld hU hl z (fun t ht => ?_)⟩
        · obtain ⟨q1, q2⟩ := h i hi
          rw [up_k (by omega)]
          refine ⟨q1, ?_⟩
          unfold ldS
          rw [eT]
          by_cases r : i = y
          · rw [if_pos r, r, up_s]; rfl
          · rw [if_neg r, up_i r]; exact q2
        · rw [eT] at ht
          exact Nat.lt_of_not_le (fun q => w ⟨t, ht, q⟩)
      · cases hc : W y with
        | none => exact Or.inl rfl
        | some t =>
          have := hWb y t hc
          exact Or.inr ((nI_ltI (by omega) (by omega)).mpr (Nat.lt_of_not_le (fun q => w ⟨t, hc, q⟩)))
  · rw [if_neg (fun q => z (hC.mp q))]
    exact ⟨W, h, hJ.no hU hl (Or.inl z)⟩
theorem SRS.lds {u : MM} {s0 : PS} {sc T : Nat} {S : Nat → Option Nat} (hU : UQ u s0 sc) (hx0 : s0.1 < nhN u) (hT : s0.2.1 + 1 ≤ T) (hT2 : T < 2 ^ 20) : ∀ (k l : Nat) (v : MM) (W : Nat → Option Nat), l + k = nlN u → (∀ k, k ≠ 160 → k ≠ 161 → v k = u k) → SRS v S W → JS u s0 sc T l S W →
    ∃ W', SRS (cLdL (nI T) k l v) S W' ∧ JS u s0 sc T (nlN u) S W' := by
  intro k
  induction k with
  | zero => intro l v W hk _ h hJ; exact ⟨W, h, by rw [← hk]; exact hJ⟩
  | succ k ih =>
    intro l v W hk hv h hJ
    obtain ⟨W1, a, b⟩ := h.ld hU hx0 hv hJ (by omega) hT hT2
    exact ih (l + 1) _ W1 (by omega) (fun k h1 h2 => by rw [cLd1_key _ _ _ h2]; exact hv k h1 h2) a b
theorem best_le {D : PD} {s0 : PS} {g : Nat} {b : Option (Nat × List Nat)} (hb : isBest D s0 g (fun _ => True) b) {q : List Nat} {t : PS} (hr : run D q s0 t) (ht : t.1 = g) : ∃ a p t', b = some (a, p) ∧ a ≤ t.2.1 ∧ run D p s0 t' ∧ t'.1 = g ∧ t'.2.1 = a := by
  cases b with
  | none => exact absurd ht (hb q t trivial hr)
  | some x =>
    obtain ⟨a, p⟩ := x
    obtain ⟨⟨t', -, h1, h2, h3⟩, h4⟩ := hb
    have k := h4 q t trivial hr ht
    unfold kle keyD at k
    dsimp only at k
    exact ⟨a, p, t', rfl, by omega, h1, h2, h3⟩
theorem cFaL_eq {u : MM} {s0 : PS} {sc p : Nat} (hU : UQ u s0 sc) (hx0 : s0.1 < nhN u) (hn : s0.2.1 < 2 ^ 18) {g : Nat} (hg : g = (u 14 p).toNatClampNeg) (hg6 : g < nhN u) (hgs : g ≠ s0.1) {b : Option (Nat × List Nat)} (hb : isBest (pdC u) s0 g (fun _ => True) b) (hb7 : ∀ a q, b = some (a, q) → a ≤ s0.2.1 + 700) :
    ∀ (k i : Nat) (v : MM) (S W : Nat → Option Nat), (i + 1) + k = 701 → (∀ k, k ≠ 160 → k ≠ 161 → v k = u k) → SRS v S W → JS u s0 sc (s0.2.1 + i) (nlN u) S W → (∀ q t, run (pdC u) q s0 t → t.1 = g → s0.2.1 + i < t.2.1) → (cFaL p (nI s0.2.1) k (i + 1) v).1 = bAr b := by
  have nh6 := hU.2.1.nh
  intro k
  induction k with
  | zero =>
    intro i v S W hk _ _ _ hNR
    show (-1 : Int32) = bAr b
    cases b with
    | none => rfl
    | some x =>
      obtain ⟨a, q⟩ := x
      obtain ⟨⟨t, -, h1, h2, h3⟩, -⟩ := hb
      have a1 := hNR q t h1 h2
      have a2 := hb7 a q rfl
      omega
  | succ k ih =>
    intro i v S W hk hv h hJ hNR
    have e : cFaL p (nI s0.2.1) (k + 1) (i + 1) v = if ¬ cUnl (nI s0.2.1 + nI (i + 1)) 6 0 v 160 (v 14 p).toNatClampNeg = -1 then (nI s0.2.1 + nI (i + 1), cUnl (nI s0.2.1 + nI (i + 1)) 6 0 v) else cFaL p (nI s0.2.1) k (i + 1 + 1) (cLdL (nI s0.2.1 + nI (i + 1)) (nlN v) 0 (cUnl (nI s0.2.1 + nI (i + 1)) 6 0 v)) := rfl
    have hJ' := hJ.un hU
    have eT : s0.2.1 + i + 1 = s0.2.1 + (i + 1) := by omega
    rw [eT] at hJ'
    have hsb := hJ.sb (by omega)
    have hwb := hJ.wb hU hx0 (by omega) (by omega)
    have hR' := h.un (T := s0.2.1 + (i + 1)) (by omega) hsb hwb
    have eg : (v 14 p).toNatClampNeg = g := by rw [hv 14 (by omega) (by omega)]; exact hg.symm
    rw [e, nI_add, eg]
    obtain ⟨T, hT⟩ : ∃ z, z = s0.2.1 + (i + 1) := ⟨_, rfl⟩
    rw [← hT] at hJ' hR' ⊢
    have hsb' := hJ'.sb (by omega)
    obtain ⟨r1, -⟩ := hR' g (by omega)
    have hkey : ∀ k, k ≠ 160 → k ≠ 161 → cUnl (nI T) 6 0 v k = u k := fun k h1 h2 => by rw [cUnl_key _ _ _ _ h1]; exact hv k h1 h2
    by_cases z : unS T S W g = none
    · rw [if_neg (fun y => y (by rw [r1]; exact (eo_n (hsb' g)).mpr z))]
      obtain ⟨W', a1, a2⟩ := SRS.lds hU hx0 (by omega) (by omega) (nlN u) 0 (cUnl (nI T) 6 0 v) W (by omega) hkey hR' hJ'
      have nv : nlN v = nlN u := nlN_ext (hv 38 (by omega) (by omega))
      rw [nv]
      refine ih (i + 1) _ _ W' (by omega) (fun k h1 h2 => by rw [cLdL_key _ _ _ _ h2]; exact hkey k h1 h2) a1 (by rw [← hT]; exact a2) (fun q t hr ht => ?_)
      rw [← hT]
      refine Nat.lt_of_not_le (fun y => ?_)
      obtain ⟨s, s1, -⟩ := hJ'.cpl hU q t hr y
      rw [ht, z] at s1
      exact (nomatch s1)
    · rw [if_pos (fun y => z ((eo_n (hsb' g)).mp (by rw [← r1]; exact y)))]
      show nI T = bAr b
      cases hc : unS T S W g with
      | none => exact absurd hc z
      | some s =>
        obtain ⟨⟨t, ⟨q, q1, q2, -⟩, -, t3⟩, t4⟩ := hJ'.2.1 g s hc
        have e1 := t3 hgs
        have e2 := hNR q t q1 q2
        obtain ⟨a, pp, t', b1, b2, b3, b4, b5⟩ := best_le hb q1 q2
        have e3 := hNR pp t' b3 b4
        rw [b1]
        show nI T = nI a
        have : T = a := by omega
        rw [this]
theorem cFaL_key (p : Nat) (now : Int32) : ∀ (k i : Nat) (u : MM) {key : Nat}, key ≠ 160 → key ≠ 161 → (cFaL p now k i u).2 key = u key := by
  intro k
  induction k with
  | zero => intro i u key _ _; rfl
  | succ k ih =>
    intro i u key h1 h2
    have e : cFaL p now (k + 1) i u = if ¬ cUnl (now + nI i) 6 0 u 160 (u 14 p).toNatClampNeg = -1 then (now + nI i, cUnl (now + nI i) 6 0 u) else cFaL p now k (i + 1) (cLdL (now + nI i) (nlN u) 0 (cUnl (now + nI i) 6 0 u)) := rfl
    have e6 := cUnl_key (now + nI i) 6 0 u (k := key) h1
    rw [e]
    generalize cUnl (now + nI i) 6 0 u = X at *
    by_cases z : ¬ X 160 (u 14 p).toNatClampNeg = -1
    · rw [if_pos z]; exact e6
    · rw [if_neg z, ih _ _ h1 h2, cLdL_key _ _ _ _ h2, e6]
theorem cFa_key (u : MM) (p : Nat) (now : Int32) {key : Nat} (h1 : key ≠ 160) (h2 : key ≠ 161) : (cFa u p now).2 key = u key := by
  have e0 : cFa0 u p key = u key := by
    unfold cFa0
    rw [up_key h1]
    funext i
    unfold cFill
    rw [if_neg (fun z => h2 z.1), if_neg (fun z => h1 z.1)]
  obtain ⟨n, hn⟩ : ∃ z, z = (700 : Nat) := ⟨_, rfl⟩
  have e : cFa u p now = if u 15 p = u 14 p then (now, u) else cFaL p now n 1 (cFa0 u p) := by rw [hn]; rfl
  rw [e]
  by_cases z : u 15 p = u 14 p
  · rw [if_pos z]
  · rw [if_neg z, cFaL_key _ _ _ _ _ h1 h2, e0]

