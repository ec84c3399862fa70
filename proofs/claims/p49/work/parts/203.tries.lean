/-! the reference's trial of all paths finds the best -/
/-- at most six hubs and twelve lines, each line between two of the hubs -/
def LNk (m : MM) : Prop := nhN m ≤ 6 ∧ nlN m ≤ 12 ∧ ∀ l, l < nlN m → vp_in (m 2 l) (nhN m) ∧ vp_in (m 3 l) (nhN m)
theorem LNk.nh {m : MM} (h : LNk m) : nhN m ≤ 6 := h.1
theorem LNk.nl {m : MM} (h : LNk m) : nlN m ≤ 12 := h.2.1
theorem LNk.ln {m : MM} (h : LNk m) {l : Nat} (hl : l < nlN m) : vp_in (m 2 l) (nhN m) ∧ vp_in (m 3 l) (nhN m) := h.2.2 l hl
theorem WFc.lnk {c : MM} (h : WFc c) : LNk c := ⟨h.nh, h.nl, fun _ hl => h.ln hl⟩
theorem WFa.lnk {m : MM} (h : WFa m) : LNk m := ⟨h.nh.2, h.nl.2, fun _ hl => ⟨(h.ln hl).1, (h.ln hl).2.1⟩⟩
/-- the numbers of a state: what is asked of hubs and lines -/
def NBl (m : MM) : Prop := (∀ h, h < nhN m → isN (m 1 h) 1 20) ∧ ∀ l, l < nlN m → isN (m 4 l) 0 59 ∧ isN (m 5 l) 5 60 ∧ isN (m 6 l) 1 60
def pdM (op : Nat → Bool) (m : MM) : PD := (nlN m, op, fun l => vN (m 2 l), fun l => vN (m 3 l), fun l r => depN (vN (m 4 l)) (vN (m 5 l)) r + vN (m 6 l), fun x a => max (a + 1) (a + vN (m 1 x)))
def pdR (m : MM) : PD := pdM (fun l => decide (m 9 l = 0)) m
/-- the state in which a parcel of hub x, scanned in s, is as of t -/
def psAt (m : MM) (x s t : Nat) : PS := (x, t, max (t + 1) (s + vN (m 1 x)), [x])
theorem pdM_ok {m : MM} {op : Nat → Bool} (hn : nlN m ≤ 12) (hl : ∀ l, l < nlN m → vp_in (m 3 l) 6) (hb : NBl m) : PDok (pdM op m) := by
  refine ⟨hn, fun l h => vp_nat (hl l h), fun l r h => ?_, fun x a => ?_⟩
  · obtain ⟨h4, h5, h6⟩ := hb.2 l h
    have h7 := h5.2.1
    have h8 := h6.2.1
    have := depN_ge (f := vN (m 4 l)) (p := vN (m 5 l)) (e := r) (by unfold vN; omega)
    show r < depN _ _ r + vN (m 6 l)
    unfold vN at *
    omega
  · show a ≤ max (a + 1) _
    omega
/-- times on a route: each line takes at most 140 minutes, or leaves for the first time -/
theorem arr_le {m : MM} {op : Nat → Bool} (hb : NBl m) {l r : Nat} (hl : l < nlN m) : dA (pdM op m) l r ≤ max 59 (r + 60) + 60 := by
  obtain ⟨h4, h5, h6⟩ := hb.2 l hl
  have := depN_le (f := vN (m 4 l)) (p := vN (m 5 l)) (e := r) (by unfold vN; have := h5.2.1; omega)
  show depN _ _ r + vN (m 6 l) ≤ _
  have h1 := h4.2.2
  have h2 := h5.2.2
  have h3 := h6.2.2
  unfold vN at *
  omega
theorem rdy_le {m : MM} {op : Nat → Bool} (hb : NBl m) {x a : Nat} (hx : x < nhN m) : dR (pdM op m) x a ≤ a + 20 := by
  have h := (hb.1 x hx).2.2
  have h' := (hb.1 x hx).2.1
  show max (a + 1) (a + vN (m 1 x)) ≤ _
  unfold vN
  omega
/-- what the reference's rows show of the best so far -/
def RB (m : MM) (b : Option (Nat × List Nat)) : Prop := match b with
  | none => m 42 0 = -1
  | some (a, p) => m 42 0 = nI a ∧ a < 2 ^ 24 ∧ m 43 0 = nI p.length ∧ p.length < 2 ^ 24 ∧ ∀ k, k < p.length → m 33 k = nI (p.getD k 0)
theorem cpW_32 (n : Nat) (m : MM) : cpW n m 32 = m 32 := by
  induction n with
  | zero => rfl
  | succ n ih => show up (cpW n m) 33 n _ 32 = _; rw [up_key (by omega), ih]
theorem cpW_42 (n : Nat) (m : MM) : cpW n m 42 = m 42 := by
  induction n with
  | zero => rfl
  | succ n ih => show up (cpW n m) 33 n _ 42 = _; rw [up_key (by omega), ih]
theorem cpW_33 (m : MM) (k : Nat) : ∀ n, cpW n m 33 k = if k < n then m 32 k else m 33 k := by
  intro n
  induction n with
  | zero => rw [if_neg (by omega)]; rfl
  | succ n ih =>
    show up (cpW n m) 33 n (cpW n m 32 n) 33 k = _
    rw [cpW_32]
    by_cases e : k = n
    · subst e; rw [up_s, if_pos (by omega)]
    · rw [up_i e, ih]
      by_cases z : k < n
      · rw [if_pos z, if_pos (by omega)]
      · rw [if_neg z, if_neg (by omega)]
/-- the state s, the route px to it, as the reference's numbers show them -/
def RSt (m : MM) (s : PS) (px : List Nat) (ah ss t seen : Int32) : Prop :=
  s.1 < nhN m ∧ ah = nI s.1 ∧ t = nI s.2.1 ∧ mx (t + 1) (ss + m 1 ah.toNatClampNeg) = nI s.2.2.1 ∧ MK seen s.2.2.2 ∧ ∀ k, k < px.length → m 32 k = nI (px.getD k 0)
theorem RB.put {m : MM} {b : Option (Nat × List Nat)} (h : RB m b) {a : Nat} {px : List Nat} (ha : a < 2 ^ 24) (hp : px.length < 2 ^ 24) (hw : ∀ k, k < px.length → m 32 k = nI (px.getD k 0)) :
    RB (if bet m (nI a) (nI px.length) then cpW px.length (up (up m 42 0 (nI a)) 43 0 (nI px.length)) else m) (better b a px) := by
  have hnew : RB (cpW px.length (up (up m 42 0 (nI a)) 43 0 (nI px.length))) (some (a, px)) := by
    refine ⟨by rw [cpW_42, up_key (by omega), up_s], ha, by rw [cpW_43, up_s], hp, fun k hk => ?_⟩
    rw [cpW_33, if_pos hk, up_key (by omega), up_key (by omega)]
    exact hw k hk
  cases b with
  | none =>
    have h1 : m 42 0 = -1 := h
    rw [if_pos (Or.inl (by rw [h1]; decide))]
    exact hnew
  | some x =>
    obtain ⟨a0, p0⟩ := x
    obtain ⟨h1, h2, h3, h4, h5⟩ := h
    have hiff : bet m (nI a) (nI px.length) ↔ (a < a0 ∨ (a = a0 ∧ px.length < p0.length)) := by
      unfold bet
      rw [h1, h3, nI_ltI (by omega) (by omega), nI_eq (by omega) (by omega), nI_ltI (by omega) (by omega)]
      exact ⟨fun z => z.elim (fun y => absurd y (nI_pos (by omega))) id, Or.inr⟩
    show RB _ (if _ then _ else _)
    by_cases c : a < a0 ∨ (a = a0 ∧ px.length < p0.length)
    · rw [if_pos c, if_pos (hiff.mpr c)]; exact hnew
    · rw [if_neg c, if_neg (fun z => c (hiff.mp z))]; exact ⟨h1, h2, h3, h4, h5⟩
theorem RB.ext {m m' : MM} {b : Option (Nat × List Nat)} (h : RB m b) (e1 : m' 42 = m 42) (e2 : m' 43 = m 43) (e3 : m' 33 = m 33) : RB m' b := by
  cases b with
  | none => show m' 42 0 = -1; rw [e1]; exact h
  | some x => obtain ⟨a, p⟩ := x; show _ ∧ _ ∧ _ ∧ _ ∧ _; rw [e1, e2, e3]; exact h
/-- the states m and m0 have the same hubs and lines -/
def SameL (m0 m : MM) : Prop := ∀ k, ¬ kTry k → m k = m0 k
theorem tries_dfs {m0 : MM} (hw : LNk m0) (hb : NBl m0) {g : Nat} (hg : g < nhN m0) : ∀ (d : Nat) (m : MM) (b : Option (Nat × List Nat)) (s : PS) (px : List Nat) (ah ss t seen : Int32), SameL m0 m → RB m b → RSt m s px ah ss t seen → s.2.1 ≤ s.2.2.1 → s.2.2.1 + 200 * d < 2 ^ 20 → px.length + d ≤ 6 →
    RB (triesF d (nI g) m ah ss t px.length seen) (dfs (pdR m0) g d b s px) ∧ SameL m0 (triesF d (nI g) m ah ss t px.length seen) ∧ ∀ k, k < px.length → triesF d (nI g) m ah ss t px.length seen 32 k = m 32 k := by
  intro d
  induction d with
  | zero => intro m b s px ah ss t seen hS hB _ _ _ _; exact ⟨hB, hS, fun _ _ => rfl⟩
  | succ d ih =>
    intro m b s px ah ss t seen hS hB hR hs ht hlen
    obtain ⟨r1, r2, r3, r4, r5, r6⟩ := hR
    have n1 : nhN m = nhN m0 := nhN_ext (hS 37 (by unfold kTry; omega))
    have n2 : nlN m = nlN m0 := nlN_ext (hS 38 (by unfold kTry; omega))
    have hnh := hw.nh
    have hnl := hw.nl
    have r4' : mx (t + 1) (ss + m0 1 ah.toNatClampNeg) = nI s.2.2.1 := by rw [← hS 1 (by unfold kTry; omega)]; exact r4
    simp only [triesF, dfs]
    by_cases e : s.1 = g
    · rw [if_pos e, if_pos (by rw [r2, e]), r3]
      refine ⟨hB.put (by omega) (by omega) r6, fun k hk => ?_, fun k hk => ?_⟩
      · split
        · rw [cpW_key _ _ hk, up_key (fun z => hk (by subst z; unfold kTry; omega)), up_key (fun z => hk (by subst z; unfold kTry; omega))]; exact hS k hk
        · exact hS k hk
      · split
        · rw [cpW_32, up_key (by omega), up_key (by omega)]
        · rfl
    · rw [if_neg e, if_neg (fun z => e ((nI_eq (by omega) (by omega)).mp (by rw [← r2]; exact z)))]
      have key : ∀ (k l : Nat) (m : MM) (b : Option (Nat × List Nat)), l + k = nlN m0 → SameL m0 m → RB m b → (∀ k, k < px.length → m 32 k = nI (px.getD k 0)) →
          RB (trL (fun m' a' s' t' sz' sn' => triesF d (nI g) m' a' s' t' sz'.toNatClampNeg sn') ah px.length ss t seen k l m) (dfsL (fun b' s' p' => dfs (pdR m0) g d b' s' p') (pdR m0) s px k l b) ∧
          SameL m0 (trL (fun m' a' s' t' sz' sn' => triesF d (nI g) m' a' s' t' sz'.toNatClampNeg sn') ah px.length ss t seen k l m) ∧
          ∀ j, j < px.length → trL (fun m' a' s' t' sz' sn' => triesF d (nI g) m' a' s' t' sz'.toNatClampNeg sn') ah px.length ss t seen k l m 32 j = m 32 j := by
        intro k
        induction k with
        | zero => intro l m b _ hS hB _; exact ⟨hB, hS, fun _ _ => rfl⟩
        | succ k ihk =>
          intro l m b hl hS hB hW
          simp only [trL, dfsL]
          have hlm : l < nlN m0 := by omega
          have f2 : m 2 l = m0 2 l := by rw [hS 2 (by unfold kTry; omega)]
          have f3 : m 3 l = m0 3 l := by rw [hS 3 (by unfold kTry; omega)]
          have ln := hw.ln hlm
          have v2 := vp_nI ln.1 (by omega)
          have v3 := vp_nI ln.2 (by omega)
          have l2 := vp_nat ln.1
          have l3 := vp_nat ln.2
          obtain ⟨h4, h5, h6⟩ := hb.2 l hlm
          have hgo : goes m l ah seen ↔ extB (pdR m0) s.1 s.2.2.2 l = true := by
            rw [extB_iff]
            unfold goes extD
            rw [f2, f3, hS 9 (by unfold kTry; omega), r2, v2, nI_eq (by omega) (by omega), v3, r5.ref (by omega)]
            show _ ↔ l < nlN m0 ∧ decide (m0 9 l = 0) = true ∧ vN (m0 2 l) = s.1 ∧ ¬ vN (m0 3 l) ∈ s.2.2.2
            rw [decide_eq_true_iff]
            exact ⟨fun z => ⟨hlm, z⟩, fun z => z.2⟩
          by_cases c : extB (pdR m0) s.1 s.2.2.2 l = true
          · rw [if_pos c, if_pos (hgo.mpr c)]
            have hth : thereT m l ah ss t = nI (dA (pdR m0) l s.2.2.1) := by
              unfold thereT
              have e1 : m 1 = m0 1 := hS 1 (by unfold kTry; omega)
              rw [e1, r4']
              have e4 : m 4 = m0 4 := hS 4 (by unfold kTry; omega)
              have e5 : m 5 = m0 5 := hS 5 (by unfold kTry; omega)
              have e6 : m 6 = m0 6 := hS 6 (by unfold kTry; omega)
              rw [lvs_N (by rw [e4]; exact h4) (by rw [e5]; exact h5) (by omega), e4, e5, e6, h6.1, nI_add]
              rfl
            have hal := arr_le (op := fun l => decide (m0 9 l = 0)) (r := s.2.2.1) hb hlm
            have hal' : dA (pdR m0) l s.2.2.1 ≤ max 59 (s.2.2.1 + 60) + 60 := hal
            have hrl := rdy_le (op := fun l => decide (m0 9 l = 0)) (a := dA (pdR m0) l s.2.2.1) hb l3
            have hrl' : dR (pdR m0) (vN (m0 3 l)) (dA (pdR m0) l s.2.2.1) ≤ dA (pdR m0) l s.2.2.1 + 20 := hrl
            have hszc : (nI (px.length + 1)).toNatClampNeg = (px ++ [l]).length := by rw [nI_clamp (by omega), List.length_append, List.length_singleton]
            have q := ih (up m 32 px.length (nI l)) b (stepD (pdR m0) s l) (px ++ [l]) (m 3 l) (thereT m l ah ss t) (thereT m l ah ss t) (seen ||| (1 <<< (m 3 l &&& 31)))
              (fun k hk => by rw [up_key (fun z => hk (by subst z; unfold kTry; omega))]; exact hS k hk) (hB.ext (up_key (by omega)) (up_key (by omega)) (up_key (by omega)))
              ⟨by rw [nhN_up (by omega)]; show vN (m0 3 l) < nhN m; rw [show nhN m = nhN m0 from nhN_ext (hS 37 (by unfold kTry; omega))]; exact l3, by rw [f3]; exact v3, hth, ?_, by rw [f3, v3]; exact r5.or (by omega), fun k hk => ?_⟩ ?_ ?_ (by rw [List.length_append, List.length_singleton]; omega)
            · rw [hszc]
              obtain ⟨q1, q2, q3⟩ := q
              obtain ⟨p1, p2, p3⟩ := ihk (l + 1) _ _ (by omega) q2 q1 (fun j hj => by rw [q3 j (by rw [List.length_append, List.length_singleton]; omega), up_i (by omega)]; exact hW j hj)
              exact ⟨p1, p2, fun j hj => by rw [p3 j hj, q3 j (by rw [List.length_append, List.length_singleton]; omega), up_i (by omega)]⟩
            · rw [hth, f3, up_key (by omega), hS 1 (by unfold kTry; omega), (hb.1 _ l3).1, nI_1, nI_add, mx_nI (by have := (hb.1 _ l3).2.2; omega) (by have := (hb.1 _ l3).2.2; omega)]
              rfl
            · rw [List.length_append, List.length_singleton] at hk
              by_cases z : k = px.length
              · subst z
                rw [up_s]
                simp
              · rw [up_i z, hW k (by omega)]
                simp [List.getElem?_append_left (show k < px.length by omega)]
            · exact Nat.le_trans (Nat.le_succ _) (Nat.le_max_left _ _)
            · show dR (pdR m0) (vN (m0 3 l)) (dA (pdR m0) l s.2.2.1) + 200 * d < _
              omega
          · rw [if_neg c, if_neg (fun z => c (hgo.mp z))]
            exact ihk (l + 1) m b (by omega) hS hB hW
      obtain ⟨a1, a2, a3⟩ := key (nlN m0) 0 m b (by omega) hS hB r6
      rw [n2]
      exact ⟨a1, a2, a3⟩

