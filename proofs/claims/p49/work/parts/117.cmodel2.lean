/-! the simulation -/
def cFill (u : MM) (key : Nat) : MM := fun k' i' => if k' = key ∧ i' < 6 then -1 else u k' i'
def cUnl (now : Int32) : Nat → Nat → MM → MM
  | 0, _, u => u
  | k + 1, i, u => cUnl now k (i + 1) (if u 161 i = now ∧ u 160 i = -1 then up u 160 i now else u)
def cLd1 (u : MM) (now : Int32) (l : Nat) : MM :=
  if ¬ u 160 (u 2 l).toNatClampNeg = -1 ∧ ¬ cLvn u l now = 0 ∧ u 1 (u 2 l).toNatClampNeg ≤ now - u 160 (u 2 l).toNatClampNeg then
    (if u 161 (u 3 l).toNatClampNeg = -1 ∨ now + u 6 l < u 161 (u 3 l).toNatClampNeg then up u 161 (u 3 l).toNatClampNeg (now + u 6 l) else u) else u
def cLdL (now : Int32) : Nat → Nat → MM → MM
  | 0, _, u => u
  | k + 1, l, u => cLdL now k (l + 1) (cLd1 u now l)
def cFaL (p : Nat) (now : Int32) : Nat → Nat → MM → Int32 × MM
  | 0, _, u => (-1, u)
  | k + 1, i, u => if ¬ cUnl (now + nI i) 6 0 u 160 (u 14 p).toNatClampNeg = -1 then (now + nI i, cUnl (now + nI i) 6 0 u) else cFaL p now k (i + 1) (cLdL (now + nI i) (nlN u) 0 (cUnl (now + nI i) 6 0 u))
def cFa0 (u : MM) (p : Nat) : MM := up (cFill (cFill u 160) 161) 160 (u 15 p).toNatClampNeg (u 18 p)
def cFa (u : MM) (p : Nat) (now : Int32) : Int32 × MM := if u 15 p = u 14 p then (now, u) else cFaL p now 700 1 (cFa0 u p)
/-! the search that extends the earliest paths first -/
def cBte (u : MM) : Nat → Nat → Int32 → Int32
  | 0, _, x => x
  | k + 1, i, x => if u 140 0 ≤ nI i then x else cBte u k (i + 1) (if u 136 i = 0 ∧ (x = -1 ∨ ¬ cBet u i x.toNatClampNeg = 0) then nI i else x)
def cExt1 (u : MM) (i l : Nat) (rd : Int32) : MM :=
  if ¬ u 108 l = 0 ∧ u 2 l = u 130 i ∧ cVis u i (u 3 l) = 0 then up (cFollow u (u 140 0).toNatClampNeg i l (cDep u l rd + u 6 l)) 140 0 (u 140 0 + 1) else u
def cExtL (i : Nat) (rd : Int32) : Nat → Nat → MM → MM
  | 0, _, u => u
  | k + 1, l, u => if nI 266 ≤ u 140 0 then u else cExtL i rd k (l + 1) (cExt1 u i l rd)
def cExt (u : MM) (i : Nat) (rd : Int32) : MM := cExtL i rd (nlN u) 0 (up u 136 i 1)
def cRdI (u : MM) (x : Nat) (rd : Int32) : Int32 := if x = 0 then rd else cRdy u (u 130 x).toNatClampNeg (u 132 x) (u 132 x)
def cBpL (p : Nat) (rd : Int32) : Nat → MM → Int32 × MM
  | 0, u => (-1, u)
  | k + 1, u => if cBte u 266 0 (-1) = -1 ∨ u 130 (cBte u 266 0 (-1)).toNatClampNeg = u 14 p then (cBte u 266 0 (-1), u)
    else cBpL p rd k (cExt u (cBte u 266 0 (-1)).toNatClampNeg (cRdI u (cBte u 266 0 (-1)).toNatClampNeg rd))
def cBp (u : MM) (p : Nat) (now : Int32) : Int32 × MM := cBpL p (cRdy u (u 15 p).toNatClampNeg (u 18 p) now) 266 (up (cBegin u 0 (u 15 p) now) 140 0 1)
/-! the trial of all paths -/
def cCmp (u : MM) (e sz : Int32) : MM := if u 153 0 = -1 ∨ e < u 153 0 ∨ (e = u 153 0 ∧ sz < u 152 0) then up (up (up u 153 0 e) 152 0 sz) 154 0 (u 151 0) else u
abbrev cGo (u : MM) (hb vis : Int32) (l : Nat) : Prop := ¬ u 108 l = 0 ∧ u 2 l = hb ∧ vis &&& (1 <<< (u 3 l &&& 31)) = 0
def cTryL (rec : MM → Int32 → Int32 → Int32 → Int32 → MM) (hb rd vis : Int32) (size : Nat) : Nat → Nat → MM → MM
  | 0, _, u => u
  | k + 1, l, u => cTryL rec hb rd vis size k (l + 1) (if cGo u hb vis l then rec (if size = 0 then up u 151 0 (nI l) else u) (u 3 l) (cDep u l rd + u 6 l) (cRdy u (u 3 l).toNatClampNeg (cDep u l rd + u 6 l) (cDep u l rd + u 6 l)) (vis ||| (1 <<< (u 3 l &&& 31))) else u)
def cTry : Nat → Nat → MM → Int32 → Int32 → Int32 → Int32 → MM
  | 0, _, u, _, _, _, _ => u
  | d + 1, size, u, hb, now, rd, vis => if hb = u 150 0 then cCmp u now (nI size) else if 5 ≤ size then u else cTryL (fun u' hb' now' rd' vis' => cTry d (size + 1) u' hb' now' rd' vis') hb rd vis size (nlN u) 0 u
def cAll0 (u : MM) (p : Nat) : MM := up (up (up (up (up u 150 0 (u 14 p)) 151 0 (-1)) 152 0 0) 153 0 (-1)) 154 0 (-1)
def cAll (u : MM) (p : Nat) (now : Int32) : MM := cTry 6 0 (cAll0 u p) (u 15 p) now (cRdy u (u 15 p).toNatClampNeg (u 18 p) now) (1 <<< (u 15 p &&& 31))
theorem RC.fill {E : Nat} {h h' : AH} {b : BA} {c : MM} (hR : RC E h b c) (hw : WFc c) {q key : Nat} (hq : q = 13 ∧ key = 160 ∨ q = 14 ∧ key = 161) (hs : aK h' (b 20 q) = 20 ∧ aN h' (b 20 q) = 6 ∧ (∀ k, k < 6 → aI h' k (b 20 q) = -1) ∧ SameX h h' (· = b 20 q)) : RC E h' b (cFill c key) ∧ WFc (cFill c key) := by
  obtain ⟨s1, s2, s3, s4⟩ := hs
  have hk : ∀ k', k' ≠ 160 → k' ≠ 161 → cFill c key k' = c k' := fun k' z1 z2 => funext fun i => if_neg (by omega)
  have hkk : ∀ k', k' ≠ key → cFill c key k' = c k' := fun k' z => funext fun i => if_neg (fun w => z w.1)
  have e1 : ∀ k', kSz k' → cFill c key k' = c k' := fun k' h' => hk k' (by unfold kSz at h'; omega) (by unfold kSz at h'; omega)
  have hq20 : ok c 20 q := by
    rcases hq with ⟨rfl, -⟩ | ⟨rfl, -⟩
    · exact Or.inr (Or.inr (Or.inl rfl))
    · exact Or.inr (Or.inr (Or.inr rfl))
  have hsm : ∀ K i, ok c K i → ¬ (K = 20 ∧ i = q) → ¬ b K i = b 20 q := fun K i hk z => hR.ne hq20 hk z
  refine ⟨?_, hw.ext (fun k' h' => ?_)⟩
  · unfold RC
    rw [ok_ext e1]
    refine ⟨fun K i h' => ?_, hR.2.1, fun K i j hK h' hj h8 => ?_, fun K i j hK h' hj h3 => ?_, fun q' hq' => ?_, fun i hi => ?_, fun i hi => ?_⟩
    · by_cases z : K = 20 ∧ i = q
      · obtain ⟨rfl, rfl⟩ := z; exact s1
      · rw [(s4 _ (hsm K i h' z)).1]; exact hR.kind h'
    · rw [(s4 _ (hsm K i h' (by omega))).2.1, hR.fI hK h' hj h8]
      unfold cI
      by_cases e9 : kyI K j = 999
      · rw [if_pos e9, if_pos e9]
      · have h5 := (kyI_inv K j e9).2.2
        unfold kHold at h5
        rw [if_neg e9, if_neg e9, hk _ (by omega) (by omega)]
    · rw [(s4 _ (hsm K i h' (by omega))).2.2.1, hR.fR hK h' hj h3]
      unfold cR
      by_cases e9 : kyR K j = 999
      · rw [if_pos e9, if_pos e9]
      · have h5 := (kyR_inv K j e9).2.2
        unfold kHold at h5
        rw [if_neg e9, if_neg e9, hk _ (by omega) (by omega)]
    · obtain ⟨l1, l2⟩ := hR.ls hq'
      have e3 := s4 _ (hsm 3 q' hq' (by omega))
      unfold LSo
      rw [capN_ext e1, szN_ext e1]
      refine ⟨fun z => by rw [e3.2.2.1]; exact l1 z, fun z => ?_⟩
      obtain ⟨m1, m2, m3⟩ := l2 z
      have e4 := s4 _ (hsm 31 q' ⟨hq', z⟩ (by omega))
      refine ⟨by rw [e3.2.2.1]; exact m1, by rw [e4.2.2.2]; exact m2, fun k hk9 => ?_⟩
      rw [e4.2.2.1, m3 k hk9, show elI (cFill c key) q' k = elI c q' k by unfold elI; rw [hk 36 (by omega) (by omega), hk 176 (by omega) (by omega)]]
    · by_cases z : i = q
      · subst z
        have hl : len20 i = 6 := by rcases hq with ⟨rfl, -⟩ | ⟨rfl, -⟩ <;> rfl
        rw [hl]
        refine ⟨s2, fun k hk9 => ?_⟩
        rw [s3 k hk9]
        unfold c20 cFill
        rcases hq with ⟨rfl, rfl⟩ | ⟨rfl, rfl⟩
        · rw [if_neg (by omega), if_pos rfl, if_pos ⟨rfl, hk9⟩]
        · rw [if_neg (by omega), if_neg (by omega), if_pos ⟨rfl, hk9⟩]
      · have e4 := s4 _ (hsm 20 i hi (fun w => z w.2))
        refine ⟨by rw [e4.2.2.2]; exact (hR.a20 hi).1, fun k hk9 => ?_⟩
        rw [e4.2.1, (hR.a20 hi).2 k hk9]
        unfold c20
        rw [hk 10 (by omega) (by omega)]
        have hi' : i < 13 ∨ i = 13 ∨ i = 14 := by
          have hnl := hw.nl
          have h9 : i < nlN c ∨ i = 12 ∨ i = 13 ∨ i = 14 := hi
          omega
        rcases hi' with y | y | y
        · rw [if_pos y, if_pos y]
        · have z1 : ¬ i < 13 := by omega
          simp only [if_neg z1, if_pos y]
          rw [hkk 160 (by omega)]
        · have z1 : ¬ i < 13 := by omega
          have z2 : ¬ i = 13 := by omega
          simp only [if_neg z1, if_neg z2]
          rw [hkk 161 (by omega)]
    · have hi1 : ok c 30 i := hi
      have e4 := s4 _ (hsm 30 i hi1 (by omega))
      refine ⟨by rw [e4.2.2.2]; exact (hR.a30 hi).1, fun k hk9 => ?_⟩
      rw [e4.2.2.1, (hR.a30 hi).2 k hk9, hk 111 (by omega) (by omega)]
  · refine hk k' (fun z => ?_) (fun z => ?_)
    · subst z; unfold kWc kSz at h'; revert h'; decide
    · subst z; unfold kWc kSz at h'; revert h'; decide

