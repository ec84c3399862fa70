/-! lists, histories: what may come in -/
def LW (u : MM) : Prop := npN u ≤ 40 ∧ (∀ q, q < 6 + npN u → LSw u q) ∧ ∀ p, p < npN u → szN u (6 + p) ≤ 1024 ∧ evN u p = szN u (6 + p)
theorem WFc.lw {u : MM} (hw : WFc u) : LW u := ⟨hw.np, fun q hq => hw.ls (show q < 6 + npN u from hq), fun p hp => hw.sz6 hp⟩
theorem LW.ext {u v : MM} (h : LW u) (e : ∀ k, kSz k → v k = u k) : LW v := by
  have n3 : npN v = npN u := npN_ext (e 39 (by unfold kSz; omega))
  unfold LW LSw
  rw [n3, e 171 (by unfold kSz; omega), e 172 (by unfold kSz; omega)]
  refine ⟨h.1, fun q hq => ?_, fun p hp => ?_⟩
  · rw [szN_ext e, capN_ext e]; exact h.2.1 q hq
  · rw [szN_ext e, evN_ext e]; exact h.2.2 p hp
/-- from u to v nothing goes, and numbers stay -/
def LG (u v : MM) : Prop := LW u → LW v ∧ Gw u v ∧ nhN v = nhN u ∧ nlN v = nlN u ∧ npN v = npN u
theorem LG.refl (u : MM) : LG u u := fun h => ⟨h, Gw.refl u, rfl, rfl, rfl⟩
theorem LG.trans {u v w : MM} (a : LG u v) (b : LG v w) : LG u w := fun h => by
  obtain ⟨a1, a2, a3, a4, a5⟩ := a h
  obtain ⟨b1, b2, b3, b4, b5⟩ := b a1
  exact ⟨b1, a2.trans b2, b3.trans a3, b4.trans a4, b5.trans a5⟩
theorem LG.ext {u v : MM} (e : ∀ k, kSz k → v k = u k) : LG u v := fun h =>
  ⟨h.ext e, Gw.ext (fun k h1 _ => e k h1), nhN_ext (e 37 (by unfold kSz; omega)), nlN_ext (e 38 (by unfold kSz; omega)), npN_ext (e 39 (by unfold kSz; omega))⟩
theorem LG.upk {u : MM} {k i : Nat} {x : Int32} (hk : ¬ kSz k) : LG u (up u k i x) := LG.ext (fun k' h' => up_key (fun e => hk (e ▸ h')))
theorem LG.ite {P : Prop} [Decidable P] {u v w : MM} (a : P → LG u v) (b : ¬ P → LG u w) : LG u (if P then v else w) := by
  by_cases h : P
  · rw [if_pos h]; exact a h
  · rw [if_neg h]; exact b h
theorem LW.gwE {u : MM} (hw : LW u) {p : Nat} {L t : Int32} {x : Nat} (hp : p < npN u) (hn : szN u (6 + p) < 1024) : Gw u (cEv u p L t x) := by
  have hl := hw.2.1 (6 + p) (by omega)
  obtain ⟨r1, -, -⟩ := ncap_room hl.1
  obtain ⟨e1, e2, e3⟩ := cEv_n u p L t x
  have hev := (hw.2.2 p hp).2
  have ec := cEv_cap (L := L) (t := t) (x := x) hn hl.2.1
  have ee := cEv_ev (L := L) (t := t) (x := x) hn
  refine ⟨fun q => ?_, fun q => ?_, by rw [e1]; exact Nat.le_refl _, by rw [e2]; exact Nat.le_refl _, by rw [e3]; exact Nat.le_refl _⟩
  · rw [ec]; split
    · rename_i z; subst z; exact r1
    · exact Nat.le_refl _
  · rw [ee]; split
    · rename_i z; subst z; omega
    · exact Nat.le_refl _
theorem LW.ev {u : MM} (hw : LW u) {p : Nat} {L t : Int32} {x : Nat} (hp : p < npN u) (hn : szN u (6 + p) < 1024) : LW (cEv u p L t x) := by
  have hl := hw.2.1 (6 + p) (by omega)
  have r := ncap_lt hn hl.2.1
  have r2 := ncap_room hl.1
  have r3 := gcap_gt (szN u (6 + p))
  have e3 := (cEv_n u p L t x).2.2
  have ec := cEv_cap (L := L) (t := t) (x := x) hn hl.2.1
  have ee := cEv_ev (L := L) (t := t) (x := x) hn
  have es := cEv_sz (L := L) (t := t) (x := x) hn
  have k171 : ∀ q, cEv u p L t x 171 q = if q = 6 + p then nI (szN u (6 + p) + 1) else u 171 q := fun q => by
    unfold cEv
    by_cases z : q = 6 + p
    · rw [if_pos ⟨rfl, z⟩, if_pos z]
    · rw [if_neg (fun y => z y.2), if_neg (by omega), if_neg z, cEv1_k (by omega) (by omega) (by omega) (by omega)]
  have k172 : ∀ q, cEv u p L t x 172 q = if q = 6 + p then nI (ncap (szN u (6 + p)) (capN u (6 + p))) else u 172 q := fun q => by
    unfold cEv
    by_cases z : q = 6 + p
    · rw [if_neg (by omega), if_pos ⟨rfl, z⟩, if_pos z]
    · rw [if_neg (by omega), if_neg (fun y => z y.2), if_neg z, cEv1_k (by omega) (by omega) (by omega) (by omega)]
  refine ⟨by rw [e3]; exact hw.1, fun q hq => ?_, fun q hq => ?_⟩
  · rw [e3] at hq
    show _ ∧ _ ∧ _ ∧ _
    rw [es, ec, k171, k172]
    by_cases z : q = 6 + p
    · subst z
      rw [if_pos rfl, if_pos rfl, if_pos rfl, if_pos rfl]
      exact ⟨by unfold ncap; split <;> omega, r, rfl, rfl⟩
    · rw [if_neg z, if_neg z, if_neg z, if_neg z]
      exact hw.2.1 q hq
  · rw [e3] at hq
    rw [es, ee]
    by_cases z : q = p
    · subst z
      rw [if_pos rfl, if_pos rfl]
      exact ⟨by omega, rfl⟩
    · rw [if_neg (by omega), if_neg z]
      exact hw.2.2 q hq
theorem LG.note {u : MM} {p j : Nat} {t : Int32} {x : Nat} {y : Int32} (hp : p < npN u) : LG u (cNote u p j t x y) := fun h => by
  unfold cNote
  by_cases z : 1024 ≤ szN u (6 + p)
  · rw [if_pos z]; exact LG.refl u h
  · rw [if_neg z]
    obtain ⟨e1, e2, e3⟩ := cEv_n u p (lw_letters.getD j 0) t x
    have a : LG u (cEv u p (lw_letters.getD j 0) t x) := fun _ => ⟨h.ev hp (by omega), h.gwE hp (by omega), e1, e2, e3⟩
    exact a.trans (LG.upk (by unfold kSz; decide)) h
theorem LG.lq {u : MM} {q key i : Nat} {x : Int32} (hq : q = 3 ∧ key = 36 ∨ q = 4 ∧ key = 176) (hn : szN u q < 1000) : LG u (cLq u q key i x) := fun hw => by
  have hl := hw.2.1 q (by omega)
  have ec := cLq_cap (i := i) (x := x) (key := key) hn hl.2.1
  have es := cLq_sz (i := i) (x := x) (key := key) hn
  have e1 : nhN (cLq u q key i x) = nhN u := nhN_ext (cLq_k (by omega) (by omega) (by omega))
  have e2 : nlN (cLq u q key i x) = nlN u := nlN_ext (cLq_k (by omega) (by omega) (by omega))
  have e3 : npN (cLq u q key i x) = npN u := npN_ext (cLq_k (by omega) (by omega) (by omega))
  have e4 : evN (cLq u q key i x) = evN u := by funext p; unfold evN; rw [cLq_k (by omega) (by omega) (by omega)]
  have e5 : ∀ j, j ≠ q → cLq u q key i x 171 j = u 171 j := fun j h => by unfold cLq; rw [if_neg (fun z => h z.2), if_neg (by omega), if_neg (by omega)]
  have e6 : ∀ j, j ≠ q → cLq u q key i x 172 j = u 172 j := fun j h => by unfold cLq; rw [if_neg (by omega), if_neg (fun z => h z.2), if_neg (by omega)]
  have r := ncap_lt (show szN u q < 1024 by omega) hl.2.1
  have r2 := ncap_room hl.1
  have r3 := gcap_gt (szN u q)
  refine ⟨⟨by rw [e3]; exact hw.1, fun q' hq' => ?_, fun p hp => ?_⟩, ⟨fun q' => ?_, fun p => by rw [e4]; exact Nat.le_refl _, by rw [e1]; exact Nat.le_refl _, by rw [e2]; exact Nat.le_refl _, by rw [e3]; exact Nat.le_refl _⟩, e1, e2, e3⟩
  · by_cases z : q' = q
    · subst z
      show _ ∧ _ ∧ _ ∧ _
      rw [ec, es]
      refine ⟨by unfold ncap; split <;> omega, r, by unfold cLq; rw [if_pos ⟨rfl, rfl⟩], by unfold cLq; rw [if_neg (by omega), if_pos ⟨rfl, rfl⟩]⟩
    · show _ ∧ _ ∧ _ ∧ _
      rw [cLq_sz' z (by omega), cLq_cap' z (by omega), e5 q' z, e6 q' z]
      exact hw.2.1 q' (by rw [← e3]; exact hq')
  · rw [e4, cLq_sz' (by omega) (by omega)]
    exact hw.2.2 p (by rw [← e3]; exact hp)
  · by_cases z : q' = q
    · subst z; rw [ec]; exact r2.1
    · rw [cLq_cap' z (by omega)]; exact Nat.le_refl _
theorem LG.clr {u : MM} {q : Nat} (hq : q = 3 ∨ q = 4) : LG u (up u 171 q 0) := fun hw => by
  have e1 : nhN (up u 171 q 0) = nhN u := nhN_up (by omega)
  have e2 : nlN (up u 171 q 0) = nlN u := nlN_up (by omega)
  have e3 : npN (up u 171 q 0) = npN u := npN_up (by omega)
  have hsz : ∀ q', q' ≠ q → szN (up u 171 q 0) q' = szN u q' := fun q' h => by unfold szN; rw [up_i h]
  have hcap : ∀ q', capN (up u 171 q 0) q' = capN u q' := fun q' => by unfold capN; rw [up_key (by omega)]
  have hl := hw.2.1 q (by omega)
  refine ⟨⟨by rw [e3]; exact hw.1, fun q' hq' => ?_, fun p hp => ?_⟩, Gw.up (by omega), e1, e2, e3⟩
  · by_cases z : q' = q
    · subst z
      show _ ∧ _ ∧ _ ∧ _
      rw [hcap, show szN (up u 171 q' 0) q' = 0 by unfold szN; rw [up_s]; rfl, up_s, up_key (by omega)]
      exact ⟨Nat.zero_le _, hl.2.1, rfl, hl.2.2.2⟩
    · show _ ∧ _ ∧ _ ∧ _
      rw [hsz q' z, hcap, up_i z, up_key (by omega)]
      exact hw.2.1 q' (by rw [← e3]; exact hq')
  · rw [hsz (6 + p) (by omega), show evN (up u 171 q 0) p = evN u p by unfold evN; rw [up_key (by omega)]]
    exact hw.2.2 p (by rw [← e3]; exact hp)
/-! keys -/
def nk (k : Nat) : Bool := !(k == 27 || k == 120 || k == 121 || k == 122 || k == 171 || k == 172 || k == 173)
theorem cNote_k {u : MM} {p j : Nat} {t : Int32} {x : Nat} {y : Int32} {k : Nat} (h : nk k = true) : cNote u p j t x y k = u k := by
  have e : k ≠ 27 ∧ k ≠ 120 ∧ k ≠ 121 ∧ k ≠ 122 ∧ k ≠ 171 ∧ k ≠ 172 ∧ k ≠ 173 := by
    refine ⟨?_, ?_, ?_, ?_, ?_, ?_, ?_⟩ <;> (intro e; subst e; exact absurd h (by decide))
  unfold cNote
  split
  · rfl
  · rw [up_key e.1, cEv_k e.2.2.2.2.2.2 e.2.1 e.2.2.1 e.2.2.2.1 e.2.2.2.2.1 e.2.2.2.2.2.1]
def stk (k : Nat) : Bool := !(k == 116 || k == 15 || k == 28 || k == 18 || k == 21)
theorem cSettle_k {u : MM} {p : Nat} {x now : Int32} {k : Nat} (h : stk k = true) : cSettle u p x now k = u k := by
  have e : k ≠ 116 ∧ k ≠ 15 ∧ k ≠ 28 ∧ k ≠ 18 ∧ k ≠ 21 := by
    refine ⟨?_, ?_, ?_, ?_, ?_⟩ <;> (intro e; subst e; exact absurd h (by decide))
  unfold cSettle
  split
  · rw [up_key e.2.2.2.2, up_key e.2.2.2.1, up_key e.2.2.1, up_key e.2.1, up_key e.1]
  · rw [up_key e.2.2.2.1, up_key e.2.2.1, up_key e.2.1, up_key e.1]
theorem LG.settle {u : MM} {p : Nat} {x now : Int32} : LG u (cSettle u p x now) := LG.ext (fun k hk => cSettle_k (by
  unfold kSz at hk
  rcases hk with rfl | rfl | rfl | rfl | rfl | rfl <;> rfl))
theorem LG.plan {u : MM} {p : Nat} : LG u (cPlan u p) := LG.ext (fun k hk => cPlan_key u p (by unfold kSz at hk; omega) (by unfold kSz at hk; omega))
theorem LG.planP {u : MM} {p : Nat} : LG u (cPlanP u p) := LG.ext (fun k hk => cPlanP_key u p (by unfold kSz at hk; omega) (by unfold kSz at hk; omega) (by unfold kSz at hk; omega))
/-! what happens to a parcel -/
def cHold (u : MM) (p : Nat) : MM := cNote (up u 28 p 104) p 8 (u 41 0) (u 15 p).toNatClampNeg (-1)
def cTb0 (u : MM) (p : Nat) : MM := cSettle (up (up (up (up u 29 p 1) 14 p (u 13 p)) 23 p 0) 21 p (-1)) p (u 15 p) (u 41 0)
def cTurn (u : MM) (p : Nat) : MM := cPlanP (cNote (cTb0 u p) p 7 (u 41 0) (u 15 p).toNatClampNeg (-1)) p
def cFail0 (u : MM) (p : Nat) : MM := cNote (up u 23 p (u 23 p + 1)) p 6 (u 41 0) (u 15 p).toNatClampNeg (-1)
def cFailR (u : MM) (p : Nat) : Int32 := if u 23 p + 1 < 3 - u 12 p then 119 else if ¬ u 29 p = 0 then 104 else 114
def cFail (u : MM) (p : Nat) : MM := if u 23 p + 1 < 3 - u 12 p then cFail0 u p else if ¬ u 29 p = 0 then cHold (cFail0 u p) p else cTurn (cFail0 u p) p
def cMis0 (u : MM) (p x : Nat) : MM := cNote (up u 22 p (u 22 p + 1)) p 2 (u 41 0) x (-1)
def cMisR (u : MM) (p : Nat) : Int32 := if u 22 p + 1 < 3 then 109 else 104
def cMis (u : MM) (p x : Nat) : MM := if u 22 p + 1 < 3 then cPlan (cSettle (cMis0 u p x) p (nI x) (u 41 0)) p else cHold (up (up (cMis0 u p x) 116 p (-1)) 15 p (nI x)) p
def cLoad (u : MM) (p l : Nat) : MM := cNote (up (up (up u 28 p 116) 116 p (nI l)) 17 p (u 41 0 + u 6 l)) p 3 (u 41 0) (u 2 l).toNatClampNeg (nI l)
theorem npN_u {u : MM} {k i : Nat} {x : Int32} {p : Nat} (h : p < npN u) (hk : k ≠ 39) : p < npN (up u k i x) := by
  have e : npN (up u k i x) = npN u := npN_up (by omega)
  rw [e]; exact h
theorem LG.hold {u : MM} {p : Nat} (hp : p < npN u) : LG u (cHold u p) := (LG.upk (by unfold kSz; decide)).trans (LG.note hp)
theorem LG.tb0 {u : MM} {p : Nat} : LG u (cTb0 u p) := ((((LG.upk (by unfold kSz; decide)).trans (LG.upk (by unfold kSz; decide))).trans (LG.upk (by unfold kSz; decide))).trans (LG.upk (by unfold kSz; decide))).trans LG.settle
theorem LG.turn {u : MM} {p : Nat} (hp : p < npN u) : LG u (cTurn u p) := fun h => ((LG.tb0.trans (LG.note (by rw [(LG.tb0 h).2.2.2.2]; exact hp))).trans LG.planP) h
theorem LG.fail0 {u : MM} {p : Nat} (hp : p < npN u) : LG u (cFail0 u p) := (LG.upk (by unfold kSz; decide)).trans (LG.note hp)
theorem LG.fail1 {u : MM} {p : Nat} (hp : p < npN u) : LG (cFail0 u p) (cFail u p) := fun h => by
  have h3 : npN (cFail0 u p) = npN u := npN_ext (by unfold cFail0; rw [cNote_k rfl, up_key (by omega)])
  exact LG.ite (fun _ => LG.refl _) (fun _ => LG.ite (fun _ => LG.hold (by rw [h3]; exact hp)) (fun _ => LG.turn (by rw [h3]; exact hp))) h
theorem LG.fail {u : MM} {p : Nat} (hp : p < npN u) : LG u (cFail u p) := (LG.fail0 hp).trans (LG.fail1 hp)
theorem LG.mis0 {u : MM} {p x : Nat} (hp : p < npN u) : LG u (cMis0 u p x) := (LG.upk (by unfold kSz; decide)).trans (LG.note hp)
theorem LG.mis1 {u : MM} {p x : Nat} (hp : p < npN u) : LG (cMis0 u p x) (cMis u p x) := fun h => by
  have h3 : npN (cMis0 u p x) = npN u := npN_ext (by unfold cMis0; rw [cNote_k rfl, up_key (by omega)])
  exact LG.ite (fun _ => LG.settle.trans LG.plan) (fun _ => ((LG.upk (by unfold kSz; decide)).trans (LG.upk (by unfold kSz; decide))).trans (LG.hold (show p < npN (cMis0 u p x) by rw [h3]; exact hp))) h
theorem LG.mis {u : MM} {p x : Nat} (hp : p < npN u) : LG u (cMis u p x) := (LG.mis0 hp).trans (LG.mis1 hp)
theorem LG.load {u : MM} {p l : Nat} (hp : p < npN u) : LG u (cLoad u p l) := (((LG.upk (by unfold kSz; decide)).trans (LG.upk (by unfold kSz; decide))).trans (LG.upk (by unfold kSz; decide))).trans (LG.note hp)

