theorem WFc.addE {u : MM} (hw : WFc u) {p : Nat} {L t : Int32} {x : Nat} (hp : p < npN u) (hn : szN u (6 + p) < 1024) (hx : x < nhN u) : WFc (cEv u p L t x) := by
  have hok : ok u 3 (6 + p) := show 6 + p < 6 + npN u by omega
  have hl := hw.ls hok
  have hnh := hw.nh
  have hev := (hw.sz6 hp).2
  obtain ⟨e1, e2, e3⟩ := cEv_n u p L t x
  have ec := cEv_cap (L := L) (t := t) (x := x) hn hl.2.1
  have ee := cEv_ev (L := L) (t := t) (x := x) hn
  have es := cEv_sz (L := L) (t := t) (x := x) hn
  have r := ncap_lt hn hl.2.1
  have r2 := ncap_room hl.1
  have r3 := gcap_gt (szN u (6 + p))
  have e4 : ∀ k, k ≠ 171 → k ≠ 172 → k ≠ 173 → k ≠ 120 → k ≠ 121 → k ≠ 122 → cEv u p L t x k = u k := fun k a b c d e f => cEv_k c d e f a b
  have e5 : ∀ j, j ≠ 6 + p → cEv u p L t x 171 j = u 171 j := fun j h => by unfold cEv; rw [if_neg (fun z => h z.2), if_neg (by omega), cEv1_k (by omega) (by omega) (by omega) (by omega)]
  have e6 : ∀ j, j ≠ 6 + p → cEv u p L t x 172 j = u 172 j := fun j h => by unfold cEv; rw [if_neg (by omega), if_neg (fun z => h z.2), cEv1_k (by omega) (by omega) (by omega) (by omega)]
  have e7 : ∀ j, j ≠ p → cEv u p L t x 173 j = u 173 j := fun j h => by unfold cEv cEv1; rw [if_neg (by omega), if_neg (by omega), if_neg (fun z => h z.2), if_neg (by omega), if_neg (by omega), if_neg (by omega)]
  have e8 : ∀ j, cEv u p L t x 122 j = if j = 1024 * p + szN u (6 + p) then nI x else u 122 j := fun j => by
    unfold cEv cEv1
    rw [if_neg (by omega), if_neg (by omega), if_neg (by omega), if_neg (by omega), if_neg (by omega)]
    by_cases z : j = 1024 * p + szN u (6 + p)
    · rw [if_pos ⟨z, rfl⟩, if_pos z]
    · rw [if_neg (fun w => z w.1), if_neg z]
  have et : ∀ T, cnt (cEv u p L t x) T = cnt u T := fun T => by unfold cnt; rw [e1, e2, e3]
  have hsz : ∀ q', q' ≠ 6 + p → szN (cEv u p L t x) q' = szN u q' := fun q' h => by rw [es, if_neg h]
  have r' : ∀ k, rfT k ≠ 0 → k ≠ 122 → cEv u p L t x k = u k := fun k hk h => e4 k (fun e => hk (by rw [e]; rfl)) (fun e => hk (by rw [e]; rfl)) (fun e => hk (by rw [e]; rfl)) (fun e => hk (by rw [e]; rfl)) (fun e => hk (by rw [e]; rfl)) h
  refine ⟨by rw [e1, e2, e3]; exact hw.1, fun q' hq' => ?_, ⟨⟨by rw [hsz 5 (by omega)]; exact hw.2.2.1.1.1, by rw [e4 37 (by omega) (by omega) (by omega) (by omega) (by omega) (by omega), e5 0 (by omega)]; exact hw.2.2.1.1.2.1, by rw [e4 38 (by omega) (by omega) (by omega) (by omega) (by omega) (by omega), e5 1 (by omega)]; exact hw.2.2.1.1.2.2.1, by rw [e4 39 (by omega) (by omega) (by omega) (by omega) (by omega) (by omega), e5 2 (by omega)]; exact hw.2.2.1.1.2.2.2⟩, fun p' => ?_⟩, fun k hk j => ?_, fun l hl => ?_, fun p' hp' => ?_, fun e he => ?_, fun k hk => ?_, fun k hk => ?_⟩
  · by_cases z : q' = 6 + p
    · subst z
      show _ ∧ _ ∧ _ ∧ _
      rw [ec, if_pos rfl, es, if_pos rfl]
      exact ⟨by unfold ncap; split <;> omega, r, by unfold cEv; rw [if_pos ⟨rfl, rfl⟩], by unfold cEv; rw [if_neg (by omega), if_pos ⟨rfl, rfl⟩]⟩
    · show _ ∧ _ ∧ _ ∧ _
      rw [hsz q' z, ec, if_neg z, e5 q' z, e6 q' z]
      exact hw.ls (show q' < 6 + npN u by rw [← e3]; exact hq')
  · rw [e3]
    by_cases z : p' = p
    · subst z
      refine ⟨fun _ => ⟨by rw [es, if_pos rfl]; omega, ?_⟩, fun y => absurd hp (by omega)⟩
      unfold cEv cEv1
      rw [if_neg (by omega), if_neg (by omega), if_pos ⟨rfl, rfl⟩, if_pos ⟨rfl, rfl⟩]
    · rw [hsz (6 + p') (by omega), e7 p' z, e5 (6 + p') (by omega), e6 (6 + p') (by omega)]
      exact hw.2.2.1.2 p'
  · show _ ∨ _
    rw [et]
    by_cases z : k = 122
    · subst z
      rw [e8]
      split
      · exact Or.inr (show vp_in (nI x) (nhN u) from vp_in_nI hx (by omega))
      · exact hw.rg hk j
    · rw [r' k hk z]; exact hw.rg hk j
  · rw [r' 2 (by decide) (by omega), r' 3 (by decide) (by omega), e1]; rw [e2] at hl; exact hw.ln hl
  · rw [r' 13 (by decide) (by omega), r' 14 (by decide) (by omega), r' 15 (by decide) (by omega), e1]; rw [e3] at hp'; exact hw.pa hp'
  · rw [e8, e1]
    have he2 : e / 1024 < npN (cEv u p L t x) ∧ e % 1024 < evN (cEv u p L t x) (e / 1024) := he
    rw [e3, ee] at he2
    by_cases z : e = 1024 * p + szN u (6 + p)
    · rw [if_pos z]; exact vp_in_nI hx (by omega)
    · rw [if_neg z]
      refine hw.evh ?_
      show e / 1024 < npN u ∧ e % 1024 < evN u (e / 1024)
      by_cases y : e / 1024 = p
      · rw [if_pos y] at he2
        refine ⟨he2.1, ?_⟩
        rw [y, hev]
        omega
      · rw [if_neg y] at he2; exact he2
  · rw [hsz 3 (by omega)] at hk
    rw [e4 36 (by omega) (by omega) (by omega) (by omega) (by omega) (by omega), e3]; exact hw.qu hk
  · rw [hsz 4 (by omega)] at hk
    rw [e4 176 (by omega) (by omega) (by omega) (by omega) (by omega) (by omega), e3]; exact hw.lf hk
/-- what note does: the letter's place j, the minute t, the hub x, the line or -1 -/
def cMark (t : Int32) (x j : Nat) (y : Int32) : Int32 := if y = -1 then 97 * t + 13 * nI x + nI j else 97 * t + 13 * nI x + nI j + (7 * y + 7)
def cNote (u : MM) (p : Nat) (j : Nat) (t : Int32) (x : Nat) (y : Int32) : MM :=
  if 1024 ≤ szN u (6 + p) then u else up (cEv u p (lw_letters.getD j 0) t x) 27 p ((31 * u 27 p + cMark t x j y) - (31 * u 27 p + cMark t x j y) / 1000003 * 1000003)
theorem cNote_ok {u : MM} (hw : WFc u) {p : Nat} (hp : p < npN u) (j : Nat) (t : Int32) {x : Nat} (hx : x < nhN u) (y : Int32) : WFc (cNote u p j t x y) ∧ Gw u (cNote u p j t x y) := by
  unfold cNote
  by_cases z : 1024 ≤ szN u (6 + p)
  · rw [if_pos z]; exact ⟨hw, Gw.refl u⟩
  · rw [if_neg z]
    exact ⟨(hw.addE hp (by omega) hx).upx (by unfold kWc kSz; decide), (cEv_room hw hp (by omega)).1.trans (Gw.up (by omega))⟩

