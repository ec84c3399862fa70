/-! what a call may take of the room: the caps of the lists and what has been made -/
def sumN (f : Nat → Nat) : Nat → Nat
  | 0 => 0
  | n + 1 => sumN f n + f n
theorem sumN_le {f g : Nat → Nat} (h : ∀ i, f i ≤ g i) : ∀ n, sumN f n ≤ sumN g n
  | 0 => Nat.le_refl _
  | n + 1 => Nat.add_le_add (sumN_le h n) (h n)
theorem sumN_pt {f g : Nat → Nat} {j : Nat} (h : ∀ i, i ≠ j → g i = f i) (hle : f j ≤ g j) : ∀ n, sumN g n = sumN f n + (if j < n then g j - f j else 0) := by
  intro n
  induction n with
  | zero => rfl
  | succ n ih =>
    show sumN g n + g n = sumN f n + f n + _
    rw [ih]
    by_cases e : n = j
    · subst e
      rw [if_neg (Nat.lt_irrefl _), if_pos (Nat.lt_succ_self _)]
      omega
    · rw [h n e]
      by_cases z : j < n
      · rw [if_pos z, if_pos (by omega)]; omega
      · rw [if_neg z, if_neg (by omega)]; omega
def UC (c : MM) : Nat := sumN (capN c) 46 + sumN (evN c) 40 + 4 * (nhN c + nlN c + npN c)
def US (c : MM) : Nat := 4 * sumN (capN c) 46 + 3 * sumN (evN c) 40 + 100 * (nhN c + nlN c + npN c)
def Gw (u v : MM) : Prop := (∀ q, capN u q ≤ capN v q) ∧ (∀ p, evN u p ≤ evN v p) ∧ nhN u ≤ nhN v ∧ nlN u ≤ nlN v ∧ npN u ≤ npN v
theorem Gw.refl (u : MM) : Gw u u := ⟨fun _ => Nat.le_refl _, fun _ => Nat.le_refl _, Nat.le_refl _, Nat.le_refl _, Nat.le_refl _⟩
theorem Gw.trans {u v w : MM} (a : Gw u v) (b : Gw v w) : Gw u w := ⟨fun q => Nat.le_trans (a.1 q) (b.1 q), fun p => Nat.le_trans (a.2.1 p) (b.2.1 p), Nat.le_trans a.2.2.1 b.2.2.1, Nat.le_trans a.2.2.2.1 b.2.2.2.1, Nat.le_trans a.2.2.2.2 b.2.2.2.2⟩
theorem Gw.le {u v : MM} (g : Gw u v) : UC u ≤ UC v ∧ US u ≤ US v := by
  have a := sumN_le g.1 46
  have b := sumN_le g.2.1 40
  obtain ⟨-, -, c, d, e⟩ := g
  unfold UC US
  omega
theorem Gw.ext {u v : MM} (e : ∀ k, kSz k → k ≠ 171 → v k = u k) : Gw u v := by
  have n1 : nhN v = nhN u := nhN_ext (e 37 (by unfold kSz; omega) (by omega))
  have n2 : nlN v = nlN u := nlN_ext (e 38 (by unfold kSz; omega) (by omega))
  have n3 : npN v = npN u := npN_ext (e 39 (by unfold kSz; omega) (by omega))
  have n4 : ∀ q, capN v q = capN u q := fun q => by unfold capN; rw [e 172 (by unfold kSz; omega) (by omega)]
  have n5 : ∀ q, evN v q = evN u q := fun q => by unfold evN; rw [e 173 (by unfold kSz; omega) (by omega)]
  exact ⟨fun q => by rw [n4]; exact Nat.le_refl _, fun q => by rw [n5]; exact Nat.le_refl _, by rw [n1]; exact Nat.le_refl _, by rw [n2]; exact Nat.le_refl _, by rw [n3]; exact Nat.le_refl _⟩
theorem Gw.up {u : MM} {k i : Nat} {x : Int32} (hk : ¬ (k = 37 ∨ k = 38 ∨ k = 39 ∨ k = 172 ∨ k = 173)) : Gw u (up u k i x) := Gw.ext (fun k' h' h7 => up_key (fun e => by unfold kSz at h'; omega))
theorem Gw.oks {u v : MM} (g : Gw u v) {K i : Nat} (h : ok u K i) : ok v K i := by
  obtain ⟨a, b, c, d, e⟩ := g
  unfold ok at h ⊢
  split at h <;> first | exact h | omega | exact ⟨by omega, Nat.lt_of_lt_of_le h.2 (b _)⟩ | exact ⟨by omega, Nat.lt_of_lt_of_le h.2 (a _)⟩
/-- things keep their addresses -/
def BE (u : MM) (b b' : BA) : Prop := ∀ K i, K ≠ 31 → ok u K i → b' K i = b K i
theorem BE.refl (u : MM) (b : BA) : BE u b b := fun _ _ _ _ => rfl
theorem BE.trans {u v : MM} {b b' b'' : BA} (g : Gw u v) (a : BE u b b') (c : BE v b' b'') : BE u b b'' := fun K i h hk => (c K i h (g.oks hk)).trans (a K i h hk)
theorem gcap_4 (n : Nat) : gcap n ≤ 4 * (gcap n - n) := by
  unfold gcap
  split
  · omega
  · rw [Nat.max_def]; split <;> omega
theorem ncap_room {n cap : Nat} (h : n ≤ cap) : cap ≤ ncap n cap ∧ aC n cap ≤ ncap n cap - cap ∧ aS n cap ≤ 4 * (ncap n cap - cap) := by
  unfold ncap aC aS
  have := gcap_gt n
  have := gcap_4 n
  split
  · rename_i e; subst e; omega
  · omega
/-! a number comes into the queue (3), or into the list of those left behind (4) -/
def cLq (u : MM) (q key i : Nat) (x : Int32) : MM := fun k j =>
  if k = 171 ∧ j = q then nI (szN u q + 1) else if k = 172 ∧ j = q then nI (ncap (szN u q) (capN u q))
  else if k = key then (if j < i then u key j else if j = i then x else u key (j - 1)) else u k j
theorem cLq_k {u : MM} {q key i : Nat} {x : Int32} {k : Nat} (h : k ≠ 171) (h2 : k ≠ 172) (h3 : k ≠ key) : cLq u q key i x k = u k := by
  funext j
  unfold cLq
  rw [if_neg (fun z => h z.1), if_neg (fun z => h2 z.1), if_neg h3]
theorem cLq_sz {u : MM} {q key i : Nat} {x : Int32} (hn : szN u q < 1000) : szN (cLq u q key i x) q = szN u q + 1 := by
  unfold szN
  show (cLq u q key i x 171 q).toNatClampNeg = _
  unfold cLq
  rw [if_pos ⟨rfl, rfl⟩, nI_clamp (by omega)]
  rfl
theorem ncap_lt {n cap : Nat} (h : n < 1024) (h2 : cap < 1600) : ncap n cap < 1600 := by
  have := gcap_le n
  unfold ncap
  split <;> omega
theorem cLq_cap {u : MM} {q key i : Nat} {x : Int32} (hn : szN u q < 1000) (hc : capN u q < 1600) : capN (cLq u q key i x) q = ncap (szN u q) (capN u q) := by
  have := ncap_lt (show szN u q < 1024 by omega) hc
  show (cLq u q key i x 172 q).toNatClampNeg = _
  unfold cLq
  rw [if_neg (by omega), if_pos ⟨rfl, rfl⟩, nI_clamp (by omega)]
theorem cLq_sz' {u : MM} {q key i q' : Nat} {x : Int32} (h : q' ≠ q) (hk : key ≠ 171) : szN (cLq u q key i x) q' = szN u q' := by
  unfold szN
  rw [show cLq u q key i x 171 q' = u 171 q' by unfold cLq; rw [if_neg (fun z => h z.2), if_neg (by omega), if_neg (by omega)]]
theorem cLq_cap' {u : MM} {q key i q' : Nat} {x : Int32} (h : q' ≠ q) (hk : key ≠ 172) : capN (cLq u q key i x) q' = capN u q' := by
  unfold capN
  rw [show cLq u q key i x 172 q' = u 172 q' by unfold cLq; rw [if_neg (by omega), if_neg (fun z => h z.2), if_neg (by omega)]]
theorem cLq_room {u : MM} (hw : WFc u) {q key i : Nat} {x : Int32} (hq : q = 3 ∧ key = 36 ∨ q = 4 ∧ key = 176) (hn : szN u q < 1000) : Gw u (cLq u q key i x) ∧ UC u + aC (szN u q) (capN u q) ≤ UC (cLq u q key i x) ∧ US u + aS (szN u q) (capN u q) ≤ US (cLq u q key i x) := by
  have hl := hw.ls (q := q) (show q < 6 + npN u by omega)
  obtain ⟨r1, r2, r3⟩ := ncap_room hl.1
  have ec := cLq_cap (i := i) (x := x) (key := key) hn hl.2.1
  have eo : ∀ q', q' ≠ q → capN (cLq u q key i x) q' = capN u q' := fun q' h => cLq_cap' h (by omega)
  have e1 : nhN (cLq u q key i x) = nhN u := nhN_ext (cLq_k (by omega) (by omega) (by omega))
  have e2 : nlN (cLq u q key i x) = nlN u := nlN_ext (cLq_k (by omega) (by omega) (by omega))
  have e3 : npN (cLq u q key i x) = npN u := npN_ext (cLq_k (by omega) (by omega) (by omega))
  have e4 : evN (cLq u q key i x) = evN u := by funext p; unfold evN; rw [cLq_k (by omega) (by omega) (by omega)]
  have es := sumN_pt eo (by rw [ec]; exact r1) 46
  rw [if_pos (by omega), ec] at es
  refine ⟨⟨fun q' => ?_, fun p => by rw [e4]; exact Nat.le_refl _, by rw [e1]; exact Nat.le_refl _, by rw [e2]; exact Nat.le_refl _, by rw [e3]; exact Nat.le_refl _⟩, ?_, ?_⟩
  · by_cases z : q' = q
    · subst z; rw [ec]; exact r1
    · rw [eo q' z]; exact Nat.le_refl _
  · unfold UC; rw [es, e1, e2, e3, e4]; omega
  · unfold US; rw [es, e1, e2, e3, e4]; omega
theorem RC.addQ {E : Nat} {h h' : AH} {b : BA} {u : MM} (hR : RC E h b u) (hw : WFc u) {q key i p : Nat} (hq : q = 3 ∧ key = 36 ∨ q = 4 ∧ key = 176) (hi : i ≤ szN u q) (hp : p < npN u) (hL : Ladd h h' (b 3 q) (arrQ E b u q) (szN u q) (capN u q) (insG h (arrQ E b u q) (b 9 p) i)) : ∃ b', BE u b b' ∧ RC E h' b' (cLq u q key i (nI p)) := by
  have hok : ok u 3 q := show q < 6 + npN u by omega
  have hl := hw.ls hok
  have hnp := hw.np
  have hel : elK q = 9 := by rcases hq with ⟨rfl, -⟩ | ⟨rfl, -⟩ <;> rfl
  have hei : ∀ (c : MM) k, elI c q k = (c key k).toNatClampNeg := fun c k => by rcases hq with ⟨rfl, rfl⟩ | ⟨rfl, rfl⟩ <;> rfl
  have hold : ∀ k, k < szN u q → aR h k (arrQ E b u q) = some (b 9 (u key k).toNatClampNeg) := fun k hk => by
    unfold arrQ
    rw [if_neg (by omega), ((hR.ls hok).2 (by omega)).2.2 k hk, hel, hei]
  have hk1 : cLq u q key i (nI p) key = fun j => if j < i then u key j else if j = i then nI p else u key (j - 1) := by
    funext j
    unfold cLq
    rw [if_neg (by omega), if_neg (by omega), if_pos rfl]
  have g1 : ∀ k, k < szN u q + 1 → insG h (arrQ E b u q) (b 9 p) i k = some (b (elK q) (elI (cLq u q key i (nI p)) q k)) := by
    intro k hk
    rw [hel, hei, hk1]
    unfold insG
    by_cases z : k < i
    · simp only [if_pos z]
      exact hold k (by omega)
    · by_cases z2 : k = i
      · simp only [if_neg z, if_pos z2]
        rw [nI_clamp (by omega)]
      · simp only [if_neg z, if_neg z2]
        exact hold (k - 1) (by omega)
  have g2 : ∀ k j, ¬ ((k = 171 ∨ k = 172) ∧ j = q) → k ≠ 36 → k ≠ 176 → cLq u q key i (nI p) k j = u k j := by
    intro k j h1 h2 h3
    unfold cLq
    rw [if_neg (fun z => h1 ⟨Or.inl z.1, z.2⟩), if_neg (fun z => h1 ⟨Or.inr z.1, z.2⟩), if_neg (by omega)]
  have g3 : ∀ q' k, q' ≠ q → elI (cLq u q key i (nI p)) q' k = elI u q' k := by
    intro q' k hne
    unfold elI
    rcases hq with ⟨rfl, rfl⟩ | ⟨rfl, rfl⟩
    · rw [if_neg hne, if_neg hne, cLq_k (k := 176) (by omega) (by omega) (by omega)]
    · rw [cLq_k (k := 36) (by omega) (by omega) (by omega)]
      by_cases z : q' = 3
      · rw [if_pos z, if_pos z]
      · rw [if_neg z, if_neg z, if_neg hne, if_neg hne]
  obtain ⟨arr', ha⟩ := hR.ladd (c' := cLq u q key i (nI p)) hl hok hL (by unfold cLq; rw [if_pos ⟨rfl, rfl⟩]) (by unfold cLq; rw [if_neg (by omega), if_pos ⟨rfl, rfl⟩]) g1 g2 g3
  exact ⟨_, fun K j h1 _ => bup_n (fun z => h1 z.1), ha⟩
theorem WFc.addQ {u : MM} (hw : WFc u) {q key i : Nat} {x : Int32} (hq : q = 3 ∧ key = 36 ∨ q = 4 ∧ key = 176) (hn : szN u q < 1000) (hi : i ≤ szN u q) (hx : vp_in x (npN u)) : WFc (cLq u q key i x) := by
  have hok : ok u 3 q := show q < 6 + npN u by omega
  have hl := hw.ls hok
  have ec := cLq_cap (i := i) (x := x) (key := key) hn hl.2.1
  have es := cLq_sz (i := i) (x := x) (key := key) hn
  have e1 : nhN (cLq u q key i x) = nhN u := nhN_ext (cLq_k (by omega) (by omega) (by omega))
  have e2 : nlN (cLq u q key i x) = nlN u := nlN_ext (cLq_k (by omega) (by omega) (by omega))
  have e3 : npN (cLq u q key i x) = npN u := npN_ext (cLq_k (by omega) (by omega) (by omega))
  have e4 : ∀ k, k ≠ 171 → k ≠ 172 → k ≠ key → cLq u q key i x k = u k := fun k => cLq_k
  have e5 : ∀ j, j ≠ q → cLq u q key i x 171 j = u 171 j := fun j h => by unfold cLq; rw [if_neg (fun z => h z.2), if_neg (by omega), if_neg (by omega)]
  have e6 : ∀ j, j ≠ q → cLq u q key i x 172 j = u 172 j := fun j h => by unfold cLq; rw [if_neg (by omega), if_neg (fun z => h z.2), if_neg (by omega)]
  have e7 : ∀ T, cnt (cLq u q key i x) T = cnt u T := fun T => by unfold cnt; rw [e1, e2, e3]
  have r := ncap_lt (show szN u q < 1024 by omega) hl.2.1
  have r2 := ncap_room hl.1
  have r3 := gcap_gt (szN u q)
  have hrk : ∀ k, rfT k ≠ 0 → k ≠ 171 ∧ k ≠ 172 ∧ k ≠ key := fun k hk => ⟨fun e => hk (by rw [e]; rfl), fun e => hk (by rw [e]; rfl), fun e => hk (by rcases hq with ⟨-, rfl⟩ | ⟨-, rfl⟩ <;> (rw [e]; rfl))⟩
  have r' : ∀ k, rfT k ≠ 0 → cLq u q key i x k = u k := fun k hk => e4 k (hrk k hk).1 (hrk k hk).2.1 (hrk k hk).2.2
  have hsz : ∀ q', q' ≠ q → szN (cLq u q key i x) q' = szN u q' := fun q' h => cLq_sz' h (by omega)
  have hqk : ∀ (q' key' : Nat) (hold : ∀ k, k < szN u q' → vp_in (u key' k) (npN u)), (q' = q ∧ key' = key ∨ q' ≠ q ∧ key' ≠ key ∧ key' ≠ 171 ∧ key' ≠ 172) → ∀ k, k < szN (cLq u q key i x) q' → vp_in (cLq u q key i x key' k) (npN u) := by
    intro q' key' hold hc k hk
    rcases hc with ⟨rfl, rfl⟩ | ⟨c1, c2, c3, c4⟩
    · rw [es] at hk
      unfold cLq
      rw [if_neg (by omega), if_neg (by omega), if_pos rfl]
      split
      · exact hold k (by omega)
      · split
        · exact hx
        · exact hold (k - 1) (by omega)
    · rw [hsz q' c1] at hk
      rw [e4 key' c3 c4 c2]
      exact hold k hk
  refine ⟨by rw [e1, e2, e3]; exact hw.1, fun q' hq' => ?_, ⟨⟨by rw [hsz 5 (by omega)]; exact hw.2.2.1.1.1, by rw [e4 37 (by omega) (by omega) (by omega), e5 0 (by omega)]; exact hw.2.2.1.1.2.1, by rw [e4 38 (by omega) (by omega) (by omega), e5 1 (by omega)]; exact hw.2.2.1.1.2.2.1, by rw [e4 39 (by omega) (by omega) (by omega), e5 2 (by omega)]; exact hw.2.2.1.1.2.2.2⟩, fun p => ?_⟩, fun k hk j => ?_, fun l hl => ?_, fun p hp => ?_, fun e he => ?_, ?_, ?_⟩
  · by_cases z : q' = q
    · subst z
      show _ ∧ _ ∧ _ ∧ _
      rw [ec, es]
      refine ⟨by unfold ncap; split <;> omega, r, by unfold cLq; rw [if_pos ⟨rfl, rfl⟩], by unfold cLq; rw [if_neg (by omega), if_pos ⟨rfl, rfl⟩]⟩
    · show _ ∧ _ ∧ _ ∧ _
      rw [hsz q' z, cLq_cap' z (by omega), e5 q' z, e6 q' z]
      exact hw.ls (show q' < 6 + npN u by rw [← e3]; exact hq')
  · rw [hsz (6 + p) (by omega), e4 173 (by omega) (by omega) (by omega), e5 (6 + p) (by omega), e6 (6 + p) (by omega), e3]
    exact hw.2.2.1.2 p
  · rw [r' k hk]
    show _ ∨ _
    rw [e7]
    exact hw.rg hk j
  · rw [r' 2 (by decide), r' 3 (by decide), e1]; rw [e2] at hl; exact hw.ln hl
  · rw [r' 13 (by decide), r' 14 (by decide), r' 15 (by decide), e1]; rw [e3] at hp; exact hw.pa hp
  · rw [r' 122 (by decide), e1]
    refine hw.evh ?_
    show _ < npN u ∧ _ < evN u _
    have he2 : _ < npN (cLq u q key i x) ∧ _ < evN (cLq u q key i x) _ := he
    rw [e3, show evN (cLq u q key i x) = evN u by funext p; unfold evN; rw [e4 173 (by omega) (by omega) (by omega)]] at he2
    exact he2
  · rw [e3]; exact hqk 3 36 (fun k hk => hw.qu hk) (by omega)
  · rw [e3]; exact hqk 4 176 (fun k hk => hw.lf hk) (by omega)
theorem WFc.clr {u : MM} (hw : WFc u) {q : Nat} (hq : q = 3 ∨ q = 4) : WFc (up u 171 q 0) := by
  have hok : ok u 3 q := show q < 6 + npN u by omega
  have hl := hw.ls hok
  have e1 : nhN (up u 171 q 0) = nhN u := nhN_up (by omega)
  have e2 : nlN (up u 171 q 0) = nlN u := nlN_up (by omega)
  have e3 : npN (up u 171 q 0) = npN u := npN_up (by omega)
  have e4 : ∀ k, k ≠ 171 → up u 171 q 0 k = u k := fun k h => up_key h
  have e5 : ∀ j, j ≠ q → up u 171 q 0 171 j = u 171 j := fun j h => up_i h
  have es : szN (up u 171 q 0) q = 0 := by unfold szN; rw [up_s]; rfl
  have hsz : ∀ q', q' ≠ q → szN (up u 171 q 0) q' = szN u q' := fun q' h => by unfold szN; rw [e5 q' h]
  have hcap : ∀ q', capN (up u 171 q 0) q' = capN u q' := fun q' => by unfold capN; rw [e4 172 (by omega)]
  have r' : ∀ k, rfT k ≠ 0 → up u 171 q 0 k = u k := fun k hk => e4 k (fun e => hk (by rw [e]; rfl))
  refine ⟨by rw [e1, e2, e3]; exact hw.1, fun q' hq' => ?_, ⟨⟨by rw [hsz 5 (by omega)]; exact hw.2.2.1.1.1, by rw [e4 37 (by omega), e5 0 (by omega)]; exact hw.2.2.1.1.2.1, by rw [e4 38 (by omega), e5 1 (by omega)]; exact hw.2.2.1.1.2.2.1, by rw [e4 39 (by omega), e5 2 (by omega)]; exact hw.2.2.1.1.2.2.2⟩, fun p => ?_⟩, fun k hk j => ?_, fun l hl => ?_, fun p hp => ?_, fun e he => ?_, fun k hk => ?_, fun k hk => ?_⟩
  · by_cases z : q' = q
    · subst z
      show _ ∧ _ ∧ _ ∧ _
      rw [hcap, es, up_s, e4 172 (by omega)]
      exact ⟨Nat.zero_le _, hl.2.1, rfl, hl.2.2.2⟩
    · show _ ∧ _ ∧ _ ∧ _
      rw [hsz q' z, hcap, e5 q' z, e4 172 (by omega)]
      exact hw.ls (show q' < 6 + npN u by rw [← e3]; exact hq')
  · rw [hsz (6 + p) (by omega), e4 173 (by omega), e5 (6 + p) (by omega), e4 172 (by omega), e3]
    exact hw.2.2.1.2 p
  · rw [r' k hk]
    show _ ∨ _
    rw [show cnt (up u 171 q 0) (rfT k) = cnt u (rfT k) by unfold cnt; rw [e1, e2, e3]]
    exact hw.rg hk j
  · rw [r' 2 (by decide), r' 3 (by decide), e1]; rw [e2] at hl; exact hw.ln hl
  · rw [r' 13 (by decide), r' 14 (by decide), r' 15 (by decide), e1]; rw [e3] at hp; exact hw.pa hp
  · rw [r' 122 (by decide), e1]
    refine hw.evh ?_
    show _ < npN u ∧ _ < evN u _
    have he2 : _ < npN (up u 171 q 0) ∧ _ < evN (up u 171 q 0) _ := he
    rw [e3, show evN (up u 171 q 0) = evN u by funext p; unfold evN; rw [e4 173 (by omega)]] at he2
    exact he2
  · rw [e4 36 (by omega), e3]
    by_cases z : 3 = q
    · subst z; rw [es] at hk; omega
    · rw [hsz 3 z] at hk; exact hw.qu hk
  · rw [e4 176 (by omega), e3]
    by_cases z : 4 = q
    · subst z; rw [es] at hk; omega
    · rw [hsz 4 z] at hk; exact hw.lf hk
theorem cL_clear (l : Launch) (G : GT) (A : Nat → Prop) (h : AH) (b : BA) (u : MM) (hR : RC G.2.2.1 h b u) (hw : WFc u) (q : Nat) (hq : q = 3 ∨ q = 4) : cmV l G A yJx4a65c_clear_da8c8 cJx4a65c_clear_da8c8 4 0 0 0 0 [.ref (b 3 q)] h (fun h' => aI h' 2 (b 3 q) = 0 ∧ aR h' 1 (b 3 q) = some (arrQ G.2.2.1 b u q) ∧ aK h' (b 3 q) = 3 ∧ (0 < capN u q → aK h' (arrQ G.2.2.1 b u q) = 31 ∧ aN h' (arrQ G.2.2.1 b u q) = capN u q) ∧ SameX h h' (fun y => y = b 3 q ∨ 0 < capN u q ∧ y = arrQ G.2.2.1 b u q)) := cJ_Jx4a65c_clear_da8c8 l G A h (b 3 q) _ _ _ (hR.lsh hw (show q < 6 + npN u by omega))
theorem cL_addQ (l : Launch) (G : GT) (A : Nat → Prop) (h : AH) (b : BA) (u : MM) (hR : RC G.2.2.1 h b u) (hw : WFc u) (i p : Nat) (hp : p < npN u) (hi : i ≤ szN u 3) : cmV l G A yJx4a65c_add_7a177 cJx4a65c_add_7a177 5 5 147 (aC (szN u 3) (capN u 3)) (aS (szN u 3) (capN u 3)) [.ref (b 3 3), .int (nI i), .ref (b 9 p)] h (fun h' => Ladd h h' (b 3 3) (arrQ G.2.2.1 b u 3) (szN u 3) (capN u 3) (insG h (arrQ G.2.2.1 b u 3) (b 9 p) i)) := cJ_addAt l G A h (b 3 3) (b 9 p) _ _ _ i (hR.lsh hw (show 3 < 6 + npN u by omega)) (Or.inr (Or.inr (Or.inr (Or.inl (hR.kind (K := 9) hp))))) hi
theorem cL_addL (l : Launch) (G : GT) (A : Nat → Prop) (h : AH) (b : BA) (u : MM) (hR : RC G.2.2.1 h b u) (hw : WFc u) (p : Nat) (hp : p < npN u) : cmI l G A yJx4a65c_add_9ea2d cJx4a65c_add_9ea2d 2 (Option.some FieldType.boolean) 6 170 (aC (szN u 4) (capN u 4)) (aS (szN u 4) (capN u 4)) [.ref (b 3 4), .ref (b 9 p)] h (fun r h' => r = 1 ∧ Ladd h h' (b 3 4) (arrQ G.2.2.1 b u 4) (szN u 4) (capN u 4) (insG h (arrQ G.2.2.1 b u 4) (b 9 p) (szN u 4))) := cJ_Jx4a65c_add_9ea2d l G A h (b 3 4) (b 9 p) _ _ _ (hR.lsh hw (show 4 < 6 + npN u by omega)) (Or.inr (Or.inr (Or.inr (Or.inl (hR.kind (K := 9) hp)))))

