/-! lists of the class over its state -/
def bup (b : BA) (K i a : Nat) : BA := fun K' i' => if K' = K ∧ i' = i then a else b K' i'
theorem bup_s (b : BA) (K i a : Nat) : bup b K i a K i = a := if_pos ⟨rfl, rfl⟩
theorem bup_n {b : BA} {K i a K' i' : Nat} (h : ¬ (K' = K ∧ i' = i)) : bup b K i a K' i' = b K' i' := if_neg h
theorem stR_ok {c : MM} {K i j : Nat} (hK : K < 20) (hok : ok c K i) (hj : (tyl K)[j]? = some true) (h3 : K ≠ 3) (h9 : kyR K j = 999) : ok c (stR K j i).1 (stR K j i).2 := by
  have hK0 : K = 4 ∨ K = 5 ∨ K = 6 ∨ K = 7 ∨ K = 8 ∨ K = 9 ∨ K = 10 ∨ K = 11 ∨ K = 12 ∨ K = 13 ∨ K = 14 := by
    unfold ok at hok
    split at hok <;> first | omega | exact hok.elim
  have hJ : j < (tyl K).length := (List.getElem?_eq_some_iff.mp hj).1
  have key : ∀ n, (tyl K).length = n → j < n := fun n e => e ▸ hJ
  rcases hK0 with rfl | rfl | rfl | rfl | rfl | rfl | rfl | rfl | rfl | rfl | rfl
  · have := key 3 rfl
    rcases (by omega : j = 0 ∨ j = 1 ∨ j = 2) with rfl | rfl | rfl
    · exact hok
    · rcases hok with z | z
      · exact Or.inl z
      · exact Or.inr (Or.inl z)
    · exact absurd hj (by decide)
  · have := key 3 rfl
    rcases (by omega : j = 0 ∨ j = 1 ∨ j = 2) with rfl | rfl | rfl
    · exact absurd hj (by decide)
    · exact absurd hj (by decide)
    · exact absurd h9 (by decide)
  · have := key 2 rfl
    rcases (by omega : j = 0 ∨ j = 1) with rfl | rfl
    · show 6 + i < 6 + npN c
      have : i < npN c := hok
      omega
    · exact absurd hj (by decide)
  · have := key 3 rfl
    rcases (by omega : j = 0 ∨ j = 1 ∨ j = 2) with rfl | rfl | rfl <;> exact absurd hj (by decide)
  · have := key 9 rfl
    rcases (by omega : j = 0 ∨ j = 1 ∨ j = 2 ∨ j = 3 ∨ j = 4 ∨ j = 5 ∨ j = 6 ∨ j = 7 ∨ j = 8) with rfl | rfl | rfl | rfl | rfl | rfl | rfl | rfl | rfl <;> first | exact absurd hj (by decide) | exact absurd h9 (by decide) | exact Or.inl hok
  · have := key 20 rfl
    rcases (by omega : j = 5 ∨ j < 5 ∨ 5 < j) with rfl | z | z
    · exact hok
    · rcases (by omega : j = 0 ∨ j = 1 ∨ j = 2 ∨ j = 3 ∨ j = 4) with rfl | rfl | rfl | rfl | rfl <;> first | exact absurd hj (by decide) | exact absurd h9 (by decide)
    · rcases (by omega : j = 6 ∨ j = 7 ∨ j = 8 ∨ j = 9 ∨ j = 10 ∨ j = 11 ∨ j = 12 ∨ j = 13 ∨ j = 14 ∨ j = 15 ∨ j = 16 ∨ j = 17 ∨ j = 18 ∨ j = 19) with rfl | rfl | rfl | rfl | rfl | rfl | rfl | rfl | rfl | rfl | rfl | rfl | rfl | rfl <;> first | exact absurd hj (by decide) | exact absurd h9 (by decide)
  · have := key 7 rfl
    rcases (by omega : j = 0 ∨ j = 1 ∨ j = 2 ∨ j = 3 ∨ j = 4 ∨ j = 5 ∨ j = 6) with rfl | rfl | rfl | rfl | rfl | rfl | rfl <;> first | exact absurd hj (by decide) | exact absurd h9 (by decide)
  · have := key 3 rfl
    rcases (by omega : j = 0 ∨ j = 1 ∨ j = 2) with rfl | rfl | rfl
    · show 5 < 6 + npN c
      omega
    · show 0 < 266
      omega
    · exact absurd hj (by decide)
  · have := key 5 rfl
    rcases (by omega : j = 0 ∨ j = 1 ∨ j = 2 ∨ j = 3 ∨ j = 4) with rfl | rfl | rfl | rfl | rfl <;> first | exact absurd hj (by decide) | exact absurd h9 (by decide)
  · have := key 2 rfl
    rcases (by omega : j = 0 ∨ j = 1) with rfl | rfl
    · exact Or.inr (Or.inr (Or.inl rfl))
    · exact Or.inr (Or.inr (Or.inr rfl))
  · have := key 10 rfl
    rcases (by omega : j = 0 ∨ j = 1 ∨ j = 2 ∨ j = 3 ∨ j = 4 ∨ j = 5 ∨ j = 6 ∨ j = 7 ∨ j = 8 ∨ j = 9) with rfl | rfl | rfl | rfl | rfl | rfl | rfl | rfl | rfl | rfl
    · show 0 < 6 + npN c; omega
    · show 1 < 6 + npN c; omega
    · show 2 < 6 + npN c; omega
    · show 3 < 6 + npN c; omega
    · show 4 < 6 + npN c; omega
    · exact Or.inr rfl
    · exact rfl
    · exact rfl
    · exact rfl
    · exact absurd hj (by decide)
theorem elK_cases (q : Nat) : elK q = 7 ∧ q = 0 ∨ elK q = 8 ∧ q = 1 ∨ elK q = 9 ∧ (q = 2 ∨ q = 3 ∨ q = 4) ∨ elK q = 10 ∧ q = 5 ∨ elK q = 5 ∧ 6 ≤ q := by
  unfold elK
  by_cases h0 : q = 0
  · rw [if_pos h0]; omega
  · rw [if_neg h0]
    by_cases h1 : q = 1
    · rw [if_pos h1]; omega
    · rw [if_neg h1]
      by_cases h2 : q < 5
      · rw [if_pos h2]; omega
      · rw [if_neg h2]
        by_cases h5 : q = 5
        · rw [if_pos h5]; omega
        · rw [if_neg h5]; omega
theorem elK_ob (q : Nat) : obK (elK q) := by
  have := elK_cases q
  unfold obK
  omega
theorem WFc.sz0 {c : MM} (h : WFc c) : szN c 0 = nhN c := by unfold nhN szN; rw [h.2.2.1.1.2.1]
theorem WFc.sz1 {c : MM} (h : WFc c) : szN c 1 = nlN c := by unfold nlN szN; rw [h.2.2.1.1.2.2.1]
theorem WFc.sz2 {c : MM} (h : WFc c) : szN c 2 = npN c := by unfold npN szN; rw [h.2.2.1.1.2.2.2]
theorem WFc.sz5 {c : MM} (h : WFc c) : szN c 5 = 266 := h.2.2.1.1.1
theorem WFc.sz6 {c : MM} (h : WFc c) {p : Nat} (hp : p < npN c) : szN c (6 + p) ≤ 1024 ∧ evN c p = szN c (6 + p) := ⟨((h.2.2.1.2 p).1 hp).1, by unfold evN szN; rw [((h.2.2.1.2 p).1 hp).2]⟩
theorem el_ok {c : MM} (hw : WFc c) {q k : Nat} (hq : ok c 3 q) (hk : k < szN c q) : ok c (elK q) (elI c q k) := by
  have hq' : q < 6 + npN c := hq
  rcases elK_cases q with ⟨e, rfl⟩ | ⟨e, rfl⟩ | ⟨e, h⟩ | ⟨e, rfl⟩ | ⟨e, h⟩
  · rw [e]; show k < nhN c; rw [← hw.sz0]; exact hk
  · rw [e]; show k < nlN c; rw [← hw.sz1]; exact hk
  · rw [e]
    rcases h with rfl | rfl | rfl
    · show k < npN c; rw [← hw.sz2]; exact hk
    · exact vp_nat (hw.qu hk)
    · exact vp_nat (hw.lf hk)
  · rw [e]; show k < 266; rw [← hw.sz5]; exact hk
  · rw [e]
    unfold elI
    rw [if_neg (by omega), if_neg (by omega), if_neg (by omega)]
    obtain ⟨s1, s2⟩ := hw.sz6 (p := q - 6) (by omega)
    rw [show 6 + (q - 6) = q by omega] at s1 s2
    have e1 : (1024 * (q - 6) + k) / 1024 = q - 6 := by omega
    have e2 : (1024 * (q - 6) + k) % 1024 = k := by omega
    show _ / 1024 < npN c ∧ _ % 1024 < evN c _
    rw [e1, e2, s2]
    exact ⟨by omega, hk⟩
theorem dec_b {b b' : BA} {c : MM} {T : Nat} (hT : T = 7 ∨ T = 8 ∨ T = 9) (hb : ∀ K i, ok c K i → b' K i = b K i) {x : Int32} (hx : RG c T x) : dec b' T x = dec b T x := by
  rcases hx with rfl | hx
  · rw [dec_m1, dec_m1]
  · rw [dec_in hx, dec_in hx, hb T _ ((ok_cnt hT).mpr (vp_nat hx))]
theorem rfT_cases (k : Nat) : rfT k = 0 ∨ rfT k = 7 ∨ rfT k = 8 := by
  unfold rfT
  split <;> omega
theorem kyR_rf : ∀ K j, kyR K j ≠ 999 → rfT (kyR K j) ≠ 0 := by
  intro K j h
  unfold kyR at h ⊢
  split at h <;> first | exact absurd rfl h | decide
theorem RC.reb {E : Nat} {h : AH} {b b' : BA} {c : MM} (hR : RC E h b c) (hw : WFc c) (hb : ∀ K i, ok c K i → b' K i = b K i) : RC E h b' c := by
  refine ⟨fun K i hk => by rw [hb K i hk]; exact hR.kind hk, fun K i i' h1 h2 e => hR.inj h1 h2 (by rw [← hb K i h1, ← hb K i' h2]; exact e), fun K i j hK hk hj h8 => by rw [hb K i hk]; exact hR.fI hK hk hj h8, fun K i j hK hk hj h3 => ?_, fun q hq => ?_, fun i hi => by rw [hb 20 i hi]; exact hR.a20 hi, fun i hi => ?_⟩
  · rw [hb K i hk, hR.fR hK hk hj h3]
    unfold cR
    by_cases e : kyR K j = 999
    · rw [if_pos e, if_pos e, hb _ _ (stR_ok hK hk hj h3 e)]
    · rw [if_neg e, if_neg e]
      have hr := kyR_rf K j e
      refine (dec_b ?_ hb (hw.rg hr i)).symm
      have := rfT_cases (kyR K j)
      omega
  · obtain ⟨l1, l2⟩ := hR.ls hq
    unfold LSo
    rw [hb 3 q hq]
    refine ⟨l1, fun z => ?_⟩
    rw [hb 31 q ⟨hq, z⟩]
    obtain ⟨m1, m2, m3⟩ := l2 z
    exact ⟨m1, m2, fun k hk => by rw [m3 k hk, hb _ _ (el_ok hw hq hk)]⟩
  · have hi30 : ok c 30 i := hi
    rw [hb 30 i hi30]
    exact ⟨(hR.a30 hi).1, fun k hk => by rw [(hR.a30 hi).2 k hk]; exact (dec_b (Or.inl rfl) hb (hw.rg (k := 111) (by decide) _)).symm⟩
/-- the list q of our state, as the JDK's contracts want it -/
def arrQ (E : Nat) (b : BA) (c : MM) (q : Nat) : Nat := if capN c q = 0 then E else b 31 q
theorem RC.lsh {E : Nat} {h : AH} {b : BA} {c : MM} (hR : RC E h b c) (hw : WFc c) {q : Nat} (hq : ok c 3 q) : LSh E h (b 3 q) (arrQ E b c q) (szN c q) (capN c q) := by
  obtain ⟨w1, w2, w3, -⟩ := hw.ls hq
  obtain ⟨l1, l2⟩ := hR.ls hq
  have hs : aI h 2 (b 3 q) = nI (szN c q) := (hR.fI (K := 3) (j := 2) (by omega) hq rfl (by decide)).trans w3
  unfold arrQ
  by_cases z : capN c q = 0
  · rw [if_pos z]
    exact ⟨hR.kind hq, hs, l1 z, w1, by omega, fun _ => rfl, fun y => by omega⟩
  · rw [if_neg z]
    obtain ⟨m1, m2, m3⟩ := l2 (by omega)
    refine ⟨hR.kind hq, hs, m1, w1, by omega, fun y => absurd y z, fun y => ⟨hR.kind (K := 31) ⟨hq, y⟩, m2, fun i a hi ha => ?_⟩⟩
    rw [m3 i hi] at ha
    rw [← Option.some.inj ha, hR.kind (el_ok hw hq hi)]
    exact elK_ob q
theorem dec_bup {b : BA} {K i a T : Nat} (h : T ≠ K) (x : Int32) : dec (bup b K i a) T x = dec b T x := by
  unfold dec
  rw [bup_n (fun z => h z.1)]
theorem stR_31 : ∀ K j i, (stR K j i).1 ≠ 31 := by
  intro K j i
  unfold stR
  split <;> simp
theorem RC.ladd {E : Nat} {h h' : AH} {b : BA} {c c' : MM} (hR : RC E h b c) {q : Nat} (hls : LSw c q) (hq : ok c 3 q) {g : Nat → Option Nat} (hL : Ladd h h' (b 3 q) (arrQ E b c q) (szN c q) (capN c q) g)
    (h171 : c' 171 q = nI (szN c q + 1)) (h172 : c' 172 q = nI (ncap (szN c q) (capN c q))) (hel : ∀ k, k < szN c q + 1 → g k = some (b (elK q) (elI c' q k))) (ho : ∀ k i, ¬ ((k = 171 ∨ k = 172) ∧ i = q) → k ≠ 36 → k ≠ 176 → c' k i = c k i) (ho2 : ∀ q' k, q' ≠ q → elI c' q' k = elI c q' k) : ∃ arr', RC E h' (bup b 31 q arr') c' := by
  obtain ⟨arr', a1, a2, a3, a4, a5, a6, a7, a8⟩ := hL
  obtain ⟨w1, w2, w3, -⟩ := hls
  have hnc : 0 < ncap (szN c q) (capN c q) ∧ ncap (szN c q) (capN c q) < 2 ^ 30 := by
    have := gcap_gt (szN c q)
    have := gcap_le (szN c q)
    unfold ncap
    split <;> omega
  have hcq : capN c' q = ncap (szN c q) (capN c q) := by
    show (c' 172 q).toNatClampNeg = _
    rw [h172, nI_clamp (by omega)]
  have hsq : szN c' q = szN c q + 1 := by
    show (c' 171 q).toNatClampNeg = _
    rw [h171, nI_clamp (by omega)]
  have hco : ∀ q', q' ≠ q → capN c' q' = capN c q' := fun q' e => by unfold capN; rw [ho 172 q' (fun z => e z.2) (by omega) (by omega)]
  have hso : ∀ q', q' ≠ q → szN c' q' = szN c q' := fun q' e => by unfold szN; rw [ho 171 q' (fun z => e z.2) (by omega) (by omega)]
  have n1 : nhN c' = nhN c := by unfold nhN; rw [ho 37 0 (by omega) (by omega) (by omega)]
  have n2 : nlN c' = nlN c := by unfold nlN; rw [ho 38 0 (by omega) (by omega) (by omega)]
  have n3 : npN c' = npN c := by unfold npN; rw [ho 39 0 (by omega) (by omega) (by omega)]
  have n4 : ∀ p, evN c' p = evN c p := fun p => by unfold evN; rw [ho 173 p (by omega) (by omega) (by omega)]
  have hok : ∀ K i, ok c' K i → ¬ (K = 31 ∧ i = q) → ok c K i := by
    intro K i hk hne
    by_cases e : K = 31
    · subst e
      have hi : i ≠ q := fun z => hne ⟨rfl, z⟩
      obtain ⟨z1, z2⟩ := hk
      rw [n3] at z1; rw [hco i hi] at z2
      exact ⟨z1, z2⟩
    · unfold ok at hk ⊢
      split at hk <;> first | (rw [n3] at hk; exact hk) | (rw [n2] at hk; exact hk) | (rw [n1] at hk; exact hk) | (rw [n3, n4] at hk; exact hk) | exact hk | exact absurd rfl e
  have hneA : ∀ K i, ok c K i → ¬ (K = 31 ∧ i = q) → b K i ≠ arr' := by
    intro K i hk hne e
    rcases a7 with ⟨z1, z2⟩ | ⟨z1, -⟩
    · have ez : arr' = b 31 q := by rw [z1]; unfold arrQ; rw [if_neg (by omega)]
      rw [ez] at e
      exact hR.ne (K := 31) (i := q) ⟨hq, by omega⟩ hk hne e
    · exact hR.free z1 hk e
  have hb' : ∀ K i, ¬ (K = 31 ∧ i = q) → bup b 31 q arr' K i = b K i := fun K i hne => bup_n hne
  have hsm : ∀ K i, ok c K i → ¬ (K = 31 ∧ i = q) → ¬ (K = 3 ∧ i = q) → ¬ (b K i = b 3 q ∨ b K i = arr') := fun K i hk z1 z2 z3 => z3.elim (hR.ne hq hk z2) (hneA K i hk z1)
  refine ⟨arr', fun K i hk => ?_, fun K i i' h1 h2 e => ?_, fun K i j hK hk hj h8 => ?_, fun K i j hK hk hj h3 => ?_, fun q' hq' => ?_, fun i hi => ?_, fun i hi => ?_⟩
  · by_cases z : K = 31 ∧ i = q
    · obtain ⟨rfl, rfl⟩ := z; rw [bup_s]; exact a4
    · rw [hb' K i z]
      by_cases z2 : K = 3 ∧ i = q
      · obtain ⟨rfl, rfl⟩ := z2; exact a3
      · rw [(a8 _ (hsm K i (hok K i hk z) z z2)).1]; exact hR.kind (hok K i hk z)
  · by_cases z : K = 31 ∧ i = q
    · by_cases z' : K = 31 ∧ i' = q
      · rw [z.2, z'.2]
      · obtain ⟨rfl, rfl⟩ := z
        rw [bup_s, hb' 31 i' z'] at e
        exact absurd e.symm (hneA 31 i' (hok _ _ h2 z') z')
    · by_cases z' : K = 31 ∧ i' = q
      · obtain ⟨rfl, rfl⟩ := z'
        rw [bup_s, hb' 31 i z] at e
        exact absurd e (hneA 31 i (hok _ _ h1 z) z)
      · rw [hb' K i z, hb' K i' z'] at e
        exact hR.inj (hok _ _ h1 z) (hok _ _ h2 z') e
  · have z : ¬ (K = 31 ∧ i = q) := fun z => by omega
    rw [hb' K i z]
    by_cases z2 : K = 3 ∧ i = q
    · obtain ⟨rfl, rfl⟩ := z2
      have hj3 : j < 3 := (List.getElem?_eq_some_iff.mp hj).1
      have h1 : j ≠ 1 := fun e => by subst e; exact absurd hj (by decide)
      have h0 : j ≠ 0 := fun e => by subst e; exact h8 rfl
      have e2 : j = 2 := by omega
      subst e2
      rw [a2]; exact h171.symm
    · rw [(a8 _ (hsm K i (hok K i hk z) z z2)).2.1, hR.fI hK (hok K i hk z) hj h8]
      unfold cI
      by_cases e9 : kyI K j = 999
      · rw [if_pos e9, if_pos e9]
      · have h5 := (kyI_inv K j e9).2.2
        unfold kHold at h5
        rw [if_neg e9, if_neg e9, ho _ _ (fun w => ?_) (by omega) (by omega)]
        have hv := (kyI_inv K j e9)
        by_cases h3 : K = 3
        · exact z2 ⟨h3, w.2⟩
        · have h6 := hv.2.1 h3
          unfold kSz at h6
          omega
  · have z : ¬ (K = 31 ∧ i = q) := fun z => by omega
    rw [hb' K i z, (a8 _ (hsm K i (hok K i hk z) z (fun w => h3 w.1))).2.2.1, hR.fR hK (hok K i hk z) hj h3]
    unfold cR
    by_cases e9 : kyR K j = 999
    · rw [if_pos e9, if_pos e9, bup_n (fun w => stR_31 K j i w.1)]
    · have h5 := (kyR_inv K j e9).2
      unfold kHold kSz at h5
      have h7 := rfT_cases (kyR K j)
      rw [if_neg e9, if_neg e9, ho _ _ (by omega) (by omega) (by omega), dec_bup (by omega)]
  · have z : ¬ (3 = 31 ∧ q' = q) := by omega
    have hq0 := hok 3 q' hq' z
    unfold LSo
    rw [hb' 3 q' z]
    by_cases e : q' = q
    · subst e
      rw [hcq, hsq, bup_s]
      refine ⟨fun w => by omega, fun _ => ⟨a1, a5, fun k hk => ?_⟩⟩
      have := elK_cases q'
      rw [a6 k hk, hel k hk, bup_n (by omega)]
    · obtain ⟨l1, l2⟩ := hR.ls hq0
      have e3 := a8 _ (hsm 3 q' hq0 z (fun w => e w.2))
      rw [hco q' e, hso q' e, bup_n (fun w => e w.2)]
      refine ⟨fun w => by rw [e3.2.2.1]; exact l1 w, fun w => ?_⟩
      obtain ⟨m1, m2, m3⟩ := l2 w
      have e4 := a8 _ (hsm 31 q' ⟨hq0, w⟩ (fun v => e v.2) (by omega))
      refine ⟨by rw [e3.2.2.1]; exact m1, by rw [e4.2.2.2]; exact m2, fun k hk => ?_⟩
      have := elK_cases q'
      rw [e4.2.2.1, m3 k hk, ho2 q' k e, bup_n (by omega)]
  · have z : ¬ (20 = 31 ∧ i = q) := by omega
    have hi0 := hok 20 i hi z
    rw [hb' 20 i z]
    have e4 := a8 _ (hsm 20 i hi0 z (by omega))
    refine ⟨by rw [e4.2.2.2]; exact (hR.a20 hi0).1, fun k hk => ?_⟩
    rw [e4.2.1, (hR.a20 hi0).2 k hk]
    unfold c20
    rw [ho 10 _ (by omega) (by omega) (by omega), ho 160 _ (by omega) (by omega) (by omega), ho 161 _ (by omega) (by omega) (by omega)]
  · have z : ¬ (30 = 31 ∧ i = q) := by omega
    have hi0 := hok 4 i hi (by omega)
    have hi1 : ok c 30 i := hi0
    rw [hb' 30 i z]
    have e4 := a8 _ (hsm 30 i hi1 z (by omega))
    refine ⟨by rw [e4.2.2.2]; exact (hR.a30 hi0).1, fun k hk => ?_⟩
    rw [e4.2.2.1, (hR.a30 hi0).2 k hk, ho 111 _ (by omega) (by omega) (by omega), dec_bup (by omega)]
/-- new things come in: N says which -/
theorem RC.intro {E : Nat} {h : AH} {b : BA} {c c' : MM} (hR : RC E h b c) (N : Nat → Nat → Prop) (hN : ∀ K i, ok c' K i → ok c K i ∨ N K i) (hI : ∀ K i j, ok c K i → cI c' K j i = cI c K j i) (hRf : ∀ K i j, ok c K i → cR b c' K j i = cR b c K j i)
    (hL : ∀ q, ok c 3 q → capN c' q = capN c q ∧ szN c' q = szN c q ∧ ∀ k, k < szN c q → elI c' q k = elI c q k) (h20 : ∀ i k, ok c 20 i → k < len20 i → c20 c' i k = c20 c i k) (h30 : ∀ i k, ok c 4 i → k < len20 i → c' 111 (40 * i + k) = c 111 (40 * i + k))
    (nK : ∀ K i, N K i → aK h (b K i) = K) (nI_ : ∀ K i j, N K i → K < 20 → (tyl K)[j]? = some false → kyI K j ≠ 998 → aI h j (b K i) = cI c' K j i) (nR : ∀ K i j, N K i → K < 20 → (tyl K)[j]? = some true → K ≠ 3 → aR h j (b K i) = cR b c' K j i)
    (nL : ∀ q, N 3 q → LSo E h b c' q) (n20 : ∀ i, N 20 i → aN h (b 20 i) = len20 i ∧ ∀ k, k < len20 i → aI h k (b 20 i) = c20 c' i k) (n30 : ∀ i, N 4 i → aN h (b 30 i) = len20 i ∧ ∀ k, k < len20 i → aR h k (b 30 i) = dec b 7 (c' 111 (40 * i + k)))
    (ninj : ∀ K i i', N K i → ok c K i' ∨ N K i' → b K i = b K i' → i = i') : RC E h b c' := by
  refine ⟨fun K i hk => ?_, fun K i i' h1 h2 e => ?_, fun K i j hK hk hj h8 => ?_, fun K i j hK hk hj h3 => ?_, fun q hq => ?_, fun i hi => ?_, fun i hi => ?_⟩
  · rcases hN K i hk with z | z
    · exact hR.kind z
    · exact nK K i z
  · rcases hN K i h1 with z | z
    · rcases hN K i' h2 with y | y
      · exact hR.inj z y e
      · exact (ninj K i' i y (Or.inl z) e.symm).symm
    · exact ninj K i i' z (hN K i' h2) e
  · rcases hN K i hk with z | z
    · rw [hI K i j z]; exact hR.fI hK z hj h8
    · exact nI_ K i j z hK hj h8
  · rcases hN K i hk with z | z
    · rw [hRf K i j z]; exact hR.fR hK z hj h3
    · exact nR K i j z hK hj h3
  · rcases hN 3 q hq with z | z
    · obtain ⟨l1, l2⟩ := hR.ls z
      obtain ⟨e1, e2, e3⟩ := hL q z
      unfold LSo
      rw [e1, e2]
      refine ⟨l1, fun y => ?_⟩
      obtain ⟨m1, m2, m3⟩ := l2 y
      exact ⟨m1, m2, fun k hk => by rw [e3 k hk]; exact m3 k hk⟩
    · exact nL q z
  · rcases hN 20 i hi with z | z
    · exact ⟨(hR.a20 z).1, fun k hk => by rw [h20 i k z hk]; exact (hR.a20 z).2 k hk⟩
    · exact n20 i z
  · rcases hN 4 i hi with z | z
    · exact ⟨(hR.a30 z).1, fun k hk => by rw [h30 i k z hk]; exact (hR.a30 z).2 k hk⟩
    · exact n30 i z
/-- the list q is empty again -/
theorem RC.lclear {E : Nat} {h h' : AH} {b : BA} {c : MM} (hR : RC E h b c) {q : Nat} (hq : ok c 3 q) (hL : aI h' 2 (b 3 q) = 0 ∧ aR h' 1 (b 3 q) = some (arrQ E b c q) ∧ aK h' (b 3 q) = 3 ∧ (0 < capN c q → aK h' (arrQ E b c q) = 31 ∧ aN h' (arrQ E b c q) = capN c q) ∧ SameX h h' (fun y => y = b 3 q ∨ 0 < capN c q ∧ y = arrQ E b c q)) : RC E h' b (up c 171 q 0) := by
  obtain ⟨a2, a1, a3, a4, a8⟩ := hL
  have ea : 0 < capN c q → arrQ E b c q = b 31 q := fun z => by unfold arrQ; rw [if_neg (by omega)]
  have hcap : ∀ q', capN (up c 171 q 0) q' = capN c q' := fun q' => by unfold capN; rw [up_k (by omega)]
  have hok : ok (up c 171 q 0) = ok c := by
    funext K i
    have n1 : nhN (up c 171 q 0) = nhN c := nhN_up (by omega)
    have n2 : nlN (up c 171 q 0) = nlN c := nlN_up (by omega)
    have n3 : npN (up c 171 q 0) = npN c := npN_up (by omega)
    have n4 : ∀ p, evN (up c 171 q 0) p = evN c p := fun p => by unfold evN; rw [up_k (by omega)]
    unfold ok
    rw [n1, n2, n3, hcap, n4]
  have hsm : ∀ K i, ok c K i → ¬ (K = 31 ∧ i = q) → ¬ (K = 3 ∧ i = q) → ¬ (b K i = b 3 q ∨ 0 < capN c q ∧ b K i = arrQ E b c q) := fun K i hk z1 z2 z3 => z3.elim (hR.ne hq hk z2) (fun z => hR.ne (K := 31) (i := q) ⟨hq, z.1⟩ hk z1 (by rw [← ea z.1]; exact z.2))
  unfold RC
  rw [hok]
  refine ⟨fun K i hk => ?_, hR.2.1, fun K i j hK hk hj h8 => ?_, fun K i j hK hk hj h3 => ?_, fun q' hq' => ?_, fun i hi => ?_, fun i hi => ?_⟩
  · by_cases z : K = 31 ∧ i = q
    · obtain ⟨rfl, rfl⟩ := z; rw [← ea hk.2]; exact (a4 hk.2).1
    · by_cases z2 : K = 3 ∧ i = q
      · obtain ⟨rfl, rfl⟩ := z2; exact a3
      · rw [(a8 _ (hsm K i hk z z2)).1]; exact hR.kind hk
  · have z : ¬ (K = 31 ∧ i = q) := fun z => by omega
    by_cases z2 : K = 3 ∧ i = q
    · obtain ⟨rfl, rfl⟩ := z2
      have hj3 : j < 3 := (List.getElem?_eq_some_iff.mp hj).1
      have h1 : j ≠ 1 := fun e => by subst e; exact absurd hj (by decide)
      have h0 : j ≠ 0 := fun e => by subst e; exact h8 rfl
      have e2 : j = 2 := by omega
      subst e2
      rw [a2]; exact (up_s c 171 i 0).symm
    · rw [(a8 _ (hsm K i hk z z2)).2.1, hR.fI hK hk hj h8]
      unfold cI
      by_cases e9 : kyI K j = 999
      · rw [if_pos e9, if_pos e9]
      · rw [if_neg e9, if_neg e9]
        by_cases e7 : kyI K j = 171
        · have hv := kyI_inv K j e9
          rw [e7] at hv
          have h3 : K = 3 := (Prod.mk.inj hv.1).1.symm
          rw [e7, up_i (fun w => z2 ⟨h3, w⟩)]
        · rw [up_k e7]
  · have z : ¬ (K = 31 ∧ i = q) := fun z => by omega
    rw [(a8 _ (hsm K i hk z (fun w => h3 w.1))).2.2.1, hR.fR hK hk hj h3]
    unfold cR
    by_cases e9 : kyR K j = 999
    · rw [if_pos e9, if_pos e9]
    · have h5 := (kyR_inv K j e9).2
      unfold kHold kSz at h5
      rw [if_neg e9, if_neg e9, up_k (by omega)]
  · have z : ¬ (3 = 31 ∧ q' = q) := by omega
    unfold LSo
    rw [hcap]
    by_cases e : q' = q
    · subst e
      refine ⟨fun w => by rw [a1]; unfold arrQ; rw [if_pos w], fun w => ⟨by rw [a1, ea w], by rw [← ea w]; exact (a4 w).2, fun k hk => ?_⟩⟩
      have e0 : szN (up c 171 q' 0) q' = 0 := by
        show (up c 171 q' 0 171 q').toNatClampNeg = 0
        rw [up_s]
        rfl
      omega
    · obtain ⟨l1, l2⟩ := hR.ls hq'
      have e3 := a8 _ (hsm 3 q' hq' z (fun w => e w.2))
      have es : szN (up c 171 q 0) q' = szN c q' := by unfold szN; rw [up_i e]
      rw [es]
      refine ⟨fun w => by rw [e3.2.2.1]; exact l1 w, fun w => ?_⟩
      obtain ⟨m1, m2, m3⟩ := l2 w
      have e4 := a8 _ (hsm 31 q' ⟨hq', w⟩ (fun v => e v.2) (by omega))
      refine ⟨by rw [e3.2.2.1]; exact m1, by rw [e4.2.2.2]; exact m2, fun k hk => ?_⟩
      rw [e4.2.2.1, m3 k hk, show elI (up c 171 q 0) q' k = elI c q' k by unfold elI; rw [up_k (by omega), up_k (by omega)]]
  · have e4 := a8 _ (hsm 20 i hi (by omega) (by omega))
    refine ⟨by rw [e4.2.2.2]; exact (hR.a20 hi).1, fun k hk => ?_⟩
    rw [e4.2.1, (hR.a20 hi).2 k hk]
    unfold c20
    rw [up_k (by omega), up_k (by omega), up_k (by omega)]
  · have hi1 : ok c 30 i := hi
    have e4 := a8 _ (hsm 30 i hi1 (by omega) (by omega))
    refine ⟨by rw [e4.2.2.2]; exact (hR.a30 hi).1, fun k hk => ?_⟩
    rw [e4.2.2.1, (hR.a30 hi).2 k hk, up_k (by omega)]

