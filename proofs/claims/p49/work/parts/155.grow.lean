/-! things come in: hubs, lines, parcels -/
theorem vp_mon2 {x : Int32} {n n' : Nat} (h : vp_in x n) (hn : n ≤ n') : vp_in x n' := by
  rw [vp_in_iff] at h ⊢
  omega
def AgF (c c' : MM) : Prop := ∀ k i, ok c (kInvI k).1 i → c' k i = c k i
theorem AgF.refl (c : MM) : AgF c c := fun _ _ _ => rfl
theorem AgF.upn {c c' : MM} (h : AgF c c') {k i : Nat} {x : Int32} (hn : ¬ ok c (kInvI k).1 i) : AgF c (up c' k i x) := fun k' i' hk => by
  unfold up
  rw [if_neg (fun z => by rw [z.1, z.2] at hk; exact hn hk)]
  exact h k' i' hk
theorem ok0 {c : MM} {i : Nat} : ¬ ok c 0 i := fun h => h
theorem RC.intro2 {E : Nat} {h : AH} {b : BA} {c c' : MM} (hR : RC E h b c) (N : Nat → Nat → Prop) (hN : ∀ K i, ok c' K i → ok c K i ∨ N K i) (hA : AgF c c') (h172 : ∀ q, ok c 3 q → c' 172 q = c 172 q) (h36 : c' 36 = c 36) (h176 : c' 176 = c 176)
    (h20 : ∀ i k, ok c 20 i → k < len20 i → c20 c' i k = c20 c i k) (h30 : ∀ i k, ok c 4 i → k < len20 i → c' 111 (40 * i + k) = c 111 (40 * i + k))
    (nK : ∀ K i, N K i → aK h (b K i) = K) (nI_ : ∀ K i j, N K i → K < 20 → (tyl K)[j]? = some false → kyI K j ≠ 998 → aI h j (b K i) = cI c' K j i) (nR : ∀ K i j, N K i → K < 20 → (tyl K)[j]? = some true → K ≠ 3 → aR h j (b K i) = cR b c' K j i)
    (nL : ∀ q, N 3 q → LSo E h b c' q) (n20 : ∀ i, N 20 i → aN h (b 20 i) = len20 i ∧ ∀ k, k < len20 i → aI h k (b 20 i) = c20 c' i k) (n30 : ∀ i, N 4 i → aN h (b 30 i) = len20 i ∧ ∀ k, k < len20 i → aR h k (b 30 i) = dec b 7 (c' 111 (40 * i + k)))
    (ninj : ∀ K i i', N K i → ok c K i' ∨ N K i' → b K i = b K i' → i = i') : RC E h b c' := by
  refine hR.intro N hN (fun K i j hk => ?_) (fun K i j hk => ?_) (fun q hq => ⟨?_, ?_, fun k _ => ?_⟩) h20 h30 nK nI_ nR nL n20 n30 ninj
  · unfold cI
    by_cases e9 : kyI K j = 999
    · rw [if_pos e9, if_pos e9]
    · rw [if_neg e9, if_neg e9, hA _ _ (by rw [(kyI_inv K j e9).1]; exact hk)]
  · unfold cR
    by_cases e9 : kyR K j = 999
    · rw [if_pos e9, if_pos e9]
    · rw [if_neg e9, if_neg e9, hA _ _ (by rw [(kyR_inv K j e9).1]; exact hk)]
  · unfold capN; rw [h172 q hq]
  · unfold szN; rw [hA 171 q hq]
  · unfold elI; rw [h36, h176]
/-- the list q with one more -/
def cLs (V : MM) (q : Nat) : MM := up (up V 171 q (nI (szN V q + 1))) 172 q (nI (ncap (szN V q) (capN V q)))
theorem cLs_k {V : MM} {q k : Nat} (h : k ≠ 171) (h2 : k ≠ 172) : cLs V q k = V k := by unfold cLs; rw [up_key h2, up_key h]
theorem cLs_171 {V : MM} {q j : Nat} : cLs V q 171 j = if j = q then nI (szN V q + 1) else V 171 j := by
  unfold cLs
  rw [up_k (by omega)]
  by_cases z : j = q
  · rw [if_pos z, z, up_s]
  · rw [if_neg z, up_i z]
theorem cLs_172 {V : MM} {q j : Nat} : cLs V q 172 j = if j = q then nI (ncap (szN V q) (capN V q)) else V 172 j := by
  unfold cLs
  by_cases z : j = q
  · rw [if_pos z, z, up_s]
  · rw [if_neg z, up_i z, up_k (by omega)]
theorem cLs_sz {V : MM} {q : Nat} (hn : szN V q < 1000) (j : Nat) : szN (cLs V q) j = if j = q then szN V q + 1 else szN V j := by
  show (cLs V q 171 j).toNatClampNeg = _
  rw [cLs_171]
  by_cases z : j = q
  · rw [if_pos z, if_pos z, nI_clamp (by omega)]
  · rw [if_neg z, if_neg z]; rfl
theorem cLs_cap {V : MM} {q : Nat} (hn : szN V q < 1000) (hc : capN V q < 1600) (j : Nat) : capN (cLs V q) j = if j = q then ncap (szN V q) (capN V q) else capN V j := by
  have := ncap_lt (show szN V q < 1024 by omega) hc
  show (cLs V q 172 j).toNatClampNeg = _
  rw [cLs_172]
  by_cases z : j = q
  · rw [if_pos z, if_pos z, nI_clamp (by omega)]
  · rw [if_neg z, if_neg z]; rfl
theorem RC.addN {E : Nat} {h h' : AH} {B : BA} {V : MM} (hR : RC E h B V) {q a : Nat} (hq3 : q < 3) (hls : LSw V q) (hB : B (elK q) (szN V q) = a)
    (hL : Ladd h h' (B 3 q) (arrQ E B V q) (szN V q) (capN V q) (insG h (arrQ E B V q) a (szN V q))) : ∃ b', (∀ K i, K ≠ 31 → b' K i = B K i) ∧ RC E h' b' (cLs V q) := by
  have hok : ok V 3 q := show q < 6 + npN V by omega
  have hel : ∀ c k, elI c q k = k := fun c k => by unfold elI; rw [if_neg (by omega), if_neg (by omega), if_pos (by omega)]
  have g1 : ∀ k, k < szN V q + 1 → insG h (arrQ E B V q) a (szN V q) k = some (B (elK q) (elI (cLs V q) q k)) := by
    intro k hk
    rw [hel]
    unfold insG
    by_cases z : k < szN V q
    · rw [if_pos z]
      have := hls.1
      have h3 := ((hR.ls hok).2 (by omega)).2.2 k z
      rw [hel] at h3
      unfold arrQ
      rw [if_neg (by omega)]
      exact h3
    · have e : k = szN V q := by omega
      rw [if_neg z, if_pos e, e, hB]
  obtain ⟨arr', hA⟩ := hR.ladd (c' := cLs V q) hls hok hL (by rw [cLs_171, if_pos rfl]) (by rw [cLs_172, if_pos rfl]) g1 (fun k i z _ _ => by
    by_cases h1 : k = 171
    · subst h1; rw [cLs_171, if_neg (fun w => z ⟨Or.inl rfl, w⟩)]
    · by_cases h2 : k = 172
      · subst h2; rw [cLs_172, if_neg (fun w => z ⟨Or.inr rfl, w⟩)]
      · rw [cLs_k h1 h2]) (fun q' k _ => by unfold elI; rw [cLs_k (k := 36) (by omega) (by omega), cLs_k (k := 176) (by omega) (by omega)])
  exact ⟨_, fun K i h31 => bup_n (fun z => h31 z.1), hA⟩
theorem WFc.grow {c c' : MM} (hw : WFc c) (n1 : nhN c ≤ nhN c') (n2 : nlN c ≤ nlN c') (n3 : npN c ≤ npN c') (hm : nhN c' ≤ 6 ∧ nlN c' ≤ 12 ∧ npN c' ≤ 40) (hls : ∀ q, q < 6 + npN c' → LSw c' q)
    (h3 : (szN c' 5 = 266 ∧ c' 37 0 = c' 171 0 ∧ c' 38 0 = c' 171 1 ∧ c' 39 0 = c' 171 2) ∧ ∀ p, (p < npN c' → szN c' (6 + p) ≤ 1024 ∧ c' 173 p = c' 171 (6 + p)) ∧ (npN c' ≤ p → c' 171 (6 + p) = 0 ∧ c' 172 (6 + p) = 0 ∧ c' 173 p = 0))
    (hrf : ∀ k, rfT k ≠ 0 → ∀ i, c' k i = c k i ∨ RG c' (rfT k) (c' k i)) (hln : ∀ l, l < nlN c' → (l < nlN c ∧ c' 2 l = c 2 l ∧ c' 3 l = c 3 l) ∨ (vp_in (c' 2 l) (nhN c') ∧ vp_in (c' 3 l) (nhN c')))
    (hpa : ∀ p, p < npN c' → (p < npN c ∧ c' 13 p = c 13 p ∧ c' 14 p = c 14 p ∧ c' 15 p = c 15 p) ∨ (vp_in (c' 13 p) (nhN c') ∧ vp_in (c' 14 p) (nhN c') ∧ vp_in (c' 15 p) (nhN c')))
    (hev : ∀ e, ok c' 5 e → ok c 5 e ∧ c' 122 e = c 122 e) (h36 : szN c' 3 = szN c 3 ∧ c' 36 = c 36) (h176 : szN c' 4 = szN c 4 ∧ c' 176 = c 176) : WFc c' := by
  have hc : ∀ T, cnt c T ≤ cnt c' T := fun T => by unfold cnt; split <;> assumption
  refine ⟨hm, fun q hq => hls q hq, h3, fun k hk i => ?_, fun l hl => ?_, fun p hp => ?_, fun e he => ?_, fun k hk => ?_, fun k hk => ?_⟩
  · rcases hrf k hk i with e | e
    · rw [e]
      rcases hw.rg hk i with z | z
      · exact Or.inl z
      · exact Or.inr (vp_mon2 z (hc _))
    · exact e
  · rcases hln l hl with ⟨e1, e2, e3⟩ | e
    · rw [e2, e3]; exact ⟨vp_mon2 (hw.ln e1).1 n1, vp_mon2 (hw.ln e1).2 n1⟩
    · exact e
  · rcases hpa p hp with ⟨e1, e2, e3, e4⟩ | e
    · rw [e2, e3, e4]; exact ⟨vp_mon2 (hw.pa e1).1 n1, vp_mon2 (hw.pa e1).2.1 n1, vp_mon2 (hw.pa e1).2.2 n1⟩
    · exact e
  · obtain ⟨e1, e2⟩ := hev e he
    rw [e2]; exact vp_mon2 (hw.evh e1) n1
  · rw [h36.2]; rw [h36.1] at hk; exact vp_mon2 (hw.qu hk) n3
  · rw [h176.2]; rw [h176.1] at hk; exact vp_mon2 (hw.lf hk) n3
/-! a hub -/
def cHb1 (u : MM) (cd co : Int32) : MM := up (up (up u 37 0 (nI (nhN u + 1))) 0 (nhN u) cd) 1 (nhN u) co
def cHb (u : MM) (cd co : Int32) : MM := cLs (cHb1 u cd co) 0
theorem cHb1_k {u : MM} {cd co : Int32} {k : Nat} (h : k ≠ 37) (h2 : k ≠ 0) (h3 : k ≠ 1) : cHb1 u cd co k = u k := by unfold cHb1; rw [up_key h3, up_key h2, up_key h]
theorem cHb1_n {u : MM} {cd co : Int32} (hn : nhN u < 6) : nhN (cHb1 u cd co) = nhN u + 1 ∧ nlN (cHb1 u cd co) = nlN u ∧ npN (cHb1 u cd co) = npN u := by
  refine ⟨?_, nlN_ext (cHb1_k (by omega) (by omega) (by omega)), npN_ext (cHb1_k (by omega) (by omega) (by omega))⟩
  show (cHb1 u cd co 37 0).toNatClampNeg = _
  unfold cHb1
  rw [up_k (by omega), up_k (by omega), up_s, nI_clamp (by omega)]
theorem RC.newHub {E : Nat} {h : AH} {b : BA} {u : MM} (hR : RC E h b u) (hw : WFc u) {a : Nat} {cd co : Int32} (hn : nhN u < 6) (ha : aK h a = 7) (hne : ∀ K i, ok u K i → b K i ≠ a) (h0 : aI h 0 a = nI (nhN u)) (h1 : aI h 1 a = cd) (h2 : aI h 2 a = co) : RC E h (bup b 7 (nhN u) a) (cHb1 u cd co) := by
  have hnot : ¬ ok u 7 (nhN u) := Nat.lt_irrefl _
  have hbb : ∀ K i, ok u K i → bup b 7 (nhN u) a K i = b K i := fun K i hk => bup_n (fun z => by obtain ⟨rfl, rfl⟩ := z; exact hnot hk)
  have hR1 := hR.reb hw hbb
  obtain ⟨n1, n2, n3⟩ := cHb1_n (u := u) (cd := cd) (co := co) hn
  have n4 : ∀ q, capN (cHb1 u cd co) q = capN u q := fun q => by unfold capN; rw [cHb1_k (by omega) (by omega) (by omega)]
  have n5 : ∀ p, evN (cHb1 u cd co) p = evN u p := fun p => by unfold evN; rw [cHb1_k (by omega) (by omega) (by omega)]
  refine hR1.intro2 (fun K i => K = 7 ∧ i = nhN u) (fun K i hk => ?_) (show AgF u (cHb1 u cd co) from (((AgF.refl u).upn (k := 37) ok0).upn (k := 0) hnot).upn (k := 1) hnot) (fun q _ => by rw [cHb1_k (by omega) (by omega) (by omega)]) (cHb1_k (by omega) (by omega) (by omega)) (cHb1_k (by omega) (by omega) (by omega))
    (fun i k _ _ => by unfold c20; rw [cHb1_k (k := 10) (by omega) (by omega) (by omega), cHb1_k (k := 160) (by omega) (by omega) (by omega), cHb1_k (k := 161) (by omega) (by omega) (by omega)]) (fun i k _ _ => by rw [cHb1_k (by omega) (by omega) (by omega)]) ?_ ?_ ?_ ?_ ?_ ?_ ?_
  · by_cases z : K = 7
    · subst z
      have z2 : i < nhN (cHb1 u cd co) := hk
      rw [n1] at z2
      by_cases y : i < nhN u
      · exact Or.inl y
      · exact Or.inr ⟨rfl, by omega⟩
    · refine Or.inl ?_
      unfold ok at hk ⊢
      split at hk <;> first | (rw [n3] at hk; exact hk) | (rw [n2] at hk; exact hk) | exact absurd rfl z | (rw [n3, n4] at hk; exact hk) | (rw [n3, n5] at hk; exact hk) | exact hk
  · intro K i z
    obtain ⟨rfl, rfl⟩ := z
    rw [bup_s]; exact ha
  · intro K i j z hK hj h8
    obtain ⟨rfl, rfl⟩ := z
    rw [bup_s]
    have hj3 : j < 3 := (List.getElem?_eq_some_iff.mp hj).1
    rcases (by omega : j = 0 ∨ j = 1 ∨ j = 2) with rfl | rfl | rfl
    · exact h0
    · rw [h1]; show cd = cHb1 u cd co 0 _; unfold cHb1; rw [up_k (by omega), up_s]
    · rw [h2]; show co = cHb1 u cd co 1 _; unfold cHb1; rw [up_s]
  · intro K i j z hK hj h3
    obtain ⟨rfl, rfl⟩ := z
    have hj3 : j < 3 := (List.getElem?_eq_some_iff.mp hj).1
    rcases (by omega : j = 0 ∨ j = 1 ∨ j = 2) with rfl | rfl | rfl <;> exact absurd hj (by decide)
  · intro q z; omega
  · intro i z; omega
  · intro i z; omega
  · intro K i i' z y e
    obtain ⟨rfl, rfl⟩ := z
    rcases y with y | y
    · rw [bup_s, hbb 7 i' y] at e
      exact absurd e.symm (hne 7 i' y)
    · exact y.2.symm
theorem LSw.ls {V : MM} {q : Nat} (h : LSw V q) (hn : szN V q < 1000) : LSw (cLs V q) q := by
  have r := ncap_lt (show szN V q < 1024 by omega) h.2.1
  have r2 := ncap_room h.1
  have r3 := gcap_gt (szN V q)
  show _ ∧ _ ∧ _ ∧ _
  rw [cLs_sz hn, cLs_cap hn h.2.1, cLs_171, cLs_172, if_pos rfl, if_pos rfl, if_pos rfl, if_pos rfl]
  exact ⟨by unfold ncap; split <;> omega, r, rfl, rfl⟩
theorem LSw.ls' {V : MM} {q j : Nat} (h : LSw V j) (h2 : LSw V q) (hn : szN V q < 1000) (hj : j ≠ q) : LSw (cLs V q) j := by
  show _ ∧ _ ∧ _ ∧ _
  rw [cLs_sz hn, cLs_cap hn h2.2.1, cLs_171, cLs_172, if_neg hj, if_neg hj, if_neg hj, if_neg hj]
  exact h
theorem LSw.of {V u : MM} {q : Nat} (h : LSw u q) (e1 : V 171 q = u 171 q) (e2 : V 172 q = u 172 q) : LSw V q := by
  unfold LSw szN capN at h ⊢
  rw [e1, e2]; exact h
theorem WFc.addH {u : MM} (hw : WFc u) {cd co : Int32} (hn : nhN u < 6) : WFc (cHb u cd co) := by
  have hnp := hw.np
  obtain ⟨n1, n2, n3⟩ := cHb1_n (u := u) (cd := cd) (co := co) hn
  have k0 : ∀ k, k ≠ 37 → k ≠ 0 → k ≠ 1 → cHb1 u cd co k = u k := fun k => cHb1_k
  have s0 : ∀ q, szN (cHb1 u cd co) q = szN u q := fun q => by unfold szN; rw [k0 171 (by omega) (by omega) (by omega)]
  have hs0 : szN (cHb1 u cd co) 0 < 1000 := by rw [s0, hw.sz0]; omega
  have m1 : nhN (cHb u cd co) = nhN u + 1 := by unfold cHb; rw [nhN_ext (cLs_k (by omega) (by omega)), n1]
  have m2 : nlN (cHb u cd co) = nlN u := by unfold cHb; rw [nlN_ext (cLs_k (by omega) (by omega)), n2]
  have m3 : npN (cHb u cd co) = npN u := by unfold cHb; rw [npN_ext (cLs_k (by omega) (by omega)), n3]
  have kk : ∀ k, k ≠ 37 → k ≠ 0 → k ≠ 1 → k ≠ 171 → k ≠ 172 → cHb u cd co k = u k := fun k a1 a2 a3 a4 a5 => by unfold cHb; rw [cLs_k a4 a5, k0 k a1 a2 a3]
  have hl : ∀ q, q < 6 + npN u → LSw (cHb1 u cd co) q := fun q hq => (hw.ls (show ok u 3 q from hq)).of (by rw [k0 171 (by omega) (by omega) (by omega)]) (by rw [k0 172 (by omega) (by omega) (by omega)])
  have hsz : ∀ q, q ≠ 0 → szN (cHb u cd co) q = szN u q := fun q h => by unfold cHb; rw [cLs_sz hs0, if_neg h, s0]
  have h171 : ∀ q, q ≠ 0 → cHb u cd co 171 q = u 171 q := fun q h => by unfold cHb; rw [cLs_171, if_neg h, k0 171 (by omega) (by omega) (by omega)]
  have h172 : ∀ q, q ≠ 0 → cHb u cd co 172 q = u 172 q := fun q h => by unfold cHb; rw [cLs_172, if_neg h, k0 172 (by omega) (by omega) (by omega)]
  refine hw.grow (by omega) (by omega) (by omega) ⟨by omega, by rw [m2]; exact hw.nl, by omega⟩ (fun q hq => ?_) ⟨⟨by rw [hsz 5 (by omega)]; exact hw.sz5, ?_, by rw [kk 38 (by omega) (by omega) (by omega) (by omega) (by omega), h171 1 (by omega)]; exact hw.2.2.1.1.2.2.1, by rw [kk 39 (by omega) (by omega) (by omega) (by omega) (by omega), h171 2 (by omega)]; exact hw.2.2.1.1.2.2.2⟩, fun p => ?_⟩ (fun k hk i => Or.inl ?_) (fun l hl => Or.inl ⟨by omega, by rw [kk 2 (by omega) (by omega) (by omega) (by omega) (by omega)], by rw [kk 3 (by omega) (by omega) (by omega) (by omega) (by omega)]⟩)
    (fun p hp => Or.inl ⟨by omega, by rw [kk 13 (by omega) (by omega) (by omega) (by omega) (by omega)], by rw [kk 14 (by omega) (by omega) (by omega) (by omega) (by omega)], by rw [kk 15 (by omega) (by omega) (by omega) (by omega) (by omega)]⟩) (fun e he => ⟨?_, by rw [kk 122 (by omega) (by omega) (by omega) (by omega) (by omega)]⟩) ⟨hsz 3 (by omega), kk 36 (by omega) (by omega) (by omega) (by omega) (by omega)⟩ ⟨hsz 4 (by omega), kk 176 (by omega) (by omega) (by omega) (by omega) (by omega)⟩
  · rw [m3] at hq
    unfold cHb
    by_cases z : q = 0
    · subst z; exact (hl 0 hq).ls hs0
    · exact (hl q hq).ls' (hl 0 (by omega)) hs0 z
  · unfold cHb
    rw [cLs_k (by omega) (by omega), cLs_171, if_pos rfl, s0, hw.sz0]
    unfold cHb1
    rw [up_k (by omega), up_k (by omega), up_s]
  · rw [m3, hsz (6 + p) (by omega), kk 173 (by omega) (by omega) (by omega) (by omega) (by omega), h171 (6 + p) (by omega), h172 (6 + p) (by omega)]
    exact hw.2.2.1.2 p
  · have a1 : k ≠ 37 ∧ k ≠ 0 ∧ k ≠ 1 ∧ k ≠ 171 ∧ k ≠ 172 := by refine ⟨?_, ?_, ?_, ?_, ?_⟩ <;> (intro e; subst e; exact hk rfl)
    rw [kk k a1.1 a1.2.1 a1.2.2.1 a1.2.2.2.1 a1.2.2.2.2]
  · have he2 : e / 1024 < npN (cHb u cd co) ∧ e % 1024 < evN (cHb u cd co) (e / 1024) := he
    rw [m3, show evN (cHb u cd co) = evN u by funext p; unfold evN; rw [kk 173 (by omega) (by omega) (by omega) (by omega) (by omega)]] at he2
    exact he2

