/-! a line -/
def cLnB (u : MM) : MM := fun k i => if k = 10 ∧ i / 40 = nlN u then 0 else if k = 111 ∧ i / 40 = nlN u then -1 else u k i
def cLn1 (u : MM) (x y : Nat) (f per tr mb : Int32) : MM := up (up (up (up (up (up (up (up (up (cLnB u) 38 0 (nI (nlN u + 1))) 2 (nlN u) (nI x)) 3 (nlN u) (nI y)) 4 (nlN u) f) 5 (nlN u) per) 6 (nlN u) tr) 7 (nlN u) mb) 108 (nlN u) 1) 8 (nlN u) 0
def cLn (u : MM) (x y : Nat) (f per tr mb : Int32) : MM := cLs (cLn1 u x y f per tr mb) 1
def lnk (k : Nat) : Bool := !(k == 38 || k == 2 || k == 3 || k == 4 || k == 5 || k == 6 || k == 7 || k == 108 || k == 8 || k == 10 || k == 111)
theorem cLn1_k {u : MM} {x y : Nat} {f per tr mb : Int32} {k : Nat} (h : lnk k = true) : cLn1 u x y f per tr mb k = u k := by
  have e : k ≠ 38 ∧ k ≠ 2 ∧ k ≠ 3 ∧ k ≠ 4 ∧ k ≠ 5 ∧ k ≠ 6 ∧ k ≠ 7 ∧ k ≠ 108 ∧ k ≠ 8 ∧ k ≠ 10 ∧ k ≠ 111 := by
    refine ⟨?_, ?_, ?_, ?_, ?_, ?_, ?_, ?_, ?_, ?_, ?_⟩ <;> (intro e; subst e; exact absurd h (by decide))
  obtain ⟨e1, e2, e3, e4, e5, e6, e7, e8, e9, e10, e11⟩ := e
  unfold cLn1
  rw [up_key e9, up_key e8, up_key e7, up_key e6, up_key e5, up_key e4, up_key e3, up_key e2, up_key e1]
  funext i
  unfold cLnB
  rw [if_neg (fun z => e10 z.1), if_neg (fun z => e11 z.1)]
theorem cLn1_n {u : MM} {x y : Nat} {f per tr mb : Int32} (hn : nlN u < 12) : nhN (cLn1 u x y f per tr mb) = nhN u ∧ nlN (cLn1 u x y f per tr mb) = nlN u + 1 ∧ npN (cLn1 u x y f per tr mb) = npN u := by
  refine ⟨nhN_ext (cLn1_k rfl), ?_, npN_ext (cLn1_k rfl)⟩
  show (cLn1 u x y f per tr mb 38 0).toNatClampNeg = _
  rw [show cLn1 u x y f per tr mb 38 0 = nI (nlN u + 1) by simp [cLn1, up], nI_clamp (by omega)]
theorem RC.newLine {E : Nat} {h : AH} {b : BA} {u : MM} (hR : RC E h b u) (hw : WFc u) {a g q1 q2 x y : Nat} {f per tr mb : Int32} (hn : nlN u < 12) (hx : x < nhN u) (hy : y < nhN u)
    (ha : aK h a = 8) (hg : aK h g = 4) (hq1 : aK h q1 = 30) (hq2 : aK h q2 = 20) (na : ∀ K i, ok u K i → b K i ≠ a) (ng : ∀ K i, ok u K i → b K i ≠ g) (nq1 : ∀ K i, ok u K i → b K i ≠ q1) (nq2 : ∀ K i, ok u K i → b K i ≠ q2)
    (i0 : aI h 0 a = nI (nlN u)) (i3 : aI h 3 a = mb) (i5 : aI h 5 a = f) (i6 : aI h 6 a = per) (i7 : aI h 7 a = tr) (i8 : aI h 8 a = 1) (r1 : aR h 1 a = some (b 7 x)) (r2 : aR h 2 a = some (b 7 y)) (r4 : aR h 4 a = some g)
    (g0 : aR h 0 g = some q1) (g1 : aR h 1 g = some q2) (g2 : aI h 2 g = 0) (l1 : aN h q1 = 40) (l2 : aN h q2 = 40) (z1 : ∀ k, aR h k q1 = none) (z2 : ∀ k, aI h k q2 = 0) :
    RC E h (bup (bup (bup (bup b 8 (nlN u) a) 4 (nlN u) g) 30 (nlN u) q1) 20 (nlN u) q2) (cLn1 u x y f per tr mb) := by
  obtain ⟨B, hB⟩ : ∃ z, z = bup (bup (bup (bup b 8 (nlN u) a) 4 (nlN u) g) 30 (nlN u) q1) 20 (nlN u) q2 := ⟨_, rfl⟩
  rw [← hB]
  have no8 : ¬ ok u 8 (nlN u) := Nat.lt_irrefl _
  have no4 : ¬ ok u 4 (nlN u) := fun z => by rcases z with z | z <;> omega
  have no30 : ¬ ok u 30 (nlN u) := fun z => by rcases z with z | z <;> omega
  have no20 : ¬ ok u 20 (nlN u) := fun z => by rcases z with z | z | z | z <;> omega
  have B8 : B 8 (nlN u) = a := by rw [hB, bup_n (by omega), bup_n (by omega), bup_n (by omega), bup_s]
  have B4 : B 4 (nlN u) = g := by rw [hB, bup_n (by omega), bup_n (by omega), bup_s]
  have B30 : B 30 (nlN u) = q1 := by rw [hB, bup_n (by omega), bup_s]
  have B20 : B 20 (nlN u) = q2 := by rw [hB, bup_s]
  have hbb : ∀ K i, ok u K i → B K i = b K i := fun K i hk => by
    rw [hB, bup_n (fun z => by obtain ⟨rfl, rfl⟩ := z; exact no20 hk), bup_n (fun z => by obtain ⟨rfl, rfl⟩ := z; exact no30 hk), bup_n (fun z => by obtain ⟨rfl, rfl⟩ := z; exact no4 hk), bup_n (fun z => by obtain ⟨rfl, rfl⟩ := z; exact no8 hk)]
  have hR1 := hR.reb hw hbb
  obtain ⟨n1, n2, n3⟩ := cLn1_n (u := u) (x := x) (y := y) (f := f) (per := per) (tr := tr) (mb := mb) hn
  obtain ⟨V, hV⟩ : ∃ z, z = cLn1 u x y f per tr mb := ⟨_, rfl⟩
  have hnh := hw.nh
  have kk : ∀ k, lnk k = true → V k = u k := fun k h => by rw [hV]; exact cLn1_k h
  have hAg : AgF u V := by
    rw [hV]; unfold cLn1
    refine ((((((((((?_ : AgF u (cLnB u)).upn (k := 38) ok0).upn (k := 2) no8).upn (k := 3) no8).upn (k := 4) no8).upn (k := 5) no8).upn (k := 6) no8).upn (k := 7) no8).upn (k := 108) no8).upn (k := 8) no4)
    intro k i hk
    unfold cLnB
    rw [if_neg (fun z => by rw [z.1] at hk; exact ok0 hk), if_neg (fun z => by rw [z.1] at hk; exact ok0 hk)]
  have e10 : ∀ i, V 10 i = if i / 40 = nlN u then 0 else u 10 i := fun i => by rw [hV]; simp [cLn1, up, cLnB]
  have e111 : ∀ i, V 111 i = if i / 40 = nlN u then -1 else u 111 i := fun i => by rw [hV]; simp [cLn1, up, cLnB]
  rw [← hV] at n1 n2 n3 ⊢
  have n4 : ∀ q, capN V q = capN u q := fun q => by unfold capN; rw [kk 172 rfl]
  have n5 : ∀ p, evN V p = evN u p := fun p => by unfold evN; rw [kk 173 rfl]
  have hlen : ∀ i k, i ≠ nlN u → i ≤ 12 → k < len20 i → ¬ (40 * i + k) / 40 = nlN u := by
    intro i k h1 h2 h3 h4
    unfold len20 at h3
    rw [if_pos (by omega)] at h3
    omega
  have hl4 : len20 (nlN u) = 40 := if_pos (by omega)
  refine hR1.intro2 (fun K i => i = nlN u ∧ (K = 8 ∨ K = 4 ∨ K = 30 ∨ K = 20)) (fun K i hk => ?_) hAg (fun q _ => by rw [kk 172 rfl]) (kk 36 rfl) (kk 176 rfl) (fun i k hi hk => ?_) (fun i k hi hk => ?_) ?_ ?_ ?_ ?_ ?_ ?_ ?_
  · by_cases z : i = nlN u ∧ (K = 8 ∨ K = 4 ∨ K = 30 ∨ K = 20)
    · exact Or.inr z
    · refine Or.inl ?_
      unfold ok at hk ⊢
      split at hk <;> first | (rw [n2] at hk; omega) | (rw [n3] at hk; exact hk) | (rw [n1] at hk; exact hk) | (rw [n3, n4] at hk; exact hk) | (rw [n3, n5] at hk; exact hk) | exact hk
  · have hi' : i ≠ nlN u := fun z => by rw [z] at hi; exact no20 hi
    unfold c20
    rw [e10, kk 160 rfl, kk 161 rfl]
    by_cases z : i < 13
    · rw [if_pos z, if_pos z, if_neg (hlen i k hi' (by omega) hk)]
    · rw [if_neg z, if_neg z]
  · have hi' : i ≠ nlN u := fun z => by rw [z] at hi; exact no4 hi
    have hi2 : i < nlN u ∨ i = 12 := hi
    rw [e111, if_neg (hlen i k hi' (by omega) hk)]
  · intro K i z
    obtain ⟨rfl, rfl | rfl | rfl | rfl⟩ := z
    · rw [B8]; exact ha
    · rw [B4]; exact hg
    · rw [B30]; exact hq1
    · rw [B20]; exact hq2
  · intro K i j z hK hj h8
    obtain ⟨rfl, rfl | rfl | rfl | rfl⟩ := z
    · rw [B8]
      have hj3 : j < 9 := (List.getElem?_eq_some_iff.mp hj).1
      rcases (by omega : j = 0 ∨ j = 1 ∨ j = 2 ∨ j = 3 ∨ j = 4 ∨ j = 5 ∨ j = 6 ∨ j = 7 ∨ j = 8) with rfl | rfl | rfl | rfl | rfl | rfl | rfl | rfl | rfl
      · exact i0
      · exact absurd hj (by decide)
      · exact absurd hj (by decide)
      · rw [i3]; show mb = V 7 _; rw [hV]; simp [cLn1, up]
      · exact absurd hj (by decide)
      · rw [i5]; show f = V 4 _; rw [hV]; simp [cLn1, up]
      · rw [i6]; show per = V 5 _; rw [hV]; simp [cLn1, up]
      · rw [i7]; show tr = V 6 _; rw [hV]; simp [cLn1, up]
      · rw [i8]; show 1 = V 108 _; rw [hV]; simp [cLn1, up]
    · rw [B4]
      have hj3 : j < 3 := (List.getElem?_eq_some_iff.mp hj).1
      rcases (by omega : j = 0 ∨ j = 1 ∨ j = 2) with rfl | rfl | rfl
      · exact absurd hj (by decide)
      · exact absurd hj (by decide)
      · rw [g2]; show 0 = V 8 _; rw [hV]; simp [cLn1, up]
    · omega
    · omega
  · intro K i j z hK hj h3
    obtain ⟨rfl, rfl | rfl | rfl | rfl⟩ := z
    · rw [B8]
      have hj3 : j < 9 := (List.getElem?_eq_some_iff.mp hj).1
      rcases (by omega : j = 0 ∨ j = 1 ∨ j = 2 ∨ j = 3 ∨ j = 4 ∨ j = 5 ∨ j = 6 ∨ j = 7 ∨ j = 8) with rfl | rfl | rfl | rfl | rfl | rfl | rfl | rfl | rfl
      · exact absurd hj (by decide)
      · rw [r1]; show some (b 7 x) = dec B 7 (V 2 _)
        rw [show V 2 (nlN u) = nI x by rw [hV]; simp [cLn1, up], dec_nI (by omega), hbb 7 x hx]
      · rw [r2]; show some (b 7 y) = dec B 7 (V 3 _)
        rw [show V 3 (nlN u) = nI y by rw [hV]; simp [cLn1, up], dec_nI (by omega), hbb 7 y hy]
      · exact absurd hj (by decide)
      · rw [r4]; show some g = some (B 4 (nlN u)); rw [B4]
      · exact absurd hj (by decide)
      · exact absurd hj (by decide)
      · exact absurd hj (by decide)
      · exact absurd hj (by decide)
    · rw [B4]
      have hj3 : j < 3 := (List.getElem?_eq_some_iff.mp hj).1
      rcases (by omega : j = 0 ∨ j = 1 ∨ j = 2) with rfl | rfl | rfl
      · rw [g0]; show some q1 = some (B 30 (nlN u)); rw [B30]
      · rw [g1]; show some q2 = some (B 20 (nlN u)); rw [B20]
      · exact absurd hj (by decide)
    · omega
    · omega
  · intro q z; omega
  · intro i z
    obtain ⟨rfl, -⟩ := z
    rw [B20, hl4]
    refine ⟨l2, fun k hk => ?_⟩
    rw [z2]
    unfold c20
    rw [if_pos (by omega), e10, if_pos (by omega)]
  · intro i z
    obtain ⟨rfl, -⟩ := z
    rw [B30, hl4]
    refine ⟨l1, fun k hk => ?_⟩
    rw [z1, e111, if_pos (by omega), dec_m1]
  · intro K i i' z w e
    obtain ⟨rfl, z⟩ := z
    rcases w with w | w
    · rw [hbb K i' w] at e
      rcases z with rfl | rfl | rfl | rfl
      · rw [B8] at e; exact absurd e.symm (na _ i' w)
      · rw [B4] at e; exact absurd e.symm (ng _ i' w)
      · rw [B30] at e; exact absurd e.symm (nq1 _ i' w)
      · rw [B20] at e; exact absurd e.symm (nq2 _ i' w)
    · exact w.1.symm
theorem WFc.addLn {u : MM} (hw : WFc u) {x y : Nat} {f per tr mb : Int32} (hn : nlN u < 12) (hx : x < nhN u) (hy : y < nhN u) : WFc (cLn u x y f per tr mb) := by
  have hnp := hw.np
  have hnh := hw.nh
  obtain ⟨n1, n2, n3⟩ := cLn1_n (u := u) (x := x) (y := y) (f := f) (per := per) (tr := tr) (mb := mb) hn
  obtain ⟨V, hV⟩ : ∃ z, z = cLn1 u x y f per tr mb := ⟨_, rfl⟩
  have k0 : ∀ k, lnk k = true → V k = u k := fun k h => by rw [hV]; exact cLn1_k h
  have v38 : V 38 0 = nI (nlN u + 1) := by rw [hV]; simp [cLn1, up]
  have v2 : ∀ i, V 2 i = if i = nlN u then nI x else u 2 i := fun i => by rw [hV]; simp [cLn1, up, cLnB]
  have v3 : ∀ i, V 3 i = if i = nlN u then nI y else u 3 i := fun i => by rw [hV]; simp [cLn1, up, cLnB]
  have e111 : ∀ i, V 111 i = if i / 40 = nlN u then -1 else u 111 i := fun i => by rw [hV]; simp [cLn1, up, cLnB]
  have s0 : ∀ q, szN V q = szN u q := fun q => by unfold szN; rw [k0 171 rfl]
  have hs0 : szN V 1 < 1000 := by rw [s0, hw.sz1]; omega
  obtain ⟨C, hC⟩ : ∃ z, z = cLn u x y f per tr mb := ⟨_, rfl⟩
  have hC2 : C = cLs V 1 := by rw [hC, hV]; rfl
  rw [← hV] at n1 n2 n3
  rw [← hC]
  have kl : ∀ k, k ≠ 171 → k ≠ 172 → C k = V k := fun k a b => by rw [hC2]; exact cLs_k a b
  have m1 : nhN C = nhN u := by rw [nhN_ext (kl 37 (by omega) (by omega)), n1]
  have m2 : nlN C = nlN u + 1 := by rw [nlN_ext (kl 38 (by omega) (by omega)), n2]
  have m3 : npN C = npN u := by rw [npN_ext (kl 39 (by omega) (by omega)), n3]
  have kk : ∀ k, lnk k = true → k ≠ 171 → k ≠ 172 → C k = u k := fun k h a b => by rw [kl k a b, k0 k h]
  have hl : ∀ q, q < 6 + npN u → LSw V q := fun q hq => (hw.ls (show ok u 3 q from hq)).of (by rw [k0 171 rfl]) (by rw [k0 172 rfl])
  have hsz : ∀ q, q ≠ 1 → szN C q = szN u q := fun q h => by rw [hC2, cLs_sz hs0, if_neg h, s0]
  have h171 : ∀ q, q ≠ 1 → C 171 q = u 171 q := fun q h => by rw [hC2, cLs_171, if_neg h, k0 171 rfl]
  have h172 : ∀ q, q ≠ 1 → C 172 q = u 172 q := fun q h => by rw [hC2, cLs_172, if_neg h, k0 172 rfl]
  refine hw.grow (by omega) (by omega) (by omega) ⟨by omega, by omega, by omega⟩ (fun q hq => ?_) ⟨⟨by rw [hsz 5 (by omega)]; exact hw.sz5, by rw [kk 37 rfl (by omega) (by omega), h171 0 (by omega)]; exact hw.2.2.1.1.2.1, ?_, by rw [kk 39 rfl (by omega) (by omega), h171 2 (by omega)]; exact hw.2.2.1.1.2.2.2⟩, fun p => ?_⟩ (fun k hk i => ?_) (fun l hl => ?_)
    (fun p hp => Or.inl ⟨by omega, by rw [kk 13 rfl (by omega) (by omega)], by rw [kk 14 rfl (by omega) (by omega)], by rw [kk 15 rfl (by omega) (by omega)]⟩) (fun e he => ⟨?_, by rw [kk 122 rfl (by omega) (by omega)]⟩) ⟨hsz 3 (by omega), kk 36 rfl (by omega) (by omega)⟩ ⟨hsz 4 (by omega), kk 176 rfl (by omega) (by omega)⟩
  · rw [m3] at hq
    rw [hC2]
    by_cases z : q = 1
    · subst z; exact (hl 1 hq).ls hs0
    · exact (hl q hq).ls' (hl 1 (by omega)) hs0 z
  · rw [kl 38 (by omega) (by omega), v38, hC2, cLs_171, if_pos rfl, s0, hw.sz1]
  · rw [m3, hsz (6 + p) (by omega), kk 173 rfl (by omega) (by omega), h171 (6 + p) (by omega), h172 (6 + p) (by omega)]
    exact hw.2.2.1.2 p
  · by_cases z2 : k = 2
    · subst z2
      rw [kl 2 (by omega) (by omega), v2]
      by_cases w : i = nlN u
      · rw [if_pos w]; exact Or.inr (Or.inr (show vp_in (nI x) (nhN C) from vp_in_nI (by omega) (by omega)))
      · rw [if_neg w]; exact Or.inl rfl
    · by_cases z3 : k = 3
      · subst z3
        rw [kl 3 (by omega) (by omega), v3]
        by_cases w : i = nlN u
        · rw [if_pos w]; exact Or.inr (Or.inr (show vp_in (nI y) (nhN C) from vp_in_nI (by omega) (by omega)))
        · rw [if_neg w]; exact Or.inl rfl
      · by_cases z4 : k = 111
        · subst z4
          rw [kl 111 (by omega) (by omega), e111]
          by_cases w : i / 40 = nlN u
          · rw [if_pos w]; exact Or.inr (Or.inl rfl)
          · rw [if_neg w]; exact Or.inl rfl
        · refine Or.inl ?_
          have hlk : lnk k = true ∧ k ≠ 171 ∧ k ≠ 172 := by
            unfold rfT at hk
            split at hk <;> first | exact ⟨rfl, by omega, by omega⟩ | omega | exact absurd rfl hk
          rw [kk k hlk.1 hlk.2.1 hlk.2.2]
  · rw [m2] at hl
    rw [kl 2 (by omega) (by omega), kl 3 (by omega) (by omega), v2, v3]
    by_cases w : l = nlN u
    · rw [if_pos w, if_pos w]; exact Or.inr ⟨vp_in_nI (by omega) (by omega), vp_in_nI (by omega) (by omega)⟩
    · rw [if_neg w, if_neg w]; exact Or.inl ⟨by omega, rfl, rfl⟩
  · have he2 : e / 1024 < npN C ∧ e % 1024 < evN C (e / 1024) := he
    rw [m3, show evN C = evN u by funext p; unfold evN; rw [kk 173 rfl (by omega) (by omega)]] at he2
    exact he2

