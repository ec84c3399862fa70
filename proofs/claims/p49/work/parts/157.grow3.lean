/-! a parcel -/
def cPc1 (u : MM) (o d : Nat) (vol ser : Int32) : MM :=
  up (up (up (up (up (up (up (up (up (up (up (up (up (up (up (up (up (up (up u 39 0 (nI (npN u + 1))) 11 (npN u) vol) 12 (npN u) ser) 13 (npN u) (nI o)) 14 (npN u) (nI d)) 15 (npN u) (nI o)) 25 (npN u) (u 41 0)) 28 (npN u) 0) 116 (npN u) (-1)) 19 (npN u) (-1)) 17 (npN u) 0) 18 (npN u) 0) 21 (npN u) (-1)) 26 (npN u) 0) 20 (npN u) 0) 22 (npN u) 0) 23 (npN u) 0) 24 (npN u) 0) 29 (npN u) 0
def cPc0 (u : MM) (o d : Nat) (vol ser : Int32) : MM := up (cPc1 u o d vol ser) 27 (npN u) 0
def cPc (u : MM) (o d : Nat) (vol ser : Int32) : MM := cLs (cPc0 u o d vol ser) 2
def pck (k : Nat) : Bool := !(k == 39 || k == 11 || k == 12 || k == 13 || k == 14 || k == 15 || k == 25 || k == 28 || k == 116 || k == 19 || k == 17 || k == 18 || k == 21 || k == 26 || k == 20 || k == 22 || k == 23 || k == 24 || k == 29 || k == 27)
theorem pck_ne {k : Nat} (h : pck k = true) : k ≠ 39 ∧ k ≠ 11 ∧ k ≠ 12 ∧ k ≠ 13 ∧ k ≠ 14 ∧ k ≠ 15 ∧ k ≠ 25 ∧ k ≠ 28 ∧ k ≠ 116 ∧ k ≠ 19 ∧ k ≠ 17 ∧ k ≠ 18 ∧ k ≠ 21 ∧ k ≠ 26 ∧ k ≠ 20 ∧ k ≠ 22 ∧ k ≠ 23 ∧ k ≠ 24 ∧ k ≠ 29 ∧ k ≠ 27 := by
  refine ⟨?_, ?_, ?_, ?_, ?_, ?_, ?_, ?_, ?_, ?_, ?_, ?_, ?_, ?_, ?_, ?_, ?_, ?_, ?_, ?_⟩ <;> (intro e; subst e; exact absurd h (by decide))
theorem cPc0_k {u : MM} {o d : Nat} {vol ser : Int32} {k : Nat} (h : pck k = true) : cPc0 u o d vol ser k = u k := by
  obtain ⟨e1, e2, e3, e4, e5, e6, e7, e8, e9, e10, e11, e12, e13, e14, e15, e16, e17, e18, e19, e20⟩ := pck_ne h
  unfold cPc0 cPc1
  rw [up_key e20, up_key e19, up_key e18, up_key e17, up_key e16, up_key e15, up_key e14, up_key e13, up_key e12, up_key e11, up_key e10, up_key e9, up_key e8, up_key e7, up_key e6, up_key e5, up_key e4, up_key e3, up_key e2, up_key e1]
theorem cPc0_n {u : MM} {o d : Nat} {vol ser : Int32} (hn : npN u < 40) : nhN (cPc0 u o d vol ser) = nhN u ∧ nlN (cPc0 u o d vol ser) = nlN u ∧ npN (cPc0 u o d vol ser) = npN u + 1 := by
  refine ⟨nhN_ext (cPc0_k rfl), nlN_ext (cPc0_k rfl), ?_⟩
  show (cPc0 u o d vol ser 39 0).toNatClampNeg = _
  rw [show cPc0 u o d vol ser 39 0 = nI (npN u + 1) by simp [cPc0, cPc1, up], nI_clamp (by omega)]
theorem RC.newParcel {E : Nat} {h : AH} {b : BA} {u : MM} (hR : RC E h b u) (hw : WFc u) {a g q o d : Nat} {vol ser : Int32} (hn : npN u < 40) (ho : o < nhN u) (hd : d < nhN u)
    (ha : aK h a = 9) (hg : aK h g = 6) (hq : aK h q = 3) (na : ∀ K i, ok u K i → b K i ≠ a) (ng : ∀ K i, ok u K i → b K i ≠ g) (nq : ∀ K i, ok u K i → b K i ≠ q)
    (i0 : aI h 0 a = nI (npN u)) (i1 : aI h 1 a = vol) (i2 : aI h 2 a = ser) (i3 : aI h 3 a = u 41 0) (i13 : aI h 13 a = -1) (r4 : aR h 4 a = some (b 7 o)) (r5 : aR h 5 a = some g) (r6 : aR h 6 a = some (b 7 d)) (r7 : aR h 7 a = some (b 7 o))
    (iz : ∀ j, ¬ (j = 0 ∨ j = 1 ∨ j = 2 ∨ j = 3 ∨ j = 13) → aI h j a = 0) (rz : ∀ j, ¬ (j = 4 ∨ j = 5 ∨ j = 6 ∨ j = 7) → aR h j a = none)
    (g0 : aR h 0 g = some q) (g1 : aI h 1 g = 0) (q2 : aI h 2 q = 0) (q1 : aR h 1 q = some E) :
    RC E h (bup (bup (bup b 9 (npN u) a) 6 (npN u) g) 3 (6 + npN u) q) (cPc0 u o d vol ser) := by
  obtain ⟨B, hB⟩ : ∃ z, z = bup (bup (bup b 9 (npN u) a) 6 (npN u) g) 3 (6 + npN u) q := ⟨_, rfl⟩
  rw [← hB]
  have no9 : ¬ ok u 9 (npN u) := Nat.lt_irrefl _
  have no6 : ¬ ok u 6 (npN u) := Nat.lt_irrefl _
  have no3 : ¬ ok u 3 (6 + npN u) := Nat.lt_irrefl _
  have B9 : B 9 (npN u) = a := by rw [hB, bup_n (by omega), bup_n (by omega), bup_s]
  have B6 : B 6 (npN u) = g := by rw [hB, bup_n (by omega), bup_s]
  have B3 : B 3 (6 + npN u) = q := by rw [hB, bup_s]
  have hbb : ∀ K i, ok u K i → B K i = b K i := fun K i hk => by
    rw [hB, bup_n (fun z => by obtain ⟨rfl, rfl⟩ := z; exact no3 hk), bup_n (fun z => by obtain ⟨rfl, rfl⟩ := z; exact no6 hk), bup_n (fun z => by obtain ⟨rfl, rfl⟩ := z; exact no9 hk)]
  have hR1 := hR.reb hw hbb
  have hnh := hw.nh
  obtain ⟨n1, n2, n3⟩ := cPc0_n (u := u) (o := o) (d := d) (vol := vol) (ser := ser) hn
  obtain ⟨V, hV⟩ : ∃ z, z = cPc0 u o d vol ser := ⟨_, rfl⟩
  have kk : ∀ k, pck k = true → V k = u k := fun k h => by rw [hV]; exact cPc0_k h
  have hbey := (hw.2.2.1.2 (npN u)).2 (Nat.le_refl _)
  have hAg : AgF u V := by
    rw [hV]; unfold cPc0 cPc1
    exact (((((((((((((((((((((AgF.refl u).upn (k := 39) ok0).upn (k := 11) no9).upn (k := 12) no9).upn (k := 13) no9).upn (k := 14) no9).upn (k := 15) no9).upn (k := 25) no9).upn (k := 28) no9).upn (k := 116) no9).upn (k := 19) no9).upn (k := 17) no9).upn (k := 18) no9).upn (k := 21) no9).upn (k := 26) no9).upn (k := 20) no9).upn (k := 22) no9).upn (k := 23) no9).upn (k := 24) no9).upn (k := 29) no9).upn (k := 27) no6)
  have vv : ∀ k x, (cPc0 u o d vol ser k (npN u) = x) → V k (npN u) = x := fun k x h => by rw [hV]; exact h
  rw [← hV] at n1 n2 n3 ⊢
  have n4 : ∀ q, capN V q = capN u q := fun q => by unfold capN; rw [kk 172 rfl]
  have n5 : ∀ p, evN V p = evN u p := fun p => by unfold evN; rw [kk 173 rfl]
  have cz : capN u (6 + npN u) = 0 := by unfold capN; rw [hbey.2.1]; rfl
  have ez : evN u (npN u) = 0 := by unfold evN; rw [hbey.2.2]; rfl
  refine hR1.intro2 (fun K i => (K = 9 ∧ i = npN u) ∨ (K = 6 ∧ i = npN u) ∨ (K = 3 ∧ i = 6 + npN u)) (fun K i hk => ?_) hAg (fun q _ => by rw [kk 172 rfl]) (kk 36 rfl) (kk 176 rfl) (fun i k hi hk => by unfold c20; rw [kk 10 rfl, kk 160 rfl, kk 161 rfl]) (fun i k hi hk => by rw [kk 111 rfl]) ?_ ?_ ?_ ?_ ?_ ?_ ?_
  · by_cases z : (K = 9 ∧ i = npN u) ∨ (K = 6 ∧ i = npN u) ∨ (K = 3 ∧ i = 6 + npN u)
    · exact Or.inr z
    · refine Or.inl ?_
      unfold ok at hk ⊢
      split at hk <;> first | (rw [n2] at hk; exact hk) | (rw [n1] at hk; exact hk) | (rw [n3] at hk; omega) | skip
      · rw [n3, n5] at hk
        refine ⟨?_, hk.2⟩
        by_cases y : i / 1024 = npN u
        · rw [y, ez] at hk; omega
        · omega
      · exact hk
      · exact hk
      · exact hk
      · exact hk
      · exact hk
      · rw [n3, n4] at hk
        refine ⟨?_, hk.2⟩
        by_cases y : i = 6 + npN u
        · rw [y, cz] at hk; omega
        · omega
      · exact hk
  · intro K i z
    rcases z with ⟨rfl, rfl⟩ | ⟨rfl, rfl⟩ | ⟨rfl, rfl⟩
    · rw [B9]; exact ha
    · rw [B6]; exact hg
    · rw [B3]; exact hq
  · intro K i j z hK hj h8
    rcases z with ⟨rfl, rfl⟩ | ⟨rfl, rfl⟩ | ⟨rfl, rfl⟩
    · rw [B9]
      have hj3 : j < 20 := (List.getElem?_eq_some_iff.mp hj).1
      rcases (by omega : j = 0 ∨ j = 1 ∨ j = 2 ∨ j = 3 ∨ j = 4 ∨ j = 5 ∨ j = 6 ∨ j = 7 ∨ j = 8 ∨ j = 9 ∨ j = 10 ∨ j = 11 ∨ j = 12 ∨ j = 13 ∨ j = 14 ∨ j = 15 ∨ j = 16 ∨ j = 17 ∨ j = 18 ∨ j = 19) with rfl | rfl | rfl | rfl | rfl | rfl | rfl | rfl | rfl | rfl | rfl | rfl | rfl | rfl | rfl | rfl | rfl | rfl | rfl | rfl
      · exact i0
      · rw [i1]; exact (vv 11 _ (by simp [cPc0, cPc1, up])).symm
      · rw [i2]; exact (vv 12 _ (by simp [cPc0, cPc1, up])).symm
      · rw [i3]; exact (vv 25 _ (by simp [cPc0, cPc1, up])).symm
      · exact absurd hj (by decide)
      · exact absurd hj (by decide)
      · exact absurd hj (by decide)
      · exact absurd hj (by decide)
      · rw [iz 8 (by omega)]; exact (vv 28 _ (by simp [cPc0, cPc1, up])).symm
      · exact absurd hj (by decide)
      · exact absurd hj (by decide)
      · rw [iz 11 (by omega)]; exact (vv 17 _ (by simp [cPc0, cPc1, up])).symm
      · rw [iz 12 (by omega)]; exact (vv 18 _ (by simp [cPc0, cPc1, up])).symm
      · rw [i13]; exact (vv 21 _ (by simp [cPc0, cPc1, up])).symm
      · rw [iz 14 (by omega)]; exact (vv 26 _ (by simp [cPc0, cPc1, up])).symm
      · rw [iz 15 (by omega)]; exact (vv 20 _ (by simp [cPc0, cPc1, up])).symm
      · rw [iz 16 (by omega)]; exact (vv 22 _ (by simp [cPc0, cPc1, up])).symm
      · rw [iz 17 (by omega)]; exact (vv 23 _ (by simp [cPc0, cPc1, up])).symm
      · rw [iz 18 (by omega)]; exact (vv 24 _ (by simp [cPc0, cPc1, up])).symm
      · rw [iz 19 (by omega)]; exact (vv 29 _ (by simp [cPc0, cPc1, up])).symm
    · rw [B6]
      have hj3 : j < 2 := (List.getElem?_eq_some_iff.mp hj).1
      rcases (by omega : j = 0 ∨ j = 1) with rfl | rfl
      · exact absurd hj (by decide)
      · rw [g1]; exact (vv 27 _ (by simp [cPc0, cPc1, up])).symm
    · rw [B3]
      have hj3 : j < 3 := (List.getElem?_eq_some_iff.mp hj).1
      rcases (by omega : j = 0 ∨ j = 1 ∨ j = 2) with rfl | rfl | rfl
      · exact absurd rfl h8
      · exact absurd hj (by decide)
      · rw [q2]; show 0 = V 171 _; rw [kk 171 rfl, hbey.1]
  · intro K i j z hK hj h3
    rcases z with ⟨rfl, rfl⟩ | ⟨rfl, rfl⟩ | ⟨rfl, rfl⟩
    · rw [B9]
      have hj3 : j < 20 := (List.getElem?_eq_some_iff.mp hj).1
      have hjj : j = 4 ∨ j = 5 ∨ j = 6 ∨ j = 7 ∨ j = 9 ∨ j = 10 := by
        refine Decidable.byContradiction fun w => ?_
        rcases (by omega : j = 0 ∨ j = 1 ∨ j = 2 ∨ j = 3 ∨ j = 8 ∨ j = 11 ∨ j = 12 ∨ j = 13 ∨ j = 14 ∨ j = 15 ∨ j = 16 ∨ j = 17 ∨ j = 18 ∨ j = 19) with rfl | rfl | rfl | rfl | rfl | rfl | rfl | rfl | rfl | rfl | rfl | rfl | rfl | rfl <;> exact absurd hj (by decide)
      rcases hjj with rfl | rfl | rfl | rfl | rfl | rfl
      · rw [r4]; show some (b 7 o) = dec B 7 (V 13 _)
        rw [vv 13 (nI o) (by simp [cPc0, cPc1, up]), dec_nI (by omega), hbb 7 o ho]
      · rw [r5]; show some g = some (B 6 (npN u)); rw [B6]
      · rw [r6]; show some (b 7 d) = dec B 7 (V 14 _)
        rw [vv 14 (nI d) (by simp [cPc0, cPc1, up]), dec_nI (by omega), hbb 7 d hd]
      · rw [r7]; show some (b 7 o) = dec B 7 (V 15 _)
        rw [vv 15 (nI o) (by simp [cPc0, cPc1, up]), dec_nI (by omega), hbb 7 o ho]
      · rw [rz 9 (by omega)]; show none = dec B 8 (V 116 _)
        rw [vv 116 (-1) (by simp [cPc0, cPc1, up]), dec_m1]
      · rw [rz 10 (by omega)]; show none = dec B 8 (V 19 _)
        rw [vv 19 (-1) (by simp [cPc0, cPc1, up]), dec_m1]
    · rw [B6]
      have hj3 : j < 2 := (List.getElem?_eq_some_iff.mp hj).1
      rcases (by omega : j = 0 ∨ j = 1) with rfl | rfl
      · rw [g0]; show some q = some (B 3 (6 + npN u)); rw [B3]
      · exact absurd hj (by decide)
    · omega
  · intro q' z
    have e : q' = 6 + npN u := by omega
    subst e
    unfold LSo
    rw [n4, cz, B3]
    exact ⟨fun _ => q1, fun w => by omega⟩
  · intro i z; omega
  · intro i z; omega
  · intro K i i' z w e
    rcases z with ⟨rfl, rfl⟩ | ⟨rfl, rfl⟩ | ⟨rfl, rfl⟩
    · rcases w with w | w
      · rw [B9, hbb 9 i' w] at e; exact absurd e.symm (na _ i' w)
      · omega
    · rcases w with w | w
      · rw [B6, hbb 6 i' w] at e; exact absurd e.symm (ng _ i' w)
      · omega
    · rcases w with w | w
      · rw [B3, hbb 3 i' w] at e; exact absurd e.symm (nq _ i' w)
      · omega
theorem WFc.addP {u : MM} (hw : WFc u) {o d : Nat} {vol ser : Int32} (hn : npN u < 40) (ho : o < nhN u) (hd : d < nhN u) : WFc (cPc u o d vol ser) := by
  have hnh := hw.nh
  obtain ⟨n1, n2, n3⟩ := cPc0_n (u := u) (o := o) (d := d) (vol := vol) (ser := ser) hn
  obtain ⟨V, hV⟩ : ∃ z, z = cPc0 u o d vol ser := ⟨_, rfl⟩
  have k0 : ∀ k, pck k = true → V k = u k := fun k h => by rw [hV]; exact cPc0_k h
  have v39 : V 39 0 = nI (npN u + 1) := by rw [hV]; simp [cPc0, cPc1, up]
  have vr : ∀ k x, cPc0 u o d vol ser k = (fun i => if i = npN u then x else u k i) → ∀ i, V k i = if i = npN u then x else u k i := fun k x h i => by rw [hV, h]
  have v13 := vr 13 (nI o) (funext fun i => by simp [cPc0, cPc1, up])
  have v14 := vr 14 (nI d) (funext fun i => by simp [cPc0, cPc1, up])
  have v15 := vr 15 (nI o) (funext fun i => by simp [cPc0, cPc1, up])
  have v116 := vr 116 (-1) (funext fun i => by simp [cPc0, cPc1, up])
  have v19 := vr 19 (-1) (funext fun i => by simp [cPc0, cPc1, up])
  have s0 : ∀ q, szN V q = szN u q := fun q => by unfold szN; rw [k0 171 rfl]
  have hs0 : szN V 2 < 1000 := by rw [s0, hw.sz2]; omega
  obtain ⟨C, hC⟩ : ∃ z, z = cPc u o d vol ser := ⟨_, rfl⟩
  have hC2 : C = cLs V 2 := by rw [hC, hV]; rfl
  rw [← hV] at n1 n2 n3
  rw [← hC]
  have kl : ∀ k, k ≠ 171 → k ≠ 172 → C k = V k := fun k a b => by rw [hC2]; exact cLs_k a b
  have m1 : nhN C = nhN u := by rw [nhN_ext (kl 37 (by omega) (by omega)), n1]
  have m2 : nlN C = nlN u := by rw [nlN_ext (kl 38 (by omega) (by omega)), n2]
  have m3 : npN C = npN u + 1 := by rw [npN_ext (kl 39 (by omega) (by omega)), n3]
  have kk : ∀ k, pck k = true → k ≠ 171 → k ≠ 172 → C k = u k := fun k h a b => by rw [kl k a b, k0 k h]
  have hbey := (hw.2.2.1.2 (npN u)).2 (Nat.le_refl _)
  have hl : ∀ q, q < 6 + npN u + 1 → LSw V q := fun q hq => by
    have e : LSw u q := by
      by_cases z : q = 6 + npN u
      · subst z
        unfold LSw szN capN
        rw [hbey.1, hbey.2.1]
        exact ⟨Nat.le_refl _, by decide, rfl, rfl⟩
      · exact hw.ls (show ok u 3 q from (by omega : q < 6 + npN u))
    exact e.of (by rw [k0 171 rfl]) (by rw [k0 172 rfl])
  have hsz : ∀ q, q ≠ 2 → szN C q = szN u q := fun q h => by rw [hC2, cLs_sz hs0, if_neg h, s0]
  have h171 : ∀ q, q ≠ 2 → C 171 q = u 171 q := fun q h => by rw [hC2, cLs_171, if_neg h, k0 171 rfl]
  have h172 : ∀ q, q ≠ 2 → C 172 q = u 172 q := fun q h => by rw [hC2, cLs_172, if_neg h, k0 172 rfl]
  refine hw.grow (by omega) (by omega) (by omega) ⟨by omega, by rw [m2]; exact hw.nl, by omega⟩ (fun q hq => ?_) ⟨⟨by rw [hsz 5 (by omega)]; exact hw.sz5, by rw [kk 37 rfl (by omega) (by omega), h171 0 (by omega)]; exact hw.2.2.1.1.2.1, by rw [kk 38 rfl (by omega) (by omega), h171 1 (by omega)]; exact hw.2.2.1.1.2.2.1, ?_⟩, fun p => ?_⟩ (fun k hk i => ?_) (fun l hl => Or.inl ⟨by omega, by rw [kk 2 rfl (by omega) (by omega)], by rw [kk 3 rfl (by omega) (by omega)]⟩)
    (fun p hp => ?_) (fun e he => ⟨?_, by rw [kk 122 rfl (by omega) (by omega)]⟩) ⟨hsz 3 (by omega), kk 36 rfl (by omega) (by omega)⟩ ⟨hsz 4 (by omega), kk 176 rfl (by omega) (by omega)⟩
  · rw [m3] at hq
    rw [hC2]
    by_cases z : q = 2
    · subst z; exact (hl 2 (by omega)).ls hs0
    · exact (hl q hq).ls' (hl 2 (by omega)) hs0 z
  · rw [kl 39 (by omega) (by omega), v39, hC2, cLs_171, if_pos rfl, s0, hw.sz2]
  · rw [m3, hsz (6 + p) (by omega), kk 173 rfl (by omega) (by omega), h171 (6 + p) (by omega), h172 (6 + p) (by omega)]
    obtain ⟨a1, a2⟩ := hw.2.2.1.2 p
    refine ⟨fun hp => ?_, fun hp => a2 (by omega)⟩
    by_cases z : p = npN u
    · subst z
      unfold szN
      rw [hbey.1, hbey.2.2]
      exact ⟨by decide, rfl⟩
    · exact a1 (by omega)
  · have hv : ∀ j, j = 13 ∨ j = 14 ∨ j = 15 ∨ j = 116 ∨ j = 19 → k = j → C k i = u k i ∨ RG C (rfT k) (C k i) := by
      intro j hj e
      subst e
      rcases hj with rfl | rfl | rfl | rfl | rfl
      · rw [kl 13 (by omega) (by omega), v13]
        by_cases w : i = npN u
        · rw [if_pos w]; exact Or.inr (Or.inr (show vp_in (nI o) (nhN C) from vp_in_nI (by omega) (by omega)))
        · rw [if_neg w]; exact Or.inl rfl
      · rw [kl 14 (by omega) (by omega), v14]
        by_cases w : i = npN u
        · rw [if_pos w]; exact Or.inr (Or.inr (show vp_in (nI d) (nhN C) from vp_in_nI (by omega) (by omega)))
        · rw [if_neg w]; exact Or.inl rfl
      · rw [kl 15 (by omega) (by omega), v15]
        by_cases w : i = npN u
        · rw [if_pos w]; exact Or.inr (Or.inr (show vp_in (nI o) (nhN C) from vp_in_nI (by omega) (by omega)))
        · rw [if_neg w]; exact Or.inl rfl
      · rw [kl 116 (by omega) (by omega), v116]
        by_cases w : i = npN u
        · rw [if_pos w]; exact Or.inr (Or.inl rfl)
        · rw [if_neg w]; exact Or.inl rfl
      · rw [kl 19 (by omega) (by omega), v19]
        by_cases w : i = npN u
        · rw [if_pos w]; exact Or.inr (Or.inl rfl)
        · rw [if_neg w]; exact Or.inl rfl
    by_cases z : k = 13 ∨ k = 14 ∨ k = 15 ∨ k = 116 ∨ k = 19
    · exact hv k z rfl
    · refine Or.inl ?_
      have hlk : pck k = true ∧ k ≠ 171 ∧ k ≠ 172 := by
        unfold rfT at hk
        split at hk <;> first | exact ⟨rfl, by omega, by omega⟩ | omega | exact absurd rfl hk
      rw [kk k hlk.1 hlk.2.1 hlk.2.2]
  · rw [m3] at hp
    rw [kl 13 (by omega) (by omega), kl 14 (by omega) (by omega), kl 15 (by omega) (by omega), v13, v14, v15]
    by_cases w : p = npN u
    · rw [if_pos w, if_pos w, if_pos w]; exact Or.inr ⟨vp_in_nI (by omega) (by omega), vp_in_nI (by omega) (by omega), vp_in_nI (by omega) (by omega)⟩
    · rw [if_neg w, if_neg w, if_neg w]; exact Or.inl ⟨by omega, rfl, rfl, rfl⟩
  · have he2 : e / 1024 < npN C ∧ e % 1024 < evN C (e / 1024) := he
    rw [m3, show evN C = evN u by funext p; unfold evN; rw [kk 173 rfl (by omega) (by omega)]] at he2
    refine ⟨?_, he2.2⟩
    by_cases y : e / 1024 = npN u
    · have ez : evN u (npN u) = 0 := by unfold evN; rw [hbey.2.2]; rfl
      rw [y, ez] at he2; omega
    · omega

