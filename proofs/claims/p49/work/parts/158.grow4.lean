theorem LG.planL : ∀ (k p : Nat) {u : MM}, LG u (cPlL k p u) := by
  intro k
  induction k with
  | zero => intro p u; exact LG.refl u
  | succ k ih => intro p u; simp only [cPlL]; exact (LG.ite (fun _ => LG.plan) (fun _ => LG.refl u)).trans (ih (p + 1))
theorem LG.planA {u : MM} : LG u (cPlA u) := LG.planL _ _
theorem grow_room {u C : MM} {q : Nat} (hl : LSw u q) (hq : q < 46) (hc : capN C q = ncap (szN u q) (capN u q)) (hc' : ∀ j, j ≠ q → capN C j = capN u j) (hev : evN C = evN u) (hk : nhN C + nlN C + npN C = nhN u + nlN u + npN u + 1) (m1 : nhN u ≤ nhN C) (m2 : nlN u ≤ nlN C) (m3 : npN u ≤ npN C) :
    Gw u C ∧ UC u + aC (szN u q) (capN u q) + 4 ≤ UC C ∧ US u + aS (szN u q) (capN u q) + 100 ≤ US C := by
  obtain ⟨r1, r2, r3⟩ := ncap_room hl.1
  have es := sumN_pt hc' (by rw [hc]; exact r1) 46
  rw [if_pos hq, hc] at es
  refine ⟨⟨fun j => ?_, fun p => by rw [hev]; exact Nat.le_refl _, m1, m2, m3⟩, ?_, ?_⟩
  · by_cases z : j = q
    · subst z; rw [hc]; exact r1
    · rw [hc' j z]; exact Nat.le_refl _
  · unfold UC; rw [es, hev]; omega
  · unfold US; rw [es, hev]; omega
theorem room_hub {u : MM} (hw : WFc u) {cd co : Int32} (hn : nhN u < 6) : Gw u (cHb u cd co) ∧ UC u + aC (szN u 0) (capN u 0) + 4 ≤ UC (cHb u cd co) ∧ US u + aS (szN u 0) (capN u 0) + 100 ≤ US (cHb u cd co) ∧ nhN (cHb u cd co) = nhN u + 1 ∧ nlN (cHb u cd co) = nlN u ∧ npN (cHb u cd co) = npN u := by
  obtain ⟨n1, n2, n3⟩ := cHb1_n (u := u) (cd := cd) (co := co) hn
  have hl := hw.ls (q := 0) (show 0 < 6 + npN u by omega)
  obtain ⟨V, hV⟩ : ∃ z, z = cHb1 u cd co := ⟨_, rfl⟩
  have k1 : V 171 = u 171 := by rw [hV]; exact cHb1_k (by omega) (by omega) (by omega)
  have k2 : V 172 = u 172 := by rw [hV]; exact cHb1_k (by omega) (by omega) (by omega)
  have k3 : V 173 = u 173 := by rw [hV]; exact cHb1_k (by omega) (by omega) (by omega)
  have s1 : szN V 0 = szN u 0 := by unfold szN; rw [k1]
  have s2 : capN V 0 = capN u 0 := by unfold capN; rw [k2]
  have hs : szN V 0 < 1000 := by rw [s1, hw.sz0]; omega
  have hc2 : cHb u cd co = cLs V 0 := by rw [hV]; rfl
  rw [← hV] at n1 n2 n3
  have m1 : nhN (cLs V 0) = nhN u + 1 := by rw [nhN_ext (cLs_k (by omega) (by omega)), n1]
  have m2 : nlN (cLs V 0) = nlN u := by rw [nlN_ext (cLs_k (by omega) (by omega)), n2]
  have m3 : npN (cLs V 0) = npN u := by rw [npN_ext (cLs_k (by omega) (by omega)), n3]
  rw [hc2]
  have gr := grow_room (C := cLs V 0) hl (by omega) (by rw [cLs_cap hs (by rw [s2]; exact hl.2.1), if_pos rfl, s1, s2]) (fun j hj => by rw [cLs_cap hs (by rw [s2]; exact hl.2.1), if_neg hj]; unfold capN; rw [k2]) (by funext p; unfold evN; rw [cLs_k (by omega) (by omega), k3]) (by omega) (by omega) (by omega) (by omega)
  exact ⟨gr.1, gr.2.1, gr.2.2, m1, m2, m3⟩
theorem RC.addHub {E : Nat} {h h' : AH} {b : BA} {u : MM} (hR : RC E h b u) (hw : WFc u) {a : Nat} {cd co : Int32} (hn : nhN u < 6) (ha : aK h a = 7) (hne : ∀ K i, ok u K i → b K i ≠ a) (h0 : aI h 0 a = nI (nhN u)) (h1 : aI h 1 a = cd) (h2 : aI h 2 a = co)
    (hL : Ladd h h' (b 3 0) (arrQ E b u 0) (szN u 0) (capN u 0) (insG h (arrQ E b u 0) a (szN u 0))) : ∃ b', BE u b b' ∧ b' 7 (nhN u) = a ∧ RC E h' b' (cHb u cd co) := by
  have hR1 := hR.newHub hw (cd := cd) (co := co) hn ha hne h0 h1 h2
  obtain ⟨n1, n2, n3⟩ := cHb1_n (u := u) (cd := cd) (co := co) hn
  have hl := hw.ls (q := 0) (show 0 < 6 + npN u by omega)
  obtain ⟨V, hV⟩ : ∃ z, z = cHb1 u cd co := ⟨_, rfl⟩
  have k1 : V 171 = u 171 := by rw [hV]; exact cHb1_k (by omega) (by omega) (by omega)
  have k2 : V 172 = u 172 := by rw [hV]; exact cHb1_k (by omega) (by omega) (by omega)
  have k3 : V 173 = u 173 := by rw [hV]; exact cHb1_k (by omega) (by omega) (by omega)
  have s1 : szN V 0 = szN u 0 := by unfold szN; rw [k1]
  have s2 : capN V 0 = capN u 0 := by unfold capN; rw [k2]
  have s3 : arrQ E (bup b 7 (nhN u) a) V 0 = arrQ E b u 0 := by unfold arrQ; rw [s2, bup_n (by omega)]
  have hs : szN V 0 < 1000 := by rw [s1, hw.sz0]; omega
  have hc2 : cHb u cd co = cLs V 0 := by rw [hV]; rfl
  rw [← hV] at hR1 n1 n2 n3
  obtain ⟨b', hb', hA⟩ := hR1.addN (q := 0) (a := a) (by omega) (hl.of (by rw [k1]) (by rw [k2])) (by rw [s1, hw.sz0]; exact bup_s _ _ _ _) (by rw [s1, s2, s3, bup_n (by omega)]; exact hL)
  rw [hc2]
  refine ⟨b', fun K i h31 hk => ?_, ?_, hA⟩
  · rw [hb' K i h31]
    exact bup_n (fun z => by obtain ⟨rfl, rfl⟩ := z; exact Nat.lt_irrefl _ hk)
  · rw [hb' 7 _ (by omega), bup_s]
theorem room_lin {u : MM} (hw : WFc u) {x y : Nat} {f per tr mb : Int32} (hn : nlN u < 12) : Gw u (cLn u x y f per tr mb) ∧ UC u + aC (szN u 1) (capN u 1) + 4 ≤ UC (cLn u x y f per tr mb) ∧ US u + aS (szN u 1) (capN u 1) + 100 ≤ US (cLn u x y f per tr mb) ∧ nhN (cLn u x y f per tr mb) = nhN u ∧ nlN (cLn u x y f per tr mb) = nlN u + 1 ∧ npN (cLn u x y f per tr mb) = npN u := by
  obtain ⟨n1, n2, n3⟩ := cLn1_n (u := u) (x := x) (y := y) (f := f) (per := per) (tr := tr) (mb := mb) hn
  have hl := hw.ls (q := 1) (show 1 < 6 + npN u by omega)
  obtain ⟨V, hV⟩ : ∃ z, z = cLn1 u x y f per tr mb := ⟨_, rfl⟩
  have k1 : V 171 = u 171 := by rw [hV]; exact cLn1_k rfl
  have k2 : V 172 = u 172 := by rw [hV]; exact cLn1_k rfl
  have k3 : V 173 = u 173 := by rw [hV]; exact cLn1_k rfl
  have s1 : szN V 1 = szN u 1 := by unfold szN; rw [k1]
  have s2 : capN V 1 = capN u 1 := by unfold capN; rw [k2]
  have hs : szN V 1 < 1000 := by rw [s1, hw.sz1]; omega
  have hc2 : cLn u x y f per tr mb = cLs V 1 := by rw [hV]; rfl
  rw [← hV] at n1 n2 n3
  have m1 : nhN (cLs V 1) = nhN u := by rw [nhN_ext (cLs_k (by omega) (by omega)), n1]
  have m2 : nlN (cLs V 1) = nlN u + 1 := by rw [nlN_ext (cLs_k (by omega) (by omega)), n2]
  have m3 : npN (cLs V 1) = npN u := by rw [npN_ext (cLs_k (by omega) (by omega)), n3]
  rw [hc2]
  have gr := grow_room (C := cLs V 1) hl (by omega) (by rw [cLs_cap hs (by rw [s2]; exact hl.2.1), if_pos rfl, s1, s2]) (fun j hj => by rw [cLs_cap hs (by rw [s2]; exact hl.2.1), if_neg hj]; unfold capN; rw [k2]) (by funext p; unfold evN; rw [cLs_k (by omega) (by omega), k3]) (by omega) (by omega) (by omega) (by omega)
  exact ⟨gr.1, gr.2.1, gr.2.2, m1, m2, m3⟩
theorem RC.addLin {E : Nat} {h h' : AH} {b : BA} {u : MM} (hR : RC E h b u) (hw : WFc u) {a g q1 q2 x y : Nat} {f per tr mb : Int32} (hn : nlN u < 12) (hx : x < nhN u) (hy : y < nhN u)
    (ha : aK h a = 8) (hg : aK h g = 4) (hq1 : aK h q1 = 30) (hq2 : aK h q2 = 20) (na : ∀ K i, ok u K i → b K i ≠ a) (ng : ∀ K i, ok u K i → b K i ≠ g) (nq1 : ∀ K i, ok u K i → b K i ≠ q1) (nq2 : ∀ K i, ok u K i → b K i ≠ q2)
    (i0 : aI h 0 a = nI (nlN u)) (i3 : aI h 3 a = mb) (i5 : aI h 5 a = f) (i6 : aI h 6 a = per) (i7 : aI h 7 a = tr) (i8 : aI h 8 a = 1) (r1 : aR h 1 a = some (b 7 x)) (r2 : aR h 2 a = some (b 7 y)) (r4 : aR h 4 a = some g)
    (g0 : aR h 0 g = some q1) (g1 : aR h 1 g = some q2) (g2 : aI h 2 g = 0) (l1 : aN h q1 = 40) (l2 : aN h q2 = 40) (z1 : ∀ k, aR h k q1 = none) (z2 : ∀ k, aI h k q2 = 0)
    (hL : Ladd h h' (b 3 1) (arrQ E b u 1) (szN u 1) (capN u 1) (insG h (arrQ E b u 1) a (szN u 1))) : ∃ b', BE u b b' ∧ b' 8 (nlN u) = a ∧ RC E h' b' (cLn u x y f per tr mb) := by
  have hR1 := hR.newLine hw (f := f) (per := per) (tr := tr) (mb := mb) hn hx hy ha hg hq1 hq2 na ng nq1 nq2 i0 i3 i5 i6 i7 i8 r1 r2 r4 g0 g1 g2 l1 l2 z1 z2
  obtain ⟨B, hB⟩ : ∃ z, z = bup (bup (bup (bup b 8 (nlN u) a) 4 (nlN u) g) 30 (nlN u) q1) 20 (nlN u) q2 := ⟨_, rfl⟩
  rw [← hB] at hR1
  obtain ⟨n1, n2, n3⟩ := cLn1_n (u := u) (x := x) (y := y) (f := f) (per := per) (tr := tr) (mb := mb) hn
  have hl := hw.ls (q := 1) (show 1 < 6 + npN u by omega)
  obtain ⟨V, hV⟩ : ∃ z, z = cLn1 u x y f per tr mb := ⟨_, rfl⟩
  have k1 : V 171 = u 171 := by rw [hV]; exact cLn1_k rfl
  have k2 : V 172 = u 172 := by rw [hV]; exact cLn1_k rfl
  have k3 : V 173 = u 173 := by rw [hV]; exact cLn1_k rfl
  have s1 : szN V 1 = szN u 1 := by unfold szN; rw [k1]
  have s2 : capN V 1 = capN u 1 := by unfold capN; rw [k2]
  have hB3 : ∀ K i, K ≠ 8 → K ≠ 4 → K ≠ 30 → K ≠ 20 → B K i = b K i := fun K i a1 a2 a3 a4 => by rw [hB, bup_n (fun z => a4 z.1), bup_n (fun z => a3 z.1), bup_n (fun z => a2 z.1), bup_n (fun z => a1 z.1)]
  have s3 : arrQ E B V 1 = arrQ E b u 1 := by unfold arrQ; rw [s2, hB3 31 1 (by omega) (by omega) (by omega) (by omega)]
  have hs : szN V 1 < 1000 := by rw [s1, hw.sz1]; omega
  have hc2 : cLn u x y f per tr mb = cLs V 1 := by rw [hV]; rfl
  have B8 : B 8 (nlN u) = a := by rw [hB, bup_n (by omega), bup_n (by omega), bup_n (by omega), bup_s]
  rw [← hV] at hR1 n1 n2 n3
  obtain ⟨b', hb', hA⟩ := hR1.addN (q := 1) (a := a) (by omega) (hl.of (by rw [k1]) (by rw [k2])) (by rw [s1, hw.sz1]; exact B8) (by rw [s1, s2, s3, hB3 3 1 (by omega) (by omega) (by omega) (by omega)]; exact hL)
  rw [hc2]
  refine ⟨b', fun K i h31 hk => ?_, ?_, hA⟩
  · rw [hb' K i h31, hB, bup_n (fun z => ?_), bup_n (fun z => ?_), bup_n (fun z => ?_), bup_n (fun z => ?_)]
    · obtain ⟨rfl, rfl⟩ := z; exact Nat.lt_irrefl _ hk
    · obtain ⟨rfl, rfl⟩ := z; exact (by rcases hk with w | w <;> omega)
    · obtain ⟨rfl, rfl⟩ := z; exact (by rcases hk with w | w <;> omega)
    · obtain ⟨rfl, rfl⟩ := z; exact (by rcases hk with w | w | w | w <;> omega)
  · rw [hb' 8 _ (by omega), B8]
theorem room_par {u : MM} (hw : WFc u) {o d : Nat} {vol ser : Int32} (hn : npN u < 40) : Gw u (cPc u o d vol ser) ∧ UC u + aC (szN u 2) (capN u 2) + 4 ≤ UC (cPc u o d vol ser) ∧ US u + aS (szN u 2) (capN u 2) + 100 ≤ US (cPc u o d vol ser) ∧ nhN (cPc u o d vol ser) = nhN u ∧ nlN (cPc u o d vol ser) = nlN u ∧ npN (cPc u o d vol ser) = npN u + 1 := by
  obtain ⟨n1, n2, n3⟩ := cPc0_n (u := u) (o := o) (d := d) (vol := vol) (ser := ser) hn
  have hl := hw.ls (q := 2) (show 2 < 6 + npN u by omega)
  obtain ⟨V, hV⟩ : ∃ z, z = cPc0 u o d vol ser := ⟨_, rfl⟩
  have k1 : V 171 = u 171 := by rw [hV]; exact cPc0_k rfl
  have k2 : V 172 = u 172 := by rw [hV]; exact cPc0_k rfl
  have k3 : V 173 = u 173 := by rw [hV]; exact cPc0_k rfl
  have s1 : szN V 2 = szN u 2 := by unfold szN; rw [k1]
  have s2 : capN V 2 = capN u 2 := by unfold capN; rw [k2]
  have hs : szN V 2 < 1000 := by rw [s1, hw.sz2]; omega
  have hc2 : cPc u o d vol ser = cLs V 2 := by rw [hV]; rfl
  rw [← hV] at n1 n2 n3
  have m1 : nhN (cLs V 2) = nhN u := by rw [nhN_ext (cLs_k (by omega) (by omega)), n1]
  have m2 : nlN (cLs V 2) = nlN u := by rw [nlN_ext (cLs_k (by omega) (by omega)), n2]
  have m3 : npN (cLs V 2) = npN u + 1 := by rw [npN_ext (cLs_k (by omega) (by omega)), n3]
  rw [hc2]
  have gr := grow_room (C := cLs V 2) hl (by omega) (by rw [cLs_cap hs (by rw [s2]; exact hl.2.1), if_pos rfl, s1, s2]) (fun j hj => by rw [cLs_cap hs (by rw [s2]; exact hl.2.1), if_neg hj]; unfold capN; rw [k2]) (by funext p; unfold evN; rw [cLs_k (by omega) (by omega), k3]) (by omega) (by omega) (by omega) (by omega)
  exact ⟨gr.1, gr.2.1, gr.2.2, m1, m2, m3⟩
theorem RC.addPar {E : Nat} {h h' : AH} {b : BA} {u : MM} (hR : RC E h b u) (hw : WFc u) {a g q o d : Nat} {vol ser : Int32} (hn : npN u < 40) (ho : o < nhN u) (hd : d < nhN u)
    (ha : aK h a = 9) (hg : aK h g = 6) (hq : aK h q = 3) (na : ∀ K i, ok u K i → b K i ≠ a) (ng : ∀ K i, ok u K i → b K i ≠ g) (nq : ∀ K i, ok u K i → b K i ≠ q)
    (i0 : aI h 0 a = nI (npN u)) (i1 : aI h 1 a = vol) (i2 : aI h 2 a = ser) (i3 : aI h 3 a = u 41 0) (i13 : aI h 13 a = -1) (r4 : aR h 4 a = some (b 7 o)) (r5 : aR h 5 a = some g) (r6 : aR h 6 a = some (b 7 d)) (r7 : aR h 7 a = some (b 7 o))
    (iz : ∀ j, ¬ (j = 0 ∨ j = 1 ∨ j = 2 ∨ j = 3 ∨ j = 13) → aI h j a = 0) (rz : ∀ j, ¬ (j = 4 ∨ j = 5 ∨ j = 6 ∨ j = 7) → aR h j a = none)
    (g0 : aR h 0 g = some q) (g1 : aI h 1 g = 0) (q2 : aI h 2 q = 0) (q1 : aR h 1 q = some E)
    (hL : Ladd h h' (b 3 2) (arrQ E b u 2) (szN u 2) (capN u 2) (insG h (arrQ E b u 2) a (szN u 2))) : ∃ b', BE u b b' ∧ b' 9 (npN u) = a ∧ RC E h' b' (cPc u o d vol ser) := by
  have hR1 := hR.newParcel hw (vol := vol) (ser := ser) hn ho hd ha hg hq na ng nq i0 i1 i2 i3 i13 r4 r5 r6 r7 iz rz g0 g1 q2 q1
  obtain ⟨B, hB⟩ : ∃ z, z = bup (bup (bup b 9 (npN u) a) 6 (npN u) g) 3 (6 + npN u) q := ⟨_, rfl⟩
  rw [← hB] at hR1
  obtain ⟨n1, n2, n3⟩ := cPc0_n (u := u) (o := o) (d := d) (vol := vol) (ser := ser) hn
  have hl := hw.ls (q := 2) (show 2 < 6 + npN u by omega)
  obtain ⟨V, hV⟩ : ∃ z, z = cPc0 u o d vol ser := ⟨_, rfl⟩
  have k1 : V 171 = u 171 := by rw [hV]; exact cPc0_k rfl
  have k2 : V 172 = u 172 := by rw [hV]; exact cPc0_k rfl
  have k3 : V 173 = u 173 := by rw [hV]; exact cPc0_k rfl
  have s1 : szN V 2 = szN u 2 := by unfold szN; rw [k1]
  have s2 : capN V 2 = capN u 2 := by unfold capN; rw [k2]
  have hB3 : ∀ K i, K ≠ 9 → K ≠ 6 → ¬ (K = 3 ∧ i = 6 + npN u) → B K i = b K i := fun K i a1 a2 a3 => by rw [hB, bup_n a3, bup_n (fun z => a2 z.1), bup_n (fun z => a1 z.1)]
  have s3 : arrQ E B V 2 = arrQ E b u 2 := by unfold arrQ; rw [s2, hB3 31 2 (by omega) (by omega) (by omega)]
  have hs : szN V 2 < 1000 := by rw [s1, hw.sz2]; omega
  have hc2 : cPc u o d vol ser = cLs V 2 := by rw [hV]; rfl
  have B9 : B 9 (npN u) = a := by rw [hB, bup_n (by omega), bup_n (by omega), bup_s]
  rw [← hV] at hR1 n1 n2 n3
  obtain ⟨b', hb', hA⟩ := hR1.addN (q := 2) (a := a) (by omega) (hl.of (by rw [k1]) (by rw [k2])) (by rw [s1, hw.sz2]; exact B9) (by rw [s1, s2, s3, hB3 3 2 (by omega) (by omega) (by omega)]; exact hL)
  rw [hc2]
  refine ⟨b', fun K i h31 hk => ?_, ?_, hA⟩
  · rw [hb' K i h31, hB, bup_n (fun z => ?_), bup_n (fun z => ?_), bup_n (fun z => ?_)]
    · obtain ⟨rfl, rfl⟩ := z; exact Nat.lt_irrefl _ hk
    · obtain ⟨rfl, rfl⟩ := z; exact Nat.lt_irrefl _ hk
    · obtain ⟨rfl, rfl⟩ := z; exact Nat.lt_irrefl _ hk
  · rw [hb' 9 _ (by omega), B9]
set_option maxHeartbeats 800000 in
set_option maxRecDepth 100000 in
theorem cC_X4_setTimes (l : Launch) (G : GT) (A : Nat → Prop) (h : AH) (a : Nat) (f per tr : Int32) (hk : aK h a = 8) : cmV l G A yX4_setTimes cX4_setTimes 4 0 0 0 0 [.ref (a), .int (f), .int (per), .int (tr)] h (fun h' => h' = pI (pI (pI h 5 a f) 6 a per) 7 a tr) := by
  refine cm_of "Routepost$Line" rfl (by decide) (Nat.le_of_ble_eq_true rfl) ?_
  intro pr e s m9 below meth c C0 hr hname hH ls hl
  obtain ⟨hx, hb, hml, hown, hts, hK, hA, -⟩ := id C0
  have hl : lv_has ls 4 [(0, .ref (a)), (1, .int (f)), (2, .int (per)), (3, .int (tr))] := hl
  refine lv_aload_n hx hb dX4_setTimes_0 rfl (lv_at hl 0 rfl) ?_
  refine lv_iload_n hx hb dX4_setTimes_1 rfl (lv_at hl 1 rfl) ?_
  refine o_putI hx hb hts hown hK hH ci_8 hk (j := 5) rfl rfl fl_X4_34 rfl rfl rfl dX4_setTimes_2 (fun H locs hH => ?_)
  obtain ⟨h_1, e_1⟩ : ∃ z, z = pI h 5 a f := ⟨_, rfl⟩
  rw [← e_1] at hH
  have hk : aK h_1 a = 8 := by rw [e_1]; exact hk
  refine lv_aload_n hx hb dX4_setTimes_5 rfl (lv_at hl 0 rfl) ?_
  refine lv_iload_n hx hb dX4_setTimes_6 rfl (lv_at hl 2 rfl) ?_
  refine o_putI hx hb hts hown hK hH ci_8 hk (j := 6) rfl rfl fl_X4_37 rfl rfl rfl dX4_setTimes_7 (fun H locs hH => ?_)
  obtain ⟨h_2, e_2⟩ : ∃ z, z = pI h_1 6 a per := ⟨_, rfl⟩
  rw [← e_2] at hH
  have hk : aK h_2 a = 8 := by rw [e_2]; exact hk
  refine lv_aload_n hx hb dX4_setTimes_10 rfl (lv_at hl 0 rfl) ?_
  refine lv_iload_n hx hb dX4_setTimes_11 rfl (lv_at hl 3 rfl) ?_
  refine o_putI hx hb hts hown hK hH ci_8 hk (j := 7) rfl rfl fl_X4_40 rfl rfl rfl dX4_setTimes_12 (fun H locs hH => ?_)
  obtain ⟨h_3, e_3⟩ : ∃ z, z = pI h_2 7 a tr := ⟨_, rfl⟩
  rw [← e_3] at hH
  have hk : aK h_3 a = 8 := by rw [e_3]; exact hk
  exact e_V C0 hr hH (by rw [e_3, e_2, e_1]) (by omega) (by omega) dX4_setTimes_15

