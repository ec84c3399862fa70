theorem cEv_sz {u : MM} {p : Nat} {L t : Int32} {x : Nat} (hn : szN u (6 + p) < 1024) (q : Nat) : szN (cEv u p L t x) q = if q = 6 + p then szN u (6 + p) + 1 else szN u q := by
  by_cases z : q = 6 + p
  · subst z
    rw [if_pos rfl]
    show (cEv u p L t x 171 (6 + p)).toNatClampNeg = _
    unfold cEv
    rw [if_pos ⟨rfl, rfl⟩, nI_clamp (by omega)]
  · rw [if_neg z]
    show (cEv u p L t x 171 q).toNatClampNeg = (u 171 q).toNatClampNeg
    unfold cEv
    rw [if_neg (fun w => z w.2), if_neg (by omega), cEv1_k (by omega) (by omega) (by omega) (by omega)]
theorem cEv_cap {u : MM} {p : Nat} {L t : Int32} {x : Nat} (hn : szN u (6 + p) < 1024) (hc : capN u (6 + p) < 1600) (q : Nat) : capN (cEv u p L t x) q = if q = 6 + p then ncap (szN u (6 + p)) (capN u (6 + p)) else capN u q := by
  have hl := ncap_lt hn hc
  by_cases z : q = 6 + p
  · subst z
    rw [if_pos rfl]
    show (cEv u p L t x 172 (6 + p)).toNatClampNeg = _
    unfold cEv
    rw [if_neg (by omega), if_pos ⟨rfl, rfl⟩, nI_clamp (by omega)]
  · rw [if_neg z]
    show (cEv u p L t x 172 q).toNatClampNeg = (u 172 q).toNatClampNeg
    unfold cEv
    rw [if_neg (by omega), if_neg (fun w => z w.2), cEv1_k (by omega) (by omega) (by omega) (by omega)]
theorem cEv_ev {u : MM} {p : Nat} {L t : Int32} {x : Nat} (hn : szN u (6 + p) < 1024) (q : Nat) : evN (cEv u p L t x) q = if q = p then szN u (6 + p) + 1 else evN u q := by
  rw [← cEv1_ev (u := u) (L := L) (t := t) (x := x) hn q]
  unfold evN
  rw [show cEv u p L t x 173 q = cEv1 u p (szN u (6 + p)) L t x 173 q by unfold cEv; rw [if_neg (by omega), if_neg (by omega)]]
theorem cEv_n (u : MM) (p : Nat) (L t : Int32) (x : Nat) : nhN (cEv u p L t x) = nhN u ∧ nlN (cEv u p L t x) = nlN u ∧ npN (cEv u p L t x) = npN u := ⟨nhN_ext (cEv_k (by omega) (by omega) (by omega) (by omega) (by omega) (by omega)), nlN_ext (cEv_k (by omega) (by omega) (by omega) (by omega) (by omega) (by omega)), npN_ext (cEv_k (by omega) (by omega) (by omega) (by omega) (by omega) (by omega))⟩
theorem cEv_room {u : MM} (hw : WFc u) {p : Nat} {L t : Int32} {x : Nat} (hp : p < npN u) (hn : szN u (6 + p) < 1024) : Gw u (cEv u p L t x) ∧ UC u + aC (szN u (6 + p)) (capN u (6 + p)) + 1 ≤ UC (cEv u p L t x) ∧ US u + aS (szN u (6 + p)) (capN u (6 + p)) + 3 ≤ US (cEv u p L t x) := by
  have hl := hw.ls (q := 6 + p) (show 6 + p < 6 + npN u by omega)
  have hnp := hw.np
  have hev := (hw.sz6 hp).2
  obtain ⟨r1, r2, r3⟩ := ncap_room hl.1
  obtain ⟨e1, e2, e3⟩ := cEv_n u p L t x
  have ec := cEv_cap (L := L) (t := t) (x := x) hn hl.2.1
  have ee := cEv_ev (L := L) (t := t) (x := x) hn
  have s1 := sumN_pt (f := capN u) (g := capN (cEv u p L t x)) (j := 6 + p) (fun i h => by rw [ec, if_neg h]) (by rw [ec, if_pos rfl]; exact r1) 46
  have s2 := sumN_pt (f := evN u) (g := evN (cEv u p L t x)) (j := p) (fun i h => by rw [ee, if_neg h]) (by rw [ee, if_pos rfl]; omega) 40
  rw [if_pos (by omega), ec, if_pos rfl] at s1
  rw [if_pos (by omega), ee, if_pos rfl] at s2
  refine ⟨⟨fun q => ?_, fun q => ?_, by rw [e1]; exact Nat.le_refl _, by rw [e2]; exact Nat.le_refl _, by rw [e3]; exact Nat.le_refl _⟩, ?_, ?_⟩
  · rw [ec]; split
    · rename_i z; subst z; exact r1
    · exact Nat.le_refl _
  · rw [ee]; split
    · rename_i z; subst z; omega
    · exact Nat.le_refl _
  · unfold UC; rw [s1, s2, e1, e2, e3]; omega
  · unfold US; rw [s1, s2, e1, e2, e3]; omega
theorem RC.addE {E : Nat} {h h' : AH} {b : BA} {u : MM} (hR : RC E h b u) (hw : WFc u) {p a : Nat} {L t : Int32} {x : Nat} (hp : p < npN u) (hn4 : szN u (6 + p) < 1024) (hx : x < nhN u)
    (ha : aK h a = 5) (hne : ∀ K i, ok u K i → b K i ≠ a) (h0 : aI h 0 a = L) (h1 : aI h 1 a = t) (h2 : aR h 2 a = some (b 7 x)) (hL : Ladd h h' (b 3 (6 + p)) (arrQ E b u (6 + p)) (szN u (6 + p)) (capN u (6 + p)) (insG h (arrQ E b u (6 + p)) a (szN u (6 + p)))) : ∃ b', BE u b b' ∧ RC E h' b' (cEv u p L t x) := by
  have hok : ok u 3 (6 + p) := show 6 + p < 6 + npN u by omega
  have hl := hw.ls hok
  obtain ⟨n, hn⟩ : ∃ z, z = szN u (6 + p) := ⟨_, rfl⟩
  have hR1 := hR.newE hw (t := t) (L := L) hp hn (by omega) hx ha hne h0 h1 h2
  obtain ⟨B, hB⟩ : ∃ z, z = bup b 5 (1024 * p + n) a := ⟨_, rfl⟩
  rw [← hB] at hR1
  obtain ⟨V, hV⟩ : ∃ z, z = cEv1 u p n L t x := ⟨_, rfl⟩
  rw [← hV] at hR1
  have hb3 : ∀ K i, K ≠ 5 → B K i = b K i := fun K i h => by rw [hB]; exact bup_n (fun z => h z.1)
  have k1 : V 171 = u 171 := by rw [hV]; exact cEv1_k (by omega) (by omega) (by omega) (by omega)
  have k2 : V 172 = u 172 := by rw [hV]; exact cEv1_k (by omega) (by omega) (by omega) (by omega)
  have k3 : V 36 = u 36 := by rw [hV]; exact cEv1_k (by omega) (by omega) (by omega) (by omega)
  have k4 : V 176 = u 176 := by rw [hV]; exact cEv1_k (by omega) (by omega) (by omega) (by omega)
  have s1 : szN V (6 + p) = szN u (6 + p) := by unfold szN; rw [k1]
  have s2 : capN V (6 + p) = capN u (6 + p) := by unfold capN; rw [k2]
  have s3 : arrQ E B V (6 + p) = arrQ E b u (6 + p) := by unfold arrQ; rw [s2, hb3 31 _ (by omega)]
  have n3 : npN V = npN u := by rw [hV]; exact npN_ext (cEv1_k (by omega) (by omega) (by omega) (by omega))
  have hel : ∀ c k, elI c (6 + p) k = 1024 * p + k := fun c k => by unfold elI; rw [if_neg (by omega), if_neg (by omega), if_neg (by omega), show 6 + p - 6 = p by omega]
  have hek : elK (6 + p) = 5 := by rcases elK_cases (6 + p) with ⟨e, z⟩ | ⟨e, z⟩ | ⟨e, z⟩ | ⟨e, z⟩ | ⟨e, z⟩ <;> first | exact e | omega
  have hnot : ∀ k, k < n → ¬ 1024 * p + k = 1024 * p + n := fun k z => by omega
  have hL' : Ladd h h' (B 3 (6 + p)) (arrQ E B V (6 + p)) (szN V (6 + p)) (capN V (6 + p)) (insG h (arrQ E b u (6 + p)) a (szN u (6 + p))) := by
    rw [s1, s2, s3, hb3 3 _ (by omega)]; exact hL
  have hls : LSw V (6 + p) := by
    show _ ∧ _ ∧ _ ∧ _
    rw [s1, s2, k1, k2]; exact hl
  have g1 : ∀ k, k < szN V (6 + p) + 1 → insG h (arrQ E b u (6 + p)) a (szN u (6 + p)) k = some (B (elK (6 + p)) (elI (cEv u p L t x) (6 + p) k)) := by
    intro k hk
    rw [hel, hek, hB]
    unfold insG
    by_cases z : k < szN u (6 + p)
    · rw [if_pos z, bup_n (fun w => hnot k (by omega) w.2)]
      have := ((hR.ls hok).2 (by omega)).2.2 k z
      rw [hel, hek] at this
      unfold arrQ
      rw [if_neg (by omega)]
      exact this
    · have e : k = szN u (6 + p) := by omega
      rw [if_neg z, if_pos e, e, ← hn, bup_s]
  have g2 : ∀ k j, ¬ ((k = 171 ∨ k = 172) ∧ j = 6 + p) → k ≠ 36 → k ≠ 176 → cEv u p L t x k j = V k j := by
    intro k j z _ _
    unfold cEv
    rw [if_neg (fun w => z ⟨Or.inl w.1, w.2⟩), if_neg (fun w => z ⟨Or.inr w.1, w.2⟩), hV, hn]
  have g3 : ∀ q' k, q' ≠ 6 + p → elI (cEv u p L t x) q' k = elI V q' k := by
    intro q' k _
    unfold elI
    rw [k3, k4, cEv_k (k := 36) (by omega) (by omega) (by omega) (by omega) (by omega) (by omega), cEv_k (k := 176) (by omega) (by omega) (by omega) (by omega) (by omega) (by omega)]
  obtain ⟨arr', hA⟩ := hR1.ladd (c' := cEv u p L t x) (q := 6 + p) hls (by show 6 + p < 6 + npN V; omega) hL' (by rw [s1]; unfold cEv; rw [if_pos ⟨rfl, rfl⟩]) (by rw [s1, s2]; unfold cEv; rw [if_neg (by omega), if_pos ⟨rfl, rfl⟩]) g1 g2 g3
  refine ⟨_, fun K i h31 hk => ?_, hA⟩
  rw [bup_n (fun z => h31 z.1), hB]
  refine bup_n (fun z => ?_)
  obtain ⟨rfl, rfl⟩ := z
  have z2 : _ < npN u ∧ _ < evN u _ := hk
  have hev := (hw.sz6 hp).2
  rw [show (1024 * p + n) / 1024 = p by omega, show (1024 * p + n) % 1024 = n by omega] at z2
  omega

