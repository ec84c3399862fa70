/-! the class as it is made -/
def c0 : MM := fun k i => if rfT k ≠ 0 then -1 else if k = 171 ∧ i = 5 then 266 else 0
def c00 (cap : Nat) : MM := up c0 172 5 (nI cap)
/-- since g nothing of what was there has changed but the thing at a -/
def SXo (a : Nat) (g g' : AH) : Prop := SameX g g' (fun y => y = a ∨ aK g y = 0)
theorem SXo.refl (a : Nat) (g : AH) : SXo a g g := SameX.refl _ _
theorem SXo.trans {a : Nat} {g g' g'' : AH} (x : SXo a g g') (y : SXo a g' g'') : SXo a g g'' := fun z hz => by
  obtain ⟨x1, x2, x3, x4⟩ := x z hz
  obtain ⟨y1, y2, y3, y4⟩ := y z (fun w => w.elim (fun v => hz (Or.inl v)) (fun v => hz (Or.inr (by rw [← x1]; exact v))))
  exact ⟨y1.trans x1, fun j => (y2 j).trans (x2 j), fun j => (y3 j).trans (x3 j), y4.trans x4⟩
theorem SXo.pn {a q K n : Nat} {g : AH} (hq : aK g q = 0) : SXo a g (pN g q K n) := (SameX.pN g q K n).mono (fun y hy => Or.inr (by rw [show y = q from hy]; exact hq))
theorem SXo.pr {a j : Nat} {g : AH} {x : Option Nat} : SXo a g (pR g j a x) := (SameX.pR g j a x).mono (fun y hy => Or.inl hy)
theorem SXo.pi {a j : Nat} {g : AH} {x : Int32} : SXo a g (pI g j a x) := (SameX.pI g j a x).mono (fun y hy => Or.inl hy)
/-- a thing q comes in, and its constructor runs -/
theorem SXo.nw {a q K : Nat} {g g' : AH} {P : Nat → Prop} (hq : aK g q = 0) (h : SameX (pN g q K 0) g' P) (hP : ∀ y, P y → y = q ∨ aK (pN g q K 0) y = 0) : SXo a g g' := fun y hy => by
  have hyq : y ≠ q := fun z => hy (Or.inr (by rw [z]; exact hq))
  obtain ⟨x1, x2, x3, x4⟩ := h y (fun w => (hP y w).elim hyq (fun v => hy (Or.inr (by rw [aK_pN, if_neg hyq] at v; exact v))))
  exact ⟨by rw [x1, aK_pN, if_neg hyq], fun j => by rw [x2, aI_pN, if_neg hyq], fun j => by rw [x3, aR_pN, if_neg hyq], by rw [x4, aN_pN, if_neg hyq]⟩
/-- all that is known of a fresh Routepost -/
def NewRP (E : Nat) (h : AH) (a : Nat) : Prop := ∃ (q : Nat → Nat) (g g1 g2 s t m s1 s2 e0 : Nat) (f : Nat → Nat) (cap arr : Nat),
  (aK h a = 14 ∧ (∀ i, i < 5 → aR h i a = some (q i)) ∧ aR h 5 a = some g ∧ aR h 6 a = some s ∧ aR h 7 a = some t ∧ aR h 8 a = some m ∧ aI h 9 a = 0) ∧
  (∀ i, i < 5 → aK h (q i) = 3 ∧ aI h 2 (q i) = 0 ∧ aR h 1 (q i) = some E) ∧ (aK h g = 4 ∧ aR h 0 g = some g1 ∧ aR h 1 g = some g2 ∧ aI h 2 g = 0) ∧ (aK h g1 = 30 ∧ aN h g1 = 40 ∧ ∀ k, aR h k g1 = none) ∧ (aK h g2 = 20 ∧ aN h g2 = 40 ∧ ∀ k, aI h k g2 = 0) ∧
  (aK h s = 11 ∧ aR h 0 s = some (q 5) ∧ aR h 1 s = some (f 0) ∧ aI h 2 s = 0) ∧ (aK h (q 5) = 3 ∧ aI h 2 (q 5) = nI 266 ∧ aR h 1 (q 5) = some arr) ∧ (aK h arr = 31 ∧ aN h arr = cap ∧ 266 ≤ cap ∧ cap < 1600 ∧ ∀ k, k < 266 → aR h k arr = some (f k)) ∧
  (∀ k, k < 266 → aK h (f k) = 10 ∧ (∀ j, aI h j (f k) = 0) ∧ ∀ j, aR h j (f k) = none) ∧ (aK h t = 12 ∧ (∀ j, aI h j t = 0) ∧ ∀ j, aR h j t = none) ∧ (aK h m = 13 ∧ aR h 0 m = some s1 ∧ aR h 1 m = some s2) ∧
  (aK h s1 = 20 ∧ aN h s1 = 6 ∧ ∀ k, aI h k s1 = 0) ∧ (aK h s2 = 20 ∧ aN h s2 = 6 ∧ ∀ k, aI h k s2 = 0) ∧ (∀ i j, i < 6 → j < 6 → q i = q j → i = j) ∧ (g2 ≠ s1 ∧ g2 ≠ s2 ∧ s1 ≠ s2) ∧ ∀ k k', k < 266 → k' < 266 → f k = f k' → k = k'
def bN (a : Nat) (q : Nat → Nat) (g g1 g2 s t m s1 s2 : Nat) (f : Nat → Nat) (arr : Nat) : BA := fun K i => match K with
  | 3 => q i
  | 4 => g
  | 10 => f i
  | 11 => s
  | 12 => t
  | 13 => m
  | 14 => a
  | 20 => if i = 12 then g2 else if i = 13 then s1 else s2
  | 30 => g1
  | 31 => arr
  | _ => 0
theorem c0_rf {k : Nat} (h : rfT k ≠ 0) (cap i : Nat) : c00 cap k i = -1 := by
  unfold c00
  rw [up_k (fun z => h (by rw [z]; rfl))]
  exact if_pos h
theorem c0_z {k : Nat} (h : rfT k = 0) (h2 : k ≠ 171) (h3 : k ≠ 172) (cap i : Nat) : c00 cap k i = 0 := by
  unfold c00
  rw [up_k h3]
  exact (if_neg (fun z => z h)).trans (if_neg (fun z => h2 z.1))
theorem c0_171 (cap i : Nat) : c00 cap 171 i = if i = 5 then 266 else 0 := by
  unfold c00
  rw [up_k (by omega)]
  show (if rfT 171 ≠ 0 then (-1 : Int32) else if 171 = 171 ∧ i = 5 then 266 else 0) = _
  rw [if_neg (fun z => z rfl)]
  by_cases w : i = 5
  · rw [if_pos ⟨rfl, w⟩, if_pos w]
  · rw [if_neg (fun z => w z.2), if_neg w]
theorem c0_172 (cap i : Nat) : c00 cap 172 i = if i = 5 then nI cap else 0 := by
  unfold c00
  by_cases w : i = 5
  · rw [if_pos w, w, up_s]
  · rw [if_neg w, up_i w]
    show (if rfT 172 ≠ 0 then (-1 : Int32) else if 172 = 171 ∧ i = 5 then 266 else 0) = _
    rw [if_neg (fun z => z rfl), if_neg (by omega)]
theorem c0_n (cap : Nat) : nhN (c00 cap) = 0 ∧ nlN (c00 cap) = 0 ∧ npN (c00 cap) = 0 := by
  refine ⟨?_, ?_, ?_⟩
  · unfold nhN; rw [c0_z rfl (by omega) (by omega)]; rfl
  · unfold nlN; rw [c0_z rfl (by omega) (by omega)]; rfl
  · unfold npN; rw [c0_z rfl (by omega) (by omega)]; rfl
theorem c0_sz (cap i : Nat) : szN (c00 cap) i = if i = 5 then 266 else 0 := by
  unfold szN
  rw [c0_171]
  split <;> rfl
theorem c0_cap {cap : Nat} (hc : cap < 1600) (i : Nat) : capN (c00 cap) i = if i = 5 then cap else 0 := by
  unfold capN
  rw [c0_172]
  split
  · rw [nI_clamp (by omega)]
  · rfl
theorem c0_ev (cap p : Nat) : evN (c00 cap) p = 0 := by unfold evN; rw [c0_z rfl (by omega) (by omega)]; rfl
theorem c0_ok {cap K i : Nat} (hc : cap < 1600) (h : ok (c00 cap) K i) : (K = 3 ∧ i < 6) ∨ (K = 4 ∧ i = 12) ∨ (K = 10 ∧ i < 266) ∨ ((K = 11 ∨ K = 12 ∨ K = 13 ∨ K = 14) ∧ i = 0) ∨ (K = 20 ∧ (i = 12 ∨ i = 13 ∨ i = 14)) ∨ (K = 30 ∧ i = 12) ∨ (K = 31 ∧ i = 5) := by
  obtain ⟨n1, n2, n3⟩ := c0_n cap
  unfold ok at h
  split at h
  · rw [n3] at h; omega
  · rw [n2] at h; omega
  · rw [n3] at h; omega
  · rw [n3] at h; omega
  · rw [n1] at h; omega
  · rw [n2] at h; omega
  · rw [n3] at h; omega
  · omega
  · omega
  · omega
  · omega
  · omega
  · rw [n2] at h; omega
  · rw [n2] at h; omega
  · rw [n3, c0_cap hc] at h
    by_cases w : i = 5
    · omega
    · rw [if_neg w] at h; omega
  · exact absurd h (fun z => z)
theorem WFc.c0 {cap : Nat} (h1 : 266 ≤ cap) (hc : cap < 1600) : WFc (c00 cap) := by
  obtain ⟨n1, n2, n3⟩ := c0_n cap
  refine ⟨by rw [n1, n2, n3]; decide, fun q hq => ?_, ⟨⟨by rw [c0_sz]; rfl, by rw [c0_z rfl (by omega) (by omega), c0_171]; rfl, by rw [c0_z rfl (by omega) (by omega), c0_171]; rfl, by rw [c0_z rfl (by omega) (by omega), c0_171]; rfl⟩, fun p => ⟨fun hp => by rw [n3] at hp; omega, fun _ => ⟨by rw [c0_171, if_neg (by omega)], by rw [c0_172, if_neg (by omega)], c0_z rfl (by omega) (by omega) _ _⟩⟩⟩, fun k hk i => Or.inl (c0_rf hk _ _), fun l hl => by rw [n2] at hl; omega, fun p hp => by rw [n3] at hp; omega, fun e he => ?_, fun k hk => ?_, fun k hk => ?_⟩
  · show _ ∧ _ ∧ _ ∧ _
    rw [c0_sz, c0_cap hc, c0_171, c0_172]
    by_cases w : q = 5
    · rw [if_pos w, if_pos w, if_pos w, if_pos w]; exact ⟨h1, hc, rfl, rfl⟩
    · rw [if_neg w, if_neg w, if_neg w, if_neg w]; exact ⟨Nat.le_refl _, by decide, rfl, rfl⟩
  · have he2 : e / 1024 < npN (c00 cap) ∧ _ := he
    rw [n3] at he2; omega
  · rw [c0_sz, if_neg (by omega)] at hk; omega
  · rw [c0_sz, if_neg (by omega)] at hk; omega
theorem RC.c0 {E : Nat} {h : AH} {a : Nat} (hN : NewRP E h a) : ∃ b cap, b 14 0 = a ∧ RC E h b (c00 cap) ∧ WFc (c00 cap) := by
  obtain ⟨q, g, g1, g2, s, t, m, s1, s2, e0, f, cap, arr, ⟨a1, a2, a3, a4, a5, a6, a7⟩, hq, ⟨b1, b2, b3, b4⟩, ⟨d1, d2, d3⟩, ⟨v1, v2, v3⟩, ⟨k1, k2, k3, k4⟩, ⟨l1, l2, l3⟩, ⟨r1, r2, r3, r4, r5⟩, hf, ⟨t1, t2, t3⟩, ⟨m1, m2, m3⟩, ⟨x1, x2, x3⟩, ⟨y1, y2, y3⟩, hqi, ⟨i1, i2, i3⟩, hfi⟩ := hN
  refine ⟨bN a q g g1 g2 s t m s1 s2 f arr, cap, rfl, ?_, WFc.c0 r3 r4⟩
  have hqk : ∀ i, i < 6 → aK h (q i) = 3 := fun i hi => by
    by_cases z : i = 5
    · subst z; exact l1
    · exact (hq i (by omega)).1
  refine ⟨fun K i hk => ?_, fun K i i' hk hk' e => ?_, fun K i j hK hk hj h8 => ?_, fun K i j hK hk hj h3 => ?_, fun p hp => ?_, fun i hi => ?_, fun i hi => ?_⟩
  · rcases c0_ok r4 hk with ⟨rfl, z⟩ | ⟨rfl, rfl⟩ | ⟨rfl, z⟩ | ⟨rfl | rfl | rfl | rfl, rfl⟩ | ⟨rfl, rfl | rfl | rfl⟩ | ⟨rfl, rfl⟩ | ⟨rfl, rfl⟩
    · exact hqk i z
    · exact b1
    · exact (hf i z).1
    · exact k1
    · exact t1
    · exact m1
    · exact a1
    · exact v1
    · exact x1
    · exact y1
    · exact d1
    · exact r1
  · rcases c0_ok r4 hk with ⟨rfl, z⟩ | ⟨rfl, rfl⟩ | ⟨rfl, z⟩ | ⟨rfl | rfl | rfl | rfl, rfl⟩ | ⟨rfl, rfl | rfl | rfl⟩ | ⟨rfl, rfl⟩ | ⟨rfl, rfl⟩ <;> rcases c0_ok r4 hk' with ⟨w1, w2⟩ | ⟨w1, w2⟩ | ⟨w1, w2⟩ | ⟨w1 | w1 | w1 | w1, w2⟩ | ⟨w1, w2 | w2 | w2⟩ | ⟨w1, w2⟩ | ⟨w1, w2⟩ <;> first
      | (exfalso; omega)
      | exact w2.symm
      | exact hqi i i' z w2 e
      | exact hfi i i' z w2 e
      | (subst w2; exact absurd e i1)
      | (subst w2; exact absurd e i2)
      | (subst w2; exact absurd e i3)
      | (subst w2; exact absurd e.symm i1)
      | (subst w2; exact absurd e.symm i2)
      | (subst w2; exact absurd e.symm i3)
  · rcases c0_ok r4 hk with ⟨rfl, z⟩ | ⟨rfl, rfl⟩ | ⟨rfl, z⟩ | ⟨rfl | rfl | rfl | rfl, rfl⟩ | ⟨rfl, z⟩ | ⟨rfl, rfl⟩ | ⟨rfl, rfl⟩
    · have hj3 : j < 3 := (List.getElem?_eq_some_iff.mp hj).1
      rcases (by omega : j = 0 ∨ j = 1 ∨ j = 2) with rfl | rfl | rfl
      · exact absurd rfl h8
      · exact absurd hj (by decide)
      · show aI h 2 (q i) = c00 cap 171 i
        rw [c0_171]
        by_cases w : i = 5
        · subst w; rw [if_pos rfl]; exact l2
        · rw [if_neg w]; exact (hq i (by omega)).2.1
    · have hj3 : j < 3 := (List.getElem?_eq_some_iff.mp hj).1
      rcases (by omega : j = 0 ∨ j = 1 ∨ j = 2) with rfl | rfl | rfl
      · exact absurd hj (by decide)
      · exact absurd hj (by decide)
      · show aI h 2 g = c00 cap 8 12
        rw [c0_z rfl (by omega) (by omega)]; exact b4
    · have hj3 : j < 7 := (List.getElem?_eq_some_iff.mp hj).1
      have hz := (hf i z).2.1 j
      rcases (by omega : j = 0 ∨ j = 1 ∨ j = 2 ∨ j = 3 ∨ j = 4 ∨ j = 5 ∨ j = 6) with rfl | rfl | rfl | rfl | rfl | rfl | rfl
      · exact absurd hj (by decide)
      · exact absurd hj (by decide)
      · show aI h 2 (f i) = c00 cap 132 i; rw [c0_z rfl (by omega) (by omega)]; exact hz
      · show aI h 3 (f i) = c00 cap 133 i; rw [c0_z rfl (by omega) (by omega)]; exact hz
      · show aI h 4 (f i) = c00 cap 134 i; rw [c0_z rfl (by omega) (by omega)]; exact hz
      · show aI h 5 (f i) = c00 cap 135 i; rw [c0_z rfl (by omega) (by omega)]; exact hz
      · show aI h 6 (f i) = c00 cap 136 i; rw [c0_z rfl (by omega) (by omega)]; exact hz
    · have hj3 : j < 3 := (List.getElem?_eq_some_iff.mp hj).1
      rcases (by omega : j = 0 ∨ j = 1 ∨ j = 2) with rfl | rfl | rfl
      · exact absurd hj (by decide)
      · exact absurd hj (by decide)
      · show aI h 2 s = c00 cap 140 0; rw [c0_z rfl (by omega) (by omega)]; exact k4
    · have hj3 : j < 5 := (List.getElem?_eq_some_iff.mp hj).1
      have hz := t2 j
      rcases (by omega : j = 0 ∨ j = 1 ∨ j = 2 ∨ j = 3 ∨ j = 4) with rfl | rfl | rfl | rfl | rfl
      · exact absurd hj (by decide)
      · exact absurd hj (by decide)
      · show aI h 2 t = c00 cap 152 0; rw [c0_z rfl (by omega) (by omega)]; exact hz
      · show aI h 3 t = c00 cap 153 0; rw [c0_z rfl (by omega) (by omega)]; exact hz
      · exact absurd hj (by decide)
    · have hj3 : j < 2 := (List.getElem?_eq_some_iff.mp hj).1
      rcases (by omega : j = 0 ∨ j = 1) with rfl | rfl <;> exact absurd hj (by decide)
    · have hj3 : j < 10 := (List.getElem?_eq_some_iff.mp hj).1
      rcases (by omega : j = 0 ∨ j = 1 ∨ j = 2 ∨ j = 3 ∨ j = 4 ∨ j = 5 ∨ j = 6 ∨ j = 7 ∨ j = 8 ∨ j = 9) with rfl | rfl | rfl | rfl | rfl | rfl | rfl | rfl | rfl | rfl
      · exact absurd hj (by decide)
      · exact absurd hj (by decide)
      · exact absurd hj (by decide)
      · exact absurd hj (by decide)
      · exact absurd hj (by decide)
      · exact absurd hj (by decide)
      · exact absurd hj (by decide)
      · exact absurd hj (by decide)
      · exact absurd hj (by decide)
      · show aI h 9 a = c00 cap 41 0; rw [c0_z rfl (by omega) (by omega)]; exact a7
    · omega
    · omega
    · omega
  · rcases c0_ok r4 hk with ⟨rfl, z⟩ | ⟨rfl, rfl⟩ | ⟨rfl, z⟩ | ⟨rfl | rfl | rfl | rfl, rfl⟩ | ⟨rfl, z⟩ | ⟨rfl, rfl⟩ | ⟨rfl, rfl⟩
    · exact absurd rfl h3
    · have hj3 : j < 3 := (List.getElem?_eq_some_iff.mp hj).1
      rcases (by omega : j = 0 ∨ j = 1 ∨ j = 2) with rfl | rfl | rfl
      · exact b2
      · exact b3
      · exact absurd hj (by decide)
    · have hj3 : j < 7 := (List.getElem?_eq_some_iff.mp hj).1
      have hz := (hf i z).2.2 j
      rcases (by omega : j = 0 ∨ j = 1 ∨ j = 2 ∨ j = 3 ∨ j = 4 ∨ j = 5 ∨ j = 6) with rfl | rfl | rfl | rfl | rfl | rfl | rfl
      · show aR h 0 (f i) = dec (bN a q g g1 g2 s t m s1 s2 f arr) 7 (c00 cap 130 i); rw [c0_rf (by decide), dec_m1]; exact hz
      · show aR h 1 (f i) = dec (bN a q g g1 g2 s t m s1 s2 f arr) 8 (c00 cap 131 i); rw [c0_rf (by decide), dec_m1]; exact hz
      · exact absurd hj (by decide)
      · exact absurd hj (by decide)
      · exact absurd hj (by decide)
      · exact absurd hj (by decide)
      · exact absurd hj (by decide)
    · have hj3 : j < 3 := (List.getElem?_eq_some_iff.mp hj).1
      rcases (by omega : j = 0 ∨ j = 1 ∨ j = 2) with rfl | rfl | rfl
      · exact k2
      · exact k3
      · exact absurd hj (by decide)
    · have hj3 : j < 5 := (List.getElem?_eq_some_iff.mp hj).1
      have hz := t3 j
      rcases (by omega : j = 0 ∨ j = 1 ∨ j = 2 ∨ j = 3 ∨ j = 4) with rfl | rfl | rfl | rfl | rfl
      · show aR h 0 t = dec (bN a q g g1 g2 s t m s1 s2 f arr) 7 (c00 cap 150 0); rw [c0_rf (by decide), dec_m1]; exact hz
      · show aR h 1 t = dec (bN a q g g1 g2 s t m s1 s2 f arr) 8 (c00 cap 151 0); rw [c0_rf (by decide), dec_m1]; exact hz
      · exact absurd hj (by decide)
      · exact absurd hj (by decide)
      · show aR h 4 t = dec (bN a q g g1 g2 s t m s1 s2 f arr) 8 (c00 cap 154 0); rw [c0_rf (by decide), dec_m1]; exact hz
    · have hj3 : j < 2 := (List.getElem?_eq_some_iff.mp hj).1
      rcases (by omega : j = 0 ∨ j = 1) with rfl | rfl
      · exact m2
      · exact m3
    · have hj3 : j < 10 := (List.getElem?_eq_some_iff.mp hj).1
      rcases (by omega : j = 0 ∨ j = 1 ∨ j = 2 ∨ j = 3 ∨ j = 4 ∨ j = 5 ∨ j = 6 ∨ j = 7 ∨ j = 8 ∨ j = 9) with rfl | rfl | rfl | rfl | rfl | rfl | rfl | rfl | rfl | rfl
      · exact a2 0 (by omega)
      · exact a2 1 (by omega)
      · exact a2 2 (by omega)
      · exact a2 3 (by omega)
      · exact a2 4 (by omega)
      · exact a3
      · exact a4
      · exact a5
      · exact a6
      · exact absurd hj (by decide)
    · omega
    · omega
    · omega
  · have hp6 : p < 6 := by have : p < 6 + npN (c00 cap) := hp; rw [(c0_n cap).2.2] at this; exact this
    unfold LSo
    rw [c0_cap r4, c0_sz]
    by_cases w : p = 5
    · subst w
      rw [if_pos rfl, if_pos rfl]
      refine ⟨fun z => by omega, fun _ => ⟨l3, r2, fun k hk => ?_⟩⟩
      show aR h k arr = some (f (elI (c00 cap) 5 k))
      rw [show elI (c00 cap) 5 k = k from rfl]
      exact r5 k hk
    · rw [if_neg w, if_neg w]
      exact ⟨fun _ => (hq p (by omega)).2.2, fun z => by omega⟩
  · have hi2 := c0_ok r4 hi
    rcases (by omega : i = 12 ∨ i = 13 ∨ i = 14) with rfl | rfl | rfl
    · exact ⟨v2, fun k _ => by show aI h k g2 = c00 cap 10 (40 * 12 + k); rw [c0_z rfl (by omega) (by omega)]; exact v3 k⟩
    · exact ⟨x2, fun k _ => by show aI h k s1 = c00 cap 160 k; rw [c0_z rfl (by omega) (by omega)]; exact x3 k⟩
    · exact ⟨y2, fun k _ => by show aI h k s2 = c00 cap 161 k; rw [c0_z rfl (by omega) (by omega)]; exact y3 k⟩
  · have hi2 := c0_ok r4 hi
    have e : i = 12 := by omega
    subst e
    exact ⟨d2, fun k _ => by show aR h k g1 = dec (bN a q g g1 g2 s t m s1 s2 f arr) 7 (c00 cap 111 (40 * 12 + k)); rw [c0_rf (by decide), dec_m1]; exact d3 k⟩

