/-! THE CLASS's state: the same form as the reference's (key, index), the reference's keys where the meaning is the same.
Kinds 3 .. 14: objects; 20: rows of numbers; 30: rows of hubs; 31: rows of lists. b K i: the address of the i-th thing of kind K.
Lists: 0 hubs, 1 lines, 2 parcels, 3 queue, 4 leftBehind, 5 paths, 6 + p the events of parcel p (the j-th is event 1024 p + j). Bags: l of line l, 12 the loose ones. -/
def kyI (K j : Nat) : Nat := match K, j with
  | 3, 0 => 998
  | 3, 2 => 171
  | 4, 2 => 8
  | 5, 0 => 120
  | 5, 1 => 121
  | 6, 1 => 27
  | 7, 1 => 0
  | 7, 2 => 1
  | 8, 3 => 7
  | 8, 5 => 4
  | 8, 6 => 5
  | 8, 7 => 6
  | 8, 8 => 108
  | 9, 1 => 11
  | 9, 2 => 12
  | 9, 3 => 25
  | 9, 8 => 28
  | 9, 11 => 17
  | 9, 12 => 18
  | 9, 13 => 21
  | 9, 14 => 26
  | 9, 15 => 20
  | 9, 16 => 22
  | 9, 17 => 23
  | 9, 18 => 24
  | 9, 19 => 29
  | 10, 2 => 132
  | 10, 3 => 133
  | 10, 4 => 134
  | 10, 5 => 135
  | 10, 6 => 136
  | 11, 2 => 140
  | 12, 2 => 152
  | 12, 3 => 153
  | 14, 9 => 41
  | _, _ => 999
def kyR (K j : Nat) : Nat := match K, j with
  | 5, 2 => 122
  | 8, 1 => 2
  | 8, 2 => 3
  | 9, 4 => 13
  | 9, 6 => 14
  | 9, 7 => 15
  | 9, 9 => 116
  | 9, 10 => 19
  | 10, 0 => 130
  | 10, 1 => 131
  | 12, 0 => 150
  | 12, 1 => 151
  | 12, 4 => 154
  | _, _ => 999
/-- the kind to which a reference key points -/
def rfT (k : Nat) : Nat := match k with
  | 2 => 7
  | 3 => 7
  | 13 => 7
  | 14 => 7
  | 15 => 7
  | 111 => 7
  | 122 => 7
  | 130 => 7
  | 150 => 7
  | 19 => 8
  | 116 => 8
  | 131 => 8
  | 151 => 8
  | 154 => 8
  | _ => 0
def stR (K j i : Nat) : Nat × Nat := match K, j with
  | 4, 0 => (30, i)
  | 4, 1 => (20, i)
  | 6, 0 => (3, 6 + i)
  | 8, 4 => (4, i)
  | 9, 5 => (6, i)
  | 11, 0 => (3, 5)
  | 11, 1 => (10, 0)
  | 13, 0 => (20, 13)
  | 13, 1 => (20, 14)
  | 14, 0 => (3, 0)
  | 14, 1 => (3, 1)
  | 14, 2 => (3, 2)
  | 14, 3 => (3, 3)
  | 14, 4 => (3, 4)
  | 14, 5 => (4, 12)
  | 14, 6 => (11, 0)
  | 14, 7 => (12, 0)
  | 14, 8 => (13, 0)
  | _, _ => (0, 0)
abbrev BA : Type := Nat → Nat → Nat
def dec (b : BA) (T : Nat) (x : Int32) : Option Nat := if x < 0 then none else some (b T x.toNatClampNeg)
def szN (c : MM) (q : Nat) : Nat := (c 171 q).toNatClampNeg
def evN (c : MM) (p : Nat) : Nat := (c 173 p).toNatClampNeg
def capN (c : MM) (q : Nat) : Nat := (c 172 q).toNatClampNeg
def cnt (c : MM) (T : Nat) : Nat := match T with
  | 7 => nhN c
  | 8 => nlN c
  | _ => npN c
def cI (c : MM) (K j i : Nat) : Int32 := if kyI K j = 999 then nI i else c (kyI K j) i
def cR (b : BA) (c : MM) (K j i : Nat) : Option Nat := if kyR K j = 999 then some (b (stR K j i).1 (stR K j i).2) else dec b (rfT (kyR K j)) (c (kyR K j) i)
def ok (c : MM) (K i : Nat) : Prop := match K with
  | 3 => i < 6 + npN c
  | 4 => i < nlN c ∨ i = 12
  | 5 => i / 1024 < npN c ∧ i % 1024 < evN c (i / 1024)
  | 6 => i < npN c
  | 7 => i < nhN c
  | 8 => i < nlN c
  | 9 => i < npN c
  | 10 => i < 266
  | 11 => i = 0
  | 12 => i = 0
  | 13 => i = 0
  | 14 => i = 0
  | 20 => i < nlN c ∨ i = 12 ∨ i = 13 ∨ i = 14
  | 30 => i < nlN c ∨ i = 12
  | 31 => i < 6 + npN c ∧ 0 < capN c i
  | _ => False
def elK (q : Nat) : Nat := if q = 0 then 7 else if q = 1 then 8 else if q < 5 then 9 else if q = 5 then 10 else 5
def elI (c : MM) (q k : Nat) : Nat := if q = 3 then (c 36 k).toNatClampNeg else if q = 4 then (c 176 k).toNatClampNeg else if q < 6 then k else 1024 * (q - 6) + k
def len20 (i : Nat) : Nat := if i < 13 then 40 else 6
def c20 (c : MM) (i k : Nat) : Int32 := if i < 13 then c 10 (40 * i + k) else if i = 13 then c 160 k else c 161 k
def LSo (E : Nat) (h : AH) (b : BA) (c : MM) (q : Nat) : Prop :=
  (capN c q = 0 → aR h 1 (b 3 q) = some E) ∧ (0 < capN c q → aR h 1 (b 3 q) = some (b 31 q) ∧ aN h (b 31 q) = capN c q ∧ ∀ k, k < szN c q → aR h k (b 31 q) = some (b (elK q) (elI c q k)))
def RC (E : Nat) (h : AH) (b : BA) (c : MM) : Prop :=
  (∀ K i, ok c K i → aK h (b K i) = K) ∧ (∀ K i i', ok c K i → ok c K i' → b K i = b K i' → i = i') ∧
  (∀ K i j, K < 20 → ok c K i → (tyl K)[j]? = some false → kyI K j ≠ 998 → aI h j (b K i) = cI c K j i) ∧
  (∀ K i j, K < 20 → ok c K i → (tyl K)[j]? = some true → K ≠ 3 → aR h j (b K i) = cR b c K j i) ∧
  (∀ q, ok c 3 q → LSo E h b c q) ∧
  (∀ i, ok c 20 i → aN h (b 20 i) = len20 i ∧ ∀ k, k < len20 i → aI h k (b 20 i) = c20 c i k) ∧
  (∀ i, ok c 4 i → aN h (b 30 i) = len20 i ∧ ∀ k, k < len20 i → aR h k (b 30 i) = dec b 7 (c 111 (40 * i + k)))
theorem RC.kind {E : Nat} {h : AH} {b : BA} {c : MM} (hR : RC E h b c) {K i : Nat} (hk : ok c K i) : aK h (b K i) = K := hR.1 K i hk
theorem RC.inj {E : Nat} {h : AH} {b : BA} {c : MM} (hR : RC E h b c) {K i i' : Nat} (h1 : ok c K i) (h2 : ok c K i') (e : b K i = b K i') : i = i' := hR.2.1 K i i' h1 h2 e
theorem RC.fI {E : Nat} {h : AH} {b : BA} {c : MM} (hR : RC E h b c) {K i j : Nat} (hK : K < 20) (hk : ok c K i) (hj : (tyl K)[j]? = some false) (h8 : kyI K j ≠ 998) : aI h j (b K i) = cI c K j i := hR.2.2.1 K i j hK hk hj h8
theorem RC.fR {E : Nat} {h : AH} {b : BA} {c : MM} (hR : RC E h b c) {K i j : Nat} (hK : K < 20) (hk : ok c K i) (hj : (tyl K)[j]? = some true) (h3 : K ≠ 3) : aR h j (b K i) = cR b c K j i := hR.2.2.2.1 K i j hK hk hj h3
theorem RC.ls {E : Nat} {h : AH} {b : BA} {c : MM} (hR : RC E h b c) {q : Nat} (hq : ok c 3 q) : LSo E h b c q := hR.2.2.2.2.1 q hq
theorem RC.a20 {E : Nat} {h : AH} {b : BA} {c : MM} (hR : RC E h b c) {i : Nat} (hi : ok c 20 i) : aN h (b 20 i) = len20 i ∧ ∀ k, k < len20 i → aI h k (b 20 i) = c20 c i k := hR.2.2.2.2.2.1 i hi
theorem RC.a30 {E : Nat} {h : AH} {b : BA} {c : MM} (hR : RC E h b c) {i : Nat} (hi : ok c 4 i) : aN h (b 30 i) = len20 i ∧ ∀ k, k < len20 i → aR h k (b 30 i) = dec b 7 (c 111 (40 * i + k)) := hR.2.2.2.2.2.2 i hi
/-! nothing of ours changed -/
def SameX (h h' : AH) (P : Nat → Prop) : Prop := ∀ y, ¬ P y → aK h' y = aK h y ∧ (∀ j, aI h' j y = aI h j y) ∧ (∀ j, aR h' j y = aR h j y) ∧ aN h' y = aN h y
theorem ok_30 {c : MM} {i : Nat} : ok c 30 i ↔ ok c 4 i := Iff.rfl
theorem RC.same {E : Nat} {h h' : AH} {b : BA} {c : MM} (hR : RC E h b c) {P : Nat → Prop} (hs : SameX h h' P) (hP : ∀ K i, ok c K i → ¬ P (b K i)) : RC E h' b c := by
  refine ⟨fun K i hk => ?_, hR.2.1, fun K i j hK hk hj h8 => ?_, fun K i j hK hk hj h3 => ?_, fun q hq => ?_, fun i hi => ?_, fun i hi => ?_⟩
  · rw [(hs _ (hP K i hk)).1]; exact hR.kind hk
  · rw [(hs _ (hP K i hk)).2.1]; exact hR.fI hK hk hj h8
  · rw [(hs _ (hP K i hk)).2.2.1]; exact hR.fR hK hk hj h3
  · obtain ⟨l1, l2⟩ := hR.ls hq
    refine ⟨fun z => ?_, fun z => ?_⟩
    · rw [(hs _ (hP 3 q hq)).2.2.1]; exact l1 z
    · obtain ⟨m1, m2, m3⟩ := l2 z
      have e := hs _ (hP 31 q ⟨hq, z⟩)
      exact ⟨by rw [(hs _ (hP 3 q hq)).2.2.1]; exact m1, by rw [e.2.2.2]; exact m2, fun k hk => by rw [e.2.2.1]; exact m3 k hk⟩
  · have e := hs _ (hP 20 i hi)
    exact ⟨by rw [e.2.2.2]; exact (hR.a20 hi).1, fun k hk => by rw [e.2.1]; exact (hR.a20 hi).2 k hk⟩
  · have e := hs _ (hP 30 i hi)
    exact ⟨by rw [e.2.2.2]; exact (hR.a30 hi).1, fun k hk => by rw [e.2.2.1]; exact (hR.a30 hi).2 k hk⟩
theorem RC.pos {c : MM} {K i : Nat} (hk : ok c K i) : K ≠ 0 := by
  intro e
  subst e
  exact hk
/-- an address that holds nothing is none of ours -/
theorem RC.free {E : Nat} {h : AH} {b : BA} {c : MM} (hR : RC E h b c) {q : Nat} (hq : aK h q = 0) {K i : Nat} (hk : ok c K i) : b K i ≠ q := fun e => RC.pos hk (by rw [← hR.kind hk, e, hq])
theorem SameX.pI (h : AH) (j a : Nat) (x : Int32) : SameX h (pI h j a x) (· = a) := fun y hy => ⟨rfl, fun k => by rw [aI_pI, if_neg (fun z => hy z.2)], fun _ => rfl, rfl⟩
theorem SameX.pR (h : AH) (j a : Nat) (x : Option Nat) : SameX h (pR h j a x) (· = a) := fun y hy => ⟨rfl, fun _ => rfl, fun k => by rw [aR_pR, if_neg (fun z => hy z.2)], rfl⟩
theorem SameX.pF (h : AH) (a : Nat) (f : Nat → Option Nat) : SameX h (pF h a f) (· = a) := fun y hy => ⟨rfl, fun _ => rfl, fun k => by rw [aR_pF, if_neg hy], rfl⟩
theorem SameX.pN (h : AH) (a k n : Nat) : SameX h (pN h a k n) (· = a) := fun y hy => ⟨by rw [aK_pN, if_neg hy], fun _ => by rw [aI_pN, if_neg hy], fun _ => by rw [aR_pN, if_neg hy], by rw [aN_pN, if_neg hy]⟩
theorem SameX.trans {h h' h'' : AH} {P Q : Nat → Prop} (a : SameX h h' P) (b : SameX h' h'' Q) : SameX h h'' (fun y => P y ∨ Q y) := fun y hy => by
  obtain ⟨a1, a2, a3, a4⟩ := a y (fun z => hy (Or.inl z))
  obtain ⟨b1, b2, b3, b4⟩ := b y (fun z => hy (Or.inr z))
  exact ⟨b1.trans a1, fun j => (b2 j).trans (a2 j), fun j => (b3 j).trans (a3 j), b4.trans a4⟩
theorem SameX.mono {h h' : AH} {P Q : Nat → Prop} (a : SameX h h' P) (hPQ : ∀ y, P y → Q y) : SameX h h' Q := fun y hy => a y (fun z => hy (hPQ y z))
theorem SameX.refl (h : AH) (P : Nat → Prop) : SameX h h P := fun _ _ => ⟨rfl, fun _ => rfl, fun _ => rfl, rfl⟩
/-! writing a field -/
def kInvI (k : Nat) : Nat × Nat := match k with
  | 998 => (3, 0)
  | 171 => (3, 2)
  | 8 => (4, 2)
  | 120 => (5, 0)
  | 121 => (5, 1)
  | 27 => (6, 1)
  | 0 => (7, 1)
  | 1 => (7, 2)
  | 7 => (8, 3)
  | 4 => (8, 5)
  | 5 => (8, 6)
  | 6 => (8, 7)
  | 108 => (8, 8)
  | 11 => (9, 1)
  | 12 => (9, 2)
  | 25 => (9, 3)
  | 28 => (9, 8)
  | 17 => (9, 11)
  | 18 => (9, 12)
  | 21 => (9, 13)
  | 26 => (9, 14)
  | 20 => (9, 15)
  | 22 => (9, 16)
  | 23 => (9, 17)
  | 24 => (9, 18)
  | 29 => (9, 19)
  | 132 => (10, 2)
  | 133 => (10, 3)
  | 134 => (10, 4)
  | 135 => (10, 5)
  | 136 => (10, 6)
  | 140 => (11, 2)
  | 152 => (12, 2)
  | 153 => (12, 3)
  | 41 => (14, 9)
  | 122 => (5, 2)
  | 2 => (8, 1)
  | 3 => (8, 2)
  | 13 => (9, 4)
  | 14 => (9, 6)
  | 15 => (9, 7)
  | 116 => (9, 9)
  | 19 => (9, 10)
  | 130 => (10, 0)
  | 131 => (10, 1)
  | 150 => (12, 0)
  | 151 => (12, 1)
  | 154 => (12, 4)
  | _ => (0, 0)
/-- the keys that say which things there are, and what lists and rows hold -/
def kSz (k : Nat) : Prop := k = 37 ∨ k = 38 ∨ k = 39 ∨ k = 171 ∨ k = 172 ∨ k = 173
def kHold (k : Nat) : Prop := k = 36 ∨ k = 176 ∨ k = 10 ∨ k = 111 ∨ k = 160 ∨ k = 161
theorem kyI_inv : ∀ K j, kyI K j ≠ 999 → kInvI (kyI K j) = (K, j) ∧ (K ≠ 3 → ¬ kSz (kyI K j)) ∧ ¬ kHold (kyI K j) := by
  intro K j h
  unfold kyI at h ⊢
  split at h <;> first | exact absurd rfl h | exact ⟨rfl, fun h3 => by first | exact absurd rfl h3 | (unfold kSz; omega), by unfold kHold; omega⟩
theorem kyR_inv : ∀ K j, kyR K j ≠ 999 → kInvI (kyR K j) = (K, j) ∧ ¬ kSz (kyR K j) ∧ ¬ kHold (kyR K j) := by
  intro K j h
  unfold kyR at h ⊢
  split at h <;> first | exact absurd rfl h | exact ⟨rfl, by unfold kSz; omega, by unfold kHold; omega⟩
theorem szN_ext {c c' : MM} (e : ∀ k, kSz k → c' k = c k) (q : Nat) : szN c' q = szN c q := by unfold szN; rw [e 171 (by unfold kSz; omega)]
theorem evN_ext {c c' : MM} (e : ∀ k, kSz k → c' k = c k) (p : Nat) : evN c' p = evN c p := by unfold evN; rw [e 173 (by unfold kSz; omega)]
theorem capN_ext {c c' : MM} (e : ∀ k, kSz k → c' k = c k) (q : Nat) : capN c' q = capN c q := by unfold capN; rw [e 172 (by unfold kSz; omega)]
theorem ok_ext {c c' : MM} (e : ∀ k, kSz k → c' k = c k) : ok c' = ok c := by
  funext K i
  have n1 : nhN c' = nhN c := nhN_ext (e 37 (by unfold kSz; omega))
  have n2 : nlN c' = nlN c := nlN_ext (e 38 (by unfold kSz; omega))
  have n3 : npN c' = npN c := npN_ext (e 39 (by unfold kSz; omega))
  unfold ok
  rw [n1, n2, n3, capN_ext e, evN_ext e]
theorem elI_ext {c c' : MM} (e : ∀ k, kHold k → c' k = c k) (q k : Nat) : elI c' q k = elI c q k := by unfold elI; rw [e 36 (by unfold kHold; omega), e 176 (by unfold kHold; omega)]
theorem c20_ext {c c' : MM} (e : ∀ k, kHold k → c' k = c k) (i k : Nat) : c20 c' i k = c20 c i k := by unfold c20; rw [e 10 (by unfold kHold; omega), e 160 (by unfold kHold; omega), e 161 (by unfold kHold; omega)]
theorem LSo.ext {E : Nat} {h h' : AH} {b : BA} {c c' : MM} {q : Nat} (hl : LSo E h b c q) (e1 : ∀ k, kSz k → c' k = c k) (e2 : ∀ k, kHold k → c' k = c k) (e3 : ∀ j, aR h' j (b 3 q) = aR h j (b 3 q)) (e4 : 0 < capN c q → (∀ j, aR h' j (b 31 q) = aR h j (b 31 q)) ∧ aN h' (b 31 q) = aN h (b 31 q)) : LSo E h' b c' q := by
  obtain ⟨l1, l2⟩ := hl
  unfold LSo
  rw [capN_ext e1, szN_ext e1, e3]
  refine ⟨l1, fun z => ?_⟩
  obtain ⟨m1, m2, m3⟩ := l2 z
  obtain ⟨x1, x2⟩ := e4 z
  exact ⟨m1, by rw [x2]; exact m2, fun k hk => by rw [x1, elI_ext e2]; exact m3 k hk⟩
theorem RC.ne {E : Nat} {h : AH} {b : BA} {c : MM} (hR : RC E h b c) {K i K' i' : Nat} (h1 : ok c K i) (h2 : ok c K' i') (hne : ¬ (K' = K ∧ i' = i)) : b K' i' ≠ b K i := by
  intro e
  have hK : K' = K := by rw [← hR.kind h2, ← hR.kind h1, e]
  subst hK
  exact hne ⟨rfl, hR.inj h2 h1 e⟩
theorem RC.putI {E : Nat} {h : AH} {b : BA} {c : MM} (hR : RC E h b c) {K i j k : Nat} (hK : K < 20) (h3 : K ≠ 3) (hok : ok c K i) (hj : (tyl K)[j]? = some false) (hk : kyI K j = k) (hk9 : k ≠ 999) (x : Int32) : RC E (pI h j (b K i) x) b (up c k i x) := by
  subst hk
  obtain ⟨v1, v2, v3⟩ := kyI_inv K j hk9
  replace v2 := v2 h3
  have e1 : ∀ k, kSz k → up c (kyI K j) i x k = c k := fun k' h' => up_key (fun e => v2 (e ▸ h'))
  have e2 : ∀ k, kHold k → up c (kyI K j) i x k = c k := fun k' h' => up_key (fun e => v3 (e ▸ h'))
  unfold RC
  rw [ok_ext e1]
  refine ⟨fun K' i' h' => hR.kind h', hR.2.1, fun K' i' j' hK' h' hj' h8 => ?_, fun K' i' j' hK' h' hj' h3 => ?_, fun q hq => ?_, fun i' hi => ?_, fun i' hi => ?_⟩
  · rw [aI_pI]
    have hv := hR.fI hK' h' hj' h8
    unfold cI at hv ⊢
    by_cases e9 : kyI K' j' = 999
    · rw [if_pos e9] at hv ⊢
      rw [← hv, if_neg (fun z => ?_)]
      have hne : ¬ (K' = K ∧ i' = i) := fun w => hk9 (by rw [← w.1, ← z.1]; exact e9)
      exact hR.ne hok h' hne z.2
    · rw [if_neg e9] at hv ⊢
      by_cases w : K' = K ∧ j' = j
      · obtain ⟨rfl, rfl⟩ := w
        by_cases w2 : i' = i
        · subst w2
          rw [if_pos ⟨rfl, rfl⟩, up_s]
        · rw [if_neg (fun z => hR.ne hok h' (fun q => w2 q.2) z.2), up_i w2, ← hv]
      · have hkk : kyI K' j' ≠ kyI K j := fun z => w (Prod.mk.inj ((kyI_inv K' j' e9).1.symm.trans ((congrArg kInvI z).trans v1)))
        rw [up_k hkk, ← hv, if_neg (fun z => ?_)]
        by_cases w3 : K' = K
        · exact w ⟨w3, z.1⟩
        · exact hR.ne hok h' (fun q => w3 q.1) z.2
  · rw [aR_pI, hR.fR hK' h' hj' h3]
    unfold cR
    by_cases e9 : kyR K' j' = 999
    · rw [if_pos e9, if_pos e9]
    · rw [if_neg e9, if_neg e9, up_k (fun z => ?_)]
      obtain ⟨rfl, rfl⟩ := Prod.mk.inj ((kyR_inv K' j' e9).1.symm.trans ((congrArg kInvI z).trans v1))
      rw [hj] at hj'
      cases hj'
  · exact (hR.ls hq).ext e1 e2 (fun _ => rfl) (fun _ => ⟨fun _ => rfl, rfl⟩)
  · refine ⟨(hR.a20 hi).1, fun k hk => ?_⟩
    rw [aI_pI, if_neg (fun z => hR.ne hok (K' := 20) hi (fun q => by omega) z.2), c20_ext e2]
    exact (hR.a20 hi).2 k hk
  · refine ⟨(hR.a30 hi).1, fun k hk => ?_⟩
    rw [aR_pI, e2 111 (by unfold kHold; omega)]
    exact (hR.a30 hi).2 k hk
theorem RC.putR {E : Nat} {h : AH} {b : BA} {c : MM} (hR : RC E h b c) {K i j k : Nat} (hK : K < 20) (hok : ok c K i) (hj : (tyl K)[j]? = some true) (hk : kyR K j = k) (hk9 : k ≠ 999) (x : Int32) {v : Option Nat} (hv : v = dec b (rfT k) x) : RC E (pR h j (b K i) v) b (up c k i x) := by
  subst hk; subst hv
  obtain ⟨v1, v2, v3⟩ := kyR_inv K j hk9
  have hK3 : K ≠ 3 := fun e => hk9 (by subst e; rfl)
  have e1 : ∀ k, kSz k → up c (kyR K j) i x k = c k := fun k' h' => up_key (fun e => v2 (e ▸ h'))
  have e2 : ∀ k, kHold k → up c (kyR K j) i x k = c k := fun k' h' => up_key (fun e => v3 (e ▸ h'))
  unfold RC
  rw [ok_ext e1]
  refine ⟨fun K' i' h' => hR.kind h', hR.2.1, fun K' i' j' hK' h' hj' h8 => ?_, fun K' i' j' hK' h' hj' h3 => ?_, fun q hq => ?_, fun i' hi => ?_, fun i' hi => ?_⟩
  · rw [aI_pR, hR.fI hK' h' hj' h8]
    unfold cI
    by_cases e9 : kyI K' j' = 999
    · rw [if_pos e9, if_pos e9]
    · rw [if_neg e9, if_neg e9, up_k (fun z => ?_)]
      obtain ⟨rfl, rfl⟩ := Prod.mk.inj ((kyI_inv K' j' e9).1.symm.trans ((congrArg kInvI z).trans v1))
      rw [hj] at hj'
      cases hj'
  · rw [aR_pR]
    have hv := hR.fR hK' h' hj' h3
    unfold cR at hv ⊢
    by_cases e9 : kyR K' j' = 999
    · rw [if_pos e9] at hv ⊢
      rw [← hv, if_neg (fun z => ?_)]
      have hne : ¬ (K' = K ∧ i' = i) := fun w => hk9 (by rw [← w.1, ← z.1]; exact e9)
      exact hR.ne hok h' hne z.2
    · rw [if_neg e9] at hv ⊢
      by_cases w : K' = K ∧ j' = j
      · obtain ⟨rfl, rfl⟩ := w
        by_cases w2 : i' = i
        · subst w2
          rw [if_pos ⟨rfl, rfl⟩, up_s]
        · rw [if_neg (fun z => hR.ne hok h' (fun q => w2 q.2) z.2), up_i w2, ← hv]
      · have hkk : kyR K' j' ≠ kyR K j := fun z => w (Prod.mk.inj ((kyR_inv K' j' e9).1.symm.trans ((congrArg kInvI z).trans v1)))
        rw [up_k hkk, ← hv, if_neg (fun z => ?_)]
        by_cases w3 : K' = K
        · exact w ⟨w3, z.1⟩
        · exact hR.ne hok h' (fun q => w3 q.1) z.2
  · refine (hR.ls hq).ext e1 e2 (fun j' => ?_) (fun z => ⟨fun j' => ?_, rfl⟩)
    · rw [aR_pR, if_neg (fun z => hR.ne hok (K' := 3) hq (fun q => hK3 q.1.symm) z.2)]
    · rw [aR_pR, if_neg (fun w => hR.ne hok (K' := 31) (i' := q) ⟨hq, z⟩ (fun q => by omega) w.2)]
  · refine ⟨(hR.a20 hi).1, fun k hk => ?_⟩
    rw [aI_pR, c20_ext e2]
    exact (hR.a20 hi).2 k hk
  · refine ⟨(hR.a30 hi).1, fun k hk => ?_⟩
    rw [aR_pR, if_neg (fun z => hR.ne hok (K' := 30) (i' := i') hi (fun q => by omega) z.2), e2 111 (by unfold kHold; omega)]
    exact (hR.a30 hi).2 k hk
theorem ifc {α : Type} {P Q : Prop} [Decidable P] [Decidable Q] {x y : α} (h : P ↔ Q) : (if P then x else y) = if Q then x else y := by
  by_cases hp : P
  · rw [if_pos hp, if_pos (h.mp hp)]
  · rw [if_neg hp, if_neg (fun q => hp (h.mpr q))]
/-! writing a place of a row of numbers, of hubs -/
theorem RC.put20 {E : Nat} {h : AH} {b : BA} {c : MM} (hR : RC E h b c) {i k k0 i0 : Nat} (hok : ok c 20 i) (hk : k < len20 i) (hk0 : k0 = if i < 13 then 10 else if i = 13 then 160 else 161) (hi0 : i0 = if i < 13 then 40 * i + k else k) (hn : nlN c ≤ 12) (x : Int32) : RC E (pI h k (b 20 i) x) b (up c k0 i0 x) := by
  have hkk : k0 = 10 ∨ k0 = 160 ∨ k0 = 161 := by rw [hk0]; split; omega; split <;> omega
  have e1 : ∀ k, kSz k → up c k0 i0 x k = c k := fun k' h' => up_key (fun e => by subst e; unfold kSz at h'; omega)
  have e2 : ∀ k, k ≠ 10 → k ≠ 160 → k ≠ 161 → up c k0 i0 x k = c k := fun k' a1 a2 a3 => up_key (by omega)
  unfold RC
  rw [ok_ext e1]
  refine ⟨fun K' i' h' => hR.kind h', hR.2.1, fun K' i' j' hK' h' hj' h8 => ?_, fun K' i' j' hK' h' hj' h3 => ?_, fun q hq => ?_, fun i' hi => ?_, fun i' hi => ?_⟩
  · rw [aI_pI, if_neg (fun z => hR.ne hok h' (fun q => by omega) z.2), hR.fI hK' h' hj' h8]
    unfold cI
    by_cases e9 : kyI K' j' = 999
    · rw [if_pos e9, if_pos e9]
    · have h5 := (kyI_inv K' j' e9).2.2
      unfold kHold at h5
      rw [if_neg e9, if_neg e9, e2 _ (by omega) (by omega) (by omega)]
  · rw [aR_pI, hR.fR hK' h' hj' h3]
    unfold cR
    by_cases e9 : kyR K' j' = 999
    · rw [if_pos e9, if_pos e9]
    · have h5 := (kyR_inv K' j' e9).2.2
      unfold kHold at h5
      rw [if_neg e9, if_neg e9, e2 _ (by omega) (by omega) (by omega)]
  · obtain ⟨l1, l2⟩ := hR.ls hq
    unfold LSo
    rw [capN_ext e1, szN_ext e1]
    refine ⟨l1, fun z => ?_⟩
    obtain ⟨m1, m2, m3⟩ := l2 z
    refine ⟨m1, m2, fun k9 hk9 => ?_⟩
    rw [show elI (up c k0 i0 x) q k9 = elI c q k9 by unfold elI; rw [e2 36 (by omega) (by omega) (by omega), e2 176 (by omega) (by omega) (by omega)]]
    exact m3 k9 hk9
  · refine ⟨(hR.a20 hi).1, fun k9 hk9 => ?_⟩
    have hv := (hR.a20 hi).2 k9 hk9
    rw [aI_pI]
    have ho : i < 13 ∨ i = 13 ∨ i = 14 := by rcases hok with z | z | z | z <;> omega
    have ho' : i' < 13 ∨ i' = 13 ∨ i' = 14 := by rcases hi with z | z | z | z <;> omega
    have hl1 : i < 13 ∧ k < 40 ∨ 12 < i := by
      unfold len20 at hk
      by_cases z : i < 13
      · rw [if_pos z] at hk; omega
      · omega
    have hl2 : i' < 13 ∧ k9 < 40 ∨ 12 < i' := by
      unfold len20 at hk9
      by_cases z : i' < 13
      · rw [if_pos z] at hk9; omega
      · omega
    have hb : (k9 = k ∧ b 20 i' = b 20 i) ↔ (k9 = k ∧ i' = i) := ⟨fun z => ⟨z.1, hR.inj hi hok z.2⟩, fun z => ⟨z.1, by rw [z.2]⟩⟩
    rw [ifc hb, hv]
    subst hk0; subst hi0
    unfold c20 up
    rcases ho with a1 | a1 | a1 <;> rcases ho' with a2 | a2 | a2
    · have hiff : (40 * i' + k9 = 40 * i + k) ↔ (k9 = k ∧ i' = i) := by omega
      simp only [if_pos a1, if_pos a2, true_and, hiff]
    all_goals (first | (subst a1; subst a2; simp) | (subst a1; simp [a2]; try omega) | (subst a2; simp [a1]; try omega))
  · refine ⟨(hR.a30 hi).1, fun k9 hk9 => ?_⟩
    rw [aR_pI, e2 111 (by omega) (by omega) (by omega)]
    exact (hR.a30 hi).2 k9 hk9
theorem RC.put30 {E : Nat} {h : AH} {b : BA} {c : MM} (hR : RC E h b c) {i k : Nat} (hok : ok c 4 i) (hk : k < len20 i) (hn : nlN c ≤ 12) (x : Int32) {v : Option Nat} (hv : v = dec b 7 x) : RC E (pR h k (b 30 i) v) b (up c 111 (40 * i + k) x) := by
  subst hv
  have hok' : ok c 30 i := hok
  have e1 : ∀ k', kSz k' → up c 111 (40 * i + k) x k' = c k' := fun k' h' => up_key (fun e => by subst e; unfold kSz at h'; omega)
  have e2 : ∀ k', k' ≠ 111 → up c 111 (40 * i + k) x k' = c k' := fun k' a => up_key a
  unfold RC
  rw [ok_ext e1]
  refine ⟨fun K' i' h' => hR.kind h', hR.2.1, fun K' i' j' hK' h' hj' h8 => ?_, fun K' i' j' hK' h' hj' h3 => ?_, fun q hq => ?_, fun i' hi => ?_, fun i' hi => ?_⟩
  · rw [aI_pR, hR.fI hK' h' hj' h8]
    unfold cI
    by_cases e9 : kyI K' j' = 999
    · rw [if_pos e9, if_pos e9]
    · have h5 := (kyI_inv K' j' e9).2.2
      unfold kHold at h5
      rw [if_neg e9, if_neg e9, e2 _ (by omega)]
  · rw [aR_pR, if_neg (fun z => hR.ne hok' h' (fun q => by omega) z.2), hR.fR hK' h' hj' h3]
    unfold cR
    by_cases e9 : kyR K' j' = 999
    · rw [if_pos e9, if_pos e9]
    · have h5 := (kyR_inv K' j' e9).2.2
      unfold kHold at h5
      rw [if_neg e9, if_neg e9, e2 _ (by omega)]
  · obtain ⟨l1, l2⟩ := hR.ls hq
    unfold LSo
    rw [capN_ext e1, szN_ext e1]
    refine ⟨fun z => by rw [aR_pR, if_neg (fun w => hR.ne hok' (K' := 3) (i' := q) hq (fun q => by omega) w.2)]; exact l1 z, fun z => ?_⟩
    obtain ⟨m1, m2, m3⟩ := l2 z
    refine ⟨by rw [aR_pR, if_neg (fun w => hR.ne hok' (K' := 3) (i' := q) hq (fun q => by omega) w.2)]; exact m1, m2, fun k9 hk9 => ?_⟩
    rw [aR_pR, if_neg (fun w => hR.ne hok' (K' := 31) (i' := q) ⟨hq, z⟩ (fun q => by omega) w.2), show elI (up c 111 (40 * i + k) x) q k9 = elI c q k9 by unfold elI; rw [e2 36 (by omega), e2 176 (by omega)]]
    exact m3 k9 hk9
  · refine ⟨(hR.a20 hi).1, fun k9 hk9 => ?_⟩
    rw [aI_pR, show c20 (up c 111 (40 * i + k) x) i' k9 = c20 c i' k9 by unfold c20; rw [e2 10 (by omega), e2 160 (by omega), e2 161 (by omega)]]
    exact (hR.a20 hi).2 k9 hk9
  · refine ⟨(hR.a30 hi).1, fun k9 hk9 => ?_⟩
    have hv := (hR.a30 hi).2 k9 hk9
    have hi' : ok c 30 i' := hi
    rw [aR_pR]
    have ho : i < 12 ∨ i = 12 := by rcases hok with z | z <;> omega
    have ho' : i' < 12 ∨ i' = 12 := by rcases hi with z | z <;> omega
    have hl1 : i < 13 ∧ k < 40 := by
      unfold len20 at hk
      rw [if_pos (by omega)] at hk; omega
    have hl2 : i' < 13 ∧ k9 < 40 := by
      unfold len20 at hk9
      rw [if_pos (by omega)] at hk9; omega
    have hb : (k9 = k ∧ b 30 i' = b 30 i) ↔ (40 * i' + k9 = 40 * i + k) := by
      refine ⟨fun z => ?_, fun z => ?_⟩
      · have := hR.inj hi' hok' z.2
        omega
      · have q : k9 = k ∧ i' = i := by omega
        exact ⟨q.1, by rw [q.2]⟩
    rw [ifc hb, hv]
    unfold up
    by_cases z : 40 * i' + k9 = 40 * i + k
    · rw [if_pos z, if_pos ⟨rfl, z⟩]
    · rw [if_neg z, if_neg (fun w => z w.2)]
/-! references as numbers -/
theorem dec_in {b : BA} {T : Nat} {x : Int32} {n : Nat} (h : vp_in x n) : dec b T x = some (b T x.toNatClampNeg) := if_neg (vp_nn h)
theorem dec_nI {b : BA} {T i : Nat} (h : i < 2 ^ 31) : dec b T (nI i) = some (b T i) := by
  unfold dec
  rw [if_neg (nI_pos h), nI_clamp h]
theorem dec_m1 {b : BA} {T : Nat} : dec b T (-1) = none := if_pos (by decide)
abbrev RG (c : MM) (T : Nat) (x : Int32) : Prop := x = -1 ∨ vp_in x (cnt c T)
abbrev LSw (c : MM) (q : Nat) : Prop := szN c q ≤ capN c q ∧ capN c q < 1600 ∧ c 171 q = nI (szN c q) ∧ c 172 q = nI (capN c q)
def WFc (c : MM) : Prop :=
  (nhN c ≤ 6 ∧ nlN c ≤ 12 ∧ npN c ≤ 40) ∧ (∀ q, ok c 3 q → LSw c q) ∧ ((szN c 5 = 266 ∧ c 37 0 = c 171 0 ∧ c 38 0 = c 171 1 ∧ c 39 0 = c 171 2) ∧ ∀ p, (p < npN c → szN c (6 + p) ≤ 1024 ∧ c 173 p = c 171 (6 + p)) ∧ (npN c ≤ p → c 171 (6 + p) = 0 ∧ c 172 (6 + p) = 0 ∧ c 173 p = 0)) ∧
  (∀ k, rfT k ≠ 0 → ∀ i, RG c (rfT k) (c k i)) ∧ (∀ l, l < nlN c → vp_in (c 2 l) (nhN c) ∧ vp_in (c 3 l) (nhN c)) ∧
  (∀ p, p < npN c → vp_in (c 13 p) (nhN c) ∧ vp_in (c 14 p) (nhN c) ∧ vp_in (c 15 p) (nhN c)) ∧ (∀ e, ok c 5 e → vp_in (c 122 e) (nhN c)) ∧
  (∀ k, k < szN c 3 → vp_in (c 36 k) (npN c)) ∧ (∀ k, k < szN c 4 → vp_in (c 176 k) (npN c))
theorem WFc.nh {c : MM} (h : WFc c) : nhN c ≤ 6 := h.1.1
theorem WFc.nl {c : MM} (h : WFc c) : nlN c ≤ 12 := h.1.2.1
theorem WFc.np {c : MM} (h : WFc c) : npN c ≤ 40 := h.1.2.2
theorem WFc.ls {c : MM} (h : WFc c) {q : Nat} (hq : ok c 3 q) : LSw c q := h.2.1 q hq
theorem WFc.rg {c : MM} (h : WFc c) {k : Nat} (hk : rfT k ≠ 0) (i : Nat) : RG c (rfT k) (c k i) := h.2.2.2.1 k hk i
theorem WFc.ln {c : MM} (h : WFc c) {l : Nat} (hl : l < nlN c) : vp_in (c 2 l) (nhN c) ∧ vp_in (c 3 l) (nhN c) := h.2.2.2.2.1 l hl
theorem WFc.pa {c : MM} (h : WFc c) {p : Nat} (hp : p < npN c) : vp_in (c 13 p) (nhN c) ∧ vp_in (c 14 p) (nhN c) ∧ vp_in (c 15 p) (nhN c) := h.2.2.2.2.2.1 p hp
theorem WFc.evh {c : MM} (h : WFc c) {e : Nat} (he : ok c 5 e) : vp_in (c 122 e) (nhN c) := h.2.2.2.2.2.2.1 e he
theorem WFc.qu {c : MM} (h : WFc c) {k : Nat} (hk : k < szN c 3) : vp_in (c 36 k) (npN c) := h.2.2.2.2.2.2.2.1 k hk
theorem WFc.lf {c : MM} (h : WFc c) {k : Nat} (hk : k < szN c 4) : vp_in (c 176 k) (npN c) := h.2.2.2.2.2.2.2.2 k hk
theorem WFc.hubs {c : MM} (h : WFc c) : c 37 0 = nI (nhN c) := by
  have e := (h.ls (q := 0) (show 0 < 6 + npN c by omega)).2.2.1
  have e2 : nhN c = szN c 0 := by unfold nhN szN; rw [h.2.2.1.1.2.1]
  rw [e2, h.2.2.1.1.2.1]; exact e
theorem WFc.lines {c : MM} (h : WFc c) : c 38 0 = nI (nlN c) := by
  have e := (h.ls (q := 1) (show 1 < 6 + npN c by omega)).2.2.1
  have e2 : nlN c = szN c 1 := by unfold nlN szN; rw [h.2.2.1.1.2.2.1]
  rw [e2, h.2.2.1.1.2.2.1]; exact e
theorem WFc.pars {c : MM} (h : WFc c) : c 39 0 = nI (npN c) := by
  have e := (h.ls (q := 2) (show 2 < 6 + npN c by omega)).2.2.1
  have e2 : npN c = szN c 2 := by unfold npN szN; rw [h.2.2.1.1.2.2.2]
  rw [e2, h.2.2.1.1.2.2.2]; exact e
def kWc (k : Nat) : Prop := kSz k ∨ k = 36 ∨ k = 176 ∨ rfT k ≠ 0
theorem cnt_ext {c c' : MM} (e : ∀ k, kSz k → c' k = c k) (T : Nat) : cnt c' T = cnt c T := by
  unfold cnt
  split
  · exact nhN_ext (e 37 (by unfold kSz; omega))
  · exact nlN_ext (e 38 (by unfold kSz; omega))
  · exact npN_ext (e 39 (by unfold kSz; omega))
theorem WFc.ext {c c' : MM} (h : WFc c) (e : ∀ k, kWc k → c' k = c k) : WFc c' := by
  have e1 : ∀ k, kSz k → c' k = c k := fun k hk => e k (Or.inl hk)
  have n1 : nhN c' = nhN c := nhN_ext (e1 37 (by unfold kSz; omega))
  have n2 : nlN c' = nlN c := nlN_ext (e1 38 (by unfold kSz; omega))
  have n3 : npN c' = npN c := npN_ext (e1 39 (by unfold kSz; omega))
  have r : ∀ k, rfT k ≠ 0 → c' k = c k := fun k hk => e k (Or.inr (Or.inr (Or.inr hk)))
  unfold WFc LSw RG
  rw [ok_ext e1, n1, n2, n3, e1 37 (by unfold kSz; omega), e1 38 (by unfold kSz; omega), e1 39 (by unfold kSz; omega), e1 171 (by unfold kSz; omega), e1 172 (by unfold kSz; omega), e1 173 (by unfold kSz; omega), szN_ext e1 5, szN_ext e1 3, szN_ext e1 4, e 36 (Or.inr (Or.inl rfl)), e 176 (Or.inr (Or.inr (Or.inl rfl))), r 2 (by decide), r 3 (by decide), r 13 (by decide), r 14 (by decide), r 15 (by decide), r 122 (by decide)]
  obtain ⟨h1, h2, h3, h4, h5⟩ := h
  refine ⟨h1, fun q hq => ?_, ⟨h3.1, fun p => ⟨fun hp => by rw [szN_ext e1]; exact (h3.2 p).1 hp, (h3.2 p).2⟩⟩, fun k hk i => ?_, h5⟩
  · rw [szN_ext e1, capN_ext e1]; exact h2 q hq
  · rw [r k hk, cnt_ext e1]; exact h4 k hk i
theorem WFc.upx {c : MM} (h : WFc c) {k i : Nat} {x : Int32} (hk : ¬ kWc k) : WFc (up c k i x) := h.ext (fun k' hk' => up_key (fun e => hk (e ▸ hk')))
theorem WFc.upr {c : MM} (h : WFc c) {k i : Nat} {x : Int32} (hk : rfT k ≠ 0) (hx : RG c (rfT k) x) (h2 : k = 2 ∨ k = 3 → i < nlN c → vp_in x (nhN c)) (h3 : k = 13 ∨ k = 14 ∨ k = 15 → i < npN c → vp_in x (nhN c)) (h4 : k = 122 → ok c 5 i → vp_in x (nhN c)) : WFc (up c k i x) := by
  have hs : ¬ kSz k := by
    intro z
    unfold kSz at z
    rcases z with rfl | rfl | rfl | rfl | rfl | rfl <;> exact hk rfl
  have hh : k ≠ 36 ∧ k ≠ 176 := ⟨fun e => by subst e; exact hk rfl, fun e => by subst e; exact hk rfl⟩
  have e1 : ∀ k', kSz k' → up c k i x k' = c k' := fun k' h' => up_key (fun e => hs (e ▸ h'))
  have n1 : nhN (up c k i x) = nhN c := nhN_ext (e1 37 (by unfold kSz; omega))
  have n2 : nlN (up c k i x) = nlN c := nlN_ext (e1 38 (by unfold kSz; omega))
  have n3 : npN (up c k i x) = npN c := npN_ext (e1 39 (by unfold kSz; omega))
  have cell : ∀ (k' i' n : Nat), (i' < n → vp_in (c k' i') (nhN c)) → (k = k' → i < n → vp_in x (nhN c)) → i' < n → vp_in (up c k i x k' i') (nhN c) := by
    intro k' i' n a1 a2 a3
    unfold up
    by_cases z : k' = k ∧ i' = i
    · rw [if_pos z]; exact a2 z.1.symm (by rw [← z.2]; exact a3)
    · rw [if_neg z]; exact a1 a3
  unfold WFc LSw RG
  rw [ok_ext e1, n1, n2, n3, e1 37 (by unfold kSz; omega), e1 38 (by unfold kSz; omega), e1 39 (by unfold kSz; omega), e1 171 (by unfold kSz; omega), e1 172 (by unfold kSz; omega), e1 173 (by unfold kSz; omega), szN_ext e1 5, szN_ext e1 3, szN_ext e1 4, up_key (k' := 36) (fun e => hh.1 e.symm), up_key (k' := 176) (fun e => hh.2 e.symm)]
  refine ⟨h.1, fun q hq => ?_, ⟨h.2.2.1.1, fun p => ⟨fun hp => by rw [szN_ext e1]; exact (h.2.2.1.2 p).1 hp, (h.2.2.1.2 p).2⟩⟩, fun k' hk' i' => ?_, fun l hl => ⟨cell 2 l _ (fun z => (h.ln z).1) (fun z => h2 (Or.inl z)) hl, cell 3 l _ (fun z => (h.ln z).2) (fun z => h2 (Or.inr z)) hl⟩, fun p hp => ⟨cell 13 p _ (fun z => (h.pa z).1) (fun z => h3 (Or.inl z)) hp, cell 14 p _ (fun z => (h.pa z).2.1) (fun z => h3 (Or.inr (Or.inl z))) hp, cell 15 p _ (fun z => (h.pa z).2.2) (fun z => h3 (Or.inr (Or.inr z))) hp⟩, fun e he => ?_, fun k' hk' => h.qu hk', fun k' hk' => h.lf hk'⟩
  · rw [szN_ext e1, capN_ext e1]; exact h.ls hq
  · rw [cnt_ext e1]
    unfold up
    by_cases z : k' = k ∧ i' = i
    · rw [if_pos z, z.1]; exact hx
    · rw [if_neg z]; exact h.rg hk' i'
  · unfold up
    by_cases z : 122 = k ∧ e = i
    · rw [if_pos z]; exact h4 z.1.symm (by rw [← z.2]; exact he)
    · rw [if_neg z]; exact h.evh he
theorem WFc.cnt6 {c : MM} (h : WFc c) (T : Nat) : cnt c T ≤ 40 := by
  have := h.1
  unfold cnt
  split <;> omega
theorem ok_cnt {c : MM} {T i : Nat} (hT : T = 7 ∨ T = 8 ∨ T = 9) : ok c T i ↔ i < cnt c T := by rcases hT with rfl | rfl | rfl <;> exact Iff.rfl
theorem RC.deq {E : Nat} {h : AH} {b : BA} {c : MM} (hR : RC E h b c) (hw : WFc c) {T : Nat} (hT : T = 7 ∨ T = 8 ∨ T = 9) {x y : Int32} (hx : RG c T x) (hy : RG c T y) : dec b T x = dec b T y ↔ x = y := by
  have h40 := hw.cnt6 T
  refine ⟨fun e => ?_, fun e => by rw [e]⟩
  rcases hx with rfl | hx <;> rcases hy with rfl | hy
  · rfl
  · rw [dec_m1, dec_in hy] at e; cases e
  · rw [dec_m1, dec_in hx] at e; cases e
  · rw [dec_in hx, dec_in hy] at e
    have := hR.inj ((ok_cnt hT).mpr (vp_nat hx)) ((ok_cnt hT).mpr (vp_nat hy)) (Option.some.inj e)
    rw [vp_nI hx (by omega), vp_nI hy (by omega), this]

