/-! while minutes pass: both states but for the bags, and what the reference keeps -/
def pcb (c m : MM) : MM := fun k i => if k = 8 then m k i else if k = 10 then m k (4 * (i / 40) + i % 40) else c k i
theorem pcb_k {c m : MM} {k : Nat} (h : k ≠ 8) (h2 : k ≠ 10) : pcb c m k = c k := by
  funext i
  unfold pcb
  rw [if_neg h, if_neg h2]
theorem pcb_SB (c m : MM) : SB (pcb c m) m := fun l hl => by
  unfold pcb
  exact ⟨by rw [if_pos rfl], fun k _ hk => by rw [if_neg (by omega), if_pos rfl, show (40 * l + k) / 40 = l by omega, show (40 * l + k) % 40 = k by omega]⟩
def Sm0 (c m : MM) : Prop := Sm (pcb c m) m
theorem Sm.to0 {c m : MM} (h : Sm c m) : Sm0 c m := h.bagX (fun k _ h8 h10 => pcb_k h8 h10) (fun p => by rw [pcb_k (by omega) (by omega)]) (fun _ _ _ _ => rfl) (pcb_SB c m)
theorem Sm0.full {c m : MM} (h : Sm0 c m) (hB : SB c m) : Sm c m := Sm.bagX h (fun k _ h8 h10 => (pcb_k h8 h10).symm) (fun p => by rw [pcb_k (by omega) (by omega)]) (fun _ _ _ _ => rfl) hB
theorem Sm0.of {C M c' : MM} (h : Sm C M) (e1 : ∀ k, cK k → k ≠ 8 → k ≠ 10 → c' k = C k) (e2 : ∀ p, c' 171 (6 + p) = C 171 (6 + p)) : Sm0 c' M :=
  h.bagX (fun k a h8 h10 => by rw [pcb_k h8 h10]; exact e1 k a h8 h10) (fun p => by rw [pcb_k (by omega) (by omega)]; exact e2 p) (fun _ _ _ _ => rfl) (pcb_SB c' M)
theorem Sm0.ext {c m c' m' : MM} (h : Sm0 c m) (e1 : ∀ k, cK k → k ≠ 8 → k ≠ 10 → c' k = c k) (e2 : ∀ p, c' 171 (6 + p) = c 171 (6 + p)) (e3 : ∀ k, mK k → k ≠ 8 → k ≠ 10 → m' k = m k) : Sm0 c' m' :=
  Sm.bagX h (fun k a h8 h10 => by rw [pcb_k h8 h10, pcb_k h8 h10]; exact e1 k a h8 h10) (fun p => by rw [pcb_k (by omega) (by omega), pcb_k (by omega) (by omega)]; exact e2 p) e3 (pcb_SB c' m')
theorem Sm0.sl {c m : MM} (h : Sm0 c m) : SL c m := by
  refine (Sm.ext (m' := m) h (c' := pcb c m) (fun _ _ => rfl) (fun _ => rfl) (fun _ _ => rfl)).1.ext (fun k hk => ?_) (fun _ _ => rfl) ?_ rfl
  · rw [pcb_k (by unfold lnKey at hk; omega) (by unfold lnKey at hk; omega)]
  · rw [pcb_k (by omega) (by omega)]
theorem Sm0.pa {c m : MM} (h : Sm0 c m) {p : Nat} (hp : p < npN m) : SP c m p ∧ MP m p := by
  obtain ⟨g1, g2⟩ := h.2.2.1 p hp
  refine ⟨g1.ext (fun k hk => ?_) (fun _ _ => rfl), g2⟩
  have hk2 : 11 ≤ k ∧ k ≤ 29 ∨ k = 116 := hk.imp (fun z => by have := pk_ne z; omega) id
  rw [pcb_k (by omega) (by omega)]
theorem cNote_congr {a b : MM} (e : ∀ k, k ≠ 8 → k ≠ 10 → a k = b k) (p j : Nat) (t : Int32) (x : Nat) (y : Int32) {k : Nat} (h8 : k ≠ 8) (h10 : k ≠ 10) : cNote a p j t x y k = cNote b p j t x y k := by
  have s : ∀ q, szN a q = szN b q := fun q => by unfold szN; rw [e 171 (by omega) (by omega)]
  have cc : ∀ q, capN a q = capN b q := fun q => by unfold capN; rw [e 172 (by omega) (by omega)]
  have hk := e k h8 h10
  unfold cNote
  rw [s]
  split
  · exact hk
  · rw [e 27 (by omega) (by omega)]
    refine up_eq ?_
    funext i
    unfold cEv cEv1
    rw [s, cc, hk]
/-- how many events more a parcel may bring into these minutes -/
def bud (s : Int32) : Nat := if s = 115 then 0 else if s = 116 then 1 else 2
def PM (n t : Nat) (m : MM) : Prop := WFa m ∧ (∀ p, p < npN m → NX m p ∧ MX m p) ∧ (∀ p, p < 40 → cntE m p (logN m) ≤ 2 * n + bud (m 28 p)) ∧ isN (m 41 0) 0 t ∧ FR m ∧ (∀ p, p < npN m → m 29 p = 0 ∨ m 29 p = 1) ∧ HC m
theorem bud_le (s : Int32) : bud s ≤ 2 := by unfold bud; split <;> (try split) <;> omega
theorem PM.log {n t : Nat} {m : MM} (h : PM n t m) : logN m ≤ 40 * (2 * n + 2) := by
  rw [log_sum h.1]
  have h1 : sumN (fun p => cntE m p (logN m)) 40 ≤ sumN (fun _ => 1 * (2 * n + 2)) 40 := sumN_mono 40 (fun p hp => by
    have a := h.2.2.1 p hp
    have b := bud_le (m 28 p)
    omega)
  rw [sumN_mul (fun _ => 1) (2 * n + 2) 40, sumN_one] at h1
  exact h1
theorem PM.ext {n t : Nat} {m m' : MM} (h : PM n t m) (hw : WFa m') (e : ∀ k, mK k → k ≠ 8 → k ≠ 10 → m' k = m k) : PM n t m' := by
  obtain ⟨h1, h2, h3, h4, h5, h6, h7⟩ := h
  have k3 : ∀ k, mK k → k ≠ 8 → k ≠ 10 → m' k = m k := e
  have n3 : npN m' = npN m := npN_ext (k3 39 (by unfold mK; omega) (by omega) (by omega))
  refine ⟨hw, fun p hp => ?_, fun p hp => ?_, by rw [k3 41 (by unfold mK; omega) (by omega) (by omega)]; exact h4, fun p hp => ?_, fun p hp => ?_, h7.ext (k3 37 (by unfold mK; omega) (by omega) (by omega)) (k3 39 (by unfold mK; omega) (by omega) (by omega)) (k3 0 (by unfold mK; omega) (by omega) (by omega)) (k3 41 (by unfold mK; omega) (by omega) (by omega)) (fun p _ => Or.inl (by rw [k3 18 (by unfold mK; omega) (by omega) (by omega)]))⟩
  · rw [n3] at hp
    obtain ⟨g1, g2⟩ := h2 p hp
    refine ⟨g1.ext (k3 38 (by unfold mK; omega) (by omega) (by omega)) (k3 2 (by unfold mK; omega) (by omega) (by omega)) (by rw [k3 28 (by unfold mK; omega) (by omega) (by omega)]) (by rw [k3 19 (by unfold mK; omega) (by omega) (by omega)]) (by rw [k3 15 (by unfold mK; omega) (by omega) (by omega)]), ?_⟩
    unfold MX
    rw [k3 28 (by unfold mK; omega) (by omega) (by omega), k3 22 (by unfold mK; omega) (by omega) (by omega)]
    exact g2
  · rw [cntE_m (k3 31 (by unfold mK; omega) (by omega) (by omega)) (k3 40 (by unfold mK; omega) (by omega) (by omega)), k3 28 (by unfold mK; omega) (by omega) (by omega)]
    exact h3 p hp
  · rw [n3] at hp
    rw [k3 17 (by unfold mK; omega) (by omega) (by omega), k3 22 (by unfold mK; omega) (by omega) (by omega), k3 23 (by unfold mK; omega) (by omega) (by omega), k3 24 (by unfold mK; omega) (by omega) (by omega), k3 26 (by unfold mK; omega) (by omega) (by omega), k3 27 (by unfold mK; omega) (by omega) (by omega), k3 29 (by unfold mK; omega) (by omega) (by omega)]
    exact h5 p hp
  · rw [n3] at hp
    rw [k3 29 (by unfold mK; omega) (by omega) (by omega)]; exact h6 p hp
/-- one parcel changes -/
theorem PM.chg {n t q : Nat} {m m' : MM} (h : PM n t m) (hw : WFa m') (hq : q < npN m) (e : ∀ k, k = 0 ∨ k = 2 ∨ (37 ≤ k ∧ k ≤ 39) ∨ k = 41 → m' k = m k) (e2 : ∀ k i, 11 ≤ k → k ≤ 29 → i ≠ q → m' k i = m k i) (hN : NX m' q) (hX : MX m' q)
    (hc1 : ∀ p, p < 40 → p ≠ q → cntE m' p (logN m') = cntE m p (logN m)) (hc2 : cntE m' q (logN m') ≤ 2 * n + bud (m' 28 q)) (h29 : m' 29 q = m 29 q) (h18 : m' 18 q = m 18 q) : PM n t m' := by
  obtain ⟨h1, h2, h3, h4, h5, h6, h7⟩ := h
  have n3 : npN m' = npN m := npN_ext (e 39 (by omega))
  refine ⟨hw, fun p hp => ?_, fun p hp => ?_, by rw [e 41 (by omega)]; exact h4, fun p hp => ?_, fun p hp => ?_, h7.ext (e 37 (by omega)) (e 39 (by omega)) (e 0 (by omega)) (e 41 (by omega)) (fun p _ => Or.inl ?_)⟩
  · by_cases z : p = q
    · rw [z]; exact ⟨hN, hX⟩
    · rw [n3] at hp
      obtain ⟨g1, g2⟩ := h2 p hp
      refine ⟨g1.ext (e 38 (by omega)) (e 2 (by omega)) (e2 28 p (by omega) (by omega) z) (e2 19 p (by omega) (by omega) z) (e2 15 p (by omega) (by omega) z), ?_⟩
      unfold MX
      rw [e2 28 p (by omega) (by omega) z, e2 22 p (by omega) (by omega) z]
      exact g2
  · by_cases z : p = q
    · rw [z]; exact hc2
    · rw [hc1 p hp z, e2 28 p (by omega) (by omega) z]; exact h3 p hp
  · rw [n3] at hp
    have z : p ≠ q := by omega
    rw [e2 17 p (by omega) (by omega) z, e2 22 p (by omega) (by omega) z, e2 23 p (by omega) (by omega) z, e2 24 p (by omega) (by omega) z, e2 26 p (by omega) (by omega) z, e2 27 p (by omega) (by omega) z, e2 29 p (by omega) (by omega) z]
    exact h5 p hp
  · rw [n3] at hp
    by_cases z : p = q
    · rw [z, h29]; exact h6 q hq
    · rw [e2 29 p (by omega) (by omega) z]; exact h6 p hp
  · by_cases z : p = q
    · rw [z]; exact h18
    · exact e2 18 p (by omega) (by omega) z
theorem fHap_i {m : MM} {q : Nat} {kind l : Int32} {k i : Nat} (h31 : k ≠ 31) (h40 : k ≠ 40) (h46 : k ≠ 46) (hi : i ≠ q) : fHap m q kind l k i = m k i := by
  by_cases z : k = 27
  · subst z
    unfold fHap fHap1
    rw [up_i hi, up_k (by omega), up_k (by omega), up_k (by omega), up_k (by omega), up_k (by omega), fHap0_key m (by omega) (by omega)]
  · rw [hap_pk h31 h40 z h46]
/-- a parcel that waits is loaded -/
theorem Sm0.load {n t : Nat} {c m : MM} (h : Sm0 c m) (hP : PM n t m) (hn : n < 512) {v l : Nat} (hv : v < npN m) (hl : l < nlN m) (h28 : m 28 v = 115) (h19 : m 19 v = nI l) :
    Sm0 (cLoad c v l) (fHap (mRid m l v) v 108 (nI l)) ∧ PM n t (fHap (mRid m l v) v 108 (nI l)) ∧ fHap (mRid m l v) v 108 (nI l) 28 v = 116 := by
  have hw := hP.1
  have np40 := hw.np.2
  have nh6 := hw.nh.2
  have nl12 := hw.nl.2
  obtain ⟨b1, b2, b3⟩ := h.sl
  have hq2 := h.pa hv
  have wR : WFa (mRid m l v) := hw.rid hv hl
  have kR : ∀ k, k ≠ 28 → k ≠ 16 → k ≠ 17 → mRid m l v k = m k := fun k z1 z2 z3 => by unfold mRid; rw [up_key z3, up_key z2, up_key z1]
  have oR : ∀ k i, i ≠ v → mRid m l v k i = m k i := fun k i z => by unfold mRid; rw [up_i z, up_i z, up_i z]
  have r28 : mRid m l v 28 v = 116 := by unfold mRid; rw [up_k (by omega), up_k (by omega), up_s]
  have hcnt := hP.2.2.1 v (by omega)
  rw [h28] at hcnt
  have hb0 : bud 115 = 0 := rfl
  rw [hb0] at hcnt
  have e2l : c 2 l = m 2 l := (b3.2 l hl).1 2 (by omega) (by omega)
  have e6l : c 6 l = m 6 l := (b3.2 l hl).1 6 (by omega) (by omega)
  have hNX := (hP.2.1 v hv).1 h28 l hl h19
  -- the class's state with the reference's bags
  obtain ⟨C0, hC0⟩ : ∃ z, z = pcb c m := ⟨_, rfl⟩
  have h' : Sm C0 m := by rw [hC0]; exact h
  have k0 : ∀ k, k ≠ 8 → k ≠ 10 → C0 k = c k := fun k z1 z2 => by rw [hC0]; exact pcb_k z1 z2
  have g := (h'.2.2.1 v hv).1.1
  have s1 : Sm (up (up (up C0 28 v 116) 116 v (nI l)) 17 v (c 41 0 + c 6 l)) (mRid m l v) := by
    refine h'.atq (q := v) ((((Cq.refl v C0).put (by omega) _).put (by omega) _).put (by omega) _) ((((Mq.refl v m).put (by omega) _).put (by omega) _).put (by omega) _) (fun _ => ⟨⟨fun k hk => ?_, fun _ => ?_⟩, ?_⟩)
    · unfold mRid
      have hk2 := pk_ne hk
      by_cases z : k = 17
      · subst z; rw [up_s, up_s, b2, e6l]
      · have z116 : ¬ k = 116 := by omega
        have z16 : ¬ k = 16 := by omega
        by_cases z2 : k = 28
        · subst z2; simp [up]
        · have := g k hk
          simp [up, z, z116, z16, z2, this]
    · unfold mRid
      rw [up_k (by omega), up_s, up_k (by omega), up_s]
    · unfold mRid
      exact ((hq2.2.oth (by unfold mpk; omega) (by omega)).oth (by unfold mpk; omega) (by omega)).oth (by unfold mpk; omega) (by omega)
  have n3 : npN (mRid m l v) = npN m := npN_ext (kR 39 (by omega) (by omega) (by omega))
  have cR : ∀ p, cntE (mRid m l v) p (logN (mRid m l v)) = cntE m p (logN m) := fun p => cntE_m (kR 31 (by omega) (by omega) (by omega)) (kR 40 (by omega) (by omega) (by omega)) p
  have v15 := vp_nI hq2.2.1.2.2 (by omega)
  have s2 := s1.note wR (by rw [n3]; exact hv) (jj := 3) (kind := 108) (l := nI l) (y := nI l) (t := c 41 0) (x := (c 2 l).toNatClampNeg) (by rw [cR]; omega) rfl rfl (by rw [kR 41 (by omega) (by omega) (by omega)]; exact b2) (by rw [kR 15 (by omega) (by omega) (by omega), e2l, hNX]; exact v15.symm) (Or.inr ⟨nI_pos (by omega), rfl⟩)
  have eC : ∀ k, k ≠ 8 → k ≠ 10 → up (up (up c 28 v 116) 116 v (nI l)) 17 v (c 41 0 + c 6 l) k = up (up (up C0 28 v 116) 116 v (nI l)) 17 v (c 41 0 + c 6 l) k := fun k z1 z2 => up_eq (up_eq (up_eq (k0 k z1 z2).symm))
  have eL : ∀ k, k ≠ 8 → k ≠ 10 → cLoad c v l k = cNote (up (up (up C0 28 v 116) 116 v (nI l)) 17 v (c 41 0 + c 6 l)) v 3 (c 41 0) (c 2 l).toNatClampNeg (nI l) k := fun k z1 z2 => cNote_congr eC v 3 (c 41 0) (c 2 l).toNatClampNeg (nI l) z1 z2
  have hLog := hP.log
  have wF : WFa (fHap (mRid m l v) v 108 (nI l)) := wR.hap (by rw [n3]; exact hv) rfl _ (by
    have : logN (mRid m l v) = logN m := logN_ext (kR 40 (by omega) (by omega) (by omega))
    omega)
  have f28 : fHap (mRid m l v) v 108 (nI l) 28 v = 116 := by rw [hap_pk (by omega) (by omega) (by omega) (by omega), r28]
  have hcn := fun p (hp : p < 40) => hap_cntE wR v 108 (nI l) (by omega) (p := p) (by omega)
  refine ⟨Sm0.of s2 (fun k _ z1 z2 => eL k z1 z2) (fun p => by rw [eL 171 (by omega) (by omega)]), hP.chg wF hv (fun k hk => ?_) (fun k i z1 z2 z3 => ?_) (fun y => ?_) ?_ (fun p hp z => ?_) ?_ ?_ ?_, f28⟩
  · rw [hap_pk (by omega) (by omega) (by omega) (by omega), kR k (by omega) (by omega) (by omega)]
  · rw [fHap_i (by omega) (by omega) (by omega) z3, oR k i z3]
  · rw [f28] at y; exact absurd y (by decide)
  · have hX := (hP.2.1 v hv).2
    unfold MX
    rw [hap_pk (k := 22) (by omega) (by omega) (by omega) (by omega), kR 22 (by omega) (by omega) (by omega)]
    exact Or.inr (hX.resolve_left (fun w => by rw [h28] at w; exact absurd w (by decide)))
  · rw [hcn p hp, cR, if_neg z]; rfl
  · rw [hcn v (by omega), cR, if_pos rfl, f28]
    have : bud 116 = 1 := rfl
    omega
  · rw [hap_pk (by omega) (by omega) (by omega) (by omega), kR 29 (by omega) (by omega) (by omega)]
  · rw [hap_pk (by omega) (by omega) (by omega) (by omega), kR 18 (by omega) (by omega) (by omega)]
/-- a parcel that waits is left behind -/
theorem Sm0.left {n t : Nat} {c m : MM} (h : Sm0 c m) (hP : PM n t m) {v : Nat} (hv : v < npN m) (i : Nat) (y : Int32) :
    Sm0 (cLq (up c 24 v (c 24 v + 1)) 4 176 i y) (up (up m 30 v 1) 24 v (m 24 v + 1)) ∧ PM n t (up (up m 30 v 1) 24 v (m 24 v + 1)) := by
  have hq2 := h.pa hv
  obtain ⟨C0, hC0⟩ : ∃ z, z = pcb c m := ⟨_, rfl⟩
  have h' : Sm C0 m := by rw [hC0]; exact h
  have k0 : ∀ k, k ≠ 8 → k ≠ 10 → C0 k = c k := fun k z1 z2 => by rw [hC0]; exact pcb_k z1 z2
  have e24 : c 24 v = m 24 v := hq2.1.1 24 rfl
  have s1 := h'.set (k := 24) (q := v) (x := m 24 v + 1) rfl (by omega) (fun _ => hq2.2.oth (by unfold mpk; omega) (by omega))
  have s2 : Sm (up C0 24 v (m 24 v + 1)) (up (up m 30 v 1) 24 v (m 24 v + 1)) := s1.ext (fun _ _ => rfl) (fun _ => rfl) (fun k hk => up_eq (up_key (by unfold mK at hk; omega)))
  have wF : WFa (up (up m 30 v 1) 24 v (m 24 v + 1)) := (hP.1.upx (by unfold kWF; omega)).upx (by unfold kWF; omega)
  have kF : ∀ k, k ≠ 30 → k ≠ 24 → up (up m 30 v 1) 24 v (m 24 v + 1) k = m k := fun k z1 z2 => by rw [up_key z2, up_key z1]
  have hcn : ∀ p, cntE (up (up m 30 v 1) 24 v (m 24 v + 1)) p (logN (up (up m 30 v 1) 24 v (m 24 v + 1))) = cntE m p (logN m) := fun p => cntE_m (kF 31 (by omega) (by omega)) (kF 40 (by omega) (by omega)) p
  refine ⟨Sm0.of s2 (fun k hk z1 z2 => ?_) (fun p => ?_), hP.chg wF hv (fun k hk => kF k (by omega) (by omega)) (fun k i z1 z2 z3 => by rw [up_i z3, up_i z3]) ?_ ?_ (fun p _ _ => hcn p) ?_ (by rw [kF 29 (by omega) (by omega)]) (by rw [kF 18 (by omega) (by omega)])⟩
  · rw [cLq_k (by unfold cK at hk; omega) (by unfold cK at hk; omega) (by unfold cK at hk; omega), e24]
    exact up_eq (k0 k z1 z2).symm
  · unfold cLq
    rw [if_neg (by omega), if_neg (by omega), if_neg (by omega), up_k (by omega), up_k (by omega), k0 171 (by omega) (by omega)]
  · exact ((hP.2.1 v hv).1).ext (kF 38 (by omega) (by omega)) (kF 2 (by omega) (by omega)) (by rw [kF 28 (by omega) (by omega)]) (by rw [kF 19 (by omega) (by omega)]) (by rw [kF 15 (by omega) (by omega)])
  · unfold MX
    rw [kF 28 (by omega) (by omega), kF 22 (by omega) (by omega)]
    exact (hP.2.1 v hv).2
  · rw [hcn, kF 28 (by omega) (by omega)]
    exact hP.2.2.1 v (by have := hP.1.np.2; omega)

