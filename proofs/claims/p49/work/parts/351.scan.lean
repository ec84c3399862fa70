/-! scans -/
theorem hpl_key (X : MM) (p : Nat) (kind l : Int32) {k : Nat} (h : k ≤ 26 ∨ k = 28 ∨ k = 29 ∨ (37 ≤ k ∧ k ≤ 39) ∨ k = 41) (h19 : k ≠ 19) : fHap (fPlans X p) p kind l k = X k := by
  rw [hap_pk (by omega) (by omega) (by omega) (by omega), fPlans_key X p (by unfold kTry; omega) h19]
theorem sc0_28 (X : MM) (p : Nat) : fScans0 X p 28 p = 115 := by
  unfold fScans0
  split
  · rw [up_k (by omega), up_k (by omega), up_s]
  · rw [up_k (by omega), up_s]
theorem sc0_18 (X : MM) (p : Nat) : fScans0 X p 18 p = X 41 0 := by
  unfold fScans0
  split
  · rw [up_k (by omega), up_s]
  · rw [up_s]
theorem sc0_21 (X : MM) (p : Nat) : fScans0 X p 21 p = if X 15 p = X 14 p ∧ X 21 p < 0 then X 41 0 else X 21 p := by
  unfold fScans0
  simp only [up_k (show (15 : Nat) ≠ 18 by omega), up_k (show (15 : Nat) ≠ 28 by omega), up_k (show (14 : Nat) ≠ 18 by omega), up_k (show (14 : Nat) ≠ 28 by omega), up_k (show (21 : Nat) ≠ 18 by omega), up_k (show (21 : Nat) ≠ 28 by omega)]
  split
  · rw [up_s]
  · rw [up_k (by omega), up_k (by omega)]
/-- what is the same of a parcel that is scanned -/
def sK (k : Nat) : Prop := k = 11 ∨ k = 12 ∨ k = 13 ∨ k = 14 ∨ k = 16 ∨ k = 17 ∨ k = 20 ∨ k = 23 ∨ k = 24 ∨ k = 25 ∨ k = 26 ∨ k = 29
def ScP (m m' : MM) (p : Nat) (st hb sc rc mi : Int32) : Prop := m' 28 p = st ∧ m' 15 p = hb ∧ m' 18 p = sc ∧ m' 21 p = rc ∧ m' 22 p = mi ∧ ∀ k, sK k → m' k p = m k p
theorem plan19 {Y : MM} {p : Nat} {kind l : Int32} (hm : ML (fHap (fPlans Y p) p kind l)) (hP : MP (fHap (fPlans Y p) p kind l) p) : fHap (fPlans Y p) p kind l 19 p = bHd (plR (fHap (fPlans Y p) p kind l) p) := by
  have k := fun (k : Nat) (h : k ≤ 26 ∨ k = 28 ∨ k = 29 ∨ (37 ≤ k ∧ k ≤ 39) ∨ k = 41) (h19 : k ≠ 19) => (hpl_key Y p kind l h h19).symm
  rw [← fPlan_by (Y := Y) hm hP (fun q hq => k q (by unfold lnKey at hq; omega) (by unfold lnKey at hq; omega)) (by rw [k 14 (by omega) (by omega)]) (by rw [k 15 (by omega) (by omega)]) (by rw [k 18 (by omega) (by omega)]), hap_pk (by omega) (by omega) (by omega) (by omega)]
  exact up_s _ _ _ _
theorem IVp.scn {m F : MM} {p : Nat} {st hb sc rc mi : Int32} (hI : IVp m p) (hs : ScP m F p st hb sc rc mi) (h19 : st = 115 → F 19 p = bHd (plR F p)) (hst : ¬ st = 100) (hm : ML F) (hP : MP F p) : IVp F p := by
  obtain ⟨s1, s2, s3, s4, s5, s6⟩ := hs
  obtain ⟨i1, i2, i3, i4, i5⟩ := hI
  refine ⟨fun z => ?_, ?_, ?_, ?_, fun z => ?_⟩
  · rw [h19 (s1.symm.trans z)]; exact plR_open hm hP
  · rw [s6 20 (by unfold sK; omega)]; exact i2
  · rw [s6 11 (by unfold sK; omega)]; exact i3
  · rw [s6 12 (by unfold sK; omega)]; exact i4
  · exact absurd (s1.symm.trans z) hst
section SCAN
variable {n : Nat} {c m : MM} {p y : Nat}
theorem scan_setup (h : Sim n c m) (hw : WFa m) (hc : WFc c) (hn : n < 512) (hp : p < npN m) (hy : y < nhN m) (hov : ¬ (m 28 p = 100 ∨ m 28 p = 104)) :
    xScn c (nI p) (nI y) = none ∧ ∃ N : MM, (∀ k, k ≠ 45 → N k = m k) ∧ fScan m (nI p) (nI y) = fScan1 N p (nI y) ∧ cScnR c (nI p) (nI y) = (fScan1 N p (nI y)).1 ∧ Sim (n + 1) (cScn c (nI p) (nI y)) (fScan1 N p (nI y)).2 ∧ WFa (fScan1 N p (nI y)).2 ∧ Tr 2 p N (fScan1 N p (nI y)).2 := by
  have n40 := hw.np.2
  have nh6 := hw.nh.2
  have hC := v_pC hw hp
  have vx : vp_in (nI p) (npN m) := vp_in_nI hp (by omega)
  have vy : vp_in (nI y) (nhN m) := vp_in_nI hy (by omega)
  have hX : xScn c (nI p) (nI y) = none := by
    unfold xScn
    rw [v_pX h hw hc hp, (h.hb hc).mpr vy, v_pk h hw hp (k := 28) rfl, if_neg hov]
    rfl
  have i1 : isPa m (nI p) = true := hw.isPa.mpr vx
  have i2 : isHb m (nI y) = true := hw.isHb.mpr vy
  have b1 : bi (¬ isPa m (nI p) = true ∨ ¬ isHb m (nI y) = true) = 0 := bi_f (fun q => q.elim (fun w => w i1) (fun w => w i2))
  have b2 : bi (isOver m (nI p).toNatClampNeg) = 0 := bi_f (by rw [hC]; exact hov)
  have hf : fScan m (nI p) (nI y) = fScan1 (thr (thr m 0 1) 0 2) p (nI y) := by
    unfold fScan
    simp only
    rw [b1, if_neg (fun q => q rfl), b2, if_neg (fun q => q rfl), hC]
  have mk : ∀ k, k ≠ 45 → thr (thr m 0 1) 0 2 k = m k := fun k hk => by rw [thrk _ _ _ hk, thrk _ _ _ hk]
  have hL := h.log hw
  have q := call_scan h hn hw hc (nI p) (nI y)
  have qw := (rw_scan hw (by omega) (nI p) (nI y)).1
  rw [hf] at q qw
  refine ⟨hX, _, mk, hf, q.2.1 hX, ?_, qw, ?_⟩
  · have := q.2.2
    rw [if_pos hX] at this
    exact this
  · have h2 := (h.thr 0 1).thr 0 2
    have w2 : WFa (thr (thr m 0 1) 0 2) := (hw.thr 0 1).thr 0 2
    have hq2 : p < npN (thr (thr m 0 1) 0 2) := by rw [npN_ext (mk 39 (by omega))]; exact hp
    have hN := h2.2.1 p hq2
    have h22 : isN ((thr (thr m 0 1) 0 2) 22 p) 0 2 := hN.2.resolve_left (fun q => hov (Or.inr (by rw [← mk 28 (by omega)]; exact q)))
    have hL2 := h2.log w2
    exact (h2.1.scan1 w2 hq2 (x := nI y) (by rw [nhN_ext (mk 37 (by omega))]; exact vy) (h2.cnt hn (by omega)) (by omega) h22 hN.1).2.2.2.2
theorem one_of {N F : MM} {e q : Nat} (mk : ∀ k, k ≠ 45 → N k = m k) (hT : Tr e q N F) : One m F q :=
  ⟨fun k hk => (hT.1 k hk.1).trans (mk k hk.2), fun k i hk hi => by rw [hT.2.1 k i hk hi, mk k (by omega)]⟩
/-- scanned where it is known to be -/
theorem d_scanO (h : Stt n c m) (hc : WFc c) (hn : n < 512) (hp : p < npN m) (hy : y < nhN m) (z1 : m 28 p = 117) (z2 : m 15 p = nI y) :
    xScn c (nI p) (nI y) = none ∧ cScnR c (nI p) (nI y) = 111 ∧ ∃ m', Stt (n + 1) (cScn c (nI p) (nI y)) m' ∧ One m m' p ∧ ScP m m' p 115 (nI y) (m 41 0) (if nI y = m 14 p ∧ m 21 p < 0 then m 41 0 else m 21 p) (m 22 p) := by
  obtain ⟨hS, hw, hI⟩ := h
  obtain ⟨hX, N, mk, -, hR, hS2, hW2, hT⟩ := scan_setup hS hw hc hn hp hy (by rw [z1]; decide)
  have e28 : N 28 p = 117 := by rw [mk 28 (by omega)]; exact z1
  have e15 : N 15 p = nI y := by rw [mk 15 (by omega)]; exact z2
  have hf : fScan1 N p (nI y) = (111, fHap (fPlans (fScans0 (up N 15 p (nI y)) p) p) p 115 (-1)) := by
    unfold fScan1
    rw [if_neg (fun q => by have := q.2; rw [e28] at this; exact absurd this (by decide))]
    simp only
    rw [if_pos ⟨by rw [e28]; decide, e15⟩]
    rfl
  rw [hf] at hR hS2 hW2 hT
  have hO := one_of mk hT
  have kx : ∀ k, sK k ∨ k = 22 ∨ k = 15 ∨ k = 14 ∨ k = 21 ∨ k = 41 → k ≠ 15 → up N 15 p (nI y) k = m k := fun k hk h15 => by rw [up_key h15, mk k (by unfold sK at hk; omega)]
  have hq2 : p < npN (fHap (fPlans (fScans0 (up N 15 p (nI y)) p) p) p 115 (-1)) := by rw [npN_ext (hO.1 39 ⟨by unfold oK; omega, by omega⟩)]; exact hp
  have h19 := plan19 (Y := fScans0 (up N 15 p (nI y)) p) (kind := 115) (l := -1) hS2.1.2.1 (hS2.1.2.2.1 p hq2).2
  have hsc : ScP m (fHap (fPlans (fScans0 (up N 15 p (nI y)) p) p) p 115 (-1)) p 115 (nI y) (m 41 0) (if nI y = m 14 p ∧ m 21 p < 0 then m 41 0 else m 21 p) (m 22 p) := by
    refine ⟨?_, ?_, ?_, ?_, ?_, fun k hk => ?_⟩
    · rw [hpl_key _ _ _ _ (by omega) (by omega), sc0_28]
    · rw [hpl_key _ _ _ _ (by omega) (by omega), fScans0_key _ _ (by omega), up_s]
    · rw [hpl_key _ _ _ _ (by omega) (by omega), sc0_18, kx 41 (by omega) (by omega)]
    · rw [hpl_key _ _ _ _ (by omega) (by omega), sc0_21, up_s, kx 14 (by omega) (by omega), kx 21 (by omega) (by omega), kx 41 (by omega) (by omega)]
    · rw [hpl_key _ _ _ _ (by omega) (by omega), fScans0_key _ _ (by omega), kx 22 (by omega) (by omega)]
    · rw [hpl_key _ _ _ _ (by unfold sK at hk; omega) (by unfold sK at hk; omega), fScans0_key _ _ (by unfold sK at hk; omega), kx k (Or.inl hk) (by unfold sK at hk; omega)]
  generalize fHap (fPlans (fScans0 (up N 15 p (nI y)) p) p) p 115 (-1) = F at *
  exact ⟨hX, hR, F, ⟨hS2, hW2, hI.one hO ((hI p hp).scn hsc (fun _ => h19) (by decide) hS2.1.2.1 (hS2.1.2.2.1 p hq2).2)⟩, hO, hsc⟩
/-- a misroute -/
theorem d_scanM (h : Stt n c m) (hc : WFc c) (hn : n < 512) (hp : p < npN m) (hy : y < nhN m) (hov : ¬ (m 28 p = 100 ∨ m 28 p = 104)) (z : m 28 p = 116 ∨ ¬ m 15 p = nI y) (z2 : ¬ m 22 p + 1 = 3) :
    xScn c (nI p) (nI y) = none ∧ cScnR c (nI p) (nI y) = 109 ∧ ∃ m', Stt (n + 1) (cScn c (nI p) (nI y)) m' ∧ One m m' p ∧ ScP m m' p 115 (nI y) (m 41 0) (if nI y = m 14 p ∧ m 21 p < 0 then m 41 0 else m 21 p) (m 22 p + 1) := by
  obtain ⟨hS, hw, hI⟩ := h
  obtain ⟨hX, N, mk, -, hR, hS2, hW2, hT⟩ := scan_setup hS hw hc hn hp hy hov
  have hz : ¬ (¬ N 28 p = 116 ∧ N 15 p = nI y) := fun q => z.elim (fun w => q.1 (by rw [mk 28 (by omega)]; exact w)) (fun w => w (by rw [← mk 15 (by omega)]; exact q.2))
  obtain ⟨B, hB⟩ : ∃ B, B = fHap (up (up N 15 p (nI y)) 22 p (N 22 p + 1)) p 109 (-1) := ⟨_, rfl⟩
  have kB : ∀ k, k ≤ 26 ∨ k = 28 ∨ k = 29 ∨ (37 ≤ k ∧ k ≤ 39) ∨ k = 41 → B k = up (up N 15 p (nI y)) 22 p (N 22 p + 1) k := fun k hk => by rw [hB, hap_pk (by omega) (by omega) (by omega) (by omega)]
  have e22 : B 22 p = m 22 p + 1 := by rw [kB 22 (by omega), up_s, mk 22 (by omega)]
  have kx : ∀ k, k ≤ 26 ∨ k = 28 ∨ k = 29 ∨ (37 ≤ k ∧ k ≤ 39) ∨ k = 41 → k ≠ 15 → k ≠ 22 → B k = m k := fun k hk h15 h22 => by rw [kB k hk, up_key h22, up_key h15, mk k (by omega)]
  have hf : fScan1 N p (nI y) = (109, fPlans (fScans0 B p) p) := by
    unfold fScan1
    rw [if_neg (fun q => hz q.1)]
    simp only [up_k (show (22 : Nat) ≠ 15 by omega)]
    rw [if_neg hz, ← hB, if_neg (by rw [e22]; exact z2)]
    rfl
  rw [hf] at hR hS2 hW2 hT
  have hO := one_of mk hT
  obtain ⟨F, hF⟩ : ∃ F, F = fPlans (fScans0 B p) p := ⟨_, rfl⟩
  have kF : ∀ k, k ≤ 26 ∨ k = 28 ∨ k = 29 ∨ (37 ≤ k ∧ k ≤ 39) ∨ k = 41 → k ≠ 19 → F k = fScans0 B p k := fun k hk h19 => by rw [hF, fPlans_key _ _ (by unfold kTry; omega) h19]
  rw [← hF] at hR hS2 hW2 hT hO
  dsimp only at hR hS2 hW2 hT hO
  have hq2 : p < npN F := by rw [npN_ext (hO.1 39 ⟨by unfold oK; omega, by omega⟩)]; exact hp
  have h19 : F 19 p = bHd (plR F p) := by
    rw [← fPlan_by (Y := fScans0 B p) hS2.1.2.1 (hS2.1.2.2.1 p hq2).2 (fun q hq => (kF q (by unfold lnKey at hq; omega) (by unfold lnKey at hq; omega)).symm) (by rw [kF 14 (by omega) (by omega)]) (by rw [kF 15 (by omega) (by omega)]) (by rw [kF 18 (by omega) (by omega)]), hF]
    exact up_s _ _ _ _
  have hsc : ScP m F p 115 (nI y) (m 41 0) (if nI y = m 14 p ∧ m 21 p < 0 then m 41 0 else m 21 p) (m 22 p + 1) := by
    have b15 : B 15 p = nI y := by rw [kB 15 (by omega), up_k (by omega), up_s]
    refine ⟨?_, ?_, ?_, ?_, ?_, fun k hk => ?_⟩
    · rw [kF 28 (by omega) (by omega), sc0_28]
    · rw [kF 15 (by omega) (by omega), fScans0_key _ _ (by omega), b15]
    · rw [kF 18 (by omega) (by omega), sc0_18, kx 41 (by omega) (by omega) (by omega)]
    · rw [kF 21 (by omega) (by omega), sc0_21, b15, kx 14 (by omega) (by omega) (by omega), kx 21 (by omega) (by omega) (by omega), kx 41 (by omega) (by omega) (by omega)]
    · rw [kF 22 (by omega) (by omega), fScans0_key _ _ (by omega), e22]
    · rw [kF k (by unfold sK at hk; omega) (by unfold sK at hk; omega), fScans0_key _ _ (by unfold sK at hk; omega), kx k (by unfold sK at hk; omega) (by unfold sK at hk; omega) (by unfold sK at hk; omega)]
  exact ⟨hX, hR, F, ⟨hS2, hW2, hI.one hO ((hI p hp).scn hsc (fun _ => h19) (by decide) hS2.1.2.1 (hS2.1.2.2.1 p hq2).2)⟩, hO, hsc⟩
/-- the third one -/
theorem d_scanH (h : Stt n c m) (hc : WFc c) (hn : n < 512) (hp : p < npN m) (hy : y < nhN m) (hov : ¬ (m 28 p = 100 ∨ m 28 p = 104)) (z : m 28 p = 116 ∨ ¬ m 15 p = nI y) (z2 : m 22 p + 1 = 3) :
    xScn c (nI p) (nI y) = none ∧ cScnR c (nI p) (nI y) = 104 ∧ ∃ m', Stt (n + 1) (cScn c (nI p) (nI y)) m' ∧ One m m' p ∧ ScP m m' p 104 (nI y) (m 18 p) (m 21 p) (m 22 p + 1) := by
  obtain ⟨hS, hw, hI⟩ := h
  obtain ⟨hX, N, mk, -, hR, hS2, hW2, hT⟩ := scan_setup hS hw hc hn hp hy hov
  have hz : ¬ (¬ N 28 p = 116 ∧ N 15 p = nI y) := fun q => z.elim (fun w => q.1 (by rw [mk 28 (by omega)]; exact w)) (fun w => w (by rw [← mk 15 (by omega)]; exact q.2))
  obtain ⟨B, hB⟩ : ∃ B, B = fHap (up (up N 15 p (nI y)) 22 p (N 22 p + 1)) p 109 (-1) := ⟨_, rfl⟩
  have kB : ∀ k, k ≤ 26 ∨ k = 28 ∨ k = 29 ∨ (37 ≤ k ∧ k ≤ 39) ∨ k = 41 → B k = up (up N 15 p (nI y)) 22 p (N 22 p + 1) k := fun k hk => by rw [hB, hap_pk (by omega) (by omega) (by omega) (by omega)]
  have e22 : B 22 p = m 22 p + 1 := by rw [kB 22 (by omega), up_s, mk 22 (by omega)]
  have kx : ∀ k, k ≤ 26 ∨ k = 28 ∨ k = 29 ∨ (37 ≤ k ∧ k ≤ 39) ∨ k = 41 → k ≠ 15 → k ≠ 22 → B k = m k := fun k hk h15 h22 => by rw [kB k hk, up_key h22, up_key h15, mk k (by omega)]
  have hf : fScan1 N p (nI y) = (104, fHap (up B 28 p 104) p 104 (-1)) := by
    unfold fScan1
    rw [if_neg (fun q => hz q.1)]
    simp only [up_k (show (22 : Nat) ≠ 15 by omega)]
    rw [if_neg hz, ← hB, if_pos (by rw [e22]; exact z2)]
  rw [hf] at hR hS2 hW2 hT
  have hO := one_of mk hT
  have hsc : ScP m (fHap (up B 28 p 104) p 104 (-1)) p 104 (nI y) (m 18 p) (m 21 p) (m 22 p + 1) := by
    have b15 : B 15 p = nI y := by rw [kB 15 (by omega), up_k (by omega), up_s]
    refine ⟨?_, ?_, ?_, ?_, ?_, fun k hk => ?_⟩
    · rw [hap_pk (by omega) (by omega) (by omega) (by omega), up_s]
    · rw [hap_pk (by omega) (by omega) (by omega) (by omega), up_k (by omega), b15]
    · rw [hap_pk (by omega) (by omega) (by omega) (by omega), up_k (by omega), kx 18 (by omega) (by omega) (by omega)]
    · rw [hap_pk (by omega) (by omega) (by omega) (by omega), up_k (by omega), kx 21 (by omega) (by omega) (by omega)]
    · rw [hap_pk (by omega) (by omega) (by omega) (by omega), up_k (by omega), e22]
    · unfold sK at hk
      rw [hap_pk (by omega) (by omega) (by omega) (by omega), up_k (by omega), kx k (by omega) (by omega) (by omega)]
  generalize fHap (up B 28 p 104) p 104 (-1) = F at *
  have hq2 : p < npN F := by rw [npN_ext (hO.1 39 ⟨by unfold oK; omega, by omega⟩)]; exact hp
  exact ⟨hX, hR, F, ⟨hS2, hW2, hI.one hO ((hI p hp).scn hsc (fun q => absurd q (by decide)) (by decide) hS2.1.2.1 (hS2.1.2.2.1 p hq2).2)⟩, hO, hsc⟩
/-- scanned there already -/
theorem d_scanA (h : Stt n c m) (hc : WFc c) (hp : p < npN m) (hy : y < nhN m) (z1 : m 28 p = 115) (z2 : m 15 p = nI y) :
    xScn c (nI p) (nI y) = none ∧ cScnR c (nI p) (nI y) = 97 ∧ cScn c (nI p) (nI y) = c := by
  obtain ⟨hS, hw, hI⟩ := h
  have k28 := v_pk hS hw hp (k := 28) rfl
  have k15 := v_pk hS hw hp (k := 15) rfl
  have nh6 := hw.nh.2
  refine ⟨?_, ?_, ?_⟩
  · unfold xScn
    rw [v_pX hS hw hc hp, (hS.hb hc).mpr (vp_in_nI hy (by omega)), k28, z1]
    rfl
  · unfold cScnR
    rw [k28, k15, z1, z2, if_neg (fun q => q.elim (fun w => absurd w (by decide)) (fun w => w rfl)), if_pos rfl]
  · unfold cScn
    rw [k28, k15, z1, z2, if_neg (fun q => q.elim (fun w => absurd w (by decide)) (fun w => w rfl)), if_pos rfl]
/-- it does not travel any more -/
theorem d_scanX (h : Stt n c m) (hc : WFc c) (hp : p < npN m) (hy : y < nhN m) (z : m 28 p = 100 ∨ m 28 p = 104) : xScn c (nI p) (nI y) = some iseC := by
  obtain ⟨hS, hw, hI⟩ := h
  have nh6 := hw.nh.2
  unfold xScn
  rw [v_pX hS hw hc hp, (hS.hb hc).mpr (vp_in_nI hy (by omega)), v_pk hS hw hp (k := 28) rfl, if_pos z]
  rfl
end SCAN
