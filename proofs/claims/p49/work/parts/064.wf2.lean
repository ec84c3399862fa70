theorem LL_hap_le {m : MM} (hw : WFa m) (p : Nat) (kind l : Int32) : LLm m ≤ LLm (fHap m p kind l) := by rw [LLm_hap]; exact (fHap0_room hw).2.2.1
theorem uC_mono {a b : MM} (h : LLm a ≤ LLm b) : uC a ≤ uC b ∧ uS a ≤ uS b := ⟨Nat.div_le_div_right h, Nat.mul_le_mul_left 2 h⟩
theorem uC_ext {a b : MM} (h : a 46 = b 46) : uC a = uC b ∧ uS a = uS b := by unfold uC uS; rw [LLm_ext h]; exact ⟨rfl, rfl⟩
theorem fHap_cnt {m : MM} (hw : WFa m) (p : Nat) (kind l : Int32) : fHap m p kind l 40 0 = nI (4 * (logN m + 1)) ∧ logN (fHap m p kind l) = logN m + 1 := by
  have hlg := hw.lg
  have e : fHap m p kind l 40 0 = nI (4 * (logN m + 1)) := by
    unfold fHap fHap1
    rw [up_k (by decide), up_s, fHap0_key m (by decide) (by decide), hlg.1, show (4 : Int32) = nI 4 from rfl, nI_add]
    rfl
  refine ⟨e, ?_⟩
  unfold logN
  rw [e, nI_clamp (by omega)]
  unfold logN
  omega
theorem fHap0_log {m : MM} (hw : WFa m) {i : Nat} (h : i < 4 * logN m) : fHap0 m 31 i = m 31 i := by
  unfold fHap0
  split
  · rw [grw_log hw, if_pos h]
  · rfl
theorem fHap_log {m : MM} (hw : WFa m) (p : Nat) (kind l : Int32) (i : Nat) : fHap m p kind l 31 i = if i = 4 * logN m then nI p else if i = 4 * logN m + 1 then kind else if i = 4 * logN m + 2 then m 41 0 else if i = 4 * logN m + 3 then m 15 p else fHap0 m 31 i := by
  have hlg := hw.lg
  have e : (fHap0 m 40 0).toNatClampNeg = 4 * logN m := by rw [fHap0_key m (by decide) (by decide), hlg.1, nI_clamp (by omega)]
  unfold fHap fHap1
  rw [up_k (by decide), up_k (by decide), e, fHap0_key m (k := 41) (by decide) (by decide), fHap0_key m (k := 15) (by decide) (by decide)]
  unfold up
  simp only [true_and]
  by_cases h0 : i = 4 * logN m
  · rw [if_neg (by omega), if_neg (by omega), if_neg (by omega), if_pos h0, if_pos h0]
  · by_cases h1 : i = 4 * logN m + 1
    · rw [if_neg (by omega), if_neg (by omega), if_pos h1, if_neg h0, if_pos h1]
    · by_cases h2 : i = 4 * logN m + 2
      · rw [if_neg (by omega), if_pos h2, if_neg h0, if_neg h1, if_pos h2]
      · by_cases h3 : i = 4 * logN m + 3
        · rw [if_pos h3, if_neg h0, if_neg h1, if_neg h2, if_pos h3]
        · rw [if_neg h3, if_neg h2, if_neg h1, if_neg h0, if_neg h0, if_neg h1, if_neg h2, if_neg h3]
theorem hap_LB {m : MM} (hw : WFa m) : LLm (fHap0 m) ≤ 4000 + 8 * (logN m + 1) := by
  have hlg := hw.lg
  have hr := fHap0_room hw
  by_cases c : nI (LLm m) < m 40 0 + 4
  · have h1 := hr.2.2.2.1 c
    have h2 := (hap_c hw).mp c
    omega
  · have h1 := hr.2.2.2.2 c
    omega
theorem hap_LL {m : MM} (hw : WFa m) (hU : logN m < 2 ^ 21) : LLm (fHap0 m) < 2 ^ 29 := by
  have := hap_LB hw
  omega
theorem WFa.hap {m : MM} (hw : WFa m) {p : Nat} (hp : p < npN m) {kind : Int32} (hk : narrow .char (.int kind) = .int kind) (l : Int32) (hU : logN m < 2 ^ 21) : WFa (fHap m p kind l) := by
  have K : ∀ {k : Nat}, k ≠ 31 → k ≠ 40 → k ≠ 27 → k ≠ 46 → fHap m p kind l k = m k := fun h1 h2 h3 h4 => fHap_key m p kind l h1 h2 h3 h4
  have n1 : nhN (fHap m p kind l) = nhN m := nhN_ext (K (by decide) (by decide) (by decide) (by decide))
  have n2 : nlN (fHap m p kind l) = nlN m := nlN_ext (K (by decide) (by decide) (by decide) (by decide))
  have n3 : npN (fHap m p kind l) = npN m := npN_ext (K (by decide) (by decide) (by decide) (by decide))
  obtain ⟨c1, c2⟩ := fHap_cnt hw p kind l
  have hlg := hw.lg
  have hro := fHap0_room hw
  have hnp := hw.np
  have hLL := LLm_hap m p kind l
  refine ⟨?_, ?_, ?_, ?_, ?_, ?_, ?_, ?_⟩
  · rw [n1, K (by decide) (by decide) (by decide) (by decide)]; exact hw.nh
  · rw [n2, K (by decide) (by decide) (by decide) (by decide)]; exact hw.nl
  · rw [n3, K (by decide) (by decide) (by decide) (by decide)]; exact hw.np
  · intro i hi
    rw [n2] at hi
    unfold lnOK
    rw [n1, K (k := 2) (by decide) (by decide) (by decide) (by decide), K (k := 3) (by decide) (by decide) (by decide) (by decide), K (k := 5) (by decide) (by decide) (by decide) (by decide), K (k := 8) (by decide) (by decide) (by decide) (by decide), K (k := 7) (by decide) (by decide) (by decide) (by decide), K (k := 9) (by decide) (by decide) (by decide) (by decide)]
    exact hw.ln hi
  · intro i hi
    rw [n3] at hi
    unfold paOK
    rw [n1, n2, K (k := 13) (by decide) (by decide) (by decide) (by decide), K (k := 14) (by decide) (by decide) (by decide) (by decide), K (k := 15) (by decide) (by decide) (by decide) (by decide), K (k := 16) (by decide) (by decide) (by decide) (by decide), K (k := 28) (by decide) (by decide) (by decide) (by decide)]
    exact hw.pa hi
  · refine ⟨by rw [c2]; exact c1, by rw [c2, hLL]; omega, ?_, by rw [hLL]; omega, by rw [hLL]; exact hap_LL hw hU, by rw [hLL, c2]; exact hap_LB hw⟩
    have e46 : fHap m p kind l 46 = fHap0 m 46 := fHap1_key _ _ _ _ (by decide) (by decide) (by decide)
    rw [hLL, e46]
    unfold fHap0
    split
    · rw [grw_LL (by omega)]; rfl
    · exact hlg.2.2.1
  · intro j hj
    rw [c2] at hj
    unfold evOK
    rw [n1, n3, fHap_log hw, fHap_log hw, fHap_log hw]
    by_cases e : j = logN m
    · subst e
      rw [if_pos rfl, if_neg (by omega), if_pos rfl, if_neg (by omega), if_neg (by omega), if_neg (by omega), if_pos rfl]
      exact ⟨vp_in_nI hp (by omega), hk, (hw.pa hp).2.2.1⟩
    · have hj2 : j < logN m := by omega
      rw [if_neg (by omega), if_neg (by omega), if_neg (by omega), if_neg (by omega), if_neg (by omega), if_neg (by omega), if_neg (by omega), if_neg (by omega), if_neg (by omega), if_neg (by omega), if_neg (by omega), if_neg (by omega), fHap0_log hw (by omega), fHap0_log hw (by omega), fHap0_log hw (by omega)]
      exact hw.ev hj2
  · unfold frOK
    rw [n2, n3, K (k := 16) (by decide) (by decide) (by decide) (by decide), K (k := 8) (by decide) (by decide) (by decide) (by decide), K (k := 9) (by decide) (by decide) (by decide) (by decide)]
    exact hw.fr
/-- one place of a parcel written -/
theorem WFa.pset {m : MM} (hw : WFa m) {k i : Nat} {x : Int32} (hk : k = 13 ∨ k = 14 ∨ k = 15 ∨ (k = 16 ∧ i < npN m) ∨ k = 28) (h : i < npN m → paOK (up m k i x) i) : WFa (up m k i x) := by
  have K : ∀ {k' : Nat}, k' ≠ k → up m k i x k' = m k' := fun h => up_key h
  have n1 : nhN (up m k i x) = nhN m := nhN_ext (K (by omega))
  have n2 : nlN (up m k i x) = nlN m := nlN_ext (K (by omega))
  have n3 : npN (up m k i x) = npN m := npN_ext (K (by omega))
  have n4 : logN (up m k i x) = logN m := logN_ext (K (by omega))
  have n5 : LLm (up m k i x) = LLm m := LLm_ext (K (by omega))
  refine ⟨?_, ?_, ?_, ?_, ?_, ?_, ?_, ?_⟩
  · rw [n1, K (by omega)]; exact hw.nh
  · rw [n2, K (by omega)]; exact hw.nl
  · rw [n3, K (by omega)]; exact hw.np
  · intro l hl
    rw [n2] at hl
    unfold lnOK
    rw [n1, K (k' := 2) (by omega), K (k' := 3) (by omega), K (k' := 5) (by omega), K (k' := 8) (by omega), K (k' := 7) (by omega), K (k' := 9) (by omega)]
    exact hw.ln hl
  · intro p hp
    rw [n3] at hp
    by_cases e : p = i
    · subst e; exact h hp
    · unfold paOK
      rw [n1, n2, up_i e, up_i e, up_i e, up_i e, up_i e]
      exact hw.pa hp
  · unfold lgOK
    rw [n4, n5, K (k' := 40) (by omega), K (k' := 46) (by omega)]
    exact hw.lg
  · intro j hj
    rw [n4] at hj
    unfold evOK
    rw [n1, n3, K (k' := 31) (by omega)]
    exact hw.ev hj
  · unfold frOK
    rw [n2, n3, K (k' := 8) (by omega), K (k' := 9) (by omega)]
    refine ⟨fun p hp => ?_, hw.fr.2⟩
    by_cases e : k = 16
    · subst e
      rw [up_i (by omega)]
      exact hw.fr.1 p hp
    · rw [K (k' := 16) (by omega)]
      exact hw.fr.1 p hp
theorem WFa.up28 {m : MM} (hw : WFa m) {i : Nat} {x : Int32} (h : x = 115 ∨ x = 117 ∨ x = 100 ∨ x = 104) : WFa (up m 28 i x) := by
  refine hw.pset (by omega) (fun hi => ?_)
  obtain ⟨a1, a2, a3, a4, a5, a6⟩ := hw.pa hi
  refine ⟨a1, a2, a3, a4, ?_, ?_⟩
  · rw [up_s]; intro z; rw [z] at h; exact absurd h (by decide)
  · rw [up_s]; rcases h with h | h | h | h <;> simp [h]
theorem WFa.up15 {m : MM} (hw : WFa m) {i : Nat} {x : Int32} (h : vp_in x (nhN m)) : WFa (up m 15 i x) := by
  refine hw.pset (by omega) (fun hi => ?_)
  obtain ⟨a1, a2, a3, a4, a5, a6⟩ := hw.pa hi
  exact ⟨a1, a2, by rw [up_s]; exact h, a4, a5, a6⟩
theorem WFa.up14 {m : MM} (hw : WFa m) {i : Nat} {x : Int32} (h : vp_in x (nhN m)) : WFa (up m 14 i x) := by
  refine hw.pset (by omega) (fun hi => ?_)
  obtain ⟨a1, a2, a3, a4, a5, a6⟩ := hw.pa hi
  exact ⟨a1, by rw [up_s]; exact h, a3, a4, a5, a6⟩
theorem WFa.prom0 {m : MM} (hw : WFa m) (p : Nat) : WFa (fProm0 m p) := hw.upx (by unfold kWF; omega)
theorem WFa.prom1 {m : MM} (hw : WFa m) (p : Nat) : WFa (fProm1 m p) := (hw.lays p).upx (by unfold kWF; omega)
theorem WFa.prom {m : MM} (hw : WFa m) (p : Nat) : WFa (fProm m p) := ((hw.prom0 p).prom1 p).plans p
theorem fProm_key (m : MM) (p : Nat) {k : Nat} (hk : ¬ kTry k) (h : k ≠ 19 ∧ k ≠ 20 ∧ k ≠ 21) : fProm m p k = m k := by
  unfold fProm fProm1 fProm0
  rw [fPlans_key _ _ hk h.1, up_key h.2.1, fLays_key _ _ hk, up_key h.2.2]
theorem fScans0_key (m : MM) (p : Nat) {k : Nat} (h : k ≠ 28 ∧ k ≠ 18 ∧ k ≠ 21) : fScans0 m p k = m k := by
  unfold fScans0
  split
  · rw [up_key h.2.2, up_key h.2.1, up_key h.1]
  · rw [up_key h.2.1, up_key h.1]
theorem fScans_key (m : MM) (p : Nat) {k : Nat} (hk : ¬ kTry k) (h : k ≠ 28 ∧ k ≠ 18 ∧ k ≠ 21 ∧ k ≠ 19) : fScans m p k = m k := by
  unfold fScans
  rw [fPlans_key _ _ hk h.2.2.2, fScans0_key m p ⟨h.1, h.2.1, h.2.2.1⟩]
theorem WFa.scans0 {m : MM} (hw : WFa m) (p : Nat) : WFa (fScans0 m p) := by
  unfold fScans0
  try dsimp only
  have h1 := (hw.up28 (i := p) (x := 115) (Or.inl rfl)).upx (k := 18) (i := p) (x := m 41 0) (by unfold kWF; omega)
  split
  · exact h1.upx (by unfold kWF; omega)
  · exact h1
theorem WFa.scans {m : MM} (hw : WFa m) (p : Nat) : WFa (fScans m p) := (hw.scans0 p).plans p
theorem WFa.turns0 {m : MM} (hw : WFa m) {p : Nat} (hp : p < npN m) : WFa (fTurns0 m p) := by
  have h1 := hw.upx (k := 29) (i := p) (x := 1) (by unfold kWF; omega)
  have h2 := h1.up14 (i := p) (x := m 13 p) (hw.pa hp).1
  exact (h2.upx (by unfold kWF; omega)).upx (by unfold kWF; omega)
theorem fTurns0_key (m : MM) (p : Nat) {k : Nat} (h : k ≠ 29 ∧ k ≠ 14 ∧ k ≠ 23 ∧ k ≠ 18) : fTurns0 m p k = m k := by
  unfold fTurns0
  rw [up_key h.2.2.2, up_key h.2.2.1, up_key h.2.1, up_key h.1]
theorem fHap_LL46 {m m' : MM} (h : m' 46 = m 46) (h40 : m' 40 = m 40) (p : Nat) (a b : Int32) : LLm (fHap m' p a b) = LLm (fHap m p a b) := by
  rw [LLm_hap, LLm_hap]
  unfold fHap0
  rw [LLm_ext h, h40]
  split
  · show (nI (2 * LLm m')).toNatClampNeg = (nI (2 * LLm m)).toNatClampNeg
    rw [LLm_ext h]
  · exact LLm_ext h
/-- from m to m' no hub, line or parcel more, and B events at most -/
def Gr (B : Nat) (m m' : MM) : Prop := npN m' = npN m ∧ nlN m' = nlN m ∧ nhN m' = nhN m ∧ uC m ≤ uC m' ∧ uS m ≤ uS m' ∧ logN m ≤ logN m' ∧ logN m' ≤ logN m + B
theorem Gr.of {m m' : MM} (h : ∀ k, k = 37 ∨ k = 38 ∨ k = 39 ∨ k = 40 ∨ k = 46 → m' k = m k) : Gr 0 m m' := by
  have e := uC_ext (h 46 (by omega))
  exact ⟨npN_ext (h 39 (by omega)), nlN_ext (h 38 (by omega)), nhN_ext (h 37 (by omega)), by omega, by omega, by rw [logN_ext (h 40 (by omega))]; omega, by rw [logN_ext (h 40 (by omega))]; omega⟩
theorem Gr.trans {A B : Nat} {a b c : MM} (h : Gr A a b) (g : Gr B b c) : Gr (A + B) a c := by
  unfold Gr at *
  obtain ⟨h1, h2, h3, h4, h5, h6, h7⟩ := h
  obtain ⟨g1, g2, g3, g4, g5, g6, g7⟩ := g
  exact ⟨g1.trans h1, g2.trans h2, g3.trans h3, by omega, by omega, by omega, by omega⟩
theorem Gr.mono {A B : Nat} {a b : MM} (h : Gr A a b) (hAB : A ≤ B) : Gr B a b := by
  unfold Gr at *
  exact ⟨h.1, h.2.1, h.2.2.1, h.2.2.2.1, h.2.2.2.2.1, h.2.2.2.2.2.1, by omega⟩
theorem Gr.refl (B : Nat) (m : MM) : Gr B m m := Gr.mono (Gr.of fun _ _ => rfl) (Nat.zero_le _)
theorem Gr.up {m : MM} {k i : Nat} {x : Int32} (h : ¬ (k = 37 ∨ k = 38 ∨ k = 39 ∨ k = 40 ∨ k = 46)) : Gr 0 m (up m k i x) := Gr.of fun k' hk' => up_key (fun e => h (e ▸ hk'))
theorem Gr.lays (m : MM) (p : Nat) : Gr 0 m (fLays m p) := Gr.of fun k hk => fLays_key m p (by unfold kTry; omega)
theorem Gr.plans (m : MM) (p : Nat) : Gr 0 m (fPlans m p) := Gr.of fun k hk => fPlans_key m p (by unfold kTry; omega) (by omega)
theorem Gr.plansAll (m : MM) : Gr 0 m (fPlansAll m) := Gr.of fun k hk => plAll_key _ _ m (by unfold kTry; omega) (by omega)
theorem Gr.prom0 (m : MM) (p : Nat) : Gr 0 m (fProm0 m p) := Gr.up (by omega)
theorem Gr.prom (m : MM) (p : Nat) : Gr 0 m (fProm m p) := Gr.of fun k hk => fProm_key m p (by unfold kTry; omega) (by omega)
theorem Gr.scans0 (m : MM) (p : Nat) : Gr 0 m (fScans0 m p) := Gr.of fun k hk => fScans0_key m p (by omega)
theorem Gr.scans (m : MM) (p : Nat) : Gr 0 m (fScans m p) := Gr.of fun k hk => fScans_key m p (by unfold kTry; omega) (by omega)
theorem Gr.turns0 (m : MM) (p : Nat) : Gr 0 m (fTurns0 m p) := Gr.of fun k hk => fTurns0_key m p (by omega)
theorem Gr.thr (m : MM) (b a : Int32) : Gr 0 m (thr m b a) := Gr.up (by omega)
theorem Gr.hap {m : MM} (hw : WFa m) (p : Nat) (kind l : Int32) : Gr 1 m (fHap m p kind l) := by
  have K : ∀ {k : Nat}, k ≠ 31 → k ≠ 40 → k ≠ 27 → k ≠ 46 → fHap m p kind l k = m k := fun h1 h2 h3 h4 => fHap_key m p kind l h1 h2 h3 h4
  have h := uC_mono (LL_hap_le hw p kind l)
  have h2 := (fHap_cnt hw p kind l).2
  exact ⟨npN_ext (K (by decide) (by decide) (by decide) (by decide)), nlN_ext (K (by decide) (by decide) (by decide) (by decide)), nhN_ext (K (by decide) (by decide) (by decide) (by decide)), h.1, h.2, by omega, by omega⟩
theorem WFa.turns {m : MM} (hw : WFa m) {p : Nat} (hp : p < npN m) (hU : logN m < 2 ^ 21) : WFa (fTurns m p) := by
  have h1 := (hw.turns0 hp).prom p
  have g1 := (Gr.turns0 m p).trans (Gr.prom (fTurns0 m p) p)
  unfold Gr at g1
  exact h1.hap (by rw [g1.1]; exact hp) rfl _ (by omega)
theorem Gr.turns {m : MM} (hw : WFa m) {p : Nat} (hp : p < npN m) : Gr 1 m (fTurns m p) := (((Gr.turns0 m p).trans (Gr.prom (fTurns0 m p) p)).trans (Gr.hap ((hw.turns0 hp).prom p) p 114 (-1)))

