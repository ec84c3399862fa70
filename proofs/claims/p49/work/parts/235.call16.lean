/-! hubOf, hubByTrying: the longest code that begins an address -/
def inP : Nat → Int32 → Int32 → Prop
  | 0, _, _ => False
  | n + 1, y, k => ¬ y ≤ 0 ∧ (y = k ∨ inP n (y / 10) k)
theorem inP_dec (n : Nat) (y k : Int32) : inP n y k ∨ ¬ inP n y k := Classical.em _
/-- more fuel says no more -/
theorem inP_fuel : ∀ (n : Nat) (y k : Int32), y.toInt < 10 ^ n → (inP (n + 1) y k ↔ inP n y k) := by
  intro n
  induction n with
  | zero =>
    intro y k h
    exact ⟨fun q => absurd (dig_z h) q.1, fun q => absurd q id⟩
  | succ n ih =>
    intro y k h
    constructor
    · intro q
      obtain ⟨q1, q2⟩ := q
      exact ⟨q1, q2.imp id (fun w => (ih _ k (dig_s q1 h)).mp w)⟩
    · intro q
      obtain ⟨q1, q2⟩ := q
      exact ⟨q1, q2.imp id (fun w => (ih _ k (dig_s q1 h)).mpr w)⟩
theorem inP_nat : ∀ (n Y : Nat) (k : Int32), Y < 2 ^ 31 → inP n (nI Y) k → ∃ K, K ≤ Y ∧ 0 < K ∧ k = nI K := by
  intro n
  induction n with
  | zero => intro Y k _ h; exact absurd h id
  | succ n ih =>
    intro Y k hY h
    obtain ⟨h1, h2⟩ := h
    have h0 : Y ≠ 0 := fun q => h1 (by rw [q]; decide)
    rcases h2 with h2 | h2
    · exact ⟨Y, Nat.le_refl _, by omega, h2.symm⟩
    · rw [show (10 : Int32) = nI 10 from rfl, nI_div hY (by omega)] at h2
      obtain ⟨K, k1, k2, k3⟩ := ih (Y / 10) k (by omega) h2
      exact ⟨K, by omega, k2, k3⟩
theorem fndI_eq (m : MM) {h : Nat} (hh : h < 2 ^ 31) : ∀ (n : Nat) (y a : Int32), (inP n y (m 0 h) ∧ (a < 0 ∨ m 0 a.toNatClampNeg < m 0 h) → fndI m h n y a = nI h) ∧ (¬ (inP n y (m 0 h) ∧ (a < 0 ∨ m 0 a.toNatClampNeg < m 0 h)) → fndI m h n y a = a) := by
  intro n
  induction n with
  | zero => intro y a; exact ⟨fun q => absurd q.1 id, fun _ => rfl⟩
  | succ n ih =>
    intro y a
    have hself : ¬ (nI h < 0 ∨ m 0 (nI h).toNatClampNeg < m 0 h) := by
      rw [nI_clamp hh]
      exact fun q => q.elim (nI_pos hh) (fun w => Int32.lt_irrefl w)
    have e : fndI m h (n + 1) y a = if y ≤ 0 then a else fndI m h n (y / 10) (if y = m 0 h ∧ (a < 0 ∨ m 0 a.toNatClampNeg < m 0 h) then nI h else a) := rfl
    by_cases c : y ≤ 0
    · rw [e, if_pos c]; exact ⟨fun q => absurd c q.1.1, fun _ => rfl⟩
    · rw [e, if_neg c]
      by_cases d : a < 0 ∨ m 0 a.toNatClampNeg < m 0 h
      · by_cases g : y = m 0 h
        · rw [if_pos ⟨g, d⟩]
          have := (ih (y / 10) (nI h)).2 (fun q => hself q.2)
          exact ⟨fun _ => this, fun q => absurd ⟨⟨c, Or.inl g⟩, d⟩ q⟩
        · rw [if_neg (fun q => g q.1)]
          obtain ⟨i1, i2⟩ := ih (y / 10) a
          exact ⟨fun q => i1 ⟨q.1.2.resolve_left g, d⟩, fun q => i2 (fun w => q ⟨⟨c, Or.inr w.1⟩, d⟩)⟩
      · rw [if_neg (fun q => d q.2)]
        exact ⟨fun q => absurd q.2 d, fun _ => (ih (y / 10) a).2 (fun w => d w.2)⟩
theorem cPrL_in (k : Int32) : ∀ (n : Nat) (y : Int32), ¬ cPrL k n y = 0 ↔ inP n y k := by
  intro n
  induction n with
  | zero => intro y; exact ⟨fun q => absurd rfl q, fun q => absurd q id⟩
  | succ n ih =>
    intro y
    have e : cPrL k (n + 1) y = if y ≤ 0 then 0 else if y = k then 1 else cPrL k n (y / 10) := rfl
    rw [e]
    by_cases c : y ≤ 0
    · rw [if_pos c]; exact ⟨fun q => absurd rfl q, fun q => absurd c q.1⟩
    · rw [if_neg c]
      by_cases d : y = k
      · rw [if_pos d]; exact ⟨fun _ => ⟨c, Or.inl d⟩, fun _ => by decide⟩
      · rw [if_neg d, ih]; exact ⟨fun q => ⟨c, Or.inr q⟩, fun q => q.2.resolve_left d⟩
/-- of an address: the address itself is no code -/
theorem inP_ad {x k : Int32} (hx : isN x 1000 9999) (hk : isN k 1 999) : inP 11 x k ↔ inP 11 (x / 10) k := by
  have hne : ¬ x = k := fun e => by
    rw [e] at hx
    have := hx.2.1
    have := hk.2.2
    omega
  have h0 : ¬ x ≤ 0 := by
    rw [hx.1, nI_pos0 (by have := hx.2.2; omega)]
    have := hx.2.1
    omega
  have hf : (x / 10).toInt < 10 ^ 10 := dig_s h0 (dig_b x)
  rw [inP_fuel 10 (x / 10) k hf]
  exact ⟨fun q => q.2.resolve_left hne, fun q => ⟨h0, Or.inr q⟩⟩
theorem ht_eq {c m : MM} (h0 : ∀ h, h < nhN m → c 0 h = m 0 h) (hH : ∀ h, h < nhN m → isN (m 0 h) 1 999) (hn : nhN m ≤ 6) {x : Int32} (hx : isN x 1000 9999) : ∀ (k h : Nat) (a : Int32), h + k ≤ nhN m → (a = -1 ∨ vp_in a (nhN m)) → cHtL c x k h a = fndO m x k h a := by
  intro k
  induction k with
  | zero => intro h a _ _; rfl
  | succ k ih =>
    intro h a hk ha
    have e1 : cHtL c x (k + 1) h a = cHtL c x k (h + 1) (if ¬ cPre (c 0 h) x = 0 ∧ (a = -1 ∨ c 0 a.toNatClampNeg < c 0 h) then nI h else a) := rfl
    have e2 : fndO m x (k + 1) h a = fndO m x k (h + 1) (fndI m h 11 (x / 10) a) := rfl
    have hc : (¬ cPre (c 0 h) x = 0 ∧ (a = -1 ∨ c 0 a.toNatClampNeg < c 0 h)) ↔ (inP 11 (x / 10) (m 0 h) ∧ (a < 0 ∨ m 0 a.toNatClampNeg < m 0 h)) := by
      unfold cPre
      rw [cPrL_in, h0 h (by omega), inP_ad hx (hH h (by omega))]
      refine and_congr_right (fun _ => ?_)
      rcases ha with rfl | ha
      · exact ⟨fun _ => Or.inl (by decide), fun _ => Or.inl rfl⟩
      · have n1 : ¬ a = -1 := fun q => by rw [q] at ha; exact vp_nn ha (by decide)
        rw [h0 _ (vp_nat ha)]
        exact ⟨fun q => Or.inr (q.resolve_left n1), fun q => Or.inr (q.resolve_left (vp_nn ha))⟩
    have hI := fndI_eq m (h := h) (by omega) 11 (x / 10) a
    rw [e1, e2]
    by_cases z : inP 11 (x / 10) (m 0 h) ∧ (a < 0 ∨ m 0 a.toNatClampNeg < m 0 h)
    · rw [if_pos (hc.mpr z), hI.1 z]
      exact ih (h + 1) _ (by omega) (Or.inr (vp_in_nI (by omega) (by omega)))
    · rw [if_neg (fun q => z (hc.mp q)), hI.2 z]
      exact ih (h + 1) _ (by omega) ha
/-- the best so far: none begins the address, or the first of the greatest that do -/
def bstH (m : MM) (P : Int32 → Prop) (n : Nat) (a : Int32) : Prop := (a = -1 ∧ ∀ h, h < n → ¬ P (m 0 h)) ∨ ∃ v, v < n ∧ a = nI v ∧ P (m 0 v) ∧ (∀ h, h < n → P (m 0 h) → ¬ m 0 v < m 0 h) ∧ ∀ h, h < v → P (m 0 h) → m 0 h < m 0 v
theorem bstH.uniq {m : MM} {P : Int32 → Prop} {n : Nat} {a b : Int32} (ha : bstH m P n a) (hb : bstH m P n b) : a = b := by
  rcases ha with ⟨a1, a2⟩ | ⟨v, a1, a2, a3, a4, a5⟩
  · rcases hb with ⟨b1, b2⟩ | ⟨w, b1, b2, b3, b4, b5⟩
    · rw [a1, b1]
    · exact absurd b3 (a2 w b1)
  · rcases hb with ⟨b1, b2⟩ | ⟨w, b1, b2, b3, b4, b5⟩
    · exact absurd a3 (b2 v a1)
    · rcases Nat.lt_trichotomy v w with q | q | q
      · exact absurd (b5 v q a3) (a4 w b1 b3)
      · rw [a2, b2, q]
      · exact absurd (a5 w q b3) (b4 v a1 a3)
theorem bst_fnd {m : MM} {x : Int32} (hn : nhN m ≤ 6) : ∀ (k h : Nat) (a : Int32), h + k ≤ 6 → bstH m (inP 11 (x / 10)) h a → bstH m (inP 11 (x / 10)) (h + k) (fndO m x k h a) := by
  intro k
  induction k with
  | zero => intro h a _ hb; exact hb
  | succ k ih =>
    intro h a hk hb
    have e2 : fndO m x (k + 1) h a = fndO m x k (h + 1) (fndI m h 11 (x / 10) a) := rfl
    have hI := fndI_eq m (h := h) (by omega) 11 (x / 10) a
    rw [e2, show h + (k + 1) = h + 1 + k by omega]
    refine ih (h + 1) _ (by omega) ?_
    by_cases z : inP 11 (x / 10) (m 0 h) ∧ (a < 0 ∨ m 0 a.toNatClampNeg < m 0 h)
    · rw [hI.1 z]
      refine Or.inr ⟨h, by omega, rfl, z.1, fun i hi hp => ?_, fun i hi hp => ?_⟩
      · rcases hb with ⟨a1, a2⟩ | ⟨v, a1, a2, a3, a4, a5⟩
        · by_cases w : i = h
          · rw [w]; exact Int32.lt_irrefl
          · exact absurd hp (a2 i (by omega))
        · by_cases w : i = h
          · rw [w]; exact Int32.lt_irrefl
          · have q1 := a4 i (by omega) hp
            have q2 := z.2
            rw [a2, nI_clamp (by omega)] at q2
            have q3 := q2.resolve_left (nI_pos (by omega))
            intro q4
            exact q1 (Int32.lt_trans q3 q4)
      · rcases hb with ⟨a1, a2⟩ | ⟨v, a1, a2, a3, a4, a5⟩
        · exact absurd hp (a2 i hi)
        · have q2 := z.2
          rw [a2, nI_clamp (by omega)] at q2
          have q3 := q2.resolve_left (nI_pos (by omega))
          have q1 := a4 i hi hp
          rw [Int32.lt_iff_toInt_lt] at *
          omega
    · rw [hI.2 z]
      rcases hb with ⟨a1, a2⟩ | ⟨v, a1, a2, a3, a4, a5⟩
      · refine Or.inl ⟨a1, fun i hi hp => ?_⟩
        by_cases w : i = h
        · rw [w] at hp
          exact z ⟨hp, Or.inl (by rw [a1]; decide)⟩
        · exact a2 i (by omega) hp
      · refine Or.inr ⟨v, by omega, a2, a3, fun i hi hp => ?_, a5⟩
        by_cases w : i = h
        · rw [w] at hp ⊢
          intro q
          exact z ⟨hp, Or.inr (by rw [a2, nI_clamp (by omega)]; exact q)⟩
        · exact a4 i (by omega) hp
theorem cHwL_first {u : MM} {x : Int32} : ∀ (k h : Nat), (cHwL u x k h = -1 ∧ ∀ i, h ≤ i → i < h + k → ¬ u 0 i = x) ∨ ∃ v, h ≤ v ∧ v < h + k ∧ cHwL u x k h = nI v ∧ u 0 v = x ∧ ∀ i, h ≤ i → i < v → ¬ u 0 i = x := by
  intro k
  induction k with
  | zero => intro h; exact Or.inl ⟨rfl, fun i a b => by omega⟩
  | succ k ih =>
    intro h
    have e : cHwL u x (k + 1) h = if u 0 h = x then nI h else cHwL u x k (h + 1) := rfl
    rw [e]
    by_cases z : u 0 h = x
    · rw [if_pos z]; exact Or.inr ⟨h, Nat.le_refl _, by omega, rfl, z, fun i a b => by omega⟩
    · rw [if_neg z]
      rcases ih (h + 1) with ⟨i1, i2⟩ | ⟨v, i1, i2, i3, i4, i5⟩
      · refine Or.inl ⟨i1, fun i a b => ?_⟩
        by_cases w : i = h
        · rw [w]; exact z
        · exact i2 i (by omega) (by omega)
      · refine Or.inr ⟨v, by omega, by omega, i3, i4, fun i a b => ?_⟩
        by_cases w : i = h
        · rw [w]; exact z
        · exact i5 i (by omega) b
theorem bst_hs {c m : MM} (en : nhN c = nhN m) (h0 : ∀ h, h < nhN m → c 0 h = m 0 h) (hn : nhN m ≤ 6) : ∀ (n Y : Nat), Y < 2 ^ 31 → bstH m (inP n (nI Y)) (nhN m) (cHsL c n (nI Y)) := by
  intro n
  induction n with
  | zero => intro Y _; exact Or.inl ⟨rfl, fun h _ q => q⟩
  | succ n ih =>
    intro Y hY
    have e : cHsL c (n + 1) (nI Y) = if nI Y ≤ 0 then -1 else if cHw c (nI Y) = -1 then cHsL c n (nI Y / 10) else cHw c (nI Y) := rfl
    rw [e]
    by_cases z : nI Y ≤ 0
    · rw [if_pos z]; exact Or.inl ⟨rfl, fun h _ q => q.1 z⟩
    · rw [if_neg z]
      have z0 : Y ≠ 0 := fun q => z (by rw [q]; decide)
      have hdiv : nI Y / 10 = nI (Y / 10) := nI_div hY (by decide)
      have hfst := cHwL_first (u := c) (x := nI Y) (nhN m) 0
      have eHw : cHw c (nI Y) = cHwL c (nI Y) (nhN m) 0 := by unfold cHw; rw [en]
      rw [eHw]
      rcases hfst with ⟨f1, f2⟩ | ⟨v, f1, f2, f3, f4, f5⟩
      · rw [if_pos f1, hdiv]
        have hb := ih (Y / 10) (by omega)
        have hP : ∀ h, h < nhN m → (inP (n + 1) (nI Y) (m 0 h) ↔ inP n (nI (Y / 10)) (m 0 h)) := fun h hh => by
          have hne : ¬ nI Y = m 0 h := fun q => f2 h (Nat.zero_le _) (by omega) (by rw [h0 h hh]; exact q.symm)
          show _ ∧ (_ ∨ inP n (nI Y / 10) (m 0 h)) ↔ _
          rw [hdiv]
          exact ⟨fun q => q.2.resolve_left hne, fun q => ⟨z, Or.inr q⟩⟩
        rcases hb with ⟨b1, b2⟩ | ⟨w, b1, b2, b3, b4, b5⟩
        · exact Or.inl ⟨b1, fun h hh q => b2 h hh ((hP h hh).mp q)⟩
        · exact Or.inr ⟨w, b1, b2, (hP w b1).mpr b3, fun h hh q => b4 h hh ((hP h hh).mp q), fun h hh q => b5 h hh ((hP h (by omega)).mp q)⟩
      · rw [if_neg (by rw [f3]; exact nI_nm (by omega)), f3]
        have ev : m 0 v = nI Y := by rw [← h0 v (by omega)]; exact f4
        have hle : ∀ h, h < nhN m → inP (n + 1) (nI Y) (m 0 h) → ∃ K, K ≤ Y ∧ m 0 h = nI K := fun h hh q => by
          obtain ⟨K, k1, k2, k3⟩ := inP_nat (n + 1) Y (m 0 h) hY q
          exact ⟨K, k1, k3⟩
        refine Or.inr ⟨v, by omega, rfl, by rw [ev]; exact ⟨z, Or.inl rfl⟩, fun h hh q => ?_, fun h hh q => ?_⟩
        · obtain ⟨K, k1, k2⟩ := hle h hh q
          rw [ev, k2, nI_ltI hY (by omega)]; omega
        · obtain ⟨K, k1, k2⟩ := hle h (by omega) q
          have hne : ¬ K = Y := fun w => f5 h (Nat.zero_le _) hh (by rw [h0 h (by omega), k2, w])
          rw [ev, k2, nI_ltI (by omega) hY]; omega
theorem isAd_isN {x : Int32} (h : ¬ isAd x = 0) : isN x 1000 9999 := by
  have h1 := adr_eq x
  have q : inn x 1000 9999 = true := by
    by_cases w : inn x 1000 9999 = true ∧ ¬ cWz x = 0
    · exact w.1
    · exact absurd (h1.mp (show cAdr x = 0 from if_neg w)) h
  exact inn_isN (a := 1000) (b := 9999) (by omega) (by omega) q
theorem hs_found {n : Nat} {c m : MM} (h : Sim n c m) {x : Int32} (hx : ¬ isAd x = 0) : cHs c x = found m x := by
  have hN := isAd_isN hx
  have en : nhN c = nhN m := h.1.1.1.1
  have h0 : ∀ h', h' < nhN m → c 0 h' = m 0 h' := fun h' hh => (h.1.1.2.2.1 h' hh).1
  have hH := h.2.2.2.2.2.2.2.1
  have hn : nhN m ≤ 6 := h.1.2.1.1.nh
  have a := bst_hs en h0 hn 11 x.toNatClampNeg (by have := hN.2.2; omega)
  rw [← hN.1] at a
  have b := bst_fnd (x := x) hn (nhN m) 0 (-1) (by omega) (Or.inl ⟨rfl, fun h hh => absurd hh (Nat.not_lt_zero _)⟩)
  rw [Nat.zero_add] at b
  have hP : ∀ i, i < nhN m → (inP 11 x (m 0 i) ↔ inP 11 (x / 10) (m 0 i)) := fun i hi => inP_ad hN (hH i hi)
  have b2 : bstH m (inP 11 x) (nhN m) (found m x) := by
    rcases b with ⟨b1, b2⟩ | ⟨w, b1, b2, b3, b4, b5⟩
    · exact Or.inl ⟨b1, fun i hi q => b2 i hi ((hP i hi).mp q)⟩
    · exact Or.inr ⟨w, b1, b2, (hP w b1).mpr b3, fun i hi q => b4 i hi ((hP i hi).mp q), fun i hi q => b5 i hi ((hP i (by omega)).mp q)⟩
  exact a.uniq b2
theorem ht_found {n : Nat} {c m : MM} (h : Sim n c m) {x : Int32} (hx : ¬ isAd x = 0) : cHt c x = found m x := by
  unfold cHt found
  rw [h.1.1.1.1]
  exact ht_eq (fun h' hh => (h.1.1.2.2.1 h' hh).1) h.2.2.2.2.2.2.2.1 h.1.2.1.1.nh (isAd_isN hx) _ 0 (-1) (by omega) (Or.inl rfl)
theorem call_hub {n : Nat} {c m : MM} (h : Sim n c m) (x : Int32) {R : Int32} (hR : ¬ isAd x = 0 → R = found m x) : CallOK n [iaeC] c (xAd x) R (fHubOf m x) := by
  have had := adr_eq x
  unfold xAd
  by_cases z : isAd x = 0
  · have hf : fHubOf m x = (0, thr m 1 1) := by
      unfold fHubOf
      simp only
      rw [bi_t z, if_pos (by decide)]
    rw [if_pos (had.mpr z), hf]
    exact CallOK.ask (by dsimp only; rw [thr45]; decide) (fun q => (nomatch q)) (h.thr _ _)
  · have hf : fHubOf m x = (found (thr m 0 1) x, thr m 0 1) := by
      unfold fHubOf
      simp only
      rw [bi_f z, if_neg (fun q => q rfl)]
    rw [if_neg (fun q => z (had.mp q)), hf]
    exact CallOK.ask (by dsimp only; rw [thr45]; rfl) (fun _ => by dsimp only; rw [found_thr]; exact hR z) (h.thr _ _)
theorem call_hubOf {n : Nat} {c m : MM} (h : Sim n c m) (x : Int32) : CallOK n [iaeC] c (xAd x) (cHs c x) (fHubOf m x) := call_hub h x (fun z => hs_found h z)
theorem call_hubByTrying {n : Nat} {c m : MM} (h : Sim n c m) (x : Int32) : CallOK n [iaeC] c (xAd x) (cHt c x) (fHubOf m x) := call_hub h x (fun z => ht_found h z)
/-- minute, hubs, lines, parcels -/
theorem Sim.tell {n : Nat} {c m : MM} (h : Sim n c m) (v : Int32) : Sim (n + 1) c (fTell m v).2 := (h.ext (fun _ _ => rfl) (fun _ => rfl) (fun k hk => up_key (by unfold mK at hk; omega))).mono (by omega)
theorem call_counts {n : Nat} {c m : MM} (h : Sim n c m) (hw : WFa m) : c 41 0 = m 41 0 ∧ nI (nhN c) = m 37 0 ∧ nI (nlN c) = m 38 0 ∧ nI (npN c) = m 39 0 := by
  obtain ⟨e1, e2, e3⟩ := h.1.1.1
  exact ⟨h.1.1.2.1, by rw [e1]; exact hw.nh.1.symm, by rw [e2]; exact hw.nl.1.symm, by rw [e3]; exact hw.np.1.symm⟩

