theorem vp_mono {x : Int32} {a b : Nat} (h : vp_in x a) (hab : a ≤ b) : vp_in x b := fun q => h (q.elim Or.inl (fun z => Or.inr (Nat.le_trans hab z)))
theorem vp_nat {x : Int32} {a : Nat} (h : vp_in x a) : x.toNatClampNeg < a := Nat.not_le.mp fun q => h (Or.inr q)
theorem vp_nn {x : Int32} {a : Nat} (h : vp_in x a) : ¬ x < 0 := fun q => h (Or.inl q)
theorem vp_nI {x : Int32} {a : Nat} (h : vp_in x a) (ha : a ≤ 2 ^ 31) : x = nI x.toNatClampNeg := by
  obtain ⟨j, hj, e⟩ := nI_of (vp_nn h)
  rw [e, nI_clamp hj]
theorem inn_vp {x : Int32} {n : Nat} (hn : n < 2 ^ 31) (h : inn x 0 (nI n - 1) = true) : vp_in x n := by
  replace h := inn_t.mp h
  obtain ⟨j, hj, rfl⟩ := nI_of h.1
  refine vp_in_nI ?_ hn
  have h2 := h.2
  cases n with
  | zero => exact absurd (show nI 0 - 1 < nI j from by rw [Int32.lt_iff_toInt_lt, nI_toInt hj]; exact Int.lt_of_lt_of_le (by decide) (Int.natCast_nonneg j)) h2
  | succ k =>
    rw [nI_pred] at h2
    rcases Nat.lt_or_ge j (k + 1) with q | q
    · exact q
    · exact absurd (nI_lt (a := k) (b := j) (by omega) hj) h2
theorem vp_inn {x : Int32} {n : Nat} (hn : n < 2 ^ 31) (h : vp_in x n) : inn x 0 (nI n - 1) = true := by
  refine inn_t.mpr ?_
  obtain ⟨j, hj, rfl⟩ := vp_in_of h hn
  obtain ⟨k, rfl⟩ : ∃ k, n = k + 1 := ⟨n - 1, by omega⟩
  refine ⟨nI_pos (by omega), ?_⟩
  rw [nI_pred]
  exact nI_nlt (by omega) (by omega)
theorem inn_iff {x : Int32} {n : Nat} (hn : n < 2 ^ 31) : inn x 0 (nI n - 1) = true ↔ vp_in x n := ⟨inn_vp hn, vp_inn hn⟩
/-- what every state of the reference keeps: counts, places, the log's row -/
abbrev lnOK (m : MM) (l : Nat) : Prop := vp_in (m 2 l) (nhN m) ∧ vp_in (m 3 l) (nhN m) ∧ ¬ m 5 l = 0 ∧ vp_in (m 8 l) 5 ∧ inn (m 7 l) 1 4 ∧ (m 9 l = 0 ∨ m 9 l = 1)
abbrev paOK (m : MM) (p : Nat) : Prop := vp_in (m 13 p) (nhN m) ∧ vp_in (m 14 p) (nhN m) ∧ vp_in (m 15 p) (nhN m) ∧ vp_in (m 16 p) 12 ∧ (m 28 p = 116 → vp_in (m 16 p) (nlN m)) ∧ (m 28 p = 115 ∨ m 28 p = 116 ∨ m 28 p = 117 ∨ m 28 p = 100 ∨ m 28 p = 104)
abbrev lgOK (m : MM) : Prop := m 40 0 = nI (4 * logN m) ∧ 4 * logN m ≤ LLm m ∧ m 46 0 = nI (LLm m) ∧ 4000 ≤ LLm m ∧ LLm m < 2 ^ 29 ∧ LLm m ≤ 4000 + 8 * logN m
abbrev evOK (m : MM) (j : Nat) : Prop := vp_in (m 31 (4 * j)) (npN m) ∧ narrow .char (.int (m 31 (4 * j + 1))) = .int (m 31 (4 * j + 1)) ∧ vp_in (m 31 (4 * j + 3)) (nhN m)
/-- what no line and no parcel has yet -/
abbrev frOK (m : MM) : Prop := (∀ p, npN m ≤ p → m 16 p = 0) ∧ (∀ l, nlN m ≤ l → m 8 l = 0 ∧ m 9 l = 0)
def WFa (m : MM) : Prop :=
  (m 37 0 = nI (nhN m) ∧ nhN m ≤ 6) ∧ (m 38 0 = nI (nlN m) ∧ nlN m ≤ 12) ∧ (m 39 0 = nI (npN m) ∧ npN m ≤ 40) ∧
  (∀ l, l < nlN m → lnOK m l) ∧ (∀ p, p < npN m → paOK m p) ∧ lgOK m ∧ (∀ j, j < logN m → evOK m j) ∧ frOK m
abbrev HN (m : MM) : Prop := m 37 0 = nI (nhN m) ∧ nhN m ≤ 6
theorem WFa.nh {m : MM} (h : WFa m) : m 37 0 = nI (nhN m) ∧ nhN m ≤ 6 := h.1
theorem WFa.nl {m : MM} (h : WFa m) : m 38 0 = nI (nlN m) ∧ nlN m ≤ 12 := h.2.1
theorem WFa.np {m : MM} (h : WFa m) : m 39 0 = nI (npN m) ∧ npN m ≤ 40 := h.2.2.1
theorem WFa.ln {m : MM} (h : WFa m) {l : Nat} (hl : l < nlN m) : lnOK m l := h.2.2.2.1 l hl
theorem WFa.pa {m : MM} (h : WFa m) {p : Nat} (hp : p < npN m) : paOK m p := h.2.2.2.2.1 p hp
theorem WFa.lg {m : MM} (h : WFa m) : lgOK m := h.2.2.2.2.2.1
theorem WFa.ev {m : MM} (h : WFa m) {j : Nat} (hj : j < logN m) : evOK m j := h.2.2.2.2.2.2.1 j hj
theorem WFa.fr {m : MM} (h : WFa m) : frOK m := h.2.2.2.2.2.2.2
theorem WFa.from6 {m : MM} (h : WFa m) {l : Nat} (hl : l < nlN m) : vp_in (m 2 l) 6 := vp_mono (h.ln hl).1 h.nh.2
theorem WFa.to6 {m : MM} (h : WFa m) {l : Nat} (hl : l < nlN m) : vp_in (m 3 l) 6 := vp_mono (h.ln hl).2.1 h.nh.2
theorem WFa.hub6 {m : MM} (h : WFa m) {p : Nat} (hp : p < npN m) : vp_in (m 15 p) 6 := vp_mono (h.pa hp).2.2.1 h.nh.2
theorem WFa.isLn {m : MM} (h : WFa m) {x : Int32} : isLn m x = true ↔ vp_in x (nlN m) := by
  have h1 := h.nl.2
  show inn x 0 (m 38 0 - 1) = true ↔ _
  rw [h.nl.1]; exact inn_iff (by omega)
theorem WFa.isPa {m : MM} (h : WFa m) {x : Int32} : isPa m x = true ↔ vp_in x (npN m) := by
  have h1 := h.np.2
  show inn x 0 (m 39 0 - 1) = true ↔ _
  rw [h.np.1]; exact inn_iff (by omega)
theorem WFa.isHb {m : MM} (h : WFa m) {x : Int32} : isHb m x = true ↔ vp_in x (nhN m) := by
  have h1 := h.nh.2
  show inn x 0 (m 37 0 - 1) = true ↔ _
  rw [h.nh.1]; exact inn_iff (by omega)
/-- the keys of which WFa speaks -/
def kWF (k : Nat) : Prop := k = 37 ∨ k = 38 ∨ k = 39 ∨ k = 2 ∨ k = 3 ∨ k = 5 ∨ k = 8 ∨ k = 7 ∨ k = 9 ∨ k = 13 ∨ k = 14 ∨ k = 15 ∨ k = 16 ∨ k = 28 ∨ k = 40 ∨ k = 46 ∨ k = 31
theorem WFa.ext {m m' : MM} (h : WFa m) (e : ∀ k, kWF k → m' k = m k) : WFa m' := by
  have e37 := e 37 (by unfold kWF; omega)
  have e38 := e 38 (by unfold kWF; omega)
  have e39 := e 39 (by unfold kWF; omega)
  have e40 := e 40 (by unfold kWF; omega)
  have e46 := e 46 (by unfold kWF; omega)
  have n1 : nhN m' = nhN m := by unfold nhN; rw [e37]
  have n2 : nlN m' = nlN m := by unfold nlN; rw [e38]
  have n3 : npN m' = npN m := by unfold npN; rw [e39]
  have n4 : logN m' = logN m := by unfold logN; rw [e40]
  have n5 : LLm m' = LLm m := by unfold LLm; rw [e46]
  unfold WFa lnOK paOK lgOK evOK frOK
  rw [n1, n2, n3, n4, n5, e37, e38, e39, e40, e46, e 2 (by unfold kWF; omega), e 3 (by unfold kWF; omega), e 5 (by unfold kWF; omega), e 8 (by unfold kWF; omega), e 7 (by unfold kWF; omega), e 9 (by unfold kWF; omega), e 13 (by unfold kWF; omega), e 14 (by unfold kWF; omega), e 15 (by unfold kWF; omega), e 16 (by unfold kWF; omega), e 28 (by unfold kWF; omega), e 31 (by unfold kWF; omega)]
  exact h
theorem up_key {m : MM} {k i : Nat} {x : Int32} {k' : Nat} (h : k' ≠ k) : up m k i x k' = m k' := funext fun _ => up_k h
theorem WFa.upx {m : MM} (h : WFa m) {k i : Nat} {x : Int32} (hk : ¬ kWF k) : WFa (up m k i x) := h.ext (fun k' hk' => up_key (fun e => hk (e ▸ hk')))
theorem WFa.thr {m : MM} (h : WFa m) (b a : Int32) : WFa (thr m b a) := h.upx (by unfold kWF; omega)
theorem npN_up {m : MM} {k i : Nat} {x : Int32} (h : k ≠ 39) : npN (up m k i x) = npN m := by unfold npN; rw [up_k (by omega)]
theorem nlN_up {m : MM} {k i : Nat} {x : Int32} (h : k ≠ 38) : nlN (up m k i x) = nlN m := by unfold nlN; rw [up_k (by omega)]
theorem nhN_up {m : MM} {k i : Nat} {x : Int32} (h : k ≠ 37) : nhN (up m k i x) = nhN m := by unfold nhN; rw [up_k (by omega)]
/-! a search of paths changes nothing but its own rows -/
def kTry (k : Nat) : Prop := k = 32 ∨ k = 33 ∨ k = 42 ∨ k = 43
theorem cpW_key (n : Nat) (m : MM) {k : Nat} (hk : ¬ kTry k) : cpW n m k = m k := by
  induction n with
  | zero => rfl
  | succ n ih => show up (cpW n m) 33 n _ k = _; rw [up_key (by unfold kTry at hk; omega)]; exact ih
theorem trL_key (rec : MM → Int32 → Int32 → Int32 → Int32 → Int32 → MM) (hrec : ∀ m a b c d f k, ¬ kTry k → rec m a b c d f k = m k) (ah : Int32) (size : Nat) (s t seen : Int32) {k : Nat} (hk : ¬ kTry k) : ∀ (n l : Nat) (m : MM), trL rec ah size s t seen n l m k = m k := by
  intro n
  induction n with
  | zero => intro l m; rfl
  | succ n ih =>
    intro l m
    show trL rec ah size s t seen n (l + 1) _ k = _
    rw [ih]
    split
    · rw [hrec _ _ _ _ _ _ _ hk, up_key (by unfold kTry at hk; omega)]
    · rfl
theorem triesF_key : ∀ (d : Nat) (en : Int32) (m : MM) (ah s t : Int32) (size : Nat) (seen : Int32) {k : Nat}, ¬ kTry k → triesF d en m ah s t size seen k = m k := by
  intro d
  induction d with
  | zero => intro en m ah s t size seen k hk; rfl
  | succ d ih =>
    intro en m ah s t size seen k hk
    unfold triesF
    split
    · split
      · rw [cpW_key _ _ hk, up_key (by unfold kTry at hk; omega), up_key (by unfold kTry at hk; omega)]
      · rfl
    · exact trL_key _ (fun m a b c d f k hk => ih _ _ _ _ _ _ _ hk) _ _ _ _ _ hk _ _ _
theorem fLays_key (m : MM) (p : Nat) {k : Nat} (hk : ¬ kTry k) : fLays m p k = m k := by
  unfold fLays
  rw [triesF_key _ _ _ _ _ _ _ _ hk, up_key (by unfold kTry at hk; omega), up_key (by unfold kTry at hk; omega)]
theorem fPlans_key (m : MM) (p : Nat) {k : Nat} (hk : ¬ kTry k) (h19 : k ≠ 19) : fPlans m p k = m k := by
  unfold fPlans
  rw [up_key h19, fLays_key m p hk]
theorem WFa.lays {m : MM} (h : WFa m) (p : Nat) : WFa (fLays m p) := h.ext (fun k hk => fLays_key m p (by unfold kWF at hk; unfold kTry; omega))
theorem WFa.plans {m : MM} (h : WFa m) (p : Nat) : WFa (fPlans m p) := h.ext (fun k hk => fPlans_key m p (by unfold kWF at hk; unfold kTry; omega) (by unfold kWF at hk; omega))
theorem npN_ext {m m' : MM} (h : m' 39 = m 39) : npN m' = npN m := by unfold npN; rw [h]
theorem nlN_ext {m m' : MM} (h : m' 38 = m 38) : nlN m' = nlN m := by unfold nlN; rw [h]
theorem nhN_ext {m m' : MM} (h : m' 37 = m 37) : nhN m' = nhN m := by unfold nhN; rw [h]
theorem LLm_ext {m m' : MM} (h : m' 46 = m 46) : LLm m' = LLm m := by unfold LLm; rw [h]
theorem logN_ext {m m' : MM} (h : m' 40 = m 40) : logN m' = logN m := by unfold logN; rw [h]
theorem npN_plans (m : MM) (p : Nat) : npN (fPlans m p) = npN m := npN_ext (fPlans_key m p (by unfold kTry; omega) (by omega))
theorem plAll_key : ∀ (n p : Nat) (m : MM) {k : Nat}, ¬ kTry k → k ≠ 19 → plAll n p m k = m k := by
  intro n
  induction n with
  | zero => intro p m k _ _; rfl
  | succ n ih =>
    intro p m k h1 h2
    show plAll n (p + 1) _ k = _
    rw [ih _ _ h1 h2]
    split
    · exact fPlans_key m p h1 h2
    · rfl
theorem dig_z {k : Int32} (h : k.toInt < 10 ^ 0) : k ≤ 0 := by
  rw [Int32.le_iff_toInt_le]
  have : (0 : Int32).toInt = 0 := by decide
  omega
theorem dig_s {k : Int32} {n : Nat} (c : ¬ k ≤ 0) (h : k.toInt < 10 ^ (n + 1)) : (k / 10).toInt < 10 ^ n := by
  have h0 : ¬ k < 0 := fun q => c (Int32.le_of_lt q)
  obtain ⟨j, hj, rfl⟩ := nI_of h0
  have e : nI j / 10 = nI (j / 10) := pk_div (d := 10) hj (by decide) (by decide)
  rw [e, nI_toInt (by omega)]
  rw [nI_toInt hj] at h
  have h2 : j < 10 ^ (n + 1) := by exact_mod_cast h
  rw [Nat.pow_succ] at h2
  have h3 : j / 10 < 10 ^ n := by omega
  exact_mod_cast h3
theorem dig_b (v : Int32) : v.toInt < 10 ^ 11 := by
  have := v.toInt_lt
  omega
theorem digs_01 : ∀ (n : Nat) (k is : Int32), (is = 0 ∨ is = 1) → (digs n k is = 0 ∨ digs n k is = 1) := by
  intro n
  induction n with
  | zero => intro k is h; exact h
  | succ n ih =>
    intro k is h
    unfold digs
    split
    · exact h
    · refine ih _ _ ?_
      rcases h with rfl | rfl <;> split <;> decide
theorem isDg_01 (v lo hi : Int32) : isDg v lo hi = 0 ∨ isDg v lo hi = 1 := digs_01 _ _ _ (by unfold bi; split <;> simp)
theorem isDg_nar (v lo hi : Int32) : narrow .boolean (.int (isDg v lo hi)) = .int (isDg v lo hi) := by
  rcases isDg_01 v lo hi with h | h <;> rw [h] <;> decide
theorem dig10 (x : Int32) : (x / 10).toInt < 10 ^ 11 := dig_b _
theorem fndI_ok {m : MM} {h : Nat} (hh : h < 6) : ∀ {n : Nat} {k a : Int32}, (a < 0 ∨ vp_in a 6) → (fndI m h n k a < 0 ∨ vp_in (fndI m h n k a) 6) := by
  intro n
  induction n with
  | zero => intro k a ha; exact ha
  | succ n ih =>
    intro k a ha
    unfold fndI
    split
    · exact ha
    · refine ih ?_
      split
      · exact Or.inr (vp_in_nI hh (by omega))
      · exact ha
theorem st_nar {m : MM} (hw : WFa m) {x : Int32} (hx : vp_in x (npN m)) : narrow .char (.int (m 28 x.toNatClampNeg)) = .int (m 28 x.toNatClampNeg) := by
  rcases (hw.pa (vp_nat hx)).2.2.2.2.2 with h | h | h | h | h <;> rw [h] <;> decide
theorem notSc_ok {m : MM} (hw : WFa m) {x : Int32} (h : (fNotSc m x).1 = 0) : vp_in x (npN m) := by
  refine hw.isPa.mp ?_
  unfold fNotSc fNone at h
  dsimp only at h
  by_cases q : isPa m x = true
  · exact q
  · rw [bi_t q, if_pos (show ¬ ((1 : Int32), thr m 1 1).1 = 0 from (by decide : ¬ (1 : Int32) = 0))] at h
    exact absurd h (by decide : ¬ (1 : Int32) = 0)
theorem bag_in {m : MM} (hw : WFa m) {x b : Int32} (hx : vp_in x (nlN m)) (h1 : inn b 0 (m 8 x.toNatClampNeg - 1) = true) : vp_in b 4 := by
  obtain ⟨j, hj, e⟩ := vp_in_of (hw.ln (vp_nat hx)).2.2.2.1 (by omega)
  rw [e] at h1
  exact vp_mono (inn_vp (by omega) h1) (by omega)
theorem bag_ix {m : MM} (hw : WFa m) {x b : Int32} (hx : vp_in x (nlN m)) (hb : vp_in b 4) : vp_in (4 * x + b) 48 := by
  have h1 := hw.nl.2
  obtain ⟨i, hi, rfl⟩ := vp_in_of hx (by omega)
  obtain ⟨j, hj, rfl⟩ := vp_in_of hb (by omega)
  rw [show (4 : Int32) = nI 4 from rfl, pk_mul, nI_add]
  exact vp_in_nI (by omega) (by omega)
theorem fNotSc_key (m : MM) (x : Int32) {k : Nat} (h : k ≠ 45) : (fNotSc m x).2 k = m k := by
  have h1 : ∀ (m : MM) (b a : Int32), thr m b a k = m k := fun m b a => up_key h
  unfold fNotSc fNone
  dsimp only
  split
  · exact h1 _ _ _
  · exact (h1 _ _ _).trans (h1 _ _ _)
theorem WFa.notSc {m : MM} (h : WFa m) (x : Int32) : WFa (fNotSc m x).2 := h.ext (fun k hk => fNotSc_key m x (by unfold kWF at hk; omega))
/-- how many of the log's places from j on are of x -/
def hcnt (m : MM) (x : Int32) : Nat → Nat → Nat
  | 0, _ => 0
  | k + 1, j => (if m 31 (4 * j) = x then 1 else 0) + hcnt m x k (j + 1)
theorem hcnt_le (m : MM) (x : Int32) : ∀ (k j : Nat), hcnt m x k j ≤ k := by
  intro k
  induction k with
  | zero => intro j; exact Nat.le_refl 0
  | succ k ih =>
    intro j
    have := ih (j + 1)
    show (if m 31 (4 * j) = x then 1 else 0) + hcnt m x k (j + 1) ≤ k + 1
    split <;> omega
theorem hpL_cnt (m : MM) (x : Int32) : ∀ (k j a : Nat), hpL m x k j (nI a) = nI (a + hcnt m x k j) := by
  intro k
  induction k with
  | zero => intro j a; rfl
  | succ k ih =>
    intro j a
    show hpL m x k (j + 1) (nI a + bi (m 31 (4 * j) = x)) = nI (a + ((if m 31 (4 * j) = x then 1 else 0) + hcnt m x k (j + 1)))
    unfold bi
    split
    · rw [show nI a + 1 = nI (a + 1) from nI_1 a, ih]
      congr 1; omega
    · rw [show nI a + 0 = nI a from by rw [show (0 : Int32) = nI 0 from rfl, nI_add]; rfl, ih]
      congr 1; omega
theorem hap_cnt (m : MM) (x : Int32) : hap m x = nI (hcnt m x (logN m) 0) := by
  have h := hpL_cnt m x (logN m) 0 0
  rw [Nat.zero_add] at h
  exact h
theorem ev_in {m : MM} (hw : WFa m) {x ix : Int32} (h : inn ix 0 (hap m x - 1) = true) : ∃ lf, ix = nI lf ∧ lf < hcnt m x (logN m) 0 := by
  have h1 := hw.lg
  have h2 := hcnt_le m x (logN m) 0
  rw [hap_cnt] at h
  obtain ⟨j, hj, e⟩ := vp_in_of (inn_vp (by omega) h) (by omega)
  exact ⟨j, e, hj⟩
theorem nI_pos0 {n : Nat} (h : n < 2 ^ 31) : nI n ≤ 0 ↔ n = 0 := by
  rw [show (0 : Int32) = nI 0 from rfl, nI_leI h (by decide)]
  omega
theorem nI_sub0 (n : Nat) : nI n - 0 = nI n := by
  rw [show (0 : Int32) = nI 0 from rfl, pk_sub (Nat.zero_le n)]; rfl
theorem hcnt_ext {m m' : MM} {x : Int32} (h : m' 31 = m 31) (h2 : m' 40 = m 40) : hcnt m' x (logN m') 0 = hcnt m x (logN m) 0 := by
  rw [logN_ext h2]
  have e : ∀ k j, hcnt m' x k j = hcnt m x k j := by
    intro k
    induction k with
    | zero => intro j; rfl
    | succ k ih => intro j; show _ + hcnt m' x k (j + 1) = _ + hcnt m x k (j + 1); rw [ih, h]
  exact e _ _
theorem evL_lt (m : MM) (x : Int32) : ∀ (k j lf : Nat), lf < hcnt m x k j → lf < 2 ^ 30 → evL m x k j (nI lf) < j + k := by
  intro k
  induction k with
  | zero => intro j lf h _; exact absurd h (Nat.not_lt_zero _)
  | succ k ih =>
    intro j lf h hb
    unfold evL
    split
    · omega
    · rename_i c
      by_cases q : m 31 (4 * j) = x
      · have c2 : ¬ nI lf ≤ 0 := fun z => c ⟨q, z⟩
        obtain ⟨lf2, rfl⟩ : ∃ z, lf = z + 1 := ⟨lf - 1, by have := mt (nI_pos0 (n := lf) (by omega)).mpr c2; omega⟩
        rw [bi_t q, nI_pred]
        have h2 : lf2 < hcnt m x k (j + 1) := by
          have h3 := h
          unfold hcnt at h3
          rw [if_pos q] at h3
          omega
        have := ih (j + 1) lf2 h2 (by omega)
        omega
      · rw [bi_f q, nI_sub0]
        have h2 : lf < hcnt m x k (j + 1) := by
          have h3 := h
          unfold hcnt at h3
          rw [if_neg q] at h3
          omega
        have := ih (j + 1) lf h2 hb
        omega
theorem fNone_key (m : MM) (x : Int32) {k : Nat} (h : k ≠ 45) : (fNone m x).2 k = m k := up_key h
theorem fNoLine_key (m : MM) (x : Int32) {k : Nat} (h : k ≠ 45) : (fNoLine m x).2 k = m k := up_key h
theorem fEv_key (m : MM) (x ix : Int32) {k : Nat} (h : k ≠ 45) : (fEv m x ix).2 k = m k := by
  unfold fEv
  dsimp only
  split
  · exact fNone_key m x h
  · exact (up_key h).trans (fNone_key m x h)
theorem evk {m : MM} (hw : WFa m) {x ix : Int32} (h : ¬ (fEv m x ix).1 < 0) : ∃ j, j < logN m ∧ (fEv m x ix).1 = nI (4 * j) := by
  by_cases q : (fNone m x).1 = 0
  · by_cases q2 : inn ix 0 (hap (fNone m x).2 x - 1) = true
    · have hw1 : WFa (fNone m x).2 := hw.thr _ _
      obtain ⟨lf, rfl, hlf⟩ := ev_in hw1 q2
      have hlg := hw1.lg
      have hlc := hcnt_le (fNone m x).2 x (logN (fNone m x).2) 0
      have e1 : logN (fNone m x).2 = logN m := logN_ext (fNone_key m x (by decide))
      obtain ⟨M, hM⟩ : ∃ z, z = thr (fNone m x).2 (bi (¬ inn (nI lf) 0 (hap (fNone m x).2 x - 1) = true)) 2 := ⟨_, rfl⟩
      have k31 : M 31 = (fNone m x).2 31 := by rw [hM]; exact up_key (by decide)
      have k40 : M 40 = (fNone m x).2 40 := by rw [hM]; exact up_key (by decide)
      have hc := hcnt_ext (x := x) k31 k40
      have hl := logN_ext k40
      have h3 := evL_lt M x (logN M) 0 lf (by rw [hc]; exact hlf) (by omega)
      refine ⟨evL M x (logN M) 0 (nI lf), by rw [← e1, ← hl]; omega, ?_⟩
      unfold fEv
      dsimp only
      rw [if_neg (fun z => z q), ← hM, if_neg (fun z => z (bi_f (fun z2 => z2 q2)))]
    · refine absurd ?_ h
      unfold fEv
      dsimp only
      rw [if_neg (fun z => z q), if_pos (show ¬ bi (¬ inn ix 0 (hap (fNone m x).2 x - 1) = true) = 0 from fun z => by rw [bi_t q2] at z; exact absurd z (by decide))]
      exact (by decide : (-1 : Int32) < 0)
  · refine absurd ?_ h
    unfold fEv
    dsimp only
    rw [if_pos q]
    exact (by decide : (-1 : Int32) < 0)
theorem evk_in {m : MM} (hw : WFa m) {x ix : Int32} (h : ¬ (fEv m x ix).1 < 0) {k : Nat} (hk : k < 4) : vp_in ((fEv m x ix).1 + nI k) (LLm (fEv m x ix).2) := by
  obtain ⟨j, hj, e⟩ := evk hw h
  have hlg := hw.lg
  have e2 : LLm (fEv m x ix).2 = LLm m := LLm_ext (fEv_key m x ix (by decide))
  rw [e, e2, nI_add]
  exact vp_in_nI (by omega) (by omega)
theorem char_cut {x : Int32} (h : narrow .char (.int x) = .int x) : (x.toUInt32 % 65536).toInt32 = x := by
  have h2 : (Value.int ((x.toUInt32 % 65536).toInt32)) = .int x := h
  injection h2
theorem evk_ch {m : MM} (hw : WFa m) {x ix : Int32} (h : ¬ (fEv m x ix).1 < 0) : narrow .char (.int ((fEv m x ix).2 31 ((fEv m x ix).1 + 1).toNatClampNeg)) = .int ((fEv m x ix).2 31 ((fEv m x ix).1 + 1).toNatClampNeg) := by
  obtain ⟨j, hj, e⟩ := evk hw h
  have hlg := hw.lg
  rw [e, fEv_key m x ix (by decide), nI_1, nI_clamp (by omega)]
  exact (hw.ev hj).2.1
theorem nar9 {m : MM} (hw : WFa m) {l : Nat} (hl : l < nlN m) : narrow .boolean (.int (m 9 l)) = .int (m 9 l) := by
  rcases (hw.ln hl).2.2.2.2.2 with h | h <;> rw [h] <;> decide
/-- the hubs not yet seen -/
def unv (n : Nat) : Nat := (if n.testBit 0 then 0 else 1) + (if n.testBit 1 then 0 else 1) + (if n.testBit 2 then 0 else 1) + (if n.testBit 3 then 0 else 1) + (if n.testBit 4 then 0 else 1) + (if n.testBit 5 then 0 else 1)
theorem unv_step0 : ∀ n, n < 64 → ∀ j, j < 6 → ((nI n >>> (nI j &&& 31)) &&& 1) = 0 → (nI n ||| (1 <<< (nI j &&& 31))) = nI (n ||| 2 ^ j) ∧ n ||| 2 ^ j < 64 ∧ unv (n ||| 2 ^ j) + 1 = unv n := by decide +kernel
theorem unv_step {n : Nat} (hn : n < 64) {x : Int32} (hx : vp_in x 6) (h : ((nI n >>> (x &&& 31)) &&& 1) = 0) : (nI n ||| (1 <<< (x &&& 31))) = nI (n ||| 2 ^ x.toNatClampNeg) ∧ n ||| 2 ^ x.toNatClampNeg < 64 ∧ unv (n ||| 2 ^ x.toNatClampNeg) + 1 = unv n := by
  obtain ⟨j, hj, rfl⟩ := vp_in_of hx (by decide)
  rw [nI_clamp (by omega)]
  exact unv_step0 n hn j hj h
theorem unv_one0 : ∀ j, j < 6 → (1 : Int32) <<< (nI j &&& 31) = nI (2 ^ j) ∧ 2 ^ j < 64 ∧ unv (2 ^ j) = 5 := by decide +kernel
theorem cpW_nl (n : Nat) (m : MM) : nlN (cpW n m) = nlN m := nlN_ext (cpW_key n m (by unfold kTry; omega))
theorem WFa.cpW {m : MM} (h : WFa m) (n : Nat) : WFa (cpW n m) := h.ext (fun k hk => cpW_key n m (by unfold kWF at hk; unfold kTry; omega))
theorem WFa.triesF {m : MM} (h : WFa m) (d : Nat) (en ah s t : Int32) (size : Nat) (seen : Int32) : WFa (triesF d en m ah s t size seen) := h.ext (fun k hk => triesF_key d en m ah s t size seen (by unfold kWF at hk; unfold kTry; omega))

