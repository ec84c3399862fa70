/-! what happens to a parcel: the class's lists of events beside the log -/
/-- how many of the first n events are of parcel p -/
def cntE (m : MM) (p : Nat) : Nat → Nat
  | 0 => 0
  | n + 1 => cntE m p n + (if m 31 (4 * n) = nI p then 1 else 0)
theorem cntE_le (m : MM) (p : Nat) : ∀ n, cntE m p n ≤ n
  | 0 => Nat.le_refl _
  | n + 1 => by have := cntE_le m p n; simp only [cntE]; split <;> omega
theorem cntE_mono (m : MM) (p : Nat) : ∀ (k n : Nat), cntE m p n ≤ cntE m p (n + k)
  | 0, n => Nat.le_refl _
  | k + 1, n => Nat.le_trans (cntE_mono m p k n) (by show _ ≤ cntE m p (n + k) + _; omega)
theorem cntE_ext {m m' : MM} (p : Nat) : ∀ (n : Nat), (∀ i, i < 4 * n → m' 31 i = m 31 i) → cntE m' p n = cntE m p n
  | 0, _ => rfl
  | n + 1, h => by simp only [cntE]; rw [cntE_ext p n (fun i hi => h i (by omega)), h (4 * n) (by omega)]
def SE (c m : MM) (p : Nat) : Prop := (szN c (6 + p) = cntE m p (logN m) ∧ cntE m p (logN m) ≤ 1024) ∧ ∀ j, j < logN m → m 31 (4 * j) = nI p → c 120 (1024 * p + cntE m p j) = m 31 (4 * j + 1) ∧ c 121 (1024 * p + cntE m p j) = m 31 (4 * j + 2) ∧ c 122 (1024 * p + cntE m p j) = m 31 (4 * j + 3)
theorem SE.ext {c m c' m' : MM} {p : Nat} (h : SE c m p) (e1 : c' 171 (6 + p) = c 171 (6 + p)) (e2 : ∀ k, k = 120 ∨ k = 121 ∨ k = 122 → c' k = c k) (e3 : m' 31 = m 31) (e4 : m' 40 = m 40) : SE c' m' p := by
  obtain ⟨⟨a1, a2⟩, a3⟩ := h
  have n1 : logN m' = logN m := by unfold logN; rw [e4]
  have n2 : ∀ n, cntE m' p n = cntE m p n := fun n => cntE_ext p n (fun i _ => by rw [e3])
  refine ⟨⟨by unfold szN at a1 ⊢; rw [e1, a1, n1, n2], by rw [n1, n2]; exact a2⟩, fun j hj he => ?_⟩
  rw [n1] at hj
  rw [e3] at he
  rw [n2, e2 120 (by omega), e2 121 (by omega), e2 122 (by omega), e3]
  exact a3 j hj he
/-- an event comes in, on both sides -/
theorem hap_cntE {m : MM} (hw : WFa m) (q : Nat) (kind l : Int32) (hq : q < 2 ^ 31) {p : Nat} (hp : p < 2 ^ 31) : cntE (fHap m q kind l) p (logN (fHap m q kind l)) = cntE m p (logN m) + (if p = q then 1 else 0) := by
  rw [(fHap_cnt hw q kind l).2]
  simp only [cntE]
  rw [cntE_ext (m := m) p (logN m) (fun i hi => by rw [fHap_log hw, if_neg (by omega), if_neg (by omega), if_neg (by omega), if_neg (by omega), fHap0_log hw hi]), fHap_log hw, if_pos rfl]
  by_cases z : p = q
  · rw [if_pos z, if_pos (by rw [z])]
  · rw [if_neg z, if_neg (fun y => z ((nI_eq hq hp).mp y).symm)]
theorem SE.note {c m : MM} {p : Nat} (h : SE c m p) (hw : WFa m) {q : Nat} (hp : p < 40) (hq : q < 40) {jj : Nat} {kind l y t : Int32} {x : Nat} (hsq : szN c (6 + q) < 1024) (hk : lw_letters.getD jj 0 = kind) (ht : t = m 41 0) (hx : nI x = m 15 q) : SE (cNote c q jj t x y) (fHap m q kind l) p := by
  obtain ⟨⟨a1, a2⟩, a3⟩ := h
  have hlog : ∀ i, fHap m q kind l 31 i = if i = 4 * logN m then nI q else if i = 4 * logN m + 1 then kind else if i = 4 * logN m + 2 then m 41 0 else if i = 4 * logN m + 3 then m 15 q else fHap0 m 31 i := fun i => fHap_log hw q kind l i
  have hold : ∀ i, i < 4 * logN m → fHap m q kind l 31 i = m 31 i := fun i hi => by rw [hlog, if_neg (by omega), if_neg (by omega), if_neg (by omega), if_neg (by omega), fHap0_log hw hi]
  have hc := hap_cntE hw q kind l (by omega) (p := p) (by omega)
  have hn := (fHap_cnt hw q kind l).2
  obtain ⟨v, hv⟩ : ∃ z, z = cNote c q jj t x y := ⟨_, rfl⟩
  have hv2 : v = up (cEv c q (lw_letters.getD jj 0) t x) 27 q ((31 * c 27 q + cMark t x jj y) - (31 * c 27 q + cMark t x jj y) / 1000003 * 1000003) := by rw [hv]; unfold cNote; rw [if_neg (by omega)]
  rw [← hv]
  have v171 : ∀ p', v 171 (6 + p') = if p' = q then nI (szN c (6 + q) + 1) else c 171 (6 + p') := fun p' => by
    rw [hv2, up_k (by omega)]
    unfold cEv
    by_cases z : p' = q
    · subst z; rw [if_pos ⟨rfl, rfl⟩, if_pos rfl]
    · rw [if_neg (by omega), if_neg (by omega), if_neg z]
      unfold cEv1
      rw [if_neg (by omega), if_neg (by omega), if_neg (by omega), if_neg (by omega)]
  have vE : ∀ i, v 120 i = (if i = 1024 * q + szN c (6 + q) then kind else c 120 i) ∧ v 121 i = (if i = 1024 * q + szN c (6 + q) then t else c 121 i) ∧ v 122 i = (if i = 1024 * q + szN c (6 + q) then nI x else c 122 i) := fun i => by
    rw [hv2, up_k (by omega), up_k (by omega), up_k (by omega)]
    unfold cEv cEv1
    rw [hk]
    by_cases z : i = 1024 * q + szN c (6 + q)
    · simp [z]
    · simp [z]
  refine ⟨⟨?_, ?_⟩, fun j hj he => ?_⟩
  · rw [hc]
    unfold szN
    rw [v171]
    by_cases z : p = q
    · rw [if_pos z, if_pos z, nI_clamp (by omega), ← z, a1]
    · rw [if_neg z, if_neg z]; exact a1
  · rw [hc]
    by_cases z : p = q
    · rw [if_pos z]
      rw [← z, a1] at hsq
      omega
    · rw [if_neg z]; exact a2
  · rw [hn] at hj
    have hcj : cntE (fHap m q kind l) p j = cntE m p j := cntE_ext p j (fun i hi => hold i (by omega))
    have hcm : cntE m p j ≤ cntE m p (logN m) := by
      have := cntE_mono m p (logN m - j) j
      rw [show j + (logN m - j) = logN m by omega] at this
      exact this
    rw [hcj]
    obtain ⟨w1, w2, w3⟩ := vE (1024 * p + cntE m p j)
    rw [w1, w2, w3]
    by_cases z : j = logN m
    · subst z
      rw [hlog, if_pos rfl] at he
      have e : p = q := ((nI_eq (by omega) (by omega)).mp he).symm
      subst e
      rw [← a1, if_pos rfl, if_pos rfl, if_pos rfl, hlog, hlog, hlog, if_neg (by omega), if_pos rfl, if_neg (by omega), if_neg (by omega), if_pos rfl, if_neg (by omega), if_neg (by omega), if_neg (by omega), if_pos rfl]
      exact ⟨rfl, ht, hx⟩
    · rw [hold _ (by omega)] at he
      have hlt : cntE m p j < cntE m p (logN m) := by
        have := cntE_mono m p (logN m - (j + 1)) (j + 1)
        rw [show j + 1 + (logN m - (j + 1)) = logN m by omega] at this
        have e : cntE m p (j + 1) = cntE m p j + 1 := by simp only [cntE]; rw [if_pos he]
        omega
      have hne : ¬ 1024 * p + cntE m p j = 1024 * q + szN c (6 + q) := by
        intro y
        by_cases w : p = q
        · rw [← w, a1] at y; omega
        · omega
      rw [if_neg hne, if_neg hne, if_neg hne, hold _ (by omega), hold _ (by omega), hold _ (by omega)]
      exact a3 j (by omega) he
/-- notes and writes elsewhere commute -/
theorem cNote_up {u : MM} {k i : Nat} {v : Int32} {p j : Nat} {t : Int32} {x : Nat} {y : Int32} (h : nk k = true) : cNote (up u k i v) p j t x y = up (cNote u p j t x y) k i v := by
  have e : k ≠ 27 ∧ k ≠ 120 ∧ k ≠ 121 ∧ k ≠ 122 ∧ k ≠ 171 ∧ k ≠ 172 ∧ k ≠ 173 := by
    refine ⟨?_, ?_, ?_, ?_, ?_, ?_, ?_⟩ <;> (intro e; subst e; exact absurd h (by decide))
  have n1 : ∀ q, szN (up u k i v) q = szN u q := fun q => by unfold szN; rw [up_k (Ne.symm e.2.2.2.2.1)]
  have n2 : ∀ q, capN (up u k i v) q = capN u q := fun q => by unfold capN; rw [up_k (Ne.symm e.2.2.2.2.2.1)]
  unfold cNote
  rw [n1]
  by_cases z : 1024 ≤ szN u (6 + p)
  · rw [if_pos z, if_pos z]
  · rw [if_neg z, if_neg z, up_k (Ne.symm e.1)]
    funext k' i'
    unfold cEv cEv1
    rw [n1, n2]
    unfold up
    by_cases w : k' = k ∧ i' = i
    · obtain ⟨rfl, rfl⟩ := w
      simp [e]
    · simp [w]
/-- the trace -/
theorem note_27 {c m : MM} (hw : WFa m) {q : Nat} (hq : q < npN m) {jj : Nat} {kind l y t : Int32} {x : Nat} (hsq : szN c (6 + q) < 1024) (hk : lpos kind = nI jj) (ht : t = m 41 0) (hx : nI x = m 15 q) (hy : (l = -1 ∧ y = -1) ∨ (¬ l < 0 ∧ y = l)) (h27 : ∀ p, p < npN m → c 27 p = m 27 p) {p : Nat} (hp : p < npN m) : cNote c q jj t x y 27 p = fHap m q kind l 27 p := by
  unfold cNote
  rw [if_neg (by omega)]
  have e1 : cMark t x jj y = lmark (m 41 0) (m 15 q) kind l := by
    unfold cMark lmark
    rw [ht, hx, hk]
    rcases hy with ⟨rfl, rfl⟩ | ⟨h1, rfl⟩
    · rw [if_pos rfl, if_pos (by decide), Int32.add_zero]
    · rw [if_neg (fun z => h1 (by rw [z]; decide)), if_neg h1]
  rw [e1]
  have e2 : fHap m q kind l 27 p = up m 27 q (ltr (m 27 q) (lmark (m 41 0) (m 15 q) kind l)) 27 p := by
    unfold fHap fHap1
    simp only [up]
    rw [fHap0_key m (k := 27) (by omega) (by omega), fHap0_key m (k := 41) (by omega) (by omega), fHap0_key m (k := 15) (by omega) (by omega)]
    simp
  rw [e2, h27 q hq]
  by_cases z : p = q
  · subst z; rw [up_s, up_s]; rfl
  · rw [up_i z, up_i z, cEv]
    simp [cEv1]
    exact h27 p hp

