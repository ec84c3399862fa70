theorem hK_rf (x : Option Nat) : narrow (.array .int) (va_rf x) = va_rf x ∧ fits (.array .int) (va_rf x) = true := by cases x <;> exact ⟨rfl, rfl⟩
theorem grw_key {m : MM} {k : Nat} (h : k ≠ 31) (h2 : k ≠ 46) : grw m k = m k := by
  funext i
  simp [grw, h, h2]
theorem grw_LL {m : MM} (h : LLm m < 2 ^ 29) : LLm (grw m) = 2 * LLm m := by
  show (grw m 46 0).toNatClampNeg = _
  rw [show grw m 46 0 = nI (2 * LLm m) from rfl, nI_clamp (by omega)]
theorem fHap0_key (m : MM) {k : Nat} (h : k ≠ 31) (h2 : k ≠ 46) : fHap0 m k = m k := by
  unfold fHap0
  split
  · exact grw_key h h2
  · rfl
theorem fHap1_key (m : MM) (p : Nat) (kind l : Int32) {k : Nat} (h : k ≠ 31) (h2 : k ≠ 40) (h3 : k ≠ 27) : fHap1 m p kind l k = m k := by
  unfold fHap1
  rw [up_key h3, up_key h2, up_key h, up_key h, up_key h, up_key h]
theorem fHap_key (m : MM) (p : Nat) (kind l : Int32) {k : Nat} (h : k ≠ 31) (h2 : k ≠ 40) (h3 : k ≠ 27) (h4 : k ≠ 46) : fHap m p kind l k = m k := by
  unfold fHap
  rw [fHap1_key _ _ _ _ h h2 h3, fHap0_key m h h4]
theorem LLm_hap (m : MM) (p : Nat) (kind l : Int32) : LLm (fHap m p kind l) = LLm (fHap0 m) := LLm_ext (fHap1_key _ _ _ _ (by decide) (by decide) (by decide))
theorem hap_c {m : MM} (hw : WFa m) : nI (LLm m) < m 40 0 + 4 ↔ LLm m < 4 * logN m + 4 := by
  have hlg := hw.lg
  rw [hlg.1, show (4 : Int32) = nI 4 from rfl, nI_add]
  exact nI_ltI (by omega) (by omega)
theorem fHap0_room {m : MM} (hw : WFa m) : 4 * logN m + 4 ≤ LLm (fHap0 m) ∧ LLm (fHap0 m) < 2 ^ 30 ∧ LLm m ≤ LLm (fHap0 m) ∧ (nI (LLm m) < m 40 0 + 4 → LLm (fHap0 m) = 2 * LLm m) ∧ (¬ nI (LLm m) < m 40 0 + 4 → LLm (fHap0 m) = LLm m) := by
  have hlg := hw.lg
  have hc := hap_c hw
  unfold fHap0
  split
  · rename_i c
    rw [grw_LL (by omega)]
    exact ⟨by omega, by omega, by omega, fun _ => rfl, fun z => absurd c z⟩
  · rename_i c
    have := mt hc.mpr c
    exact ⟨by omega, by omega, by omega, fun z => absurd z c, fun _ => rfl⟩
theorem hap_up {m : MM} (hw : WFa m) (c : nI (LLm m) < m 40 0 + 4) (p : Nat) (kind l : Int32) : 1 ≤ uC (fHap m p kind l) - uC m ∧ 2 * LLm m ≤ uS (fHap m p kind l) - uS m := by
  have hlg := hw.lg
  have h1 := (fHap0_room hw).2.2.2.1 c
  unfold uC uS
  rw [LLm_hap, h1]
  constructor <;> omega
theorem lenM_31 (m m' : MM) : ∀ k, k < 37 → k ≠ 31 → lenM m' k = lenM m k := by
  intro k h1 h2
  unfold lenM
  split <;> first | rfl | (exact absurd rfl h2)
theorem grw_log {m : MM} (hw : WFa m) (i : Nat) : grw m 31 i = if i < 4 * logN m then m 31 i else 0 := by
  have hlg := hw.lg
  have e : (m 40 0).toNatClampNeg = 4 * logN m := by rw [hlg.1, nI_clamp (by omega)]
  show (if i < (m 40 0).toNatClampNeg then m 31 i else 0) = _
  rw [e]
theorem hap_ix {m : MM} (hw : WFa m) {k : Nat} (hk : k < 4) : (m 40 0 + nI k).toNatClampNeg = (m 40 0).toNatClampNeg + k ∧ vp_in (m 40 0 + nI k) (LLm (fHap0 m)) := by
  have hlg := hw.lg
  have hr := fHap0_room hw
  have e : (m 40 0).toNatClampNeg = 4 * logN m := by rw [hlg.1, nI_clamp (by omega)]
  rw [e, hlg.1, nI_add, nI_clamp (by omega)]
  exact ⟨rfl, vp_in_nI (by omega) (by omega)⟩
theorem hap_ix0 {m : MM} (hw : WFa m) : vp_in (m 40 0) (LLm (fHap0 m)) := by
  have hlg := hw.lg
  have hr := fHap0_room hw
  rw [hlg.1]
  exact vp_in_nI (by omega) (by omega)

