/-! how many routes there can be -/
def cntD (D : PD) : Nat → PS → Nat
  | 0, _ => 1
  | d + 1, s => 1 + sumN (fun l => if extB D s.1 s.2.2.2 l = true then cntD D d (stepD D s l) else 0) (dN D)
theorem cntD_pos (D : PD) (d : Nat) (s : PS) : 1 ≤ cntD D d s := by
  cases d with
  | zero => exact Nat.le_refl _
  | succ d => simp only [cntD]; omega
def outD (D : PD) (x : Nat) : Nat := sumN (fun l => if dF D l = x then 1 else 0) (dN D)
def restD (D : PD) (vis : List Nat) : Nat := sumN (fun l => if dF D l ∈ vis then 0 else 1) (dN D)
theorem sumN_mul (f : Nat → Nat) (B : Nat) : ∀ n, sumN (fun l => f l * B) n = sumN f n * B
  | 0 => by simp [sumN]
  | n + 1 => by simp only [sumN]; rw [sumN_mul f B n, Nat.add_mul]
theorem sumN_add (f g : Nat → Nat) : ∀ n, sumN (fun l => f l + g l) n = sumN f n + sumN g n
  | 0 => rfl
  | n + 1 => by simp only [sumN]; rw [sumN_add f g n]; omega
theorem sumN_congr {f g : Nat → Nat} : ∀ (n : Nat), (∀ i, i < n → f i = g i) → sumN f n = sumN g n
  | 0, _ => rfl
  | n + 1, h => by simp only [sumN]; rw [sumN_congr n (fun i hi => h i (by omega)), h n (by omega)]
theorem sumN_mono {f g : Nat → Nat} : ∀ (n : Nat), (∀ i, i < n → f i ≤ g i) → sumN f n ≤ sumN g n
  | 0, _ => Nat.le_refl _
  | n + 1, h => by simp only [sumN]; exact Nat.add_le_add (sumN_mono n (fun i hi => h i (by omega))) (h n (by omega))
theorem sumN_one (n : Nat) : sumN (fun _ => 1) n = n := by
  induction n with
  | zero => rfl
  | succ n ih => simp only [sumN]; rw [ih]
theorem out_rest {D : PD} {y : Nat} {vis : List Nat} (hy : ¬ y ∈ vis) : outD D y + restD D (y :: vis) = restD D vis := by
  unfold outD restD
  rw [← sumN_add]
  refine sumN_congr _ (fun l _ => ?_)
  by_cases e : dF D l = y
  · rw [if_pos e, if_pos (by rw [e]; exact List.mem_cons_self), if_neg (by rw [e]; exact hy)]
  · rw [if_neg e]
    by_cases z : dF D l ∈ vis
    · rw [if_pos z, if_pos (List.mem_cons_of_mem _ z)]
    · rw [if_neg z, if_neg (fun w => (List.mem_cons.mp w).elim e z)]
theorem out_le {D : PD} {x : Nat} {vis : List Nat} (hx : x ∈ vis) : outD D x + restD D vis ≤ dN D := by
  unfold outD restD
  rw [← sumN_add]
  refine Nat.le_trans (sumN_mono (g := fun _ => 1) _ (fun l _ => ?_)) (by rw [sumN_one]; exact Nat.le_refl _)
  by_cases e : dF D l = x
  · rw [if_pos e, if_pos (by rw [e]; exact hx)]; exact Nat.le_refl _
  · rw [if_neg e]; split <;> omega
def GG (n : Nat) : Nat := [1, 2, 3, 5, 7, 11, 16, 23, 34, 49, 70, 103, 148].getD n 0
theorem GG_step : ∀ n, n < 13 → ∀ k, k ≤ n → 1 + k * GG (n - k) ≤ GG n := by decide
theorem GG_le : ∀ n, n < 13 → GG n ≤ 148 := by decide
theorem cntD_le {D : PD} (hD : PDok D) : ∀ (d : Nat) (s : PS), s.1 ∈ s.2.2.2 → cntD D d s ≤ GG (outD D s.1 + restD D s.2.2.2) := by
  have h12 := hD.1
  intro d
  induction d with
  | zero =>
    intro s hs
    have h1 := out_le (D := D) hs
    have := GG_step (outD D s.1 + restD D s.2.2.2) (by omega) 0 (by omega)
    show 1 ≤ _
    omega
  | succ d ih =>
    intro s hs
    have h1 := out_le (D := D) hs
    have h2 := GG_step (outD D s.1 + restD D s.2.2.2) (by omega) (outD D s.1) (by omega)
    simp only [cntD]
    refine Nat.le_trans (Nat.add_le_add_left ?_ 1) h2
    rw [show outD D s.1 + restD D s.2.2.2 - outD D s.1 = restD D s.2.2.2 by omega]
    show _ ≤ sumN _ _ * _
    rw [← sumN_mul]
    refine sumN_mono _ (fun l _ => ?_)
    by_cases e : extB D s.1 s.2.2.2 l = true
    · have he := extB_iff.mp e
      rw [if_pos e, if_pos he.2.2.1, Nat.one_mul]
      have h3 := ih (stepD D s l) List.mem_cons_self
      rw [show outD D (stepD D s l).1 + restD D (stepD D s l).2.2.2 = restD D s.2.2.2 from out_rest he.2.2.2] at h3
      exact h3
    · rw [if_neg e]; exact Nat.zero_le _
theorem cntD_148 {D : PD} (hD : PDok D) (d : Nat) {s : PS} (hs : s.1 ∈ s.2.2.2) : cntD D d s ≤ 148 := by
  have h12 := hD.1
  have := out_le (D := D) hs
  exact Nat.le_trans (cntD_le hD d s hs) (GG_le _ (by omega))
/-- more fuel counts no more, where no hub is left -/
theorem cntD_eq {D : PD} (hD : PDok D) : ∀ (d e : Nat) (s : PS), hubU s.2.2.2 + 1 ≤ d → hubU s.2.2.2 + 1 ≤ e → cntD D d s = cntD D e s := by
  intro d
  induction d with
  | zero => intro e s h _; omega
  | succ d ih =>
    intro e s h1 h2
    obtain ⟨e', rfl⟩ : ∃ z, e = z + 1 := ⟨e - 1, by omega⟩
    simp only [cntD]
    congr 1
    refine sumN_congr _ (fun l _ => ?_)
    by_cases c : extB D s.1 s.2.2.2 l = true
    · rw [if_pos c, if_pos c]
      have hx := extB_iff.mp c
      have h3 : hubU (stepD D s l).2.2.2 + 1 ≤ hubU s.2.2.2 := hubU_step (hD.2.1 l hx.1) hx.2.2.2
      exact ih e' _ (by omega) (by omega)
    · rw [if_neg c, if_neg c]
/-! one path more -/
theorem shl4 {n : Nat} (h : n < 2 ^ 24) : nI n <<< ((4 : Int32) &&& 31) = nI (n * 16) := by
  have e4 : ((4 : Int32) &&& 31) = 4 := by decide
  rw [e4]
  apply Int32.toBitVec_inj.mp
  apply BitVec.eq_of_toNat_eq
  rw [Int32.toBitVec_shiftLeft]
  rw [show (nI n).toBitVec = BitVec.ofNat 32 n from rfl, show (nI (n * 16)).toBitVec = BitVec.ofNat 32 (n * 16) from rfl]
  simp [Nat.shiftLeft_eq]

