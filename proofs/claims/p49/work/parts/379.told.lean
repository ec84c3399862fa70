/-! what isTold compares -/
theorem order_self {d : FP.Core.Datum} (h : d ≠ .nan) : FP.Core.order d d = some .eq := by
  cases d with
  | nan => exact absurd rfl h
  | inf s => show some (compareOfLessAndEq _ _) = _; unfold compareOfLessAndEq; rw [if_neg (Int.lt_irrefl _), if_pos rfl]
  | fin s c q => show some (compareOfLessAndEq _ _) = _; unfold compareOfLessAndEq; rw [if_neg (Int.lt_irrefl _), if_pos rfl]
theorem dcmp_self {v : UInt64} (h : vf_n64 v) : FP.dcmp v v = some .eq := order_self (dec_nan h)
theorem share_cmp : ∀ n, n < 41 → ∀ k, k < 40 → FP.fcmp (FP.fdiv (FP.i2f (nI n)) (FP.i2f (nI (k + 1)))) (FP.fdiv (FP.i2f (nI n)) (FP.i2f (nI (k + 1)))) = some .eq := by decide +kernel
theorem share_cmp2 {n k : Nat} (hn : n < 41) (h0 : k ≠ 0) (hk : k ≤ 40) : FP.fcmp (FP.fdiv (FP.i2f (nI n)) (FP.i2f (nI k))) (FP.fdiv (FP.i2f (nI n)) (FP.i2f (nI k))) = some .eq := by
  obtain ⟨j, rfl⟩ : ∃ j, k = j + 1 := ⟨k - 1, by omega⟩
  exact share_cmp n hn j (by omega)
theorem share_num2 {n k : Nat} (hn : n < 41) (h0 : k ≠ 0) (hk : k ≤ 40) : vf_n32 (FP.fdiv (FP.i2f (nI n)) (FP.i2f (nI k))) := by
  obtain ⟨j, rfl⟩ : ∃ j, k = j + 1 := ⟨k - 1, by omega⟩
  exact share_num n hn j (by omega)
theorem mean_num2 (a : Int32) {k : Nat} (h0 : k ≠ 0) (hk : k ≤ 40) : vf_n64 (FP.ddiv (FP.i2d a) (FP.i2d (nI k))) := by
  obtain ⟨j, rfl⟩ : ∃ j, k = j + 1 := ⟨k - 1, by omega⟩
  exact mean_num a (by omega)
def lateN (m : MM) : Nat → Nat → Nat → Nat
  | 0, _, a => a
  | k + 1, p, a => lateN m k (p + 1) (if late m p then a + 1 else a)
theorem lateN_eq (m : MM) : ∀ (k p a : Nat), ltL m k p (nI a) = nI (lateN m k p a) := by
  intro k
  induction k with
  | zero => intro p a; rfl
  | succ k ih =>
    intro p a
    simp only [ltL, lateN]
    by_cases z : late m p
    · rw [if_pos z, bi_t z, nI_1]; exact ih _ _
    · rw [if_neg z, bi_f z, show nI a + 0 = nI a from Int32.add_zero _]; exact ih _ _
theorem lateN_le (m : MM) : ∀ (k p a : Nat), lateN m k p a ≤ a + k := by
  intro k
  induction k with
  | zero => intro p a; exact Nat.le_refl _
  | succ k ih =>
    intro p a
    simp only [lateN]
    split
    · have := ih (p + 1) (a + 1); omega
    · have := ih (p + 1) a; omega
def manyN (m : MM) : Nat → Nat → Nat → Nat
  | 0, _, a => a
  | k + 1, p, a => manyN m k (p + 1) (if m 28 p = 100 then a + 1 else a)
theorem manyN_eq (m : MM) : ∀ (k p a : Nat) (t : Int32), (mtL m k p (nI a) t).1 = nI (manyN m k p a) := by
  intro k
  induction k with
  | zero => intro p a t; rfl
  | succ k ih =>
    intro p a t
    simp only [mtL, manyN]
    by_cases z : m 28 p = 100
    · rw [if_pos z, bi_t z, nI_1, if_pos z]; exact ih _ _ _
    · rw [if_neg z, bi_f z, show nI a + 0 = nI a from Int32.add_zero _, if_neg z]; exact ih _ _ _
theorem manyN_le (m : MM) : ∀ (k p a : Nat), manyN m k p a ≤ a + k := by
  intro k
  induction k with
  | zero => intro p a; exact Nat.le_refl _
  | succ k ih =>
    intro p a
    simp only [manyN]
    split
    · have := ih (p + 1) (a + 1); omega
    · have := ih (p + 1) a; omega
def sumT (m : MM) : Nat → Nat → Int32 → Int32
  | 0, _, t => t
  | k + 1, p, t => sumT m k (p + 1) (t + (if m 28 p = 100 then m 26 p - m 25 p else 0))
theorem sumT_eq (m : MM) : ∀ (k p : Nat) (a t : Int32), (mtL m k p a t).2 = sumT m k p t := by
  intro k
  induction k with
  | zero => intro p a t; rfl
  | succ k ih => intro p a t; exact ih _ _ _
theorem dlv_iff {m : MM} {p : Nat} (h : IVp m p) : 0 ≤ (if m 28 p = 100 then m 26 p else -1) ↔ m 28 p = 100 := by
  by_cases z : m 28 p = 100
  · rw [if_pos z]
    refine ⟨fun _ => z, fun _ => ?_⟩
    obtain ⟨e, -, hb⟩ := h.2.2.2.2 z
    rw [e]
    exact Int32.not_lt.mp (nI_pos (by omega))
  · rw [if_neg z]
    exact ⟨fun w => absurd w (by decide), fun w => absurd w z⟩
section TOLD
variable {p : Program} {l : Launch} {e : Env} {R : Room} {s : State} {m9 : MethodId} {args : Array Value} {below : List Frame} {meth : Method} {c9 : Code} {H : Heap} {locs : List Loc} {cells slots : Nat} {Q : State → Prop}
variable {cc : ByteArray} {pc nL index : Nat} {ls : Array Slot} {rest stk : List Value} {G : GT} {A : Nat → Prop} {h : AH} {Sc : SCR} {b : BA} {c : MM} {L : LNum} {M : LRef} {o : Nat}
variable {y : MethodName} {bytes : ByteArray} {maxL n fr lo mc ms : Nat} {ret : Option FieldType} {hh : List (Nat × Nat × Nat × Nat)}
theorem j_wf {v : UInt32} {P : UInt32 → AH → Prop} {xp : String → AH → Prop} (C0 : CX p l s m9 args meth c9 cc nL "RoutepostLaw" G A) (hN : LX Sc A s) (hH : HS G.1 G.2.1 A s.heap h H locs) (ho : b 14 0 = o)
    (hM : lhF l Sc G A y bytes maxL ret hh fr lo mc ms [.ref (b 14 0)] h (fun r h' => ∃ h1, (P r h1 ∨ xp aeC h1 ∧ r = 3378231824) ∧ h' = jO (oLM L M) h1 h ∧ ∀ q, aK h1 q ≠ 0 → oLM L M q = false)) (hv : ∀ r h1, (P r h1 ∨ xp aeC h1 ∧ r = 3378231824) → r = v ∧ h1 = rO (oLM L M) h) (mv : MSH y bytes maxL ret hh n) (hl : Cond.methodLink "RoutepostLaw" index y ∈ lw_all) (hAs : 1 = n) (hR : fr + 1 ≤ R.frames ∧ 8 + (maxL + 11) + lo ≤ R.locals) (hls : ls.size = nL) (hst : (rest.map fun v => v.category).sum ≤ 8) (hdg : decode cc pc = .ok (.invokestatic index, 3)) (hf : cells + mc ≤ R.cells ∧ slots + ms ≤ R.slots)
    (kk : ∀ (H : Heap) (locs : List Loc), HS G.1 G.2.1 A s.heap h H locs → W p l e R s m9 args below meth c9 H locs (cells + mc) (slots + ms) Q (F0 m9 (pc + 3) ls (.float v :: rest))) : W p l e R s m9 args below meth c9 H locs cells slots Q (F0 m9 pc ls (.ref o :: rest)) := by
  subst ho
  refine k_lf hH (k_lW (rest := rest) C0 hN hH hM mv hl hAs hR hls rfl hst hdg hf) (fun r h' H1 locs1 hp hH1 => ?_)
  obtain ⟨h1, g1, g2, -⟩ := hp
  obtain ⟨e1, e2⟩ := hv r h1 g1
  rw [g2, e2, jO_rO] at hH1
  rw [e1]
  exact kk H1 locs1 hH1
theorem j_wd {v : UInt64} {P : UInt64 → AH → Prop} {xp : String → AH → Prop} (C0 : CX p l s m9 args meth c9 cc nL "RoutepostLaw" G A) (hN : LX Sc A s) (hH : HS G.1 G.2.1 A s.heap h H locs) (ho : b 14 0 = o)
    (hM : lhD l Sc G A y bytes maxL ret hh fr lo mc ms [.ref (b 14 0)] h (fun r h' => ∃ h1, (P r h1 ∨ xp aeC h1 ∧ r = 13919350198670196736) ∧ h' = jO (oLM L M) h1 h ∧ ∀ q, aK h1 q ≠ 0 → oLM L M q = false)) (hv : ∀ r h1, (P r h1 ∨ xp aeC h1 ∧ r = 13919350198670196736) → r = v ∧ h1 = rO (oLM L M) h) (mv : MSH y bytes maxL ret hh n) (hl : Cond.methodLink "RoutepostLaw" index y ∈ lw_all) (hAs : 1 = n) (hR : fr + 1 ≤ R.frames ∧ 8 + (maxL + 11) + lo ≤ R.locals) (hls : ls.size = nL) (hst : (rest.map fun v => v.category).sum ≤ 8) (hdg : decode cc pc = .ok (.invokestatic index, 3)) (hf : cells + mc ≤ R.cells ∧ slots + ms ≤ R.slots)
    (kk : ∀ (H : Heap) (locs : List Loc), HS G.1 G.2.1 A s.heap h H locs → W p l e R s m9 args below meth c9 H locs (cells + mc) (slots + ms) Q (F0 m9 (pc + 3) ls (.double v :: rest))) : W p l e R s m9 args below meth c9 H locs cells slots Q (F0 m9 pc ls (.ref o :: rest)) := by
  subst ho
  refine k_ld hH (k_lW (rest := rest) C0 hN hH hM mv hl hAs hR hls rfl hst hdg hf) (fun r h' H1 locs1 hp hH1 => ?_)
  obtain ⟨h1, g1, g2, -⟩ := hp
  obtain ⟨e1, e2⟩ := hv r h1 g1
  rw [g2, e2, jO_rO] at hH1
  rw [e1]
  exact kk H1 locs1 hH1
end TOLD
