/-! THE REFERENCE's state: key k (the place of the field in RoutepostModel), index i; key 46: the length of the log's row -/
abbrev MM : Type := Nat → Nat → Int32
def up (m : MM) (k i : Nat) (x : Int32) : MM := fun k' i' => if k' = k ∧ i' = i then x else m k' i'
theorem up_s (m : MM) (k i : Nat) (x : Int32) : up m k i x k i = x := by simp [up]
theorem up_k {m : MM} {k i k' i' : Nat} {x : Int32} (h : k' ≠ k) : up m k i x k' i' = m k' i' := by simp [up, h]
theorem up_i {m : MM} {k i k' i' : Nat} {x : Int32} (h : i' ≠ i) : up m k i x k' i' = m k' i' := by simp [up, h]
def LLm (m : MM) : Nat := (m 46 0).toNatClampNeg
def uC (m : MM) : Nat := LLm m / 4000
def uS (m : MM) : Nat := 2 * LLm m
def kdM (j : Nat) : Nat := match j with
  | 9 => 22
  | 28 => 21
  | 29 => 22
  | 30 => 22
  | _ => 20
def lenM (m : MM) (j : Nat) : Nat := match j with
  | 0 => 6
  | 1 => 6
  | 2 => 12
  | 3 => 12
  | 4 => 12
  | 5 => 12
  | 6 => 12
  | 7 => 12
  | 8 => 12
  | 9 => 12
  | 10 => 48
  | 31 => LLm m
  | 32 => 6
  | 33 => 6
  | _ => 40
theorem lenM_ext {m m' : MM} (h : LLm m' = LLm m) (j : Nat) : lenM m' j = lenM m j := by
  unfold lenM
  split <;> first | rfl | exact h
def RM (h : AH) (o : Nat) (ad : Nat → Nat) (m : MM) : Prop :=
  aK h o = 15 ∧ (∀ j, j < 37 → aR h j o = some (ad j) ∧ aK h (ad j) = kdM j ∧ aN h (ad j) = lenM m j ∧ ∀ i, aI h i (ad j) = m j i) ∧ (∀ j, 37 ≤ j → j < 46 → aI h j o = m j 0) ∧ ∀ i j, i < 37 → j < 37 → ad i = ad j → i = j
theorem kdM_ge (j : Nat) : 20 ≤ kdM j := by
  unfold kdM
  split <;> decide
theorem RM.ne {h : AH} {o : Nat} {ad : Nat → Nat} {m : MM} (hM : RM h o ad m) {j : Nat} (hj : j < 37) : ad j ≠ o := by
  intro e
  have h1 := (hM.2.1 j hj).2.1
  rw [e, hM.1] at h1
  have := kdM_ge j
  omega
theorem RM.putI {h : AH} {o : Nat} {ad : Nat → Nat} {m : MM} (hM : RM h o ad m) {j : Nat} (h1 : 37 ≤ j) (h2 : j < 46) (x : Int32) : RM (pI h j o x) o ad (up m j 0 x) := by
  have hL : LLm (up m j 0 x) = LLm m := by unfold LLm; rw [up_k (by omega)]
  refine ⟨hM.1, fun k hk => ?_, fun k k1 k2 => ?_, hM.2.2.2⟩
  · obtain ⟨a1, a2, a3, a4⟩ := hM.2.1 k hk
    refine ⟨a1, a2, by rw [lenM_ext hL]; exact a3, fun i => ?_⟩
    rw [aI_pI, if_neg (fun q => hM.ne hk q.2), up_k (by omega)]
    exact a4 i
  · rw [aI_pI]
    by_cases e : k = j
    · subst e; simp [up]
    · rw [if_neg (fun q => e q.1), up_k e]
      exact hM.2.2.1 k k1 k2
theorem RM.putA {h : AH} {o : Nat} {ad : Nat → Nat} {m : MM} (hM : RM h o ad m) {j : Nat} (hj : j < 37) (i : Nat) (x : Int32) : RM (pI h i (ad j) x) o ad (up m j i x) := by
  have hL : LLm (up m j i x) = LLm m := by unfold LLm; rw [up_k (by omega)]
  refine ⟨hM.1, fun k hk => ?_, fun k k1 k2 => ?_, hM.2.2.2⟩
  · obtain ⟨a1, a2, a3, a4⟩ := hM.2.1 k hk
    refine ⟨a1, a2, by rw [lenM_ext hL]; exact a3, fun i' => ?_⟩
    rw [aI_pI]
    by_cases e : k = j
    · subst e
      by_cases e2 : i' = i
      · subst e2; simp [up]
      · rw [if_neg (fun q => e2 q.1), up_i e2]; exact a4 i'
    · rw [if_neg (fun q => e (hM.2.2.2 k j hk hj q.2)), up_k e]; exact a4 i'
  · rw [aI_pI, if_neg (fun q => hM.ne hj q.2.symm), up_k (by omega)]
    exact hM.2.2.1 k k1 k2
theorem RM.fresh {h : AH} {o : Nat} {ad : Nat → Nat} {m : MM} (hM : RM h o ad m) {q : Nat} (hq : aK h q = 0) (k n : Nat) : RM (pN h q k n) o ad m := by
  have ho : o ≠ q := fun e => by have := hM.1; rw [e, hq] at this; omega
  refine ⟨by rw [aK_pN, if_neg ho]; exact hM.1, fun j hj => ?_, fun j h1 h2 => by rw [aI_pN, if_neg ho]; exact hM.2.2.1 j h1 h2, hM.2.2.2⟩
  obtain ⟨a1, a2, a3, a4⟩ := hM.2.1 j hj
  have hj2 : ad j ≠ q := fun e => by have := kdM_ge j; rw [e, hq] at a2; omega
  exact ⟨by rw [aR_pN, if_neg ho]; exact a1, by rw [aK_pN, if_neg hj2]; exact a2, by rw [aN_pN, if_neg hj2]; exact a3, fun i => by rw [aI_pN, if_neg hj2]; exact a4 i⟩
theorem RM.other {h : AH} {o : Nat} {ad : Nat → Nat} {m : MM} (hM : RM h o ad m) {q : Nat} (h1 : o ≠ q) (h2 : ∀ j, j < 37 → ad j ≠ q) (i : Nat) (x : Int32) : RM (pI h i q x) o ad m := by
  refine ⟨hM.1, fun j hj => ?_, fun j a b => by rw [aI_pI, if_neg (fun z => h1 z.2)]; exact hM.2.2.1 j a b, hM.2.2.2⟩
  obtain ⟨a1, a2, a3, a4⟩ := hM.2.1 j hj
  exact ⟨a1, a2, a3, fun i' => by rw [aI_pI, if_neg (fun z => h2 j hj z.2)]; exact a4 i'⟩
/-- another row for the field j -/
theorem RM.swap {h : AH} {o : Nat} {ad : Nat → Nat} {m m' : MM} (hM : RM h o ad m) {q j : Nat} (hj : j < 37) (h2 : ∀ i, i < 37 → ad i ≠ q) (hk : aK h q = kdM j) (hn : aN h q = lenM m' j) (hc : ∀ i, aI h i q = m' j i) (hl : ∀ k, k < 37 → k ≠ j → lenM m' k = lenM m k) (he : ∀ k i, k < 46 → k ≠ j → m' k i = m k i) : RM (pR h j o (some q)) o (va_up ad j q) m' := by
  refine ⟨hM.1, fun k hk1 => ?_, fun k a b => by rw [he k 0 b (by omega)]; exact hM.2.2.1 k a b, fun a b ha hb hab => ?_⟩
  · by_cases e : k = j
    · subst e
      rw [va_up_self]
      exact ⟨by rw [aR_pR, if_pos ⟨rfl, rfl⟩], hk, hn, hc⟩
    · rw [va_up_ne _ _ e]
      obtain ⟨a1, a2, a3, a4⟩ := hM.2.1 k hk1
      exact ⟨by rw [aR_pR, if_neg (fun z => e z.1)]; exact a1, a2, by rw [hl k hk1 e]; exact a3, fun i => by rw [he k i (by omega) e]; exact a4 i⟩
  · by_cases e : a = j
    · by_cases f : b = j
      · rw [e, f]
      · rw [e, va_up_self, va_up_ne _ _ f] at hab
        exact absurd hab.symm (h2 b hb)
    · by_cases f : b = j
      · rw [f, va_up_self, va_up_ne _ _ e] at hab
        exact absurd hab (h2 a ha)
      · rw [va_up_ne _ _ e, va_up_ne _ _ f] at hab
        exact hM.2.2.2 a b ha hb hab
theorem RM.apart {h : AH} {o : Nat} {ad : Nat → Nat} {m : MM} (hM : RM h o ad m) {q : Nat} (hq : aK h q = 0) : o ≠ q ∧ ∀ j, j < 37 → ad j ≠ q := by
  refine ⟨fun e => by have := hM.1; rw [e, hq] at this; omega, fun j hj e => ?_⟩
  have a2 := (hM.2.1 j hj).2.1
  have := kdM_ge j
  rw [e, hq] at a2
  omega
theorem tyl15R : ∀ j, j < 37 → (tyl 15)[j]? = some true := by decide
theorem tyl15I : ∀ j, j < 46 → 37 ≤ j → (tyl 15)[j]? = some false := by decide
theorem va_rf_cat (r : Option Nat) : (va_rf r).category = 1 := by cases r <;> rfl
section MROWS
variable {p : Program} {l : Launch} {e : Env} {R : Room} {s : State} {m9 : MethodId} {args : Array Value} {below : List Frame} {meth : Method} {c : Code} {H : Heap} {locs : List Loc} {cells slots : Nat} {Q : State → Prop}
variable {cc : ByteArray} {pc nL index : Nat} {ls : Array Slot} {rest : List Value} {G : GT} {A : Nat → Prop} {h : AH} {o : Nat} {ad : Nat → Nat} {m : MM}
theorem m_ldI (C0 : CX p l s m9 args meth c cc nL "RoutepostModel" G A) (hH : HS G.1 G.2.1 A s.heap h H locs) (hM : RM h o ad m) (j : Nat) (hj : j < 37) (hk : kdM j = 20) {n ix : Nat} (hn : lenM m j = n) {i : Int32} (hi : i.toNatClampNeg = ix) (hin : vp_in i n) {v : Int32} (hv : m j ix = v) (hdg : decode cc pc = .ok (.iaload, 1))
    (kk : W p l e R s m9 args below meth c H locs cells slots Q (F0 m9 (pc + 1) ls (.int v :: rest))) : W p l e R s m9 args below meth c H locs cells slots Q (F0 m9 pc ls (.int i :: .ref (ad j) :: rest)) := by
  obtain ⟨hx, hb, hml, hown, hts, hK, -⟩ := C0
  obtain ⟨a1, a2, a3, a4⟩ := hM.2.1 j hj
  exact o_iald hx hb hK hH (a2.trans hk) (a3.trans hn) hin (by rw [hi, a4]; exact hv) hdg kk
theorem m_stI (C0 : CX p l s m9 args meth c cc nL "RoutepostModel" G A) (hH : HS G.1 G.2.1 A s.heap h H locs) (hM : RM h o ad m) (j : Nat) (hj : j < 37) (hk : kdM j = 20) {n ix : Nat} (hn : lenM m j = n) {i x : Int32} (hi : i.toNatClampNeg = ix) (hin : vp_in i n) (hdg : decode cc pc = .ok (.iastore, 1))
    (kk : ∀ (h' : AH) (H1 : Heap) (locs1 : List Loc), HS G.1 G.2.1 A s.heap h' H1 locs1 → RM h' o ad (up m j ix x) → W p l e R s m9 args below meth c H1 locs1 cells slots Q (F0 m9 (pc + 1) ls rest)) : W p l e R s m9 args below meth c H locs cells slots Q (F0 m9 pc ls (.int x :: .int i :: .ref (ad j) :: rest)) := by
  obtain ⟨hx, hb, hml, hown, hts, hK, -⟩ := C0
  obtain ⟨a1, a2, a3, a4⟩ := hM.2.1 j hj
  subst hi
  exact o_iast hx hb hK hH (a2.trans hk) (a3.trans hn) hin hdg (fun H1 locs1 hH1 => kk _ H1 locs1 hH1 (hM.putA hj _ x))
theorem m_len (C0 : CX p l s m9 args meth c cc nL "RoutepostModel" G A) (hH : HS G.1 G.2.1 A s.heap h H locs) (hM : RM h o ad m) {v : Int32} (hv : Int32.ofNat (LLm m) = v) (hdg : decode cc pc = .ok (.arraylength, 1))
    (kk : W p l e R s m9 args below meth c H locs cells slots Q (F0 m9 (pc + 1) ls (.int v :: rest))) : W p l e R s m9 args below meth c H locs cells slots Q (F0 m9 pc ls (.ref (ad 31) :: rest)) := by
  obtain ⟨hx, hb, hml, hown, hts, hK, -⟩ := C0
  obtain ⟨a1, a2, a3, a4⟩ := hM.2.1 31 (by decide)
  have a2' : aK h (ad 31) = 20 := a2
  have a3' : aN h (ad 31) = LLm m := a3
  exact o_alen hx hb hK hH 0 (ty := .int) (by rw [a2']; rfl) (by omega) (by rw [a3']; exact hv) hdg kk
end MROWS
/-! truths as numbers -/
def bi (P : Prop) [Decidable P] : Int32 := if P then 1 else 0
theorem bi_t {P : Prop} [Decidable P] (h : P) : bi P = 1 := if_pos h
theorem bi_f {P : Prop} [Decidable P] (h : ¬ P) : bi P = 0 := if_neg h
theorem bi_0 {P : Prop} [Decidable P] : bi P = 0 ↔ ¬ P := by unfold bi; split <;> simp_all
theorem bi_n0 {P : Prop} [Decidable P] : ¬ bi P = 0 ↔ P := by unfold bi; split <;> simp_all
theorem bi_c {P Q : Prop} [Decidable P] [Decidable Q] (h : P ↔ Q) : bi P = bi Q := by unfold bi; simp [h]
theorem bi_not {P : Prop} [Decidable P] : (if bi P = 0 then (1 : Int32) else 0) = bi (¬ P) := by unfold bi; split <;> simp_all
theorem bi_nar {P : Prop} [Decidable P] : narrow .boolean (.int (bi P)) = .int (bi P) := by unfold bi; split <;> decide
section MMAX
variable {p : Program} {l : Launch} {e : Env} {R : Room} {s : State} {m9 : MethodId} {args : Array Value} {below : List Frame} {meth : Method} {c : Code} {H : Heap} {locs : List Loc} {cells slots : Nat} {Q : State → Prop}
variable {cc : ByteArray} {pc nL index : Nat} {ls : Array Slot} {rest : List Value} {G : GT} {A : Nat → Prop} {own : String}
theorem maxW : Cond.code Lib.Math.max.name Lib.Math.max.code 2 (some .int) ∈ lw_all ∧ Cond.static Lib.Math.max.name ∈ lw_all ∧ Cond.initialized "java/lang/Math" ∈ lw_all := ⟨by decide +kernel, by decide +kernel, by decide +kernel⟩
theorem o_mmax (C0 : CX p l s m9 args meth c cc nL own G A) (hl : Cond.methodLink own index Lib.Math.max.name ∈ lw_all) (hls : ls.size = nL) {x y : Int32} (hdg : decode cc pc = .ok (.invokestatic index, 3)) (hf : 1 ≤ R.frames) (hlo : (rest.map fun v => v.category).sum + 13 ≤ R.locals) (hcs : cells ≤ R.cells ∧ slots ≤ R.slots)
    (kk : W p l e R s m9 args below meth c H locs cells slots Q (F0 m9 (pc + 3) ls (.int (if x < y then y else x) :: rest))) : W p l e R s m9 args below meth c H locs cells slots Q (F0 m9 pc ls (.int y :: .int x :: rest)) := by
  obtain ⟨hx, hb, hml, hown, hts, -⟩ := C0
  exact va_mmax hx hb (hml.trans hls.symm) hown (hts _ hl) (hts _ maxW.2.1) (hts _ maxW.2.2) (hts _ maxW.1) hf hlo hcs.1 hcs.2 hdg kk
end MMAX
abbrev QI (below : List Frame) (G : GT) (A : Nat → Prop) (post : Int32 → AH → Prop) (args : Array Value) (s : State) (mc ms : Nat) : State → Prop := MQ below (va_Qi post (fun h' t => HW G.1 G.2.1 A h' t.heap) A) args s mc ms A
abbrev QV (below : List Frame) (G : GT) (A : Nat → Prop) (post : AH → Prop) (args : Array Value) (s : State) (mc ms : Nat) : State → Prop := MQ below (va_Qv post (fun h' t => HW G.1 G.2.1 A h' t.heap) A) args s mc ms A
abbrev QQ (below : List Frame) (G : GT) (A : Nat → Prop) (post : Option Nat → AH → Prop) (args : Array Value) (s : State) (mc ms : Nat) : State → Prop := MQ below (va_Qq post (fun h' t => HW G.1 G.2.1 A h' t.heap) A) args s mc ms A

