/-! the words that serve every method: those of the tables that a walk may carry -/
def lw_all : List Cond := lw_tbl.filter goodWord
theorem lw_all_tbl {w : Cond} (h : w ∈ lw_all) : w ∈ lw_tbl := (List.mem_filter.mp h).1
theorem lw_all_good {w : Cond} (h : w ∈ lw_all) : goodWord w = true := (List.mem_filter.mp h).2
theorem lw_in {w : Cond} (i : Nat) (h : tables_1[i]? = some w) (g : goodWord w = true) : w ∈ lw_all := List.mem_filter.mpr ⟨List.mem_append_right _ (List.mem_of_getElem? h), g⟩
theorem lw_sel {y : MethodName} (i : Nat) (h : (lw_privs[i]?).map (fun q => q.1) = some y) (g : goodWord (Cond.selects y.cls y y) = true) : Cond.selects y.cls y y ∈ lw_all := by
  refine List.mem_filter.mpr ⟨List.mem_append_left _ ?_, g⟩
  obtain ⟨q, hq, e⟩ := Option.map_eq_some_iff.mp h
  exact List.mem_map.mpr ⟨q, List.mem_of_getElem? hq, by rw [e]⟩
abbrev ws_ (y : MethodName) (b : ByteArray) (n : Nat) (ret : Option FieldType) : List Cond := Cond.code y b n ret :: lw_all
theorem lw_good : GoodIn lw_all lw_all := fun w h => ⟨h, good_of_word (lw_all_good h)⟩
theorem ws_good {y : MethodName} {b : ByteArray} {n : Nat} {ret : Option FieldType} (h : Cond.code y b n ret ∈ lw_all) : GoodIn lw_all (ws_ y b n ret) := fun w hw => (List.mem_cons.mp hw).elim (fun e => by rw [e]; exact lw_good _ h) (fun h => lw_good _ h)
/-! a heap of objects, abstractly: the kind of an address, its numbers, its references, its length (arrays), its owner (a mark of ours) -/
abbrev AH : Type := (Nat → Nat) × (Nat → Nat → Int32) × (Nat → Nat → Option Nat) × (Nat → Nat) × (Nat → Nat)
def aK (h : AH) : Nat → Nat := h.1
def aI (h : AH) : Nat → Nat → Int32 := h.2.1
def aR (h : AH) : Nat → Nat → Option Nat := h.2.2.1
def aN (h : AH) : Nat → Nat := h.2.2.2.1
def aG (h : AH) : Nat → Nat := h.2.2.2.2
def pI (h : AH) (j a : Nat) (x : Int32) : AH := (h.1, fun j' a' => if j' = j ∧ a' = a then x else h.2.1 j' a', h.2.2)
def pR (h : AH) (j a : Nat) (x : Option Nat) : AH := (h.1, h.2.1, fun j' a' => if j' = j ∧ a' = a then x else h.2.2.1 j' a', h.2.2.2)
def pG (h : AH) (a g : Nat) : AH := (h.1, h.2.1, h.2.2.1, h.2.2.2.1, fun a' => if a' = a then g else h.2.2.2.2 a')
/-- a new thing of kind k and length n at the address a -/
def pN (h : AH) (a k n : Nat) : AH := (fun a' => if a' = a then k else h.1 a', fun j' a' => if a' = a then 0 else h.2.1 j' a', fun j' a' => if a' = a then none else h.2.2.1 j' a', fun a' => if a' = a then n else h.2.2.2.1 a', h.2.2.2.2)
theorem aK_pI (h : AH) (j a : Nat) (x : Int32) : aK (pI h j a x) = aK h := rfl
theorem aR_pI (h : AH) (j a : Nat) (x : Int32) : aR (pI h j a x) = aR h := rfl
theorem aN_pI (h : AH) (j a : Nat) (x : Int32) : aN (pI h j a x) = aN h := rfl
theorem aG_pI (h : AH) (j a : Nat) (x : Int32) : aG (pI h j a x) = aG h := rfl
theorem aI_pI (h : AH) (j a : Nat) (x : Int32) (j' a' : Nat) : aI (pI h j a x) j' a' = if j' = j ∧ a' = a then x else aI h j' a' := rfl
theorem aK_pR (h : AH) (j a : Nat) (x : Option Nat) : aK (pR h j a x) = aK h := rfl
theorem aI_pR (h : AH) (j a : Nat) (x : Option Nat) : aI (pR h j a x) = aI h := rfl
theorem aN_pR (h : AH) (j a : Nat) (x : Option Nat) : aN (pR h j a x) = aN h := rfl
theorem aG_pR (h : AH) (j a : Nat) (x : Option Nat) : aG (pR h j a x) = aG h := rfl
theorem aR_pR (h : AH) (j a : Nat) (x : Option Nat) (j' a' : Nat) : aR (pR h j a x) j' a' = if j' = j ∧ a' = a then x else aR h j' a' := rfl
theorem aK_pG (h : AH) (a g : Nat) : aK (pG h a g) = aK h := rfl
theorem aI_pG (h : AH) (a g : Nat) : aI (pG h a g) = aI h := rfl
theorem aR_pG (h : AH) (a g : Nat) : aR (pG h a g) = aR h := rfl
theorem aN_pG (h : AH) (a g : Nat) : aN (pG h a g) = aN h := rfl
theorem aG_pG (h : AH) (a g a' : Nat) : aG (pG h a g) a' = if a' = a then g else aG h a' := rfl
theorem aK_pN (h : AH) (a k n a' : Nat) : aK (pN h a k n) a' = if a' = a then k else aK h a' := rfl
theorem aI_pN (h : AH) (a k n j' a' : Nat) : aI (pN h a k n) j' a' = if a' = a then 0 else aI h j' a' := rfl
theorem aR_pN (h : AH) (a k n j' a' : Nat) : aR (pN h a k n) j' a' = if a' = a then none else aR h j' a' := rfl
theorem aN_pN (h : AH) (a k n a' : Nat) : aN (pN h a k n) a' = if a' = a then n else aN h a' := rfl
theorem aG_pN (h : AH) (a k n : Nat) : aG (pN h a k n) = aG h := rfl
/-- which fields of a kind are references -/
def tyl (k : Nat) : List Bool := match k with
  | 3 => [false, true, false]
  | 4 => [true, true, false]
  | 5 => [false, false, true]
  | 6 => [true, false]
  | 7 => [false, false, false]
  | 8 => [false, true, true, false, true, false, false, false, false]
  | 9 => [false, false, false, false, true, true, true, true, false, true, true, false, false, false, false, false, false, false, false, false]
  | 10 => [true, true, false, false, false, false, false]
  | 11 => [true, true, false]
  | 12 => [true, true, false, false, true]
  | 13 => [true, true]
  | 14 => [true, true, true, true, true, true, true, true, true, false]
  | 15 => [true, true, true, true, true, true, true, true, true, true, true, true, true, true, true, true, true, true, true, true, true, true, true, true, true, true, true, true, true, true, true, true, true, true, true, true, true, false, false, false, false, false, false, false, false, false]
  | _ => []
def fv (h : AH) (a j : Nat) (r : Bool) : Value := match r with
  | true => va_rf (aR h j a)
  | false => .int (aI h j a)
def fsl (h : AH) (a : Nat) : Nat → List Bool → List Value
  | _, [] => []
  | j, r :: t => fv h a j r :: fsl h a (j + 1) t
theorem fsl_len (h : AH) (a : Nat) : ∀ (l : List Bool) (j : Nat), (fsl h a j l).length = l.length
  | [], _ => rfl
  | r :: t, j => by show (fsl h a (j + 1) t).length + 1 = t.length + 1; rw [fsl_len h a t (j + 1)]
theorem fsl_get (h : AH) (a : Nat) : ∀ (l : List Bool) (j k : Nat), (fsl h a j l)[k]? = (l[k]?).map (fun r => fv h a (j + k) r)
  | [], _, _ => rfl
  | r :: t, j, 0 => rfl
  | r :: t, j, k + 1 => by
    show (fsl h a (j + 1) t)[k]? = (t[k]?).map _
    rw [fsl_get h a t (j + 1) k, show j + 1 + k = j + (k + 1) by omega]
def ent (cy : Nat → ClassId) (h : AH) (a : Nat) : va_E :=
  if aK h a < 20 then .inr (aK h a, fsl h a 0 (tyl (aK h a))) else if aK h a < 30 then .inl (cy (aK h a), aN h a, .inl (fun i => aI h i a)) else .inl (cy (aK h a), aN h a, .inr (.inr (.inr (.inr (fun i => aR h i a)))))
theorem ent_o {cy : Nat → ClassId} {h : AH} {a K : Nat} (hk : aK h a = K) (h2 : K < 20) : ent cy h a = .inr (K, fsl h a 0 (tyl K)) := by
  subst hk
  exact if_pos h2
theorem ent_i {cy : Nat → ClassId} {h : AH} {a K : Nat} (hk : aK h a = K) (h1 : 20 ≤ K) (h2 : K < 30) : ent cy h a = .inl (cy K, aN h a, .inl (fun i => aI h i a)) := by
  subst hk
  exact (if_neg (by omega)).trans (if_pos h2)
theorem ent_q {cy : Nat → ClassId} {h : AH} {a K : Nat} (hk : aK h a = K) (h1 : 30 ≤ K) : ent cy h a = .inl (cy K, aN h a, .inr (.inr (.inr (.inr (fun i => aR h i a))))) := by
  subst hk
  exact (if_neg (by omega)).trans (if_neg (by omega))
theorem ent_ext {cy : Nat → ClassId} {h h' : AH} {a : Nat} (e1 : aK h a = aK h' a) (e2 : ∀ j, aI h j a = aI h' j a) (e3 : ∀ j, aR h j a = aR h' j a) (e4 : aN h a = aN h' a) : ent cy h a = ent cy h' a := by
  have e5 : ∀ (l : List Bool) (j : Nat), fsl h a j l = fsl h' a j l := by
    intro l
    induction l with
    | nil => intro j; rfl
    | cons r t ih =>
      intro j
      show fv h a j r :: _ = fv h' a j r :: _
      rw [ih, show fv h a j r = fv h' a j r by cases r <;> simp only [fv, e2, e3]]
  unfold ent
  rw [e1, e4, e5, funext e2, funext e3]
theorem ent_pG (cy : Nat → ClassId) (h : AH) (a g b : Nat) : ent cy (pG h a g) b = ent cy h b := ent_ext rfl (fun _ => rfl) (fun _ => rfl) rfl
theorem fsl_set (h h' : AH) (a : Nat) : ∀ (l : List Bool) (j k : Nat) (r : Bool), l[k]? = some r → (∀ i r', i ≠ j + k → fv h' a i r' = fv h a i r') → fsl h' a j l = (fsl h a j l).set k (fv h' a (j + k) r)
  | [], _, _, _, h1, _ => by simp at h1
  | r0 :: t, j, 0, r, h1, h2 => by
    have e : r0 = r := by simpa using h1
    subst e
    show fv h' a j r0 :: fsl h' a (j + 1) t = fv h' a (j + 0) r0 :: fsl h a (j + 1) t
    have e2 : ∀ (l : List Bool) (i : Nat), j + 1 ≤ i → fsl h' a i l = fsl h a i l := by
      intro l
      induction l with
      | nil => intro i _; rfl
      | cons q t ih =>
        intro i hi
        show fv h' a i q :: _ = fv h a i q :: _
        rw [ih (i + 1) (by omega), h2 i q (by omega)]
    rw [e2 t (j + 1) (Nat.le_refl _)]
    rfl
  | r0 :: t, j, k + 1, r, h1, h2 => by
    show fv h' a j r0 :: fsl h' a (j + 1) t = fv h a j r0 :: (fsl h a (j + 1) t).set k _
    rw [h2 j r0 (by omega), fsl_set h h' a t (j + 1) k r (by simpa using h1) (fun i r' hi => h2 i r' (by omega)), show j + 1 + k = j + (k + 1) by omega]
theorem ent_pI {cy : Nat → ClassId} {h : AH} {a K j : Nat} {x : Int32} (hk : aK h a = K) (h2 : K < 20) (hj : (tyl K)[j]? = some false) (b : Nat) : va_up (ent cy h) a (.inr (K, (fsl h a 0 (tyl K)).set j (.int x))) b = ent cy (pI h j a x) b := by
  by_cases e : b = a
  · subst e
    rw [va_up_self, ent_o (h := pI h j b x) hk h2, fsl_set h (pI h j b x) b (tyl K) 0 j false hj (fun i r' hi => by cases r' <;> simp only [fv, aR_pI, aI_pI]; rw [if_neg (fun q => hi (by omega))])]
    simp only [Nat.zero_add, fv, aI_pI, and_self, if_true]
  · rw [va_up_ne _ _ e]
    exact ent_ext rfl (fun i => (if_neg (fun q => e q.2)).symm) (fun _ => rfl) rfl
theorem ent_pR {cy : Nat → ClassId} {h : AH} {a K j : Nat} {x : Option Nat} (hk : aK h a = K) (h2 : K < 20) (hj : (tyl K)[j]? = some true) (b : Nat) : va_up (ent cy h) a (.inr (K, (fsl h a 0 (tyl K)).set j (va_rf x))) b = ent cy (pR h j a x) b := by
  by_cases e : b = a
  · subst e
    rw [va_up_self, ent_o (h := pR h j b x) hk h2, fsl_set h (pR h j b x) b (tyl K) 0 j true hj (fun i r' hi => by cases r' <;> simp only [fv, aI_pR, aR_pR]; rw [if_neg (fun q => hi (by omega))])]
    simp only [Nat.zero_add, fv, aR_pR, and_self, if_true]
  · rw [va_up_ne _ _ e]
    exact ent_ext rfl (fun _ => rfl) (fun i => (if_neg (fun q => e q.2)).symm) rfl
theorem ent_aI {cy : Nat → ClassId} {h : AH} {a K i : Nat} {x : Int32} (hk : aK h a = K) (h1 : 20 ≤ K) (h2 : K < 30) (b : Nat) : va_up (ent cy h) a (.inl (cy K, aN h a, .inl (upd (fun i => aI h i a) i x))) b = ent cy (pI h i a x) b := by
  by_cases e : b = a
  · subst e
    rw [va_up_self, ent_i (h := pI h i b x) hk h1 h2]
    refine congrArg (fun f => (Sum.inl (cy K, aN h b, Sum.inl f) : va_E)) (funext fun i' => ?_)
    simp only [upd, aI_pI, and_true]
  · rw [va_up_ne _ _ e]
    exact ent_ext rfl (fun i => (if_neg (fun q => e q.2)).symm) (fun _ => rfl) rfl
theorem ent_aR {cy : Nat → ClassId} {h : AH} {a K i : Nat} {x : Option Nat} (hk : aK h a = K) (h1 : 30 ≤ K) (b : Nat) : va_up (ent cy h) a (.inl (cy K, aN h a, .inr (.inr (.inr (.inr (va_up (fun i => aR h i a) i x)))))) b = ent cy (pR h i a x) b := by
  by_cases e : b = a
  · subst e
    rw [va_up_self, ent_q (h := pR h i b x) hk h1]
    refine congrArg (fun f => (Sum.inl (cy K, aN h b, Sum.inr (Sum.inr (Sum.inr (Sum.inr f)))) : va_E)) (funext fun i' => ?_)
    simp only [va_up, aR_pR, and_true]
  · rw [va_up_ne _ _ e]
    exact ent_ext rfl (fun _ => rfl) (fun i => (if_neg (fun q => e q.2)).symm) rfl
theorem fsl_new (h : AH) (q k n : Nat) : ∀ (l : List Bool) (j : Nat), fsl (pN h q k n) q j l = l.map (fun r => match r with | true => Value.null | false => Value.int 0)
  | [], _ => rfl
  | r :: t, j => by
    show fv (pN h q k n) q j r :: fsl (pN h q k n) q (j + 1) t = _
    rw [fsl_new h q k n t (j + 1)]
    cases r <;> simp [fv, aI_pN, aR_pN, va_rf]
theorem ent_pN (cy : Nat → ClassId) (h : AH) (q k n : Nat) (e : va_E) (he : ent cy (pN h q k n) q = e) (b : Nat) : va_up (ent cy h) q e b = ent cy (pN h q k n) b := by
  by_cases hb : b = q
  · subst hb
    rw [va_up_self, he]
  · rw [va_up_ne _ _ hb]
    exact ent_ext (if_neg hb).symm (fun _ => (if_neg hb).symm) (fun _ => (if_neg hb).symm) (if_neg hb).symm
/-! the world: the heap holds what h says, at addresses of A -/
def tyA (cy : Nat → ClassId) : List (ClassId × FieldType) := [(cy 20, .int), (cy 20, .int), (cy 20, .int), (cy 30, .object "Routepost$Hub"), (cy 31, .object "java/lang/Object"), (cy 32, .array .int)]
def HW (D : va_G) (cy : Nat → ClassId) (A : Nat → Prop) (h : AH) (H : Heap) : Prop := ∃ L : List Nat, va_P D vwCl ([] ++ va_pl L (ent cy h)) H ∧ va_D A ([] ++ va_pl L (ent cy h)) ∧ ∀ a, aK h a ≠ 0 → a ∈ L
def HS (D : va_G) (cy : Nat → ClassId) (A : Nat → Prop) (H0 : Heap) (h : AH) (H : Heap) (locs : List Loc) : Prop := HW D cy A h H ∧ va_S A H0 H locs
theorem HW.kept {D : va_G} {cy : Nat → ClassId} {A : Nat → Prop} {h : AH} {H H1 : Heap} (hW : HW D cy A h H) (hq : ∀ q : Nat, q < H.size → A q → H1[q]? = H[q]?) : HW D cy A h H1 := by
  obtain ⟨L, hP, hD, hL⟩ := hW
  exact ⟨L, hP.kept (fun k q hk => hq _ (hP k q hk).lt (hD.2 k q hk)), hD, hL⟩
theorem HW.lt {D : va_G} {cy : Nat → ClassId} {A : Nat → Prop} {h : AH} {H : Heap} (hW : HW D cy A h H) {a : Nat} (ha : aK h a ≠ 0) : a < H.size ∧ A a := by
  obtain ⟨L, hP, hD, hL⟩ := hW
  obtain ⟨k, hk⟩ := va_pl_get (X := []) (f := ent cy h) (hL a ha)
  exact ⟨(hP k _ hk).lt, hD.2 k _ hk⟩
theorem HW.weaken {D : va_G} {cy : Nat → ClassId} {A B : Nat → Prop} {h : AH} {H : Heap} (hW : HW D cy A h H) (hAB : ∀ q, q < H.size → A q → B q) : HW D cy B h H := by
  obtain ⟨L, hP, hD, hL⟩ := hW
  exact ⟨L, hP, hD.weaken (fun k q hk ha => hAB _ (hP k q hk).lt ha), hL⟩
theorem HW.owner {D : va_G} {cy : Nat → ClassId} {A : Nat → Prop} {h : AH} {H : Heap} (hW : HW D cy A h H) (a g : Nat) : HW D cy A (pG h a g) H := by
  obtain ⟨L, hP, hD, hL⟩ := hW
  have e : va_pl L (ent cy (pG h a g)) = va_pl L (ent cy h) := va_pl_congr (fun b => ent_pG cy h a g b)
  exact ⟨L, by rw [e]; exact hP, by rw [e]; exact hD, hL⟩
/-- an array's class, by its type, is one -/
theorem va_RA_one {U : State} {c1 c2 : ClassId} {ty : FieldType} (h1 : va_RA U c1 ty) (h2 : va_RA U c2 ty) : c1 = c2 := by
  cases ty with
  | object C =>
    obtain ⟨_, _, _, _, _, e1⟩ := h1
    obtain ⟨_, _, _, _, _, e2⟩ := h2
    exact Option.some.inj (e1.symm.trans e2)
  | _ => exact Option.some.inj (Eq.trans (Eq.symm h1) h2)
/-- a class of ours, as the tables have it: kind, name, fields, their types, their number -/
def CI (K : Nat) (C : String) (T : u_T) (ty : Nat → FieldType) (N : Nat) : Prop := vwCl[K]? = some (C, T, N) ∧ 0 < K ∧ K < 20 ∧ (∀ w ∈ u_ws C T N, w ∈ lw_all) ∧ (∀ k, k < N → parseFieldDescriptor (T k).2.2.1 = some (ty k)) ∧ (∀ a, a < N → ∀ b, b < N → a ≠ b → (T a).2.1 ≠ (T b).2.1) ∧ (tyl K).length = N
section OWN
variable {p : Program} {l : Launch} {e : Env} {R : Room} {s : State} {m : MethodId} {args : Array Value} {below : List Frame} {meth : Method} {c : Code} {H : Heap} {locs : List Loc} {cells slots : Nat} {Q : State → Prop}
variable {cc : ByteArray} {pc : Nat} {ls : Array Slot} {rest : List Value} {D : va_G} {cy : Nat → ClassId} {A : Nat → Prop} {a K N j index : Nat} {H0 : Heap} {h : AH} {own C : String} {T : u_T} {ty : Nat → FieldType}
theorem o_getI (hx : p.tables.exec = Jvm.exec) (hb : c.code = cc) (hts : ∀ w ∈ lw_all, w.before args s = true) (hown : s.vm.findClass own = some m.cls) (hK : va_K D vwCl (tyA cy) s) (hH : HS D cy A H0 h H locs) (hC : CI K C T ty N) (hk : aK h a = K) (hj : (tyl K)[j]? = some false) (hd : (T j).1 = C) (hl : Cond.fieldLink own index C (T j).2.1 (T j).2.2.1 ∈ lw_all) {v : Int32} (hv : aI h j a = v) (hdg : decode cc pc = .ok (.getfield index, 3))
    (kk : W p l e R s m args below meth c H locs cells slots Q (F0 m (pc + 3) ls (.int v :: rest))) : W p l e R s m args below meth c H locs cells slots Q (F0 m pc ls (.ref a :: rest)) := by
  obtain ⟨⟨L, hP, hD, hL⟩, hS⟩ := hH
  obtain ⟨c1, c2, c3, c4, c5, c6, c7⟩ := hC
  obtain ⟨k, hk'⟩ := va_pl_get (X := []) (f := ent cy h) (hL a (by rw [hk]; omega))
  rw [ent_o hk c3] at hk'
  have hjN : j < N := by rw [← c7]; exact (List.getElem?_eq_some_iff.mp hj).1
  refine va_get hx hb hts c4 hown hK hP k hk' c1 j hjN (hts _ hl) (fun x e => by rw [← hd]; exact e) (v := .int v) ?_ hdg kk
  rw [fsl_get, hj, ← hv]
  simp [fv]
theorem o_getR (hx : p.tables.exec = Jvm.exec) (hb : c.code = cc) (hts : ∀ w ∈ lw_all, w.before args s = true) (hown : s.vm.findClass own = some m.cls) (hK : va_K D vwCl (tyA cy) s) (hH : HS D cy A H0 h H locs) (hC : CI K C T ty N) (hk : aK h a = K) (hj : (tyl K)[j]? = some true) (hd : (T j).1 = C) (hl : Cond.fieldLink own index C (T j).2.1 (T j).2.2.1 ∈ lw_all) {v : Option Nat} (hv : aR h j a = v) (hdg : decode cc pc = .ok (.getfield index, 3))
    (kk : W p l e R s m args below meth c H locs cells slots Q (F0 m (pc + 3) ls (va_rf v :: rest))) : W p l e R s m args below meth c H locs cells slots Q (F0 m pc ls (.ref a :: rest)) := by
  obtain ⟨⟨L, hP, hD, hL⟩, hS⟩ := hH
  obtain ⟨c1, c2, c3, c4, c5, c6, c7⟩ := hC
  obtain ⟨k, hk'⟩ := va_pl_get (X := []) (f := ent cy h) (hL a (by rw [hk]; omega))
  rw [ent_o hk c3] at hk'
  have hjN : j < N := by rw [← c7]; exact (List.getElem?_eq_some_iff.mp hj).1
  refine va_get hx hb hts c4 hown hK hP k hk' c1 j hjN (hts _ hl) (fun x e => by rw [← hd]; exact e) (v := va_rf v) ?_ hdg kk
  rw [fsl_get, hj, ← hv]
  simp [fv]
theorem o_putI (hx : p.tables.exec = Jvm.exec) (hb : c.code = cc) (hts : ∀ w ∈ lw_all, w.before args s = true) (hown : s.vm.findClass own = some m.cls) (hK : va_K D vwCl (tyA cy) s) (hH : HS D cy A H0 h H locs) (hC : CI K C T ty N) (hk : aK h a = K) (hj : (tyl K)[j]? = some false) (hd : (T j).1 = C) (hl : Cond.fieldLink own index C (T j).2.1 (T j).2.2.1 ∈ lw_all) {x : Int32} (hfin : (T j).2.2.2 = false) (hn : narrow (ty j) (.int x) = .int x) (hfit : fits (ty j) (.int x) = true) (hdg : decode cc pc = .ok (.putfield index, 3))
    (kk : ∀ (H1 : Heap) (locs1 : List Loc), HS D cy A H0 (pI h j a x) H1 locs1 → W p l e R s m args below meth c H1 locs1 cells slots Q (F0 m (pc + 3) ls rest)) : W p l e R s m args below meth c H locs cells slots Q (F0 m pc ls (.int x :: .ref a :: rest)) := by
  obtain ⟨⟨L, hP, hD, hL⟩, hS⟩ := hH
  obtain ⟨c1, c2, c3, c4, c5, c6, c7⟩ := hC
  have hin := hL a (by rw [hk]; omega)
  obtain ⟨k, hk'⟩ := va_pl_get (X := []) (f := ent cy h) hin
  have hk2 := hk'
  rw [ent_o hk c3] at hk2
  have hjN : j < N := by rw [← c7]; exact (List.getElem?_eq_some_iff.mp hj).1
  refine va_put hx hb hts c4 ty c5 c6 hown hK hP hD hS k hk2 c1 j hjN (hts _ hl) (fun x e => by rw [← hd]; exact e) hfin (c5 j hjN) hn hfit (by rw [fsl_len, c7]; exact hjN) hdg (fun H1 locs1 hP1 hD1 hS1 => kk H1 locs1 ⟨⟨L, ?_, ?_, hL⟩, hS1⟩)
  · rw [va_pl_set hD hin hk', va_pl_congr (ent_pI hk c3 hj)] at hP1
    exact hP1
  · rw [va_pl_set hD hin hk', va_pl_congr (ent_pI hk c3 hj)] at hD1
    exact hD1
theorem o_putR (hx : p.tables.exec = Jvm.exec) (hb : c.code = cc) (hts : ∀ w ∈ lw_all, w.before args s = true) (hown : s.vm.findClass own = some m.cls) (hK : va_K D vwCl (tyA cy) s) (hH : HS D cy A H0 h H locs) (hC : CI K C T ty N) (hk : aK h a = K) (hj : (tyl K)[j]? = some true) (hd : (T j).1 = C) (hl : Cond.fieldLink own index C (T j).2.1 (T j).2.2.1 ∈ lw_all) {x : Option Nat} (hfin : (T j).2.2.2 = false) (hn : ∀ x : Option Nat, narrow (ty j) (va_rf x) = va_rf x ∧ fits (ty j) (va_rf x) = true) (hdg : decode cc pc = .ok (.putfield index, 3))
    (kk : ∀ (H1 : Heap) (locs1 : List Loc), HS D cy A H0 (pR h j a x) H1 locs1 → W p l e R s m args below meth c H1 locs1 cells slots Q (F0 m (pc + 3) ls rest)) : W p l e R s m args below meth c H locs cells slots Q (F0 m pc ls (va_rf x :: .ref a :: rest)) := by
  obtain ⟨⟨L, hP, hD, hL⟩, hS⟩ := hH
  obtain ⟨c1, c2, c3, c4, c5, c6, c7⟩ := hC
  have hin := hL a (by rw [hk]; omega)
  obtain ⟨k, hk'⟩ := va_pl_get (X := []) (f := ent cy h) hin
  have hk2 := hk'
  rw [ent_o hk c3] at hk2
  have hjN : j < N := by rw [← c7]; exact (List.getElem?_eq_some_iff.mp hj).1
  refine va_put hx hb hts c4 ty c5 c6 hown hK hP hD hS k hk2 c1 j hjN (hts _ hl) (fun x e => by rw [← hd]; exact e) hfin (c5 j hjN) (hn x).1 (hn x).2 (by rw [fsl_len, c7]; exact hjN) hdg (fun H1 locs1 hP1 hD1 hS1 => kk H1 locs1 ⟨⟨L, ?_, ?_, hL⟩, hS1⟩)
  · rw [va_pl_set hD hin hk', va_pl_congr (ent_pR hk c3 hj)] at hP1
    exact hP1
  · rw [va_pl_set hD hin hk', va_pl_congr (ent_pR hk c3 hj)] at hD1
    exact hD1
theorem o_putFI (hx : p.tables.exec = Jvm.exec) (hb : c.code = cc) (hts : ∀ w ∈ lw_all, w.before args s = true) (hown : s.vm.findClass own = some m.cls) (hK : va_K D vwCl (tyA cy) s) (hH : HS D cy A H0 h H locs) (hC : CI K C T ty N) (hk : aK h a = K) (hj : (tyl K)[j]? = some false) (hd : (T j).1 = C) (hl : Cond.fieldLink own index C (T j).2.1 (T j).2.2.1 ∈ lw_all) {x : Int32} (hfin : (T j).2.2.2 = true) (hin2 : meth.name = "<init>") (hdecl : (T j).1 = own) (hn : narrow (ty j) (.int x) = .int x) (hfit : fits (ty j) (.int x) = true) (hdg : decode cc pc = .ok (.putfield index, 3))
    (kk : ∀ (H1 : Heap) (locs1 : List Loc), HS D cy A H0 (pI h j a x) H1 locs1 → W p l e R s m args below meth c H1 locs1 cells slots Q (F0 m (pc + 3) ls rest)) : W p l e R s m args below meth c H locs cells slots Q (F0 m pc ls (.int x :: .ref a :: rest)) := by
  obtain ⟨⟨L, hP, hD, hL⟩, hS⟩ := hH
  obtain ⟨c1, c2, c3, c4, c5, c6, c7⟩ := hC
  have hin := hL a (by rw [hk]; omega)
  obtain ⟨k, hk'⟩ := va_pl_get (X := []) (f := ent cy h) hin
  have hk2 := hk'
  rw [ent_o hk c3] at hk2
  have hjN : j < N := by rw [← c7]; exact (List.getElem?_eq_some_iff.mp hj).1
  refine va_putF hx hb hts c4 ty c5 c6 hown hK hP hD hS k hk2 c1 j hjN (hts _ hl) (fun x e => by rw [← hd]; exact e) hfin hin2 hdecl (c5 j hjN) hn hfit (by rw [fsl_len, c7]; exact hjN) hdg (fun H1 locs1 hP1 hD1 hS1 => kk H1 locs1 ⟨⟨L, ?_, ?_, hL⟩, hS1⟩)
  · rw [va_pl_set hD hin hk', va_pl_congr (ent_pI hk c3 hj)] at hP1
    exact hP1
  · rw [va_pl_set hD hin hk', va_pl_congr (ent_pI hk c3 hj)] at hD1
    exact hD1
theorem o_putFR (hx : p.tables.exec = Jvm.exec) (hb : c.code = cc) (hts : ∀ w ∈ lw_all, w.before args s = true) (hown : s.vm.findClass own = some m.cls) (hK : va_K D vwCl (tyA cy) s) (hH : HS D cy A H0 h H locs) (hC : CI K C T ty N) (hk : aK h a = K) (hj : (tyl K)[j]? = some true) (hd : (T j).1 = C) (hl : Cond.fieldLink own index C (T j).2.1 (T j).2.2.1 ∈ lw_all) {x : Option Nat} (hfin : (T j).2.2.2 = true) (hin2 : meth.name = "<init>") (hdecl : (T j).1 = own) (hn : ∀ x : Option Nat, narrow (ty j) (va_rf x) = va_rf x ∧ fits (ty j) (va_rf x) = true) (hdg : decode cc pc = .ok (.putfield index, 3))
    (kk : ∀ (H1 : Heap) (locs1 : List Loc), HS D cy A H0 (pR h j a x) H1 locs1 → W p l e R s m args below meth c H1 locs1 cells slots Q (F0 m (pc + 3) ls rest)) : W p l e R s m args below meth c H locs cells slots Q (F0 m pc ls (va_rf x :: .ref a :: rest)) := by
  obtain ⟨⟨L, hP, hD, hL⟩, hS⟩ := hH
  obtain ⟨c1, c2, c3, c4, c5, c6, c7⟩ := hC
  have hin := hL a (by rw [hk]; omega)
  obtain ⟨k, hk'⟩ := va_pl_get (X := []) (f := ent cy h) hin
  have hk2 := hk'
  rw [ent_o hk c3] at hk2
  have hjN : j < N := by rw [← c7]; exact (List.getElem?_eq_some_iff.mp hj).1
  refine va_putF hx hb hts c4 ty c5 c6 hown hK hP hD hS k hk2 c1 j hjN (hts _ hl) (fun x e => by rw [← hd]; exact e) hfin hin2 hdecl (c5 j hjN) (hn x).1 (hn x).2 (by rw [fsl_len, c7]; exact hjN) hdg (fun H1 locs1 hP1 hD1 hS1 => kk H1 locs1 ⟨⟨L, ?_, ?_, hL⟩, hS1⟩)
  · rw [va_pl_set hD hin hk', va_pl_congr (ent_pR hk c3 hj)] at hP1
    exact hP1
  · rw [va_pl_set hD hin hk', va_pl_congr (ent_pR hk c3 hj)] at hD1
    exact hD1
/-! arrays -/
theorem o_iald (hx : p.tables.exec = Jvm.exec) (hb : c.code = cc) (hK : va_K D vwCl (tyA cy) s) (hH : HS D cy A H0 h H locs) (hk : aK h a = 20) {i : Int32} {n : Nat} (hn : aN h a = n) (hin : vp_in i n) {v : Int32} (hv : aI h i.toNatClampNeg a = v) (hdg : decode cc pc = .ok (.iaload, 1))
    (kk : W p l e R s m args below meth c H locs cells slots Q (F0 m (pc + 1) ls (.int v :: rest))) : W p l e R s m args below meth c H locs cells slots Q (F0 m pc ls (.int i :: .ref a :: rest)) := by
  obtain ⟨⟨L, hP, hD, hL⟩, hS⟩ := hH
  obtain ⟨k, hk'⟩ := va_pl_get (X := []) (f := ent cy h) (hL a (by rw [hk]; omega))
  rw [ent_i hk (by omega) (by omega)] at hk'
  subst hn; subst hv
  exact va_iald hx hb hK hP k 0 hk' rfl hin hdg kk
theorem o_aald (hx : p.tables.exec = Jvm.exec) (hb : c.code = cc) (hK : va_K D vwCl (tyA cy) s) (hH : HS D cy A H0 h H locs) (hk : aK h a = K) (hK2 : K = 30 ∨ K = 31) {i : Int32} {n : Nat} (hn : aN h a = n) (hin : vp_in i n) {v : Option Nat} (hv : aR h i.toNatClampNeg a = v) (hdg : decode cc pc = .ok (.aaload, 1))
    (kk : W p l e R s m args below meth c H locs cells slots Q (F0 m (pc + 1) ls (va_rf v :: rest))) : W p l e R s m args below meth c H locs cells slots Q (F0 m pc ls (.int i :: .ref a :: rest)) := by
  obtain ⟨⟨L, hP, hD, hL⟩, hS⟩ := hH
  obtain ⟨k, hk'⟩ := va_pl_get (X := []) (f := ent cy h) (hL a (by rw [hk]; omega))
  rw [ent_q hk (by omega)] at hk'
  subst hn; subst hv
  rcases hK2 with rfl | rfl
  · exact va_aldq hx hb hK hP k 3 hk' rfl hin hdg kk
  · exact va_aldq hx hb hK hP k 4 hk' rfl hin hdg kk
theorem o_iast (hx : p.tables.exec = Jvm.exec) (hb : c.code = cc) (hK : va_K D vwCl (tyA cy) s) (hH : HS D cy A H0 h H locs) (hk : aK h a = 20) {i x : Int32} {n : Nat} (hn : aN h a = n) (hin : vp_in i n) (hdg : decode cc pc = .ok (.iastore, 1))
    (kk : ∀ (H1 : Heap) (locs1 : List Loc), HS D cy A H0 (pI h i.toNatClampNeg a x) H1 locs1 → W p l e R s m args below meth c H1 locs1 cells slots Q (F0 m (pc + 1) ls rest)) : W p l e R s m args below meth c H locs cells slots Q (F0 m pc ls (.int x :: .int i :: .ref a :: rest)) := by
  obtain ⟨⟨L, hP, hD, hL⟩, hS⟩ := hH
  have hi := hL a (by rw [hk]; omega)
  obtain ⟨k, hk'⟩ := va_pl_get (X := []) (f := ent cy h) hi
  have hk2 := hk'
  rw [ent_i hk (by omega) (by omega)] at hk2
  subst hn
  refine va_iast hx hb hK hP hD hS k 0 hk2 rfl hin hdg (fun H1 locs1 hP1 hD1 hS1 => kk H1 locs1 ⟨⟨L, ?_, ?_, hL⟩, hS1⟩)
  · rw [va_pl_set hD hi hk', va_pl_congr (ent_aI hk (by omega) (by omega))] at hP1
    exact hP1
  · rw [va_pl_set hD hi hk', va_pl_congr (ent_aI hk (by omega) (by omega))] at hD1
    exact hD1
/-- a reference into an array of hubs -/
theorem o_astH (hx : p.tables.exec = Jvm.exec) (hb : c.code = cc) (hK : va_K D vwCl (tyA cy) s) (hH : HS D cy A H0 h H locs) (hk : aK h a = 30) {i : Int32} {n v : Nat} (hn : aN h a = n) (hin : vp_in i n) (hv : aK h v = 7) (hdg : decode cc pc = .ok (.aastore, 1))
    (kk : ∀ (H1 : Heap) (locs1 : List Loc), HS D cy A H0 (pR h i.toNatClampNeg a (some v)) H1 locs1 → W p l e R s m args below meth c H1 locs1 cells slots Q (F0 m (pc + 1) ls rest)) : W p l e R s m args below meth c H locs cells slots Q (F0 m pc ls (.ref v :: .int i :: .ref a :: rest)) := by
  obtain ⟨⟨L, hP, hD, hL⟩, hS⟩ := hH
  have hi := hL a (by rw [hk]; omega)
  obtain ⟨k, hk'⟩ := va_pl_get (X := []) (f := ent cy h) hi
  have hk2 := hk'
  rw [ent_q hk (by omega)] at hk2
  obtain ⟨kv, hkv⟩ := va_pl_get (X := []) (f := ent cy h) (hL v (by rw [hv]; omega))
  rw [ent_o hv (by omega)] at hkv
  subst hn
  refine va_astq hx hb hK hP hD hS k 3 kv 7 hk2 rfl hkv rfl hin hdg (fun H1 locs1 hP1 hD1 hS1 => kk H1 locs1 ⟨⟨L, ?_, ?_, hL⟩, hS1⟩)
  · rw [va_pl_set hD hi hk', va_pl_congr (ent_aR hk (by omega))] at hP1
    exact hP1
  · rw [va_pl_set hD hi hk', va_pl_congr (ent_aR hk (by omega))] at hD1
    exact hD1
theorem o_alen (hx : p.tables.exec = Jvm.exec) (hb : c.code = cc) (hK : va_K D vwCl (tyA cy) s) (hH : HS D cy A H0 h H locs) (t0 : Nat) {ty : FieldType} (ht : (tyA cy)[t0]? = some (cy (aK h a), ty)) (hk : 20 ≤ aK h a) {v : Int32} (hv : Int32.ofNat (aN h a) = v) (hdg : decode cc pc = .ok (.arraylength, 1))
    (kk : W p l e R s m args below meth c H locs cells slots Q (F0 m (pc + 1) ls (.int v :: rest))) : W p l e R s m args below meth c H locs cells slots Q (F0 m pc ls (.ref a :: rest)) := by
  obtain ⟨⟨L, hP, hD, hL⟩, hS⟩ := hH
  obtain ⟨k, hk'⟩ := va_pl_get (X := []) (f := ent cy h) (hL a (by omega))
  by_cases h3 : aK h a < 30
  · rw [ent_i rfl hk h3] at hk'
    exact va_alen hx hb hK hP k t0 hk' ht hv hdg kk
  · rw [ent_q rfl (by omega)] at hk'
    exact va_alen hx hb hK hP k t0 hk' ht hv hdg kk
/-! things that are made -/
theorem HW.born {q k n : Nat} {e : va_E} {H1 : Heap} (L : List Nat) (hP : va_P D vwCl ([] ++ va_pl L (ent cy h)) H) (hL : ∀ a, aK h a ≠ 0 → a ∈ L) (hP1 : va_P D vwCl (([] ++ va_pl L (ent cy h)) ++ [(q, e)]) H1) (hD1 : va_D A (([] ++ va_pl L (ent cy h)) ++ [(q, e)])) (he : ent cy (pN h q k n) q = e) : HW D cy A (pN h q k n) H1 ∧ aK h q = 0 := by
  have hq : q ∉ L := va_pl_fresh2 hD1
  rw [List.nil_append, va_pl_push hq, va_pl_congr (ent_pN cy h q k n e he)] at hP1 hD1
  refine ⟨⟨L ++ [q], hP1, hD1, fun a ha => ?_⟩, ?_⟩
  · rw [aK_pN] at ha
    by_cases e : a = q
    · exact List.mem_append_right _ (by rw [e]; exact List.mem_cons_self)
    · rw [if_neg e] at ha
      exact List.mem_append_left _ (hL a ha)
  · by_cases z : aK h q = 0
    · exact z
    · exact absurd (hL q z) hq
theorem o_new (hx : p.tables.exec = Jvm.exec) (hb : c.code = cc) (hts : ∀ w ∈ lw_all, w.before args s = true) (hown : s.vm.findClass own = some m.cls) (hK : va_K D vwCl (tyA cy) s) (hA : ∀ q, H0.size ≤ q → A q) (hH : HS D cy A H0 h H locs) (hC : CI K C T ty N) (hcl : Cond.classLink own index C ∈ lw_all) (hinst : Cond.instantiable C N ∈ lw_all) (hini : Cond.initialized C ∈ lw_all) (hfs : ∀ j, j < N → defaultValue (ty j) = vp_V ((tyl K).map (fun r => match r with | true => Value.null | false => Value.int 0)) j) (hcells : cells + 1 ≤ R.cells) (hslots : slots + N ≤ R.slots) (hdg : decode cc pc = .ok (.new index, 3))
    (kk : ∀ (q : Nat) (H1 : Heap), aK h q = 0 → H.size ≤ q → HS D cy A H0 (pN h q K 0) H1 locs → W p l e R s m args below meth c H1 locs (cells + 1) (slots + N) Q (F0 m (pc + 3) ls (.ref q :: rest))) : W p l e R s m args below meth c H locs cells slots Q (F0 m pc ls rest) := by
  obtain ⟨⟨L, hP, hD, hL⟩, hS⟩ := hH
  obtain ⟨c1, c2, c3, c4, c5, c6, c7⟩ := hC
  have hKn := hK.1 K _ c1
  refine W.newcK hx hb hown (hts _ hcl) (hts _ hinst) (hts _ hini) rfl hdg hcells hslots hKn.2.1 rfl fun H1 kC hkC e1 z1 o1 => ?_
  have hk : ∀ (k : Nat) (x : Nat × va_E), ([] ++ va_pl L (ent cy h))[k]? = some x → H1[x.1]? = H[x.1]? := fun k x hx => o1 x.1 ((hP k x hx).lt)
  have hP1 : va_P D vwCl (([] ++ va_pl L (ent cy h)) ++ [(H.size, .inr (K, (tyl K).map (fun r => match r with | true => Value.null | false => Value.int 0)))]) H1 := by
    refine (hP.kept hk).app (fun k x hx => ?_)
    have hz : k < 1 := (List.getElem?_eq_some_iff.mp hx).1
    rw [show k = 0 by omega] at hx
    cases hx
    exact ⟨_, c1, (u_born ty hts c4 hKn hkC e1 c5).to hfs⟩
  have hD1 := hD.push (e := .inr (K, (tyl K).map (fun r => match r with | true => Value.null | false => Value.int 0))) hP rfl (hA _ hS.1)
  have hB := HW.born (n := 0) (k := K) L hP hL hP1 hD1 (by rw [ent_o (by rw [aK_pN, if_pos rfl]) c3, fsl_new])
  exact kk H.size H1 hB.2 (Nat.le_refl _) ⟨hB.1, ⟨Nat.le_trans hS.1 (by omega), fun x h1 h2 => (o1 x (Nat.lt_of_lt_of_le h1 hS.1)).trans (hS.2.1 x h1 h2), hS.2.2⟩⟩
end OWN

