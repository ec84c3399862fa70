/-! what a call throws: the first that applies -/
def xo (a b : Option String) : Option String := match a with
  | none => b
  | some e => some e
def iseC : String := "java/lang/IllegalStateException"
def iaeC : String := "java/lang/IllegalArgumentException"
def iobC : String := "java/lang/IndexOutOfBoundsException"
def aeC : String := "java/lang/ArithmeticException"
def xHb (u : MM) (x : Int32) : Option String := if isHb u x = true then none else some nseC
def xLn (u : MM) (x : Int32) : Option String := if isLn u x = true then none else some nseC
def xPa (u : MM) (x : Int32) : Option String := if isPa u x = true then none else some nseC
def xOpn (u : MM) (x : Int32) : Option String := xo (xLn u x) (if u 108 x.toNatClampNeg = 0 then some iseC else none)
def xSc (u : MM) (x : Int32) : Option String := xo (xPa u x) (if u 28 x.toNatClampNeg = 115 then none else some iseC)
def xEv (u : MM) (x i : Int32) : Option String := xo (xPa u x) (if i < 0 ∨ ¬ i < nI (szN u (6 + x.toNatClampNeg)) then some iobC else none)
theorem WFc.isHb {u : MM} (hw : WFc u) (x : Int32) : isHb u x = true ↔ vp_in x (nhN u) := by
  have h := inn_iff (x := x) (n := nhN u) (by have := hw.nh; omega)
  rw [← hw.hubs] at h
  exact h
theorem WFc.isLn {u : MM} (hw : WFc u) (x : Int32) : isLn u x = true ↔ vp_in x (nlN u) := by
  have h := inn_iff (x := x) (n := nlN u) (by have := hw.nl; omega)
  rw [← hw.lines] at h
  exact h
theorem WFc.isPa {u : MM} (hw : WFc u) (x : Int32) : isPa u x = true ↔ vp_in x (npN u) := by
  have h := inn_iff (x := x) (n := npN u) (by have := hw.np; omega)
  rw [← hw.pars] at h
  exact h
theorem xHb_n {u : MM} (hw : WFc u) {x : Int32} : xHb u x = none ↔ vp_in x (nhN u) := by
  unfold xHb
  by_cases h : isHb u x = true
  · rw [if_pos h]; exact ⟨fun _ => (hw.isHb x).mp h, fun _ => rfl⟩
  · rw [if_neg h]; exact ⟨(fun z => nomatch z), fun z => absurd ((hw.isHb x).mpr z) h⟩
theorem xLn_n {u : MM} (hw : WFc u) {x : Int32} : xLn u x = none ↔ vp_in x (nlN u) := by
  unfold xLn
  by_cases h : isLn u x = true
  · rw [if_pos h]; exact ⟨fun _ => (hw.isLn x).mp h, fun _ => rfl⟩
  · rw [if_neg h]; exact ⟨(fun z => nomatch z), fun z => absurd ((hw.isLn x).mpr z) h⟩
theorem xPa_n {u : MM} (hw : WFc u) {x : Int32} : xPa u x = none ↔ vp_in x (npN u) := by
  unfold xPa
  by_cases h : isPa u x = true
  · rw [if_pos h]; exact ⟨fun _ => (hw.isPa x).mp h, fun _ => rfl⟩
  · rw [if_neg h]; exact ⟨(fun z => nomatch z), fun z => absurd ((hw.isPa x).mpr z) h⟩
theorem xHb_s {u : MM} (hw : WFc u) {x : Int32} (h : ¬ vp_in x (nhN u)) : xHb u x = some nseC := if_neg (fun z => h ((hw.isHb x).mp z))
theorem xLn_s {u : MM} (hw : WFc u) {x : Int32} (h : ¬ vp_in x (nlN u)) : xLn u x = some nseC := if_neg (fun z => h ((hw.isLn x).mp z))
theorem xPa_s {u : MM} (hw : WFc u) {x : Int32} (h : ¬ vp_in x (npN u)) : xPa u x = some nseC := if_neg (fun z => h ((hw.isPa x).mp z))
theorem xo_s {a b : Option String} {e : String} (h : a = some e) : xo a b = some e := by rw [h]; rfl
theorem xo_n {a b : Option String} (h : a = none) : xo a b = b := by rw [h]; rfl
theorem vp_of {x : Int32} {n : Nat} (hn : n < 2 ^ 31) (h1 : ¬ x < 0) (h2 : x < nI n) : vp_in x n := by
  rw [← inn_iff hn]
  unfold inn
  rw [decide_eq_false h1]
  have h3 : ¬ nI n - 1 < x := by
    have e : (nI n).toInt = n := Int32.toInt_ofNat_of_lt hn
    rw [Int32.lt_iff_toInt_lt] at h1 h2 ⊢
    rw [e] at h2
    have h0 : (0 : Int32).toInt = 0 := rfl
    have e2 : (nI n - 1).toInt = (n : Int) - 1 := by
      rw [Int32.toInt_sub, e, show (1 : Int32).toInt = 1 from rfl]
      exact Int.bmod_eq_of_le (by omega) (by omega)
    rw [e2]; omega
  rw [decide_eq_false h3]
  rfl
theorem xo_l {a b : Option String} (h : xo a b = none) : a = none := by
  cases a with
  | none => rfl
  | some e => cases h
theorem xo_r {a b : Option String} (h : xo a b = none) : b = none := by
  cases a with
  | none => exact h
  | some e => cases h
theorem xOpn_vp {u : MM} (hw : WFc u) {x : Int32} (h : xOpn u x = none) : vp_in x (nlN u) := (xLn_n hw).mp (xo_l h)
theorem xSc_vp {u : MM} (hw : WFc u) {x : Int32} (h : xSc u x = none) : vp_in x (npN u) := (xPa_n hw).mp (xo_l h)
theorem xEv_vp {u : MM} (hw : WFc u) {x i : Int32} (h : xEv u x i = none) : vp_in x (npN u) := (xPa_n hw).mp (xo_l h)
theorem bi_nar0 {p : Prop} [Decidable p] : narrow .boolean (.int (bi p)) = .int (bi p) := by
  unfold bi
  split <;> decide
theorem cMiss_nar {u : MM} {p : Nat} {t : Int32} : narrow .boolean (.int (cMiss u p t)) = .int (cMiss u p t) := by
  unfold cMiss
  split
  · decide
  · exact bi_nar0

