/-! openHub, addLine, accept -/
def xOpH (u : MM) (x y : Int32) : Option String := if cCod x = 0 ∨ ¬ inn y 1 20 = true then some iaeC else if ¬ cHw u x = -1 ∨ ¬ nI (nhN u) < 6 then some iseC else none
abbrev cLnOK (x y f per tr mb : Int32) : Prop := ¬ x = y ∧ inn f 0 59 = true ∧ inn per 5 60 = true ∧ inn tr 1 60 = true ∧ inn mb 1 4 = true
def xAdd (u : MM) (x y f per tr mb : Int32) : Option String := xo (xHb u x) (xo (xHb u y) (if ¬ cLnOK x y f per tr mb then some iaeC else if ¬ nI (nlN u) < 12 then some iseC else none))
def cAddM (u : MM) (x y f per tr mb : Int32) : MM := cPlA (cLn u x.toNatClampNeg y.toNatClampNeg f per tr mb)
def xAcc (u : MM) (x ad vol ser : Int32) : Option String := xo (xHb u x) (if cAdr ad = 0 ∨ ¬ inn vol 1 9 = true ∨ ¬ inn ser 0 2 = true then some iaeC else if cHs u ad = -1 ∨ ¬ nI (npN u) < 40 then some iseC else none)
def cAcc (u : MM) (x ad vol ser : Int32) : MM := cPlanP (cNote (cSettle (cPc u x.toNatClampNeg (cHs u ad).toNatClampNeg vol ser) (npN u) x (u 41 0)) (npN u) 0 (u 41 0) x.toNatClampNeg (-1)) (npN u)
theorem nI_ltC {n k : Nat} (hn : n < 2 ^ 31) (hk : k < 2 ^ 31) (h : nI n < nI k) : n < k := (nI_ltI hn hk).mp h
theorem LG.acc {u C : MM} {p x : Nat} {y now : Int32} (hp : p < npN C) : LG C (cPlanP (cNote (cSettle C p y now) p 0 now x (-1)) p) := fun h =>
  ((LG.settle.trans (LG.note (by rw [(LG.settle h).2.2.2.2]; exact hp))).trans LG.planP) h

