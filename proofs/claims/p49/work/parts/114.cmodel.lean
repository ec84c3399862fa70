/-! THE CLASS as functions of its state (keys as in 103) -/
def cRdy (u : MM) (x : Nat) (sc now : Int32) : Int32 := mx (now + 1) (sc + u 1 x)
def cLateBy (u : MM) (l : Nat) (e : Int32) : Int32 := (e - u 4 l) - (e - u 4 l) / u 5 l * u 5 l
def cDep (u : MM) (l : Nat) (e : Int32) : Int32 := if e ≤ u 4 l ∨ u 5 l ≤ 0 then u 4 l else if cLateBy u l e = 0 then e else e - cLateBy u l e + u 5 l
def cLvn (u : MM) (l : Nat) (now : Int32) : Int32 := bi (¬ u 108 l = 0 ∧ cDep u l now = now)
def cWf (u : MM) (p : Nat) (x : Int32) : Int32 := bi (u 28 p = 115 ∧ u 19 p = x)
def cMiss (u : MM) (p : Nat) (now : Int32) : Int32 := if u 20 p = -1 then 0 else bi (u 20 p < (if u 21 p = -1 then now else u 21 p))
def cSettle (u : MM) (p : Nat) (x : Int32) (now : Int32) : MM :=
  if x = u 14 p ∧ u 21 p = -1 then up (up (up (up (up u 116 p (-1)) 15 p x) 28 p 115) 18 p now) 21 p now else up (up (up (up u 116 p (-1)) 15 p x) 28 p 115) 18 p now
def cLb (u : MM) (p q : Nat) : Int32 := if ¬ u 12 p = u 12 q then bi (u 12 p < u 12 q) else if ¬ u 20 p = u 20 q then bi (u 20 q = -1 ∨ (¬ u 20 p = -1 ∧ u 20 p < u 20 q)) else bi (nI p < nI q)
/-! bags q, of n rooms -/
def cHas (u : MM) (q n : Nat) (x : Int32) : Int32 := bi (0 ≤ x ∧ x < u 8 q ∧ x < nI n)
def cVol (u : MM) (q n : Nat) (x : Int32) : Int32 := if ¬ cHas u q n x = 0 then u 10 (40 * q + x.toNatClampNeg) else 0
def cOpenB (u : MM) (q n p : Nat) (most : Int32) : Int32 × MM :=
  if most ≤ u 8 q ∨ u 8 q < 0 ∨ nI n ≤ u 8 q then (0, u)
  else (1, up (up (up u 111 (40 * q + (u 8 q).toNatClampNeg) (u 14 p)) 10 (40 * q + (u 8 q).toNatClampNeg) (u 11 p)) 8 q (u 8 q + 1))
def cPutL (u : MM) (q n p : Nat) (most : Int32) : Nat → Nat → Int32 × MM
  | 0, _ => cOpenB u q n p most
  | k + 1, i => if u 8 q ≤ nI i then cOpenB u q n p most else if u 111 (40 * q + i) = u 14 p ∧ u 10 (40 * q + i) + u 11 p ≤ 12 then (1, up u 10 (40 * q + i) (u 10 (40 * q + i) + u 11 p)) else cPutL u q n p most k (i + 1)
def cPut (u : MM) (q n p : Nat) (most : Int32) : Int32 × MM := cPutL u q n p most n 0
/-! paths -/
def cBegin (u : MM) (i : Nat) (x now : Int32) : MM := up (up (up (up (up (up (up u 130 i x) 131 i (-1)) 132 i now) 133 i 0) 134 i 0) 135 i (1 <<< (x &&& 31))) 136 i 0
def cFollow (u : MM) (i j l : Nat) (ar : Int32) : MM :=
  up (up (up (up (up (up (up u 130 i (u 3 l)) 131 i (if u 131 j = -1 then nI l else u 131 j)) 132 i ar) 133 i (u 133 j + 1)) 134 i ((u 134 j <<< (4 &&& 31)) + nI l)) 135 i (u 135 j ||| (1 <<< (u 3 l &&& 31)))) 136 i 0
def cVis (u : MM) (i : Nat) (x : Int32) : Int32 := bi (¬ u 135 i &&& (1 <<< (x &&& 31)) = 0)
def cBet (u : MM) (i j : Nat) : Int32 := if ¬ u 132 i = u 132 j then bi (u 132 i < u 132 j) else if ¬ u 133 i = u 133 j then bi (u 133 i < u 133 j) else bi (u 134 i < u 134 j)
def cLnA (u : MM) (i : Nat) (x : Int32) : Int32 := (u 134 i >>> ((4 * (u 133 i - 1 - x)) &&& 31)) &&& 15

