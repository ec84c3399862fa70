/-! THE REFERENCE as functions of its state (keys: 0 code, 1 cutoff, 2 from, 3 to, 4 first, 5 period, 6 travel, 7 most, 8 bagged, 9 isClosed, 10 bagRoom, 11 volume, 12 service, 13 origin, 14 destination, 15 hub, 16 line, 17 due, 18 scanned, 19 next, 20 promise, 21 reached, 22 misroutes, 23 attempts, 24 missed, 25 accepted, 26 delivered, 27 trace, 28 state, 29 isReturn, 30 isLeft, 31 log, 32 way, 33 best, 34 bagFor, 35 bagHas, 36 row, 37 hubs, 38 lines, 39 parcels, 40 logged, 41 minute, 42 bestAt, 43 bestSize, 44 bags, 45 thrown) -/
def inn (v lo hi : Int32) : Bool := !decide (v < lo) && !decide (hi < v)
theorem inn_t {v lo hi : Int32} : inn v lo hi = true ↔ ¬ v < lo ∧ ¬ hi < v := by simp [inn]
def digs : Nat → Int32 → Int32 → Int32
  | 0, _, is => is
  | n + 1, k, is => if k ≤ 0 then is else digs n (k / 10) (is &&& (if k - k / 10 * 10 = 0 then 0 else 1))
def isDg (v lo hi : Int32) : Int32 := digs 11 v (bi (inn v lo hi))
def isAd (a : Int32) : Int32 := isDg a 1000 9999
def isHb (m : MM) (x : Int32) : Bool := inn x 0 (m 37 0 - 1)
def isLn (m : MM) (x : Int32) : Bool := inn x 0 (m 38 0 - 1)
def isPa (m : MM) (x : Int32) : Bool := inn x 0 (m 39 0 - 1)
def nhN (m : MM) : Nat := (m 37 0).toNatClampNeg
def nlN (m : MM) : Nat := (m 38 0).toNatClampNeg
def npN (m : MM) : Nat := (m 39 0).toNatClampNeg
def thr (m : MM) (b a : Int32) : MM := up m 45 0 (if b = 0 then 0 else a)
def fNoLine (m : MM) (x : Int32) : Int32 × MM := (bi (¬ isLn m x), thr m (bi (¬ isLn m x)) 1)
def fNone (m : MM) (x : Int32) : Int32 × MM := (bi (¬ isPa m x), thr m (bi (¬ isPa m x)) 1)
/-- the log's row twice as long, where it is full -/
def grw (m : MM) : MM := fun k i => if k = 46 then nI (2 * LLm m) else if k = 31 then (if i < (m 40 0).toNatClampNeg then m 31 i else 0) else m k i
def lpos (kind : Int32) : Int32 := if kind = 97 then 0 else if kind = 115 then 1 else if kind = 109 then 2 else if kind = 108 then 3 else if kind = 117 then 4 else if kind = 100 then 5 else if kind = 102 then 6 else if kind = 114 then 7 else 8
def lmark (mi hb kind l : Int32) : Int32 := 97 * mi + 13 * hb + lpos kind + (if l < 0 then 0 else 7 * l + 7)
def ltr (t mk : Int32) : Int32 := (31 * t + mk) - (31 * t + mk) / 1000003 * 1000003
def fHap0 (m : MM) : MM := if nI (LLm m) < m 40 0 + 4 then grw m else m
def fHap1 (m : MM) (p : Nat) (kind l : Int32) : MM :=
  let g := (m 40 0).toNatClampNeg
  let m1 := up (up (up (up m 31 g (nI p)) 31 (g + 1) kind) 31 (g + 2) (m 41 0)) 31 (g + 3) (m 15 p)
  let m2 := up m1 40 0 (m 40 0 + 4)
  up m2 27 p (ltr (m 27 p) (lmark (m 41 0) (m 15 p) kind l))
def fHap (m : MM) (p : Nat) (kind l : Int32) : MM := fHap1 (fHap0 m) p kind l
def lvs (m : MM) (l : Nat) (f : Int32) : Int32 := if f - m 4 l ≤ 0 then m 4 l else m 4 l + (f - m 4 l + m 5 l - 1) / m 5 l * m 5 l
def cpW : Nat → MM → MM
  | 0, m => m
  | n + 1, m => up (cpW n m) 33 n (cpW n m 32 n)
abbrev bet (m : MM) (t size : Int32) : Prop := m 42 0 < 0 ∨ t < m 42 0 ∨ (t = m 42 0 ∧ size < m 43 0)
abbrev goes (m : MM) (l : Nat) (ah seen : Int32) : Prop := m 9 l = 0 ∧ m 2 l = ah ∧ ((seen >>> (m 3 l &&& 31)) &&& 1) = 0
def mx (a b : Int32) : Int32 := if a < b then b else a
def thereT (m : MM) (l : Nat) (ah s t : Int32) : Int32 := lvs m l (mx (t + 1) (s + m 1 ah.toNatClampNeg)) + m 6 l
def trL (rec : MM → Int32 → Int32 → Int32 → Int32 → Int32 → MM) (ah : Int32) (size : Nat) (s t seen : Int32) : Nat → Nat → MM → MM
  | 0, _, m => m
  | k + 1, l, m => trL rec ah size s t seen k (l + 1) (if goes m l ah seen then rec (up m 32 size (nI l)) (m 3 l) (thereT m l ah s t) (thereT m l ah s t) (nI (size + 1)) (seen ||| (1 <<< (m 3 l &&& 31))) else m)
def triesF : Nat → Int32 → MM → Int32 → Int32 → Int32 → Nat → Int32 → MM
  | 0, _, m, _, _, _, _, _ => m
  | d + 1, en, m, ah, s, t, size, seen =>
    if ah = en then (if bet m t (nI size) then cpW size (up (up m 42 0 t) 43 0 (nI size)) else m)
    else trL (fun m' a' s' t' sz' sn' => triesF d en m' a' s' t' sz'.toNatClampNeg sn') ah size s t seen (nlN m) 0 m
def fLays (m : MM) (p : Nat) : MM := triesF 6 (m 14 p) (up (up m 42 0 (-1)) 43 0 0) (m 15 p) (m 18 p) (m 41 0) 0 (1 <<< (m 15 p &&& 31))
abbrev hasP (m : MM) : Prop := 0 ≤ m 42 0
def fPlan (m : MM) (p : Nat) : Int32 := if hasP (fLays m p) ∧ 0 < fLays m p 43 0 then fLays m p 33 0 else -1
def fPlans (m : MM) (p : Nat) : MM := up (fLays m p) 19 p (fPlan m p)
def plAll : Nat → Nat → MM → MM
  | 0, _, m => m
  | k + 1, p, m => plAll k (p + 1) (if m 28 p = 115 then fPlans m p else m)
def fPlansAll (m : MM) : MM := plAll (npN m) 0 m
def fProm0 (m : MM) (p : Nat) : MM := up m 21 p (if m 15 p = m 14 p then m 41 0 else -1)
def fProm1 (m : MM) (p : Nat) : MM := up (fLays m p) 20 p (if hasP (fLays m p) then fLays m p 42 0 else -1)
def fProm (m : MM) (p : Nat) : MM := fPlans (fProm1 (fProm0 m p) p) p
def fScans0 (m : MM) (p : Nat) : MM :=
  let m1 := up (up m 28 p 115) 18 p (m 41 0)
  if m1 15 p = m1 14 p ∧ m1 21 p < 0 then up m1 21 p (m 41 0) else m1
def fScans (m : MM) (p : Nat) : MM := fPlans (fScans0 m p) p
def fTurns0 (m : MM) (p : Nat) : MM := up (up (up (up m 29 p 1) 14 p (m 13 p)) 23 p 0) 18 p (m 41 0)
def fTurns (m : MM) (p : Nat) : MM := fHap (fProm (fTurns0 m p) p) p 114 (-1)
def hasCode (m : MM) (x : Int32) : Nat → Nat → Int32 → Int32
  | 0, _, is => is
  | k + 1, h, is => hasCode m x k (h + 1) (is ||| bi (m 0 h = x))
def fOpen (m : MM) (code cutoff : Int32) : Int32 × MM :=
  let b1 := bi (isDg code 1 999 = 0 ∨ ¬ inn cutoff 1 20)
  let m1 := thr m b1 1
  if ¬ b1 = 0 then (0, m1) else
  let b2 := bi (¬ hasCode m code (nhN m) 0 0 = 0 ∨ m 37 0 = 6)
  let m2 := thr m1 b2 2
  if ¬ b2 = 0 then (0, m2) else
  (m 37 0 + 1 - 1, up (up (up m2 0 (nhN m) code) 1 (nhN m) cutoff) 37 0 (m 37 0 + 1))
abbrev lineBad (f t first period travel bags : Int32) : Prop := f = t ∨ ¬ inn first 0 59 ∨ ¬ inn period 5 60 ∨ ¬ inn travel 1 60 ∨ ¬ inn bags 1 4
def fAddL (m : MM) (f t first period travel bags : Int32) : Int32 × MM :=
  let b1 := bi (¬ isHb m f ∨ ¬ isHb m t)
  let m1 := thr m b1 1
  if ¬ b1 = 0 then (0, m1) else
  let b2 := bi (lineBad f t first period travel bags)
  let m2 := thr m1 b2 2
  if ¬ b2 = 0 then (0, m2) else
  let b3 := bi (m 38 0 = 12)
  let m3 := thr m2 b3 3
  if ¬ b3 = 0 then (0, m3) else
  let n := nlN m
  let m4 := fPlansAll (up (up (up (up (up (up (up m3 2 n f) 3 n t) 4 n first) 5 n period) 6 n travel) 7 n bags) 38 0 (m 38 0 + 1))
  (m4 38 0 - 1, m4)
def cntW (m : MM) (l : Int32) : Nat → Nat → Int32 → Int32
  | 0, _, n => n
  | k + 1, p, n => cntW m l k (p + 1) (n + (if m 28 p = 115 ∧ m 19 p = l then 1 else 0))
def waits (m : MM) (l : Int32) : Int32 := cntW m l (npN m) 0 0
def fClose (m : MM) (x : Int32) : Int32 × MM :=
  let q := fNoLine m x
  if ¬ q.1 = 0 then (0, q.2) else
  let m2 := thr q.2 (m 9 x.toNatClampNeg) 2
  if ¬ m 9 x.toNatClampNeg = 0 then (0, m2) else
  (waits m x, fPlansAll (up m2 9 x.toNatClampNeg 1))
def fndI (m : MM) (h : Nat) : Nat → Int32 → Int32 → Int32
  | 0, _, a => a
  | n + 1, k, a => if k ≤ 0 then a else fndI m h n (k / 10) (if k = m 0 h ∧ (a < 0 ∨ m 0 a.toNatClampNeg < m 0 h) then nI h else a)
def fndO (m : MM) (x : Int32) : Nat → Nat → Int32 → Int32
  | 0, _, a => a
  | k + 1, h, a => fndO m x k (h + 1) (fndI m h 11 (x / 10) a)
def found (m : MM) (x : Int32) : Int32 := fndO m x (nhN m) 0 (-1)
def fAcc (m : MM) (hb x vol srv : Int32) : Int32 × MM :=
  let b1 := bi (¬ isHb m hb)
  let m1 := thr m b1 1
  if ¬ b1 = 0 then (0, m1) else
  let b2 := bi (isAd x = 0 ∨ ¬ inn vol 1 9 ∨ ¬ inn srv 0 2)
  let m2 := thr m1 b2 2
  if ¬ b2 = 0 then (0, m2) else
  let b3 := bi (found m2 x < 0 ∨ m 39 0 = 40)
  let m3 := thr m2 b3 3
  if ¬ b3 = 0 then (0, m3) else
  let p := npN m
  let m4 := up (up (up (up (up (up m3 39 0 (m 39 0 + 1)) 11 p vol) 12 p srv) 15 p hb) 13 p hb) 14 p (found m x)
  let m5 := up (up (up m4 28 p 115) 18 p (m 41 0)) 25 p (m 41 0)
  (m 39 0, fHap (fProm m5 p) p 97 (-1))
abbrev isOver (m : MM) (p : Nat) : Prop := m 28 p = 100 ∨ m 28 p = 104
def fScan1 (m : MM) (p : Nat) (hb : Int32) : Int32 × MM :=
  if (¬ m 28 p = 116 ∧ m 15 p = hb) ∧ m 28 p = 115 then (97, m) else
  let m1 := up m 15 p hb
  if ¬ m 28 p = 116 ∧ m 15 p = hb then (111, fHap (fScans m1 p) p 115 (-1)) else
  let m2 := fHap (up m1 22 p (m 22 p + 1)) p 109 (-1)
  if m2 22 p = 3 then (104, fHap (up m2 28 p 104) p 104 (-1)) else (109, fScans m2 p)
def fScan (m : MM) (x hb : Int32) : Int32 × MM :=
  let b1 := bi (¬ isPa m x ∨ ¬ isHb m hb)
  let m1 := thr m b1 1
  if ¬ b1 = 0 then (0, m1) else
  let b2 := bi (isOver m x.toNatClampNeg)
  let m2 := thr m1 b2 2
  if ¬ b2 = 0 then (0, m2) else fScan1 m2 x.toNatClampNeg hb
def fDel1 (m : MM) (p : Nat) (taken : Int32) : Int32 × MM :=
  if ¬ taken = 0 then (100, fHap (up (up m 28 p 100) 26 p (m 41 0)) p 100 (-1)) else
  let m1 := fHap (up m 23 p (m 23 p + 1)) p 102 (-1)
  if m1 23 p < 3 - m1 12 p then (119, m1) else
  if ¬ m1 29 p = 0 then (104, fHap (up m1 28 p 104) p 104 (-1)) else (114, fTurns m1 p)
def fDel (m : MM) (x taken : Int32) : Int32 × MM :=
  let q := fNone m x
  if ¬ q.1 = 0 then (0, q.2) else
  let p := x.toNatClampNeg
  let b2 := bi (¬ m 28 p = 115 ∨ ¬ m 15 p = m 14 p)
  let m2 := thr q.2 b2 2
  if ¬ b2 = 0 then (0, m2) else fDel1 m2 p taken
def fRec (m : MM) (x : Int32) : Int32 × MM :=
  let q := fNone m x
  if ¬ q.1 = 0 then (0, q.2) else
  let p := x.toNatClampNeg
  let b2 := bi (¬ m 29 p = 0 ∨ ¬ m 28 p = 115)
  let m2 := thr q.2 b2 2
  if ¬ b2 = 0 then (0, m2) else (fTurns m2 p 20 p, fTurns m2 p)
def arrL : Nat → Nat → Int32 → MM → Int32 × MM
  | 0, _, n, m => (n, m)
  | k + 1, p, n, m => if m 28 p = 116 ∧ m 17 p = m 41 0 then arrL k (p + 1) (n + 1) (fHap (up (up m 28 p 117) 15 p (m 3 (m 16 p).toNatClampNeg)) p 117 (m 16 p)) else arrL k (p + 1) n m
def fArr (m : MM) : Int32 × MM := arrL (npN m) 0 0 m
abbrev ahead (m : MM) (p q : Nat) : Prop := if ¬ m 12 p = m 12 q then m 12 p < m 12 q else if ¬ m 20 p = m 20 q then (m 20 q < 0 ∨ (0 ≤ m 20 p ∧ m 20 p < m 20 q)) else p < q
/-- p sinks in the row, from the place k on -/
def sinkL (p : Nat) : Nat → MM → MM
  | 0, m => up m 36 0 (nI p)
  | k + 1, m => if ahead m p (m 36 k).toNatClampNeg then sinkL p k (up m 36 (k + 1) (m 36 k)) else up m 36 (k + 1) (nI p)
def linL (l : Int32) : Nat → Nat → Nat → MM → Nat × MM
  | 0, _, n, m => (n, m)
  | k + 1, p, n, m => if m 28 p = 115 ∧ m 19 p = l then linL l k (p + 1) (n + 1) (sinkL p n m) else linL l k (p + 1) n m
def fLin (m : MM) (l : Int32) : Nat × MM := linL l (npN m) 0 0 m
/-- the first bag, from the place k on, that takes p -/
def bagL (m : MM) (p : Nat) : Nat → Nat → Nat
  | 0, k => k
  | n + 1, k => if ¬ m 34 k = m 14 p ∨ 12 < m 35 k + m 11 p then bagL m p n (k + 1) else k
def bagsN (m : MM) : Nat := (m 44 0).toNatClampNeg
def fPut (m : MM) (p : Nat) (most : Int32) : Int32 × MM :=
  let k := bagL m p (bagsN m) 0
  if k = bagsN m then
    (if m 44 0 = most then (0, m) else (1, up (up (up (up m 34 k (m 14 p)) 35 k 0) 44 0 (m 44 0 + 1)) 35 k (0 + m 11 p)))
  else (1, up m 35 k (m 35 k + m 11 p))
def load1 (m : MM) (l p : Nat) : MM :=
  if m 41 0 - m 18 p < m 1 (m 2 l).toNatClampNeg then m else
  let q := fPut m p (m 7 l)
  if ¬ q.1 = 0 then fHap (up (up (up q.2 28 p 116) 16 p (nI l)) 17 p (q.2 41 0 + q.2 6 l)) p 108 (nI l)
  else up (up q.2 30 p 1) 24 p (q.2 24 p + 1)
def loadL (l : Nat) : Nat → Nat → MM → MM
  | 0, _, m => m
  | k + 1, j, m => loadL l k (j + 1) (load1 m l (m 36 j).toNatClampNeg)
def bagC (l : Nat) : Nat → Nat → MM → MM
  | 0, _, m => m
  | n + 1, k, m => bagC l n (k + 1) (up m 10 (4 * l + k) (m 35 k))
def fLoads (m : MM) (l : Nat) : MM :=
  let q := fLin m (nI l)
  let m1 := loadL l q.1 0 (up q.2 44 0 0)
  if 0 < m1 44 0 then bagC l (bagsN m1) 0 (up m1 8 l (m1 44 0)) else m1
def passL : Nat → Nat → MM → MM
  | 0, _, m => m
  | k + 1, l, m => passL k (l + 1) (if m 9 l = 0 ∧ lvs m l (m 41 0) = m 41 0 then fLoads m l else m)
def leftL : Nat → Nat → MM → MM
  | 0, _, m => m
  | k + 1, p, m => leftL k (p + 1) (if ¬ m 30 p = 0 then fPlans (up m 30 p 0) p else m)
def fMin (m : MM) : Int32 × MM :=
  let q := fArr (up m 41 0 (m 41 0 + 1))
  let m1 := passL (nlN q.2) 0 q.2
  (q.1, leftL (npN m1) 0 m1)
def minL : Nat → Int32 → MM → Int32 × MM
  | 0, n, m => (n, m)
  | k + 1, n, m => minL k (n + (fMin m).1) (fMin m).2
def fPass (m : MM) (x : Int32) : Int32 × MM :=
  let b := bi (¬ inn x 1 120)
  let m1 := thr m b 1
  if ¬ b = 0 then (0, m1) else minL x.toNatClampNeg 0 m1
def fTell (m : MM) (v : Int32) : Int32 × MM := (v, up m 45 0 0)
def fHubOf (m : MM) (x : Int32) : Int32 × MM :=
  let b := bi (isAd x = 0)
  (if ¬ b = 0 then 0 else found (thr m b 1) x, thr m b 1)
def fNext (m : MM) (x : Int32) : Int32 × MM :=
  let q := fNoLine m x
  if ¬ q.1 = 0 then (0, q.2) else
  let m2 := thr q.2 (m 9 x.toNatClampNeg) 2
  (if ¬ m 9 x.toNatClampNeg = 0 then 0 else lvs m x.toNatClampNeg (m 41 0 + 1), m2)
/-- one of a parcel's numbers -/
def fGet (k : Nat) (m : MM) (x : Int32) : Int32 × MM :=
  let q := fNone m x
  (if ¬ q.1 = 0 then 0 else m k x.toNatClampNeg, q.2)
def fAt (m : MM) (x : Int32) : Int32 × MM :=
  let q := fNone m x
  if ¬ q.1 = 0 then (0, q.2) else
  let b := bi (m 28 x.toNatClampNeg = 116)
  (if ¬ b = 0 then 0 else m 15 x.toNatClampNeg, thr q.2 b 2)
def fRides (m : MM) (x : Int32) : Int32 × MM :=
  let q := fNone m x
  if ¬ q.1 = 0 then (0, q.2) else
  let b := bi (¬ m 28 x.toNatClampNeg = 116)
  (if ¬ b = 0 then 0 else m 16 x.toNatClampNeg, thr q.2 b 2)
def fIsRet (m : MM) (x : Int32) : Int32 × MM :=
  let q := fNone m x
  (bi (q.1 = 0 ∧ ¬ m 29 x.toNatClampNeg = 0), q.2)
abbrev late (m : MM) (p : Nat) : Prop := 0 ≤ m 20 p ∧ (if 0 ≤ m 21 p then m 20 p < m 21 p else m 20 p < m 41 0)
def fLate (m : MM) (x : Int32) : Int32 × MM :=
  let q := fNone m x
  (bi (q.1 = 0 ∧ late m x.toNatClampNeg), q.2)
def fNotSc (m : MM) (x : Int32) : Int32 × MM :=
  let q := fNone m x
  if ¬ q.1 = 0 then (1, q.2) else
  let b := bi (¬ m 28 x.toNatClampNeg = 115)
  (b, thr q.2 b 2)
def fNxL (m : MM) (x : Int32) : Int32 × MM :=
  let q := fNotSc m x
  (if ¬ q.1 = 0 then 0 else m 19 x.toNatClampNeg, q.2)
def fNxP (m : MM) (x : Int32) : Int32 × MM :=
  let q := fNotSc m x
  if ¬ q.1 = 0 then (0, q.2) else (fPlan q.2 x.toNatClampNeg, fLays q.2 x.toNatClampNeg)
def fPaS (m : MM) (x : Int32) : Int32 × MM :=
  let q := fNotSc m x
  if ¬ q.1 = 0 then (0, q.2) else
  let m1 := fLays q.2 x.toNatClampNeg
  (if hasP m1 then m1 43 0 else 0, m1)
def fPaA (m : MM) (x ix : Int32) : Int32 × MM :=
  let q := fNotSc m x
  if ¬ q.1 = 0 then (0, q.2) else
  let m1 := fLays q.2 x.toNatClampNeg
  let b := bi (¬ inn ix 0 ((if hasP m1 then m1 43 0 else 0) - 1))
  (if ¬ b = 0 then 0 else m1 33 ix.toNatClampNeg, thr m1 b 3)
def fArv (m : MM) (x : Int32) : Int32 × MM :=
  let q := fNotSc m x
  if ¬ q.1 = 0 then (0, q.2) else
  let m1 := fLays q.2 x.toNatClampNeg
  (if hasP m1 then m1 42 0 else -1, m1)
def fWai (m : MM) (x : Int32) : Int32 × MM :=
  let q := fNoLine m x
  (if ¬ q.1 = 0 then 0 else waits q.2 x, q.2)
def fWaA (m : MM) (x r : Int32) : Int32 × MM :=
  let q := fNoLine m x
  if ¬ q.1 = 0 then (0, q.2) else
  let q1 := fLin q.2 x
  let b := bi (¬ inn r 0 (nI q1.1 - 1))
  (if ¬ b = 0 then 0 else q1.2 36 r.toNatClampNeg, thr q1.2 b 2)
def bgN : Nat → Nat → Int32 → MM → Int32 × MM
  | 0, _, is, m => (is, m)
  | k + 1, j, is, m => bgN k (j + 1) (is &&& (fPut m (m 36 j).toNatClampNeg 40).1) (fPut m (m 36 j).toNatClampNeg 40).2
def fBgN (m : MM) (x : Int32) : Int32 × MM :=
  let q := fNoLine m x
  if ¬ q.1 = 0 then (0, q.2) else
  let q1 := fLin q.2 x
  let q2 := bgN q1.1 0 1 (up q1.2 44 0 0)
  (if ¬ q2.1 = 0 then q2.2 44 0 else 0, q2.2)
def volL (m : MM) (l hb : Int32) : Nat → Nat → Int32 → Int32
  | 0, _, v => v
  | k + 1, p, v => volL m l hb k (p + 1) (v + (if m 28 p = 115 ∧ m 19 p = l ∧ m 14 p = hb then m 11 p else 0))
def bgA (m : MM) (l : Int32) : Nat → Nat → Int32 → Int32
  | 0, _, v => v
  | k + 1, h, v => bgA m l k (h + 1) (v + (volL m l (nI h) (npN m) 0 0 + 12 - 1) / 12)
def fBgA (m : MM) (x : Int32) : Int32 × MM :=
  let q := fNoLine m x
  (if ¬ q.1 = 0 then 0 else bgA q.2 x (nhN q.2) 0 0, q.2)
def fBgs (m : MM) (x : Int32) : Int32 × MM :=
  let q := fNoLine m x
  (if ¬ q.1 = 0 then 0 else m 8 x.toNatClampNeg, q.2)
def fBgV (m : MM) (x b : Int32) : Int32 × MM :=
  let q := fNoLine m x
  if ¬ q.1 = 0 then (0, q.2) else
  let c := bi (¬ inn b 0 (m 8 x.toNatClampNeg - 1))
  (if ¬ c = 0 then 0 else m 10 (4 * x + b).toNatClampNeg, thr q.2 c 2)
def rdL (m : MM) (l : Int32) : Nat → Nat → Int32 → Int32
  | 0, _, n => n
  | k + 1, p, n => rdL m l k (p + 1) (n + (if m 28 p = 116 ∧ m 16 p = l then 1 else 0))
def fRdg (m : MM) (x : Int32) : Int32 × MM :=
  let q := fNoLine m x
  (if ¬ q.1 = 0 then 0 else rdL q.2 x (npN q.2) 0 0, q.2)
def hpL (m : MM) (x : Int32) : Nat → Nat → Int32 → Int32
  | 0, _, n => n
  | k + 1, j, n => hpL m x k (j + 1) (n + bi (m 31 (4 * j) = x))
def logN (m : MM) : Nat := (m 40 0).toNatClampNeg / 4
def hap (m : MM) (x : Int32) : Int32 := hpL m x (logN m) 0 0
def fEvs (m : MM) (x : Int32) : Int32 × MM :=
  let q := fNone m x
  (if ¬ q.1 = 0 then 0 else hap q.2 x, q.2)
/-- the place in the log of the event that comes when 'left' more of x have been passed -/
def evL (m : MM) (x : Int32) : Nat → Nat → Int32 → Nat
  | 0, j, _ => j
  | k + 1, j, left => if m 31 (4 * j) = x ∧ left ≤ 0 then j else evL m x k (j + 1) (left - bi (m 31 (4 * j) = x))
def fEv (m : MM) (x ix : Int32) : Int32 × MM :=
  let q := fNone m x
  if ¬ q.1 = 0 then (-1, q.2) else
  let b := bi (¬ inn ix 0 (hap q.2 x - 1))
  (if ¬ b = 0 then -1 else nI (4 * evL (thr q.2 b 2) x (logN (thr q.2 b 2)) 0 ix), thr q.2 b 2)
def fEvK (j : Int32) (m : MM) (x ix : Int32) : Int32 × MM :=
  let q := fEv m x ix
  (if q.1 < 0 then 0 else q.2 31 (q.1 + j).toNatClampNeg, q.2)
def ltL (m : MM) : Nat → Nat → Int32 → Int32
  | 0, _, n => n
  | k + 1, p, n => ltL m k (p + 1) (n + bi (late m p))
def fLtS (m : MM) : Int32 × MM := (ltL m (npN m) 0 0, thr m (bi (m 39 0 = 0)) 1)
def mtL (m : MM) : Nat → Nat → Int32 → Int32 → Int32 × Int32
  | 0, _, n, t => (n, t)
  | k + 1, p, n, t => mtL m k (p + 1) (n + bi (m 28 p = 100)) (t + (if m 28 p = 100 then m 26 p - m 25 p else 0))
def fMnT (m : MM) : (Int32 × Int32) × MM := (mtL m (npN m) 0 0 0, thr m (bi ((mtL m (npN m) 0 0 0).1 = 0)) 1)

