/-! the reference stays well, call by call -/
def Rw (m m' : MM) : Prop := WFa m' ∧ uC m ≤ uC m' ∧ uS m ≤ uS m'
theorem Rw.key {m m' : MM} (h : WFa m) (e : ∀ k, kWF k → m' k = m k) : Rw m m' := by
  have e2 := uC_ext (e 46 (by unfold kWF; omega))
  exact ⟨h.ext e, by omega, by omega⟩
theorem Rw.trans {a b c : MM} (h : Rw a b) (g : Rw b c) : Rw a c := ⟨g.1, Nat.le_trans h.2.1 g.2.1, Nat.le_trans h.2.2 g.2.2⟩
theorem rw_one {m : MM} (h : WFa m) (b a : Int32) : Rw m (thr m b a) := Rw.key h (fun k hk => thrk m b a (by unfold kWF at hk; omega))
theorem Rw.th {m m' : MM} (h : Rw m m') (b a : Int32) : Rw m (thr m' b a) := h.trans (rw_one h.1 b a)
theorem Rw.lays {m m' : MM} (h : Rw m m') (p : Nat) : Rw m (fLays m' p) := h.trans (Rw.key h.1 (fun k hk => fLays_key m' p (by unfold kWF at hk; unfold kTry; omega)))
theorem Rw.gr {m m' : MM} {B : Nat} (h : WFa m' ∧ Gr B m m') : Rw m m' := ⟨h.1, h.2.2.2.2.1, h.2.2.2.2.2.1⟩
theorem Rw.ite {m : MM} {c : Prop} [Decidable c] {a b : Int32 × MM} (h1 : c → Rw m a.2) (h2 : ¬ c → Rw m b.2) : Rw m (if c then a else b).2 := by
  by_cases z : c
  · rw [if_pos z]; exact h1 z
  · rw [if_neg z]; exact h2 z
theorem rw_none {m : MM} (h : WFa m) (x : Int32) : Rw m (fNone m x).2 := rw_one h _ _
theorem rw_line {m : MM} (h : WFa m) (x : Int32) : Rw m (fNoLine m x).2 := rw_one h _ _
theorem rw_sc {m : MM} (h : WFa m) (x : Int32) : Rw m (fNotSc m x).2 := Rw.ite (fun _ => rw_none h x) (fun _ => (rw_none h x).th _ _)
theorem rw_hubOf {m : MM} (h : WFa m) (x : Int32) : Rw m (fHubOf m x).2 := rw_one h _ _
theorem rw_next {m : MM} (h : WFa m) (x : Int32) : Rw m (fNext m x).2 := Rw.ite (fun _ => rw_line h x) (fun _ => (rw_line h x).th _ _)
theorem rw_get {m : MM} (h : WFa m) (k : Nat) (x : Int32) : Rw m (fGet k m x).2 := rw_none h x
theorem rw_at {m : MM} (h : WFa m) (x : Int32) : Rw m (fAt m x).2 := Rw.ite (fun _ => rw_none h x) (fun _ => (rw_none h x).th _ _)
theorem rw_rides {m : MM} (h : WFa m) (x : Int32) : Rw m (fRides m x).2 := Rw.ite (fun _ => rw_none h x) (fun _ => (rw_none h x).th _ _)
theorem rw_isRet {m : MM} (h : WFa m) (x : Int32) : Rw m (fIsRet m x).2 := rw_none h x
theorem rw_late {m : MM} (h : WFa m) (x : Int32) : Rw m (fLate m x).2 := rw_none h x
theorem rw_nxL {m : MM} (h : WFa m) (x : Int32) : Rw m (fNxL m x).2 := rw_sc h x
theorem rw_nxP {m : MM} (h : WFa m) (x : Int32) : Rw m (fNxP m x).2 := Rw.ite (fun _ => rw_sc h x) (fun _ => (rw_sc h x).lays _)
theorem rw_paS {m : MM} (h : WFa m) (x : Int32) : Rw m (fPaS m x).2 := Rw.ite (fun _ => rw_sc h x) (fun _ => (rw_sc h x).lays _)
theorem rw_paA {m : MM} (h : WFa m) (x ix : Int32) : Rw m (fPaA m x ix).2 := Rw.ite (fun _ => rw_sc h x) (fun _ => ((rw_sc h x).lays _).th _ _)
theorem rw_arv {m : MM} (h : WFa m) (x : Int32) : Rw m (fArv m x).2 := Rw.ite (fun _ => rw_sc h x) (fun _ => (rw_sc h x).lays _)
theorem rw_wai {m : MM} (h : WFa m) (x : Int32) : Rw m (fWai m x).2 := rw_line h x
theorem rw_lin {m m' : MM} (h : Rw m m') (x : Int32) : Rw m (fLin m' x).2 := h.trans (Rw.key h.1 (fun k hk => (fLin_ok h.1 x).2.1 (by unfold kWF at hk; omega)))
theorem rw_waA {m : MM} (h : WFa m) (x r : Int32) : Rw m (fWaA m x r).2 := Rw.ite (fun _ => rw_line h x) (fun _ => (rw_lin (rw_line h x) x).th _ _)
theorem rw_put {m m' : MM} (h : Rw m m') (p : Nat) (mo : Int32) : Rw m (fPut m' p mo).2 := h.trans (Rw.key h.1 (fun k hk => put_key m' p mo (by unfold kWF at hk; omega)))
theorem rw_bgL {m : MM} : ∀ (k j : Nat) (is : Int32) (m' : MM), Rw m m' → Rw m (bgN k j is m').2
  | 0, _, _, _, h => h
  | k + 1, j, is, m', h => rw_bgL k (j + 1) _ _ (rw_put h _ _)
theorem rw_bgN {m : MM} (h : WFa m) (x : Int32) : Rw m (fBgN m x).2 := Rw.ite (fun _ => rw_line h x) (fun _ => rw_bgL _ _ _ _ ((rw_lin (rw_line h x) x).trans (Rw.key (rw_lin (rw_line h x) x).1 (fun k hk => up_key (by unfold kWF at hk; omega)))))
theorem rw_bgA {m : MM} (h : WFa m) (x : Int32) : Rw m (fBgA m x).2 := rw_line h x
theorem rw_bgs {m : MM} (h : WFa m) (x : Int32) : Rw m (fBgs m x).2 := rw_line h x
theorem rw_bgV {m : MM} (h : WFa m) (x b : Int32) : Rw m (fBgV m x b).2 := Rw.ite (fun _ => rw_line h x) (fun _ => (rw_line h x).th _ _)
theorem rw_rdg {m : MM} (h : WFa m) (x : Int32) : Rw m (fRdg m x).2 := rw_line h x
theorem rw_evs {m : MM} (h : WFa m) (x : Int32) : Rw m (fEvs m x).2 := rw_none h x
theorem rw_evK {m : MM} (h : WFa m) (j x ix : Int32) : Rw m (fEvK j m x ix).2 := Rw.ite (a := (-1, (fNone m x).2)) (fun _ => rw_none h x) (fun _ => (rw_none h x).th _ _)
theorem rw_ltS {m : MM} (h : WFa m) : Rw m (fLtS m).2 := rw_one h _ _
theorem rw_mnT {m : MM} (h : WFa m) : Rw m (fMnT m).2 := rw_one h _ _
theorem rw_tell {m : MM} (h : WFa m) (v : Int32) : Rw m (fTell m v).2 := Rw.key h (fun k hk => up_key (by unfold kWF at hk; omega))
theorem rw_scan {m : MM} (h : WFa m) (hU : logN m + 2 ≤ 2 ^ 21) (x hb : Int32) : Rw m (fScan m x hb).2 := by
  refine Rw.ite (fun _ => rw_one h _ _) (fun z => Rw.ite (fun _ => (rw_one h _ _).th _ _) (fun _ => ?_))
  have z' := bi_0.mp (Decidable.of_not_not z)
  have c1 : isPa m x = true := Decidable.of_not_not (fun q => z' (Or.inl q))
  have c2 : isHb m hb = true := Decidable.of_not_not (fun q => z' (Or.inr q))
  have g := (rw_one h (bi (¬ isPa m x = true ∨ ¬ isHb m hb = true)) 1).th (bi (isOver m x.toNatClampNeg)) 2
  have k : ∀ k, k ≠ 45 → thr (thr m (bi (¬ isPa m x = true ∨ ¬ isHb m hb = true)) 1) (bi (isOver m x.toNatClampNeg)) 2 k = m k := fun k hk => by rw [thrk _ _ _ hk, thrk _ _ _ hk]
  refine g.trans (Rw.gr (scan1_ok g.1 (p := x.toNatClampNeg) ?_ ?_ ?_))
  · rw [npN_ext (k 39 (by omega))]; exact vp_nat (h.isPa.mp c1)
  · rw [nhN_ext (k 37 (by omega))]; exact h.isHb.mp c2
  · rw [logN_ext (k 40 (by omega))]; exact hU
theorem pa_of {m : MM} (h : WFa m) {x : Int32} (z : ¬ ¬ (fNone m x).1 = 0) : x.toNatClampNeg < npN m := by
  have z' := bi_0.mp (Decidable.of_not_not z)
  exact vp_nat (h.isPa.mp (Decidable.of_not_not z'))
theorem ln_of {m : MM} (h : WFa m) {x : Int32} (z : ¬ ¬ (fNoLine m x).1 = 0) : x.toNatClampNeg < nlN m := by
  have z' := bi_0.mp (Decidable.of_not_not z)
  exact vp_nat (h.isLn.mp (Decidable.of_not_not z'))
theorem rw_del {m : MM} (h : WFa m) (hU : logN m + 2 ≤ 2 ^ 21) (x t : Int32) : Rw m (fDel m x t).2 := by
  by_cases z : (fNone m x).1 = 0
  · have hp := pa_of h (fun q => q z)
    obtain ⟨b2, hb2⟩ : ∃ q, q = bi (¬ m 28 x.toNatClampNeg = 115 ∨ ¬ m 15 x.toNatClampNeg = m 14 x.toNatClampNeg) := ⟨_, rfl⟩
    have g := (rw_none h x).th b2 2
    have k : ∀ k, k ≠ 45 → thr (fNone m x).2 b2 2 k = m k := fun k hk => by
      rw [thrk _ _ _ hk]; exact thrk m (bi (¬ isPa m x = true)) 1 hk
    by_cases z2 : b2 = 0
    · have e : fDel m x t = fDel1 (thr (fNone m x).2 b2 2) x.toNatClampNeg t := by
        unfold fDel; dsimp only; rw [if_neg (fun q => q z), ← hb2, if_neg (fun q => q z2)]
      rw [e]
      refine g.trans (Rw.gr (del1_ok g.1 (p := x.toNatClampNeg) ?_ t ?_))
      · rw [npN_ext (k 39 (by omega))]; exact hp
      · rw [logN_ext (k 40 (by omega))]; exact hU
    · have e : fDel m x t = (0, thr (fNone m x).2 b2 2) := by
        unfold fDel; dsimp only; rw [if_neg (fun q => q z), ← hb2, if_pos z2]
      rw [e]; exact g
  · have e : fDel m x t = (0, (fNone m x).2) := by unfold fDel; dsimp only; rw [if_pos z]
    rw [e]; exact rw_none h x
theorem rw_rec {m : MM} (h : WFa m) (hU : logN m + 1 ≤ 2 ^ 21) (x : Int32) : Rw m (fRec m x).2 := by
  by_cases z : (fNone m x).1 = 0
  · have hp := pa_of h (fun q => q z)
    obtain ⟨b2, hb2⟩ : ∃ q, q = bi (¬ m 29 x.toNatClampNeg = 0 ∨ ¬ m 28 x.toNatClampNeg = 115) := ⟨_, rfl⟩
    have g := (rw_none h x).th b2 2
    have k : ∀ k, k ≠ 45 → thr (fNone m x).2 b2 2 k = m k := fun k hk => by
      rw [thrk _ _ _ hk]; exact thrk m (bi (¬ isPa m x = true)) 1 hk
    by_cases z2 : b2 = 0
    · have e : fRec m x = (fTurns (thr (fNone m x).2 b2 2) x.toNatClampNeg 20 x.toNatClampNeg, fTurns (thr (fNone m x).2 b2 2) x.toNatClampNeg) := by
        unfold fRec; dsimp only; rw [if_neg (fun q => q z), ← hb2, if_neg (fun q => q z2)]
      rw [e]
      have hp' : x.toNatClampNeg < npN (thr (fNone m x).2 b2 2) := by rw [npN_ext (k 39 (by omega))]; exact hp
      exact g.trans (Rw.gr ⟨g.1.turns hp' (by rw [logN_ext (k 40 (by omega))]; omega), Gr.turns g.1 hp'⟩)
    · have e : fRec m x = (0, thr (fNone m x).2 b2 2) := by
        unfold fRec; dsimp only; rw [if_neg (fun q => q z), ← hb2, if_pos z2]
      rw [e]; exact g
  · have e : fRec m x = (0, (fNone m x).2) := by unfold fRec; dsimp only; rw [if_pos z]
    rw [e]; exact rw_none h x
theorem rw_pass {m : MM} (h : WFa m) (hU : logN m + 62400 ≤ 2 ^ 21) (x : Int32) : Rw m (fPass m x).2 := by
  refine Rw.ite (fun _ => rw_one h _ _) (fun z => ?_)
  have z' := bi_0.mp (Decidable.of_not_not z)
  have c1 : inn x 1 120 = true := Decidable.of_not_not z'
  have hx : x.toNatClampNeg ≤ 120 := (inn_isN (a := 1) (b := 120) (by omega) (by omega) c1).2.2
  have g := rw_one h (bi (¬ inn x 1 120 = true)) 1
  exact g.trans (Rw.gr (minL_ok x.toNatClampNeg 0 _ g.1 (by rw [logN_ext (thrk m _ _ (by omega))]; omega)))
theorem rw_plA {m m' : MM} (h : Rw m m') : Rw m (fPlansAll m') := h.trans (Rw.key h.1 (fun k hk => plAll_key _ _ m' (by unfold kWF at hk; unfold kTry; omega) (by unfold kWF at hk; omega)))
theorem rw_close {m : MM} (h : WFa m) (x : Int32) : Rw m (fClose m x).2 := by
  refine Rw.ite (fun _ => rw_line h x) (fun z => Rw.ite (fun _ => (rw_line h x).th _ _) (fun _ => ?_))
  have hp := ln_of h z
  have g := (rw_line h x).th (m 9 x.toNatClampNeg) 2
  obtain ⟨M0, hM0⟩ : ∃ q, q = thr (fNoLine m x).2 (m 9 x.toNatClampNeg) 2 := ⟨_, rfl⟩
  have k : nlN M0 = nlN m := nlN_ext (by rw [hM0, thrk _ _ _ (by omega)]; exact (show thr m (bi (¬ isLn m x = true)) 1 38 = m 38 from thrk m _ 1 (by omega)))
  have g1 : Rw m M0 := by rw [hM0]; exact g
  have w := g1.1
  refine (show Rw m (fPlansAll (up (thr (fNoLine m x).2 (m 9 x.toNatClampNeg) 2) 9 x.toNatClampNeg 1)) from ?_)
  rw [← hM0]
  refine rw_plA (g1.trans ⟨w.lset (by omega) (fun z => ?_), ?_⟩)
  · have h9 := w.ln z
    unfold lnOK at *
    rw [show nhN (up M0 9 x.toNatClampNeg 1) = nhN M0 from nhN_ext (up_key (by decide)), up_k (k' := 2) (by decide), up_k (k' := 3) (by decide), up_k (k' := 5) (by decide), up_k (k' := 8) (by decide), up_k (k' := 7) (by decide), up_s]
    exact ⟨h9.1, h9.2.1, h9.2.2.1, h9.2.2.2.1, h9.2.2.2.2.1, Or.inr rfl⟩
  · have e := uC_ext (a := M0) (b := up M0 9 x.toNatClampNeg 1) (up_key (by decide)).symm
    omega
theorem rw_open {m : MM} (h : WFa m) (a b : Int32) : Rw m (fOpen m a b).2 := by
  by_cases c1 : isDg a 1 999 = 0 ∨ ¬ inn b 1 20 = true
  · have e : (fOpen m a b).2 = thr m 1 1 := by simp only [fOpen, bi_t c1]; first | rfl | simp
    rw [e]; exact rw_one h _ _
  · by_cases c2 : ¬ hasCode m a (nhN m) 0 0 = 0 ∨ m 37 0 = 6
    · have e : (fOpen m a b).2 = thr (thr m 0 1) 1 2 := by simp only [fOpen, bi_f c1, bi_t c2]; first | rfl | simp
      rw [e]; exact (rw_one h _ _).th _ _
    · rw [fOpen_eq h c1 c2]
      show Rw m (mOpn (thr (thr m 0 1) 0 2) a b)
      have g := (rw_one h 0 1).th 0 2
      have n6 : nhN m < 6 := by
        rcases Nat.lt_or_eq_of_le h.nh.2 with z | z
        · exact z
        · exact absurd (by rw [h.nh.1, z]; rfl) (fun q => c2 (Or.inr q))
      have e37 : nhN (thr (thr m 0 1) 0 2) = nhN m := nhN_ext (by rw [thrk _ _ _ (by omega), thrk _ _ _ (by omega)])
      have e := uC_ext (a := thr (thr m 0 1) 0 2) (b := mOpn (thr (thr m 0 1) 0 2) a b) (by simp [mOpn, up_key])
      exact g.trans ⟨g.1.opnM (by omega) a b, by omega, by omega⟩
theorem rw_add {m : MM} (h : WFa m) (f t a b c d : Int32) : Rw m (fAddL m f t a b c d).2 := by
  by_cases c1 : isHb m f = true ∧ isHb m t = true
  · by_cases c2 : lineBad f t a b c d
    · have e : (fAddL m f t a b c d).2 = thr (thr m 0 1) 1 2 := by
        have c1' : ¬ (¬ isHb m f = true ∨ ¬ isHb m t = true) := fun z => z.elim (fun z => z c1.1) (fun z => z c1.2)
        simp only [fAddL, bi_f c1', bi_t c2]; first | rfl | simp
      rw [e]; exact (rw_one h _ _).th _ _
    · by_cases c3 : m 38 0 = 12
      · have e : (fAddL m f t a b c d).2 = thr (thr (thr m 0 1) 0 2) 1 3 := by
          have c1' : ¬ (¬ isHb m f = true ∨ ¬ isHb m t = true) := fun z => z.elim (fun z => z c1.1) (fun z => z c1.2)
          simp only [fAddL, bi_f c1', bi_f c2, bi_t c3]; first | rfl | simp
        rw [e]; exact ((rw_one h _ _).th _ _).th _ _
      · rw [fAddL_eq h c1 c2 c3]
        have g := ((rw_one h 0 1).th 0 2).th 0 3
        have n12 : nlN m < 12 := by
          rcases Nat.lt_or_eq_of_le h.nl.2 with z | z
          · exact z
          · exact absurd (by rw [h.nl.1, z]; rfl) c3
        obtain ⟨M0, hM0⟩ : ∃ q, q = thr (thr (thr m 0 1) 0 2) 0 3 := ⟨_, rfl⟩
        have k : ∀ k, k ≠ 45 → M0 k = m k := fun k hk => by rw [hM0, thrk _ _ _ hk, thrk _ _ _ hk, thrk _ _ _ hk]
        rw [← hM0] at g ⊢
        have e37 : nhN M0 = nhN m := nhN_ext (k 37 (by omega))
        have e38 : nlN M0 = nlN m := nlN_ext (k 38 (by omega))
        have hbb : ¬ b = 0 := by
          intro z
          have h1 : inn b 5 60 = true := Decidable.of_not_not (fun q => c2 (Or.inr (Or.inr (Or.inl q))))
          rw [z] at h1
          exact absurd h1 (by decide)
        have hdd : inn d 1 4 = true := Decidable.of_not_not (fun q => c2 (Or.inr (Or.inr (Or.inr (Or.inr q)))))
        have e := uC_ext (a := M0) (b := mAdd M0 f t a b c d) (by simp [mAdd, up_key])
        exact rw_plA (g.trans ⟨g.1.addM (by omega) (by rw [e37]; exact h.isHb.mp c1.1) (by rw [e37]; exact h.isHb.mp c1.2) hbb hdd a c, by omega, by omega⟩)
  · have c1' : ¬ isHb m f = true ∨ ¬ isHb m t = true := if z : isHb m f = true then Or.inr (fun y => c1 ⟨z, y⟩) else Or.inl z
    have e : (fAddL m f t a b c d).2 = thr m 1 1 := by simp only [fAddL, bi_t c1']; first | rfl | simp
    rw [e]; exact rw_one h _ _
theorem rw_acc {m : MM} (h : WFa m) (hU : logN m + 1 ≤ 2 ^ 21) (hb x vol srv : Int32) : Rw m (fAcc m hb x vol srv).2 := by
  by_cases c1 : isHb m hb = true
  · have c1' : ¬ ¬ isHb m hb = true := fun z => z c1
    by_cases c2 : isAd x = 0 ∨ ¬ inn vol 1 9 = true ∨ ¬ inn srv 0 2 = true
    · have e : (fAcc m hb x vol srv).2 = thr (thr m 0 1) 1 2 := by
        simp only [fAcc, bi_f c1', bi_t c2]; first | rfl | simp
      rw [e]; exact (rw_one h _ _).th _ _
    · by_cases c3 : found m x < 0 ∨ m 39 0 = 40
      · have c3' : found (thr (thr m 0 1) 0 2) x < 0 ∨ m 39 0 = 40 := by rw [found_thr, found_thr]; exact c3
        have e : (fAcc m hb x vol srv).2 = thr (thr (thr m 0 1) 0 2) 1 3 := by
          simp only [fAcc, bi_f c1', bi_f c2, bi_t c3']; first | rfl | simp
        rw [e]; exact ((rw_one h _ _).th _ _).th _ _
      · rw [fAcc_eq h c1 c2 c3]
        have g := ((rw_one h 0 1).th 0 2).th 0 3
        have n40 : npN m < 40 := by
          rcases Nat.lt_or_eq_of_le h.np.2 with z | z
          · exact z
          · exact absurd (by rw [h.np.1, z]; rfl) (fun q => c3 (Or.inr q))
        have hd : vp_in (found m x) (nhN m) := (found_in h x).elim (fun z => absurd z (fun q => c3 (Or.inl q))) id
        obtain ⟨M0, hM0⟩ : ∃ q, q = thr (thr (thr m 0 1) 0 2) 0 3 := ⟨_, rfl⟩
        have k : ∀ k, k ≠ 45 → M0 k = m k := fun k hk => by rw [hM0, thrk _ _ _ hk, thrk _ _ _ hk, thrk _ _ _ hk]
        rw [← hM0] at g ⊢
        have e37 : nhN M0 = nhN m := nhN_ext (k 37 (by omega))
        have e39 : npN M0 = npN m := npN_ext (k 39 (by omega))
        have e40 : logN M0 = logN m := logN_ext (k 40 (by omega))
        have w := g.1.accM (by omega) (by rw [e37]; exact h.isHb.mp c1) (by rw [e37]; exact hd) vol srv (m 41 0)
        obtain ⟨a1, a2, a3, a4, a5, a6⟩ := acc_gr M0 hb (found m x) vol srv (m 41 0) (by omega)
        have r1 : Rw m (mAcc M0 hb (found m x) vol srv (m 41 0)) := g.trans ⟨w, by omega, by omega⟩
        obtain ⟨M1, hM1⟩ : ∃ q, q = mAcc M0 hb (found m x) vol srv (m 41 0) := ⟨_, rfl⟩
        rw [← hM1] at r1 w a1 a6 ⊢
        have r2 : Rw m (fProm M1 (npN m)) := r1.trans (Rw.gr ⟨w.prom _, Gr.prom _ _⟩)
        have gp := Gr.prom M1 (npN m)
        have b1 : npN (fProm M1 (npN m)) = npN M1 := gp.1
        have b2 : logN (fProm M1 (npN m)) ≤ logN M1 + 0 := gp.2.2.2.2.2.2
        exact r2.trans (Rw.gr ⟨r2.1.hap (by omega) (by decide) _ (by omega), Gr.hap r2.1 _ _ _⟩)
  · have e : (fAcc m hb x vol srv).2 = thr m 1 1 := by simp only [fAcc, bi_t c1]; first | rfl | simp
    rw [e]; exact rw_one h _ _

