/-! accepting, closing, laying, opening: the class's calls -/
theorem inn_of {v a b : Nat} (h1 : a ≤ v) (h2 : v ≤ b) (hb : b < 2 ^ 31) : inn (nI v) (nI a) (nI b) = true := inn_t.mpr ⟨nI_nlt h1 (by omega), nI_nlt h2 hb⟩
section LAY
variable {n : Nat} {c m : MM} {p l y : Nat}
theorem thr3 (m : MM) (a b d e f g : Int32) {k : Nat} (hk : k ≠ 45) : thr (thr (thr m a b) d e) f g k = m k := by rw [thrk _ _ _ hk, thrk _ _ _ hk, thrk _ _ _ hk]
theorem IVp.fresh {F : MM} {q : Nat} {v s : Nat} (h11 : F 11 q = nI v) (h12 : F 12 q = nI s) (hv : 1 ≤ v ∧ v ≤ 9) (hs : s ≤ 2) (h28 : F 28 q = 115) (h20 : F 20 q = bAr (plR F q)) (h19 : F 19 q = bHd (plR F q)) (hm : ML F) (hP : MP F q) (h41 : vN (F 41 0) ≤ 70000) (hq : vN (F 18 q) ≤ vN (F 41 0)) : IVp F q := by
  refine ⟨fun _ => by rw [h19]; exact plR_open hm hP, ?_, ?_, ?_, fun z => by rw [h28] at z; exact absurd z (by decide)⟩
  · rw [h20]
    rcases plR_late hm hP hq with e | ⟨a, e, ha⟩
    · exact Or.inl e
    · refine Or.inr ?_
      rw [e]
      unfold isN
      rw [nI_clamp (by omega)]
      exact ⟨rfl, Nat.zero_le _, by omega⟩
  · rw [h11]; unfold isN; rw [nI_clamp (by omega)]; exact ⟨rfl, hv.1, hv.2⟩
  · rw [h12]; unfold isN; rw [nI_clamp (by omega)]; exact ⟨rfl, Nat.zero_le _, hs⟩
theorem d_acc (h : Stt n c m) (hc : WFc c) (hn : n < 512) (hy : y < nhN m) (hnp : npN m < 40) {ad v s d : Nat} (had : ¬ isAd (nI ad) = 0) (hv : 1 ≤ v ∧ v ≤ 9) (hs : s ≤ 2) (hf : found m (nI ad) = nI d) (hd : d < nhN m) :
    xAcc c (nI y) (nI ad) (nI v) (nI s) = none ∧ ∃ m', Stt (n + 1) (cAcc c (nI y) (nI ad) (nI v) (nI s)) m' ∧ AcP m m' (nI y) (nI d) (nI v) (nI s) := by
  obtain ⟨hS, hw, hI⟩ := h
  have nh6 := hw.nh.2
  have hfd := hs_found hS had
  have vy : vp_in (nI y) (nhN m) := vp_in_nI hy (by omega)
  have i9 : inn (nI v) 1 9 = true := inn_of (a := 1) (b := 9) hv.1 hv.2 (by omega)
  have i2 : inn (nI s) 0 2 = true := inn_of (a := 0) (b := 2) (Nat.zero_le _) hs (by omega)
  have hX : xAcc c (nI y) (nI ad) (nI v) (nI s) = none := by
    unfold xAcc
    rw [(hS.hb hc).mpr vy, hfd, hf, hS.1.1.1.2.2]
    show (if _ then _ else _) = none
    rw [if_neg (fun q => q.elim (fun z => had ((adr_eq _).mp z)) (fun q => q.elim (fun z => z i9) (fun z => z i2))), if_neg (fun q => q.elim (fun z => nI_nm (by omega) z) (fun z => z (nI_lt (b := 40) hnp (by omega))))]
  have q := call_accept hS hn hw hc (nI y) (nI ad) (nI v) (nI s) (fun _ => hfd)
  have hL := hS.log hw
  have qw := (rw_acc hw (by omega) (nI y) (nI ad) (nI v) (nI s)).1
  obtain ⟨N, hN⟩ : ∃ N, N = thr (thr (thr m 0 1) 0 2) 0 3 := ⟨_, rfl⟩
  have mk : ∀ k, k ≠ 45 → N k = m k := fun k hk => by rw [hN]; exact thr3 m _ _ _ _ _ _ hk
  have nN : npN N = npN m := npN_ext (mk 39 (by omega))
  have e := fAcc_eq hw (hb := nI y) (x := nI ad) (vol := nI v) (srv := nI s) (hw.isHb.mpr vy) (fun q => q.elim had (fun q => q.elim (fun z => z i9) (fun z => z i2))) (fun q => q.elim (fun z => by rw [hf] at z; exact nI_pos (by omega) z) (fun z => by rw [hw.np.1] at z; have := (nI_eq (b := 40) (by omega) (by omega)).mp z; omega))
  rw [← hN, hf, ← mk 41 (by omega), ← nN] at e
  rw [e, if_pos hX] at q
  rw [e] at qw
  have q2 := q.2.2
  dsimp only at q2 qw
  obtain ⟨F, hF⟩ : ∃ F, F = fHap (fProm (mAcc N (nI y) (nI d) (nI v) (nI s) (N 41 0)) (npN N)) (npN N) 97 (-1) := ⟨_, rfl⟩
  rw [← hF] at q2 qw
  have g39 : npN F = npN m + 1 := by
    have : F 39 0 = nI (npN m + 1) := by
      rw [hF, hap_pk (by omega) (by omega) (by omega) (by omega), fProm_key _ _ (by unfold kTry; omega) (by omega), ← nN]
      simp [mAcc, up]
    unfold npN
    rw [this, nI_clamp (by omega)]
    rfl
  have hpF : npN N < npN F := by rw [g39, nN]; omega
  have hFR : FR N := fun i hi => by
    rw [mk 17 (by omega), mk 22 (by omega), mk 23 (by omega), mk 24 (by omega), mk 26 (by omega), mk 27 (by omega), mk 29 (by omega)]
    exact hS.2.2.2.2.1 i (by rw [← nN]; exact hi)
  have ha := acc_keys hF q2.1.2.1 (q2.1.2.2.1 _ hpF).2 hFR
  unfold AcP at ha
  rw [nN] at ha hpF
  obtain ⟨a1, a2, a3, a4, a5, a6, a7, a8, a9, a10, a11, a12, a13, a14, a15, a16, a17⟩ := ha
  have ha' : AcP m F (nI y) (nI d) (nI v) (nI s) := by
    unfold AcP
    rw [mk 41 (by omega)] at a9 a10 a12
    exact ⟨a1, fun k hk => (a2 k hk).trans (mk k hk.2.1), fun k i hk hi => (a3 k i hk hi).trans (by rw [mk k (by omega)]), a4, a5, a6, a7, a8, a9, a10, a11, a12, a13, a14, a15, a16, a17⟩
  refine ⟨hX, F, ⟨q2, qw, fun i hi => ?_⟩, ha'⟩
  by_cases z : i = npN m
  · subst z
    exact IVp.fresh a4 a5 hv hs a11 a13 a14 q2.1.2.1 (q2.1.2.2.1 _ hpF).2 (min_le q2 (by omega)) (q2.2.2.2.2.2.2.2.2 _ hpF)
  · refine (hI i (by omega)).ext ((a2 38 ⟨by unfold oK; omega, by omega, by omega⟩).trans (mk 38 (by omega))) ((a2 9 ⟨by unfold oK; omega, by omega, by omega⟩).trans (mk 9 (by omega))) (fun k hk => (a3 k i (by omega) z).trans (by rw [mk k (by omega)]))
theorem d_accX (h : Stt n c m) (hc : WFc c) (hy : y < nhN m) {ad v s : Nat} (had : ¬ isAd (nI ad) = 0) (hv : 1 ≤ v ∧ v ≤ 9) (hs : s ≤ 2) (hz : found m (nI ad) < 0 ∨ npN m = 40) : xAcc c (nI y) (nI ad) (nI v) (nI s) = some iseC := by
  obtain ⟨hS, hw, hI⟩ := h
  have nh6 := hw.nh.2
  have hfd := hs_found hS had
  have vy : vp_in (nI y) (nhN m) := vp_in_nI hy (by omega)
  have i9 : inn (nI v) 1 9 = true := inn_of (a := 1) (b := 9) hv.1 hv.2 (by omega)
  have i2 : inn (nI s) 0 2 = true := inn_of (a := 0) (b := 2) (Nat.zero_le _) hs (by omega)
  unfold xAcc
  rw [(hS.hb hc).mpr vy, hS.1.1.1.2.2]
  show (if _ then _ else _) = _
  rw [if_neg (fun q => q.elim (fun z => had ((adr_eq _).mp z)) (fun q => q.elim (fun z => z i9) (fun z => z i2))), if_pos]
  rcases hz with z | z
  · refine Or.inl ?_
    rcases cHs_ok c (nI ad) with e | ⟨w, hw9, e⟩
    · exact e
    · rw [← hfd, e] at z
      have := hc.nh
      exact absurd z (nI_pos (by omega))
  · refine Or.inr ?_
    rw [z]
    exact nI_nlt (Nat.le_refl _) (by omega)
/-- all plans are made anew -/
def ReP (m m' : MM) : Prop := (∀ k, 11 ≤ k ∧ k ≤ 29 → k ≠ 19 → m' k = m k) ∧ ∀ q, m' 19 q = if q < npN m ∧ m 28 q = 115 then bHd (plR m' q) else m 19 q
theorem replan {Y : MM} {n9 : Nat} {c9 : MM} (h2 : Sim n9 c9 (fPlansAll Y)) : ReP Y (fPlansAll Y) := by
  have kk : ∀ k, ¬ kTry k → k ≠ 19 → fPlansAll Y k = Y k := fun k a b => plAll_key _ _ Y a b
  have n3 : npN (fPlansAll Y) = npN Y := npN_ext (kk 39 (by unfold kTry; omega) (by omega))
  refine ⟨fun k hk h19 => kk k (by unfold kTry; omega) h19, fun q => ?_⟩
  have := pl19 h2.1.2.1 (fun q hq => (h2.1.2.2.1 q hq).2) (npN Y) 0 Y (fun j a b => (kk j a b).symm) (by rw [n3]; omega) q
  rw [kk 28 (by unfold kTry; omega) (by omega)] at this
  rw [show fPlansAll Y 19 q = plAll (npN Y) 0 Y 19 q from rfl, this]
  by_cases z : q < npN Y ∧ Y 28 q = 115
  · rw [if_pos z, if_pos ⟨Nat.zero_le _, by omega, z.2⟩]
  · rw [if_neg z, if_neg (fun w => z ⟨by omega, w.2.2⟩)]
theorem IV.re {m m' : MM} (hI : IV m) (hr : ReP m m') (e39 : m' 39 = m 39) {n9 : Nat} {c9 : MM} (h2 : Sim n9 c9 m') : IV m' := by
  intro p hp
  have hp0 := hp
  rw [npN_ext e39] at hp
  obtain ⟨i1, i2, i3, i4, i5⟩ := hI p hp
  obtain ⟨r1, r2⟩ := hr
  refine ⟨fun z => ?_, by rw [r1 20 (by omega) (by omega)]; exact i2, by rw [r1 11 (by omega) (by omega)]; exact i3, by rw [r1 12 (by omega) (by omega)]; exact i4, fun z => by rw [r1 26 (by omega) (by omega)]; rw [r1 28 (by omega) (by omega)] at z; exact i5 z⟩
  rw [r1 28 (by omega) (by omega)] at z
  rw [r2 p, if_pos ⟨hp, z⟩]
  exact plR_open h2.1.2.1 (h2.1.2.2.1 p hp0).2
theorem d_close (h : Stt n c m) (hc : WFc c) (hl : l < nlN m) (h9 : m 9 l = 0) :
    xOpn c (nI l) = none ∧ cCw c (nI l) = waits m (nI l) ∧ ∃ m', Stt (n + 1) (cClo c (nI l)) m' ∧ (∀ k, oK k ∧ k ≠ 45 ∧ k ≠ 9 → m' k = m k) ∧ (∀ i, m' 9 i = if i = l then 1 else m 9 i) ∧ ReP m m' := by
  obtain ⟨hS, hw, hI⟩ := h
  have hX := v_opn hS hw hc hl h9
  have nl12 := hw.nl.2
  have hC := v_lC hw hl
  have q := (call_closeLine hS hw hc (nI l)).2.2
  have qw := (rw_close hw (nI l)).1
  obtain ⟨N, hN⟩ : ∃ N, N = thr (thr m 0 1) (m 9 l) 2 := ⟨_, rfl⟩
  have mk : ∀ k, k ≠ 45 → N k = m k := fun k hk => by rw [hN, thrk _ _ _ hk, thrk _ _ _ hk]
  have e : fClose m (nI l) = (waits m (nI l), fPlansAll (up N 9 l 1)) := by
    rcases ln_cases hS hw hc (nI l) with ⟨z, hX, hf⟩ | ⟨z, hX, hf⟩
    · unfold fClose; simp only; rw [hf]; dsimp only; rw [if_neg (fun q => q rfl), hC, if_neg (fun q => q h9), ← hN]
    · exact absurd (vp_in_nI hl (by omega)) z
  rw [e] at q qw
  dsimp only at q qw
  have hr := replan q
  have kk : ∀ k, ¬ kTry k → k ≠ 19 → fPlansAll (up N 9 l 1) k = up N 9 l 1 k := fun k a b => plAll_key _ _ _ a b
  have hr' : ReP m (fPlansAll (up N 9 l 1)) := by
    obtain ⟨r1, r2⟩ := hr
    refine ⟨fun k hk h19 => by rw [r1 k hk h19, up_key (by omega), mk k (by omega)], fun q => ?_⟩
    rw [r2 q, up_key (show (28 : Nat) ≠ 9 by omega), up_key (show (19 : Nat) ≠ 9 by omega), mk 28 (by omega), mk 19 (by omega), npN_ext (m := N) (up_key (by omega)), npN_ext (mk 39 (by omega))]
  have k39 : fPlansAll (up N 9 l 1) 39 = m 39 := by rw [kk 39 (by unfold kTry; omega) (by omega), up_key (by omega), mk 39 (by omega)]
  refine ⟨hX, v_wait hS _, _, ⟨q, qw, hI.re hr' k39 q⟩, fun k hk => ?_, fun i => ?_, hr'⟩
  · rw [kk k (by have := hk.1; unfold oK at this; unfold kTry; omega) (by have := hk.1; unfold oK at this; omega), up_key hk.2.2, mk k hk.2.1]
  · rw [kk 9 (by unfold kTry; omega) (by omega)]
    by_cases z : i = l
    · rw [z, up_s, if_pos rfl]
    · rw [up_i z, if_neg z, mk 9 (by omega)]
/-- nobody waits for a closed line -/
theorem waits_no (hw : WFa m) (hI : IV m) (hl : l < nlN m) (h9 : ¬ m 9 l = 0) : waits m (nI l) = 0 := by
  have nl12 := hw.nl.2
  have key : ∀ (k p : Nat) (a : Int32), p + k ≤ npN m → cntW m (nI l) k p a = a := by
    intro k
    induction k with
    | zero => intro p a _; rfl
    | succ k ih =>
      intro p a hk
      simp only [cntW]
      rw [ih _ _ (by omega), if_neg (fun z => ?_), Int32.add_zero]
      rcases (hI p (by omega)).1 z.1 with e | ⟨l', hl', e, h9'⟩
      · rw [z.2] at e; exact nI_nm (by omega) e
      · rw [z.2] at e
        have := (nI_eq (by omega) (by omega)).mp e
        subst this
        exact h9 h9'
  exact key _ _ _ (by omega)
def AdP (m m' : MM) (x y f per tr mb : Int32) : Prop :=
  m' 38 0 = nI (nlN m + 1) ∧ (∀ k, oK k ∧ k ≠ 45 ∧ k ≠ 38 ∧ ¬ (2 ≤ k ∧ k ≤ 7) → m' k = m k) ∧ (∀ k i, 2 ≤ k ∧ k ≤ 7 → i ≠ nlN m → m' k i = m k i) ∧ m' 2 (nlN m) = x ∧ m' 3 (nlN m) = y ∧ m' 4 (nlN m) = f ∧ m' 5 (nlN m) = per ∧ m' 6 (nlN m) = tr ∧ m' 7 (nlN m) = mb ∧ ReP m m'
theorem d_add (h : Stt n c m) (hc : WFc c) (hnl : nlN m < 12) {x : Nat} (hx : x < nhN m) (hy : y < nhN m) (hxy : x ≠ y) {f per tr mb : Nat} (hf : f ≤ 59) (hp : 5 ≤ per ∧ per ≤ 60) (ht : 1 ≤ tr ∧ tr ≤ 60) (hb : 1 ≤ mb ∧ mb ≤ 4) :
    xAdd c (nI x) (nI y) (nI f) (nI per) (nI tr) (nI mb) = none ∧ ∃ m', Stt (n + 1) (cAddM c (nI x) (nI y) (nI f) (nI per) (nI tr) (nI mb)) m' ∧ AdP m m' (nI x) (nI y) (nI f) (nI per) (nI tr) (nI mb) := by
  obtain ⟨hS, hw, hI⟩ := h
  have nh6 := hw.nh.2
  have vx : vp_in (nI x) (nhN m) := vp_in_nI hx (by omega)
  have vy : vp_in (nI y) (nhN m) := vp_in_nI hy (by omega)
  have j1 : inn (nI f) 0 59 = true := inn_of (a := 0) (b := 59) (Nat.zero_le _) hf (by omega)
  have j2 : inn (nI per) 5 60 = true := inn_of (a := 5) (b := 60) hp.1 hp.2 (by omega)
  have j3 : inn (nI tr) 1 60 = true := inn_of (a := 1) (b := 60) ht.1 ht.2 (by omega)
  have j4 : inn (nI mb) 1 4 = true := inn_of (a := 1) (b := 4) hb.1 hb.2 (by omega)
  have hne : ¬ nI x = nI y := fun z => hxy ((nI_eq (by omega) (by omega)).mp z)
  have hX : xAdd c (nI x) (nI y) (nI f) (nI per) (nI tr) (nI mb) = none := by
    unfold xAdd
    rw [(hS.hb hc).mpr vx, (hS.hb hc).mpr vy, hS.1.1.1.2.1]
    show (if _ then _ else _) = none
    rw [if_neg (fun z => z ⟨hne, j1, j2, j3, j4⟩), if_neg (fun z => z (nI_lt (b := 12) hnl (by omega)))]
  have q := (call_addLine hS hw hc (nI x) (nI y) (nI f) (nI per) (nI tr) (nI mb)).2.2
  rw [if_pos hX] at q
  have qw := (rw_add hw (nI x) (nI y) (nI f) (nI per) (nI tr) (nI mb)).1
  obtain ⟨N, hN⟩ : ∃ N, N = thr (thr (thr m 0 1) 0 2) 0 3 := ⟨_, rfl⟩
  have mk : ∀ k, k ≠ 45 → N k = m k := fun k hk => by rw [hN]; exact thr3 m _ _ _ _ _ _ hk
  have nN : nlN N = nlN m := nlN_ext (mk 38 (by omega))
  have e := fAddL_eq hw (f := nI x) (t := nI y) (a := nI f) (b := nI per) (c := nI tr) (d := nI mb) ⟨hw.isHb.mpr vx, hw.isHb.mpr vy⟩ (fun z => z.elim hne (fun z => z.elim (fun w => w j1) (fun z => z.elim (fun w => w j2) (fun z => z.elim (fun w => w j3) (fun w => w j4))))) (fun z => by rw [hw.nl.1] at z; have := (nI_eq (b := 12) (by omega) (by omega)).mp z; omega)
  rw [e] at q qw
  dsimp only at q qw
  rw [← hN] at q qw
  obtain ⟨Y, hY⟩ : ∃ Y, Y = mAdd N (nI x) (nI y) (nI f) (nI per) (nI tr) (nI mb) := ⟨_, rfl⟩
  rw [← hY] at q qw
  have kk : ∀ k, ¬ kTry k → k ≠ 19 → fPlansAll Y k = Y k := fun k a b => plAll_key _ _ _ a b
  have yk : ∀ k, k ≠ 38 → ¬ (2 ≤ k ∧ k ≤ 7) → k ≠ 45 → Y k = m k := fun k h38 h27 h45 => by
    rw [hY]
    unfold mAdd
    rw [up_key (by omega), up_key (by omega), up_key (by omega), up_key (by omega), up_key (by omega), up_key (by omega), up_key (by omega), mk k h45]
  have hr := replan q
  have hr' : ReP m (fPlansAll Y) := by
    obtain ⟨r1, r2⟩ := hr
    refine ⟨fun k hk h19 => by rw [r1 k hk h19, yk k (by omega) (by omega) (by omega)], fun q => ?_⟩
    rw [r2 q, yk 28 (by omega) (by omega) (by omega), yk 19 (by omega) (by omega) (by omega), npN_ext (yk 39 (by omega) (by omega) (by omega))]
  have k39 : fPlansAll Y 39 = m 39 := by rw [kk 39 (by unfold kTry; omega) (by omega), yk 39 (by omega) (by omega) (by omega)]
  refine ⟨hX, _, ⟨q, qw, hI.re hr' k39 q⟩, ?_, fun k hk => ?_, fun k i hk hi => ?_, ?_, ?_, ?_, ?_, ?_, ?_, hr'⟩
  · rw [kk 38 (by unfold kTry; omega) (by omega), hY, ← nN]; simp [mAdd, up]
  · rw [kk k (by have := hk.1; unfold oK at this; unfold kTry; omega) (by have := hk.1; unfold oK at this; omega), yk k hk.2.2.1 hk.2.2.2 hk.2.1]
  · rw [kk k (by unfold kTry; omega) (by omega), hY, ← mk k (by omega)]
    have hi2 : i ≠ nlN N := by rw [nN]; exact hi
    have h38 : k ≠ 38 := by omega
    simp [mAdd, up, hi2, h38]
  · rw [kk 2 (by unfold kTry; omega) (by omega), hY, ← nN]; simp [mAdd, up]
  · rw [kk 3 (by unfold kTry; omega) (by omega), hY, ← nN]; simp [mAdd, up]
  · rw [kk 4 (by unfold kTry; omega) (by omega), hY, ← nN]; simp [mAdd, up]
  · rw [kk 5 (by unfold kTry; omega) (by omega), hY, ← nN]; simp [mAdd, up]
  · rw [kk 6 (by unfold kTry; omega) (by omega), hY, ← nN]; simp [mAdd, up]
  · rw [kk 7 (by unfold kTry; omega) (by omega), hY, ← nN]; simp [mAdd, up]
theorem d_addX (h : Stt n c m) (hc : WFc c) (hnl : nlN m = 12) {x : Nat} (hx : x < nhN m) (hy : y < nhN m) (hxy : x ≠ y) {f per tr mb : Nat} (hf : f ≤ 59) (hp : 5 ≤ per ∧ per ≤ 60) (ht : 1 ≤ tr ∧ tr ≤ 60) (hb : 1 ≤ mb ∧ mb ≤ 4) : xAdd c (nI x) (nI y) (nI f) (nI per) (nI tr) (nI mb) = some iseC := by
  obtain ⟨hS, hw, hI⟩ := h
  have nh6 := hw.nh.2
  have vx : vp_in (nI x) (nhN m) := vp_in_nI hx (by omega)
  have vy : vp_in (nI y) (nhN m) := vp_in_nI hy (by omega)
  have hne : ¬ nI x = nI y := fun z => hxy ((nI_eq (by omega) (by omega)).mp z)
  unfold xAdd
  rw [(hS.hb hc).mpr vx, (hS.hb hc).mpr vy, hS.1.1.1.2.1]
  show (if _ then _ else _) = _
  rw [if_neg (fun z => z ⟨hne, inn_of (a := 0) (b := 59) (Nat.zero_le _) hf (by omega), inn_of (a := 5) (b := 60) hp.1 hp.2 (by omega), inn_of (a := 1) (b := 60) ht.1 ht.2 (by omega), inn_of (a := 1) (b := 4) hb.1 hb.2 (by omega)⟩), if_pos (by rw [hnl]; exact nI_nlt (Nat.le_refl _) (by omega))]
end LAY
