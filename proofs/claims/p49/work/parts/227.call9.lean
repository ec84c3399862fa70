/-! the lines of a route -/
theorem plR_run {m : MM} {p : Nat} (hm : ML m) (hP : MP m p) {a : Nat} {q : List Nat} (h : plR m p = some (a, q)) : q.length ≤ 5 ∧ (∀ l, l ∈ q → l < 16) ∧ pcode q < 2 ^ 20 := by
  have hk := hP.pkp hm
  have hF := BFix.of hm.1 hm.2.1 hk
  have hnl := hm.1.nl
  have hD : PDok (pdR m) := pdM_ok hm.1.nl (fun l hl => vp_mono (hm.1.ln hl).2 hm.1.nh) hm.2.1
  have hb : isBest (pdR m) (psP m p) (vN (m 14 p)) (fun _ => True) (plR m p) := dfs_all hD hF.U.1 hF.U.2
  rw [h] at hb
  obtain ⟨⟨t, -, h1, -⟩, -⟩ := hb
  have hlen := run_len hD q _ _ h1
  have h5 := hF.U.1
  have hl5 : q.length ≤ 5 := by omega
  exact ⟨hl5, fun l hl => by have := run_lt q _ _ h1 l hl; have := hD.1; omega, code_small hD h1 hl5⟩
theorem call_pathAt {n : Nat} {c m : MM} (h : Sim n c m) (hw : WFa m) (hc : WFc c) (x i : Int32) : CallOK n [nseC, iseC, iobC] (cSr c x) (xPaA c x i) (cLnA (cBq c x).2 (cBq c x).1.toNatClampNeg i) (fPaA m x i) := by
  rcases sc_cases h hw hc x with ⟨z, y, hX, hf⟩ | ⟨e, M, hX, hf, hS, -, h45⟩
  · have h2 := (h.thr 0 1).thr 0 2
    obtain ⟨N, hN⟩ : ∃ q, q = thr (thr m 0 1) 0 2 := ⟨_, rfl⟩
    rw [← hN] at hf h2
    have kN : ∀ k, k ≠ 45 → N k = m k := fun k hk => by rw [hN, thrk _ _ _ hk, thrk _ _ _ hk]
    have hp2 : x.toNatClampNeg < npN N := by rw [npN_ext (kN 39 (by omega))]; exact vp_nat z
    obtain ⟨f1, f2, f3⟩ := h2.found hp2
    have hS := (h2.srch (n := n) (by rw [npN_ext (kN 39 (by omega))]; exact z) hX).lays x.toNatClampNeg
    obtain ⟨F, hF⟩ : ∃ q, q = fLays N x.toNatClampNeg := ⟨_, rfl⟩
    rw [← hF] at f3 hS
    have e : fPaA m x i = (if ¬ bi (¬ inn i 0 ((if hasP F then F 43 0 else 0) - 1) = true) = 0 then 0 else F 33 i.toNatClampNeg, thr F (bi (¬ inn i 0 ((if hasP F then F 43 0 else 0) - 1) = true)) 3) := by
      unfold fPaA; simp only; rw [hf]; dsimp only; rw [if_neg (fun q => q rfl), hF]
    rw [f3.sz] at e
    have f1' : BRes c (psP N x.toNatClampNeg) (cBq c x) (plR N x.toNatClampNeg) := f1
    have hX2 : xPaA c x i = if ¬ (cBq c x).1 = -1 ∧ ¬ i < 0 ∧ i < (cBq c x).2 133 (cBq c x).1.toNatClampNeg then none else some iobC := by
      unfold xPaA
      rw [hX]
      rfl
    have hno : ∀ R : Int32, xPaA c x i = some iobC → bi (¬ inn i 0 (bSz (plR N x.toNatClampNeg) - 1) = true) = 1 → CallOK n [nseC, iseC, iobC] (cSr c x) (xPaA c x i) R (fPaA m x i) := fun R g1 g2 => by
      rw [e, g1, g2]
      refine CallOK.ask ?_ (fun q => (nomatch q)) (hS.thr _ _)
      dsimp only
      rw [thr45]
      decide
    cases hb : plR N x.toNatClampNeg with
    | none =>
      rw [hb] at f1'
      refine hno _ (by rw [hX2, if_neg (fun q => q.1 f1')]) ?_
      rw [hb]
      refine bi_t (fun q => ?_)
      have q2 := inn_vp (n := 0) (by decide) q
      exact absurd (vp_nat q2) (Nat.not_lt_zero _)
    | some r =>
      obtain ⟨a, q⟩ := r
      obtain ⟨l5, l16, l20⟩ := plR_run h2.1.2.1 (h2.1.2.2.1 _ hp2).2 hb
      rw [hb] at f1' f3
      obtain ⟨v, s, v1, v2, v3, v4, v5⟩ := f1'
      have hv : (cBq c x).1.toNatClampNeg = v := by rw [v2]; exact nI_clamp (by omega)
      have e133 : (cBq c x).2 133 v = nI q.length := v3.2.2.2.1
      have e134 : (cBq c x).2 134 v = nI (pcode q) := v3.2.2.2.2.1
      rw [hv, e133] at hX2
      have hin := inn_iff (x := i) (n := q.length) (by omega)
      by_cases w : vp_in i q.length
      · obtain ⟨ii, hii, ei⟩ := vp_in_of w (by omega)
        have b0 : bi (¬ inn i 0 (nI q.length - 1) = true) = 0 := bi_f (fun y => y (hin.mpr w))
        rw [hb] at e
        rw [show bSz (some (a, q)) = nI q.length from rfl, b0, if_neg (fun y => y rfl)] at e
        rw [e, hX2, if_pos ⟨by rw [v2]; exact nI_nm (by omega), by rw [ei]; exact nI_pos (by omega), by rw [ei]; exact nI_lt hii (by omega)⟩]
        refine CallOK.ask (by dsimp only; rw [thr45, if_pos rfl]; rfl) (fun _ => ?_) (hS.thr _ _)
        dsimp only
        rw [hv, ei, nI_clamp (by omega), f3.2.2.2.2 ii hii]
        unfold cLnA
        rw [e134, e133, show nI q.length - 1 = nI (q.length - 1) from nI_sub (b := 1) (by omega), nI_sub (by omega), show (4 : Int32) = nI 4 from rfl, nI_mul, shr4 _ (by omega) _ l20, code_dig q l16 ii hii]
      · refine hno _ (by rw [hX2, if_neg (fun y => w (vp_of (by omega) y.2.1 y.2.2))]) ?_
        rw [hb]
        exact bi_t (fun y => w (hin.mp y))
  · have e2 : fPaA m x i = (0, M) := by unfold fPaA; simp only; rw [hf]; dsimp only; rw [if_pos (by decide)]
    have hX2 : xPaA c x i = some e := by unfold xPaA; rw [hX]; rfl
    rw [e2, srch_no hX, hX2]
    exact CallOK.ask h45 (fun q => (nomatch q)) hS

