/-- arrivalBySimulation -/
theorem cFa_eq {c m : MM} {p : Nat} (h : SL c m) (hm : ML m) (hp : SP c m p) (hP : MP m p) (h18 : vN (m 18 p) ≤ vN (m 41 0)) : (cFa c p (c 41 0)).1 = bAr (plR m p) := by
  have hk := hP.pkp hm
  have hkc : PKp c p := by
    obtain ⟨k1, k2, k3, k4⟩ := hk
    exact ⟨by rw [hp.1 15 rfl, h.1.1]; exact k1, by rw [hp.1 14 rfl, h.1.1]; exact k2, by rw [hp.1 18 rfl]; exact k3, by rw [h.2.1]; exact k4⟩
  have hL := h.lnk hm.1
  have hb := h.nbl hm.2.1
  have nh6 := hL.nh
  have e := hp.psp h hk.1
  have hF2 := BFix.of hm.1 hm.2.1 hk
  have hD2 : PDok (pdR m) := pdM_ok hm.1.nl (fun l hl => vp_mono (hm.1.ln hl).2 hm.1.nh) hm.2.1
  have hb2 : isBest (pdR m) (psP m p) (vN (m 14 p)) (fun _ => True) (plR m p) := dfs_all hD2 hF2.U.1 hF2.U.2
  have hbc := (h.pd hm.1).sym.best hb2
  rw [← e] at hbc
  obtain ⟨k1, k2, k3, k4⟩ := hkc
  have v15 := vp_nI k1 (by omega)
  have v14 := vp_nI k2 (by omega)
  have l15 := vp_nat k1
  have l14 := vp_nat k2
  have e14 : c 14 p = m 14 p := hp.1 14 rfl
  have e18 : c 18 p = m 18 p := hp.1 18 rfl
  have e41 : c 41 0 = m 41 0 := h.2.1
  obtain ⟨s0, hs0⟩ : ∃ z, z = psP c p := ⟨_, rfl⟩
  have s01 : s0.1 = vN (c 15 p) := by rw [hs0]; rfl
  have s02 : s0.2.1 = vN (c 41 0) := by rw [hs0]; rfl
  have hU : UQ c s0 (vN (c 18 p)) := by
    refine ⟨hb, hL, by rw [hs0]; rfl, by rw [hs0]; rfl, ?_⟩
    rw [s02, e18, e41]; exact h18
  have hx0 : s0.1 < nhN c := by rw [s01]; exact l15
  have hn41 : vN (c 41 0) ≤ 2 ^ 17 := k4.2.2
  have hg : vN (m 14 p) = (c 14 p).toNatClampNeg := by rw [e14]
  rw [← hs0] at hbc
  have hnow : c 41 0 = nI s0.2.1 := by rw [s02]; exact k4.1
  obtain ⟨n7, hn7⟩ : ∃ z, z = (700 : Nat) := ⟨_, rfl⟩
  have eC : cFa c p (c 41 0) = if c 15 p = c 14 p then (c 41 0, c) else cFaL p (c 41 0) n7 1 (cFa0 c p) := by rw [hn7]; rfl
  rw [eC]
  have hsok : PSok s0 := by unfold PSok; rw [hU.2.2.2.1]; omega
  by_cases z : c 15 p = c 14 p
  · rw [if_pos z]
    have hgs : s0.1 = vN (m 14 p) := by rw [s01, z, hg]
    obtain ⟨a, q, t', b1, b2, b3, b4, b5⟩ := best_le hbc (q := []) (t := s0) rfl hgs
    have ht := (run_time hU.A q s0 t' hsok b3).2
    rw [b1]
    show c 41 0 = nI a
    rw [hnow]
    have : s0.2.1 = a := by omega
    rw [this]
  · rw [if_neg z]
    have hgs : vN (m 14 p) ≠ s0.1 := fun y => z (by
      rw [v15, v14, ← hg, y, s01])
    have h7 : ∀ a q, plR m p = some (a, q) → a ≤ s0.2.1 + 700 := fun a q hq => by
      rw [hq] at hbc
      obtain ⟨⟨t, -, r1, -, r3⟩, -⟩ := hbc
      have h5 := (plR_run hm hP hq).1
      have := (run_late hU hx0 q t r1).1
      omega
    have hsc : vN (c 18 p) ≤ 2 ^ 17 := k3.2.2
    have hS0 : SRS (cFa0 c p) (stS s0 (vN (c 18 p))) noS := by
      intro x hx
      have f0 : ∀ k, (k = 160 ∨ k = 161) → cFill (cFill c 160) 161 k x = -1 := fun k hk => by
        unfold cFill
        rcases hk with rfl | rfl
        · rw [if_neg (by omega), if_pos ⟨rfl, hx⟩]
        · rw [if_pos ⟨rfl, hx⟩]
      unfold cFa0
      refine ⟨?_, by rw [up_k (by omega), f0 161 (by omega)]; rfl⟩
      show _ = eo (if x = s0.1 then some (vN (c 18 p)) else none)
      by_cases y : x = s0.1
      · have y2 : x = (c 15 p).toNatClampNeg := by rw [y, s01]
        rw [if_pos y, y2, up_s]
        exact k3.1
      · have y2 : ¬ x = (c 15 p).toNatClampNeg := fun w => y (by rw [s01]; exact w)
        rw [if_neg y, up_i y2, f0 160 (by omega)]; rfl
    have hk0 : ∀ k, k ≠ 160 → k ≠ 161 → cFa0 c p k = c k := fun k h1 h2 => by
      unfold cFa0
      rw [up_key h1]
      funext i
      unfold cFill
      rw [if_neg (fun w => h2 w.1), if_neg (fun w => h1 w.1)]
    have hJ := JS.start hU
    have r := cFaL_eq hU hx0 (by omega) hg (by rw [hg]; exact l14) hgs hbc h7 n7 0 (cFa0 c p) _ _ (by omega) hk0 hS0 hJ (fun q t hr ht => by
      have hq : q ≠ [] := fun w => by
        rw [w] at hr
        rw [show t = s0 from hr] at ht
        exact hgs ht.symm
      have h1 := (run_time hU.A q s0 t hsok hr).2
      have h2 : 0 < q.length := List.length_pos_iff.mpr hq
      omega)
    rw [hnow]
    exact r
theorem call_arrivalBySimulation {n : Nat} {c m : MM} (h : Sim n c m) (hw : WFa m) (hc : WFc c) (x : Int32) : CallOK n [nseC, iseC] (cSm c x) (xSc c x) (cFa c x.toNatClampNeg (c 41 0)).1 (fArv m x) := by
  rcases sc_cases h hw hc x with ⟨z, y, hX, hf⟩ | ⟨e, M, hX, hf, hS, h45, -⟩
  · have h2 := (h.thr 0 1).thr 0 2
    obtain ⟨N, hN⟩ : ∃ q, q = thr (thr m 0 1) 0 2 := ⟨_, rfl⟩
    have kN : ∀ k, k ≠ 45 → N k = m k := fun k hk => by rw [hN, thrk _ _ _ hk, thrk _ _ _ hk]
    have e45 : N 45 0 = 0 := by rw [hN, thr45, if_pos rfl]
    rw [← hN] at h2 hf
    have e : fArv m x = (if hasP (fLays N x.toNatClampNeg) then fLays N x.toNatClampNeg 42 0 else -1, fLays N x.toNatClampNeg) := by
      unfold fArv; simp only; rw [hf]; dsimp only; rw [if_neg (fun q => q rfl)]
    have hp2 : x.toNatClampNeg < npN N := by rw [npN_ext (kN 39 (by omega))]; exact vp_nat z
    have hf2 := (h2.found hp2).2.2
    have hq := h2.1.2.2.1 _ hp2
    have eA := cFa_eq h2.1.1 h2.1.2.1 hq.1 hq.2 (h2.2.2.2.2.2.2.2.2 _ hp2)
    have hcs : cSm c x = (cFa c x.toNatClampNeg (c 41 0)).2 := by unfold cSm; rw [if_pos hX]
    have hS : Sim n (cSm c x) N := by
      rw [hcs]
      exact h2.noise (fun k hk => cFa_key c _ _ (by omega) (by omega))
    rw [e, hX, eA]
    refine CallOK.ask ?_ (fun _ => ?_) (hS.lays _)
    · show fLays _ _ 45 0 = 0
      rw [fLays_key _ _ (by unfold kTry; omega), e45]
    · show _ = (if _ then _ else _)
      rw [hf2.ar]
  · have e2 : fArv m x = (0, M) := by unfold fArv; simp only; rw [hf]; dsimp only; rw [if_pos (by decide)]
    have hcs : cSm c x = c := by unfold cSm; rw [hX]; exact if_neg (fun q => (nomatch q))
    rw [e2, hX, hcs]
    exact CallOK.ask h45 (fun q => (nomatch q)) hS

