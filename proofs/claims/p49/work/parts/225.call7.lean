/-! the trial of all routes, and the lines of a route -/
theorem pdC_ext {u v : MM} (e : ∀ k, lnKey k → v k = u k) (e108 : v 108 = u 108) : pdC v = pdC u := by
  unfold pdC pdM
  rw [e108, e 2 (by unfold lnKey; omega), e 3 (by unfold lnKey; omega), e 4 (by unfold lnKey; omega), e 5 (by unfold lnKey; omega), e 6 (by unfold lnKey; omega), e 1 (by unfold lnKey; omega), nlN_ext (e 38 (by unfold lnKey; omega))]
theorem cAll0_k (u : MM) (p : Nat) {k : Nat} (h : k < 150 ∨ 154 < k) : cAll0 u p k = u k := by
  unfold cAll0
  rw [up_key (by omega), up_key (by omega), up_key (by omega), up_key (by omega), up_key (by omega)]
theorem try_res {c m : MM} {p : Nat} (h : SL c m) (hm : ML m) (hp : SP c m p) (hP : MP m p) : TB (cAll c p (c 41 0)) (plR m p) := by
  have hk := hP.pkp hm
  have hkc : PKp c p := by
    obtain ⟨k1, k2, k3, k4⟩ := hk
    exact ⟨by rw [hp.1 15 rfl, h.1.1]; exact k1, by rw [hp.1 14 rfl, h.1.1]; exact k2, by rw [hp.1 18 rfl]; exact k3, by rw [h.2.1]; exact k4⟩
  have hL := h.lnk hm.1
  have hb := h.nbl hm.2.1
  have hnh := hL.nh
  have hF := BFix.of hL hb hkc
  have hrd := psP_rd hb hkc
  obtain ⟨p1, p2, p3, p4⟩ := hkc
  have v15 := vp_nI p1 (by omega)
  have v14 := vp_nI p2 (by omega)
  have l15 := vp_nat p1
  obtain ⟨v, hv⟩ : ∃ z, z = cAll0 c p := ⟨_, rfl⟩
  have vk : ∀ k, k < 150 ∨ 154 < k → v k = c k := fun k hk => by rw [hv]; exact cAll0_k c p hk
  have v150 : v 150 0 = nI (vN (c 14 p)) := by rw [hv]; unfold cAll0; simp [up]; exact v14
  have v151 : v 151 0 = -1 := by rw [hv]; unfold cAll0; simp [up]
  have vTB : TB v none := by rw [hv]; unfold cAll0; exact ⟨by simp [up], by simp [up]⟩
  have lk : ∀ k, lnKey k → v k = c k := fun k hk => vk k (by unfold lnKey at hk; omega)
  have hMK := MK.one (t := vN (c 15 p)) (by unfold vN; omega)
  rw [← v15] at hMK
  have ht := hF.2.2.2.2.2
  have q := cTry_dfs (m0 := v) (hL.ext lk) (hb.ext lk) (g := vN (c 14 p)) (by rw [nhN_ext (lk 37 (by unfold lnKey; omega))]; exact vp_nat p2) v150 (s0 := psP c p) hF.U.1 hF.U.2 6 v none (psP c p) [] (1 <<< (c 15 p &&& 31)) (fun _ _ => rfl) vTB (fun z => absurd rfl z) (fun _ => v151) rfl (by rw [nhN_ext (lk 37 (by unfold lnKey; omega))]; exact l15) hMK hF.2.2.2.2.1 (by omega) rfl
  have hpd : pdC v = pdC c := pdC_ext lk (vk 108 (by omega))
  rw [hpd] at q
  have hD : PDok (pdC c) := hF.D
  have hb1 : isBest (pdC c) (psP c p) (vN (c 14 p)) (fun _ => True) (dfs (pdC c) (vN (c 14 p)) 6 none (psP c p) []) := dfs_all hD hF.U.1 hF.U.2
  have e := hp.psp h hk.1
  have hF2 := BFix.of hm.1 hm.2.1 hk
  have hD2 : PDok (pdR m) := pdM_ok hm.1.nl (fun l hl => vp_mono (hm.1.ln hl).2 hm.1.nh) hm.2.1
  have hb2 : isBest (pdR m) (psP m p) (vN (m 14 p)) (fun _ => True) (plR m p) := dfs_all hD2 hF2.U.1 hF2.U.2
  rw [hp.1 14 rfl, e] at hb1 q
  rw [isBest.uniq hD2 ((h.pd hm.1).best hb1) hb2] at q
  have e0 : cAll c p (c 41 0) = cTry 6 0 v (nI (psP m p).1) (nI (psP m p).2.1) (nI (psP m p).2.2.1) (1 <<< (c 15 p &&& 31)) := by
    rw [hv]
    unfold cAll
    rw [← e]
    congr 1
    exact p4.1
  rw [e0]
  exact q.1
theorem TB.hd {u : MM} {b : Option (Nat × List Nat)} (h : TB u b) : u 154 0 = bHd b ∧ u 153 0 = bAr b := by
  cases b with
  | none => exact ⟨h.2, h.1⟩
  | some x =>
    obtain ⟨a, q⟩ := x
    refine ⟨?_, h.1⟩
    rw [h.2.2.2.2]
    cases q <;> rfl
/-! digits of a route's number -/
theorem shr4 : ∀ k, k < 5 → ∀ n, n < 2 ^ 20 → (nI n >>> (nI (4 * k) &&& 31)) &&& 15 = nI (n / 16 ^ k % 16) := by
  intro k hk n hn
  have e : ∀ k, k < 5 → (nI (4 * k) &&& 31) = nI (4 * k) := by decide
  rw [e k hk]
  apply Int32.toBitVec_inj.mp
  apply BitVec.eq_of_toNat_eq
  rw [Int32.toBitVec_and, Int32.toBitVec_shiftRight]
  have hm : (nI n).toBitVec.msb = false := by
    rw [show (nI n).toBitVec = BitVec.ofNat 32 n from rfl, BitVec.msb_eq_false_iff_two_mul_lt, BitVec.toNat_ofNat]
    omega
  have hs : ∀ k, k < 5 → ((nI (4 * k)).toBitVec.smod 32).toNat = 4 * k := by decide
  rw [BitVec.sshiftRight_eq', hs k hk, BitVec.sshiftRight_eq_of_msb_false hm]
  rw [BitVec.toNat_and, BitVec.toNat_ushiftRight]
  rw [show (nI n).toBitVec = BitVec.ofNat 32 n from rfl, BitVec.toNat_ofNat, Nat.mod_eq_of_lt (by omega)]
  rw [show ((15 : Int32).toBitVec).toNat = 2 ^ 4 - 1 from rfl, Nat.and_two_pow_sub_one_eq_mod, Nat.shiftRight_eq_div_pow]
  rw [show (nI (n / 16 ^ k % 16)).toBitVec = BitVec.ofNat 32 (n / 16 ^ k % 16) from rfl, BitVec.toNat_ofNat]
  rw [show (16 : Nat) ^ k = 2 ^ (4 * k) by rw [Nat.pow_mul]]
  have : n / 2 ^ (4 * k) % 16 < 16 := Nat.mod_lt _ (by decide)
  show n / 2 ^ (4 * k) % 16 = _
  omega
theorem code_dig : ∀ (q : List Nat), (∀ l, l ∈ q → l < 16) → ∀ i, i < q.length → pcode q / 16 ^ (q.length - 1 - i) % 16 = q.getD i 0 := by
  refine snoc_ind (fun _ i hi => absurd hi (Nat.not_lt_zero i)) (fun q a ih h i hi => ?_)
  rw [List.length_append, List.length_singleton] at hi ⊢
  rw [code_snoc]
  have ha := h a (by simp)
  by_cases z : i = q.length
  · subst z
    rw [show q.length + 1 - 1 - q.length = 0 by omega, Nat.pow_zero, Nat.div_one]
    simp
    omega
  · have e : q.length + 1 - 1 - i = (q.length - 1 - i) + 1 := by omega
    rw [e, Nat.pow_succ, Nat.mul_comm (16 ^ _) 16, ← Nat.div_div_eq_div_mul, show (pcode q * 16 + a) / 16 = pcode q by omega, ih (fun l hl => h l (by simp [hl])) i (by omega)]
    simp [List.getElem?_append_left (show i < q.length by omega)]
/-! the calls -/
theorem Sim.tried {n : Nat} {c m : MM} (h : Sim n c m) {p : Nat} (hp : p < npN m) : TB (cAll c p (c 41 0)) (plR m p) := by
  have hq := h.1.2.2.1 p hp
  exact try_res h.1.1 h.1.2.1 hq.1 hq.2
theorem cAll_k (u : MM) (p : Nat) (now : Int32) {k : Nat} (h : k < 150 ∨ 154 < k) : cAll u p now k = u k := by
  unfold cAll
  rw [cTry_key _ _ _ _ _ _ _ (by omega), cAll0_k u p h]
theorem Sim.trys {n : Nat} {c m : MM} (h : Sim n c m) {x : Int32} (hX : xSc c x = none) : Sim n (cTr c x) m := by
  unfold cTr
  rw [if_pos hX]
  exact h.noise (fun k hk => cAll_k c _ _ (by omega))
theorem try_no {c : MM} {x : Int32} {e : String} (hX : xSc c x = some e) : cTr c x = c := by
  unfold cTr
  rw [hX]
  exact if_neg (fun q => (nomatch q))
theorem call_nextLineByPaths {n : Nat} {c m : MM} (h : Sim n c m) (hw : WFa m) (hc : WFc c) (x : Int32) : CallOK n [nseC, iseC] (cTr c x) (xSc c x) (cAll c x.toNatClampNeg (c 41 0) 154 0) (fNxP m x) := by
  rcases sc_cases h hw hc x with ⟨z, y, hX, hf⟩ | ⟨e, M, hX, hf, hS, h45, -⟩
  · have h2 := (h.thr 0 1).thr 0 2
    have e : fNxP m x = (fPlan (thr (thr m 0 1) 0 2) x.toNatClampNeg, fLays (thr (thr m 0 1) 0 2) x.toNatClampNeg) := by
      unfold fNxP; simp only; rw [hf]; dsimp only; rw [if_neg (fun q => q rfl)]
    rw [e]
    have hf2 := h2.found (vp_nat (a := npN (thr (thr m 0 1) 0 2)) z)
    have ht2 := (h2.tried (vp_nat (a := npN (thr (thr m 0 1) 0 2)) z)).hd.1
    have hS := (h2.trys (n := n) hX).lays x.toNatClampNeg
    rw [hX]
    refine CallOK.ask ?_ (fun _ => ?_) hS
    · show fLays _ _ 45 0 = 0
      rw [fLays_key _ _ (by unfold kTry; omega), thr45]
      rfl
    · rw [ht2]
      exact hf2.2.2.hd.symm
  · have e2 : fNxP m x = (0, M) := by unfold fNxP; simp only; rw [hf]; dsimp only; rw [if_pos (by decide)]
    rw [e2, try_no hX, hX]
    exact CallOK.ask h45 (fun q => (nomatch q)) hS
theorem call_arrivalByPaths {n : Nat} {c m : MM} (h : Sim n c m) (hw : WFa m) (hc : WFc c) (x : Int32) : CallOK n [nseC, iseC] (cTr c x) (xSc c x) (cAll c x.toNatClampNeg (c 41 0) 153 0) (fArv m x) := by
  rcases sc_cases h hw hc x with ⟨z, y, hX, hf⟩ | ⟨e, M, hX, hf, hS, h45, -⟩
  · have h2 := (h.thr 0 1).thr 0 2
    have e : fArv m x = (if hasP (fLays (thr (thr m 0 1) 0 2) x.toNatClampNeg) then fLays (thr (thr m 0 1) 0 2) x.toNatClampNeg 42 0 else -1, fLays (thr (thr m 0 1) 0 2) x.toNatClampNeg) := by
      unfold fArv; simp only; rw [hf]; dsimp only; rw [if_neg (fun q => q rfl)]
    rw [e]
    have hf2 := h2.found (vp_nat (a := npN (thr (thr m 0 1) 0 2)) z)
    have ht2 := (h2.tried (vp_nat (a := npN (thr (thr m 0 1) 0 2)) z)).hd.2
    have hS := (h2.trys (n := n) hX).lays x.toNatClampNeg
    rw [hX]
    refine CallOK.ask ?_ (fun _ => ?_) hS
    · show fLays _ _ 45 0 = 0
      rw [fLays_key _ _ (by unfold kTry; omega), thr45]
      rfl
    · rw [ht2]
      exact hf2.2.2.ar.symm
  · have e2 : fArv m x = (0, M) := by unfold fArv; simp only; rw [hf]; dsimp only; rw [if_pos (by decide)]
    rw [e2, try_no hX, hX]
    exact CallOK.ask h45 (fun q => (nomatch q)) hS

