/-! a call takes room only once: what the class's state may have taken grows, and is bounded -/
def Gm (u v : MM) : Prop := (UC u ≤ UC v ∧ US u ≤ US v) ∧ UC v ≤ 114900 ∧ US v ≤ 424000
theorem Gm.refl {u : MM} (hw : WFc u) : Gm u u := ⟨⟨Nat.le_refl _, Nat.le_refl _⟩, UC_max hw⟩
theorem Gm.ofB {u v : MM} (hw : WFc u) (h : LB u v) : Gm u v := ⟨(h hw.lw).2.1.1.le, UC_maxB hw h⟩
theorem Gm.via {u v w : MM} (g : Gw u v) (hv : WFc v) (h : LB v w) : Gm u w := by
  obtain ⟨⟨a, b⟩, c⟩ := Gm.ofB hv h
  exact ⟨⟨Nat.le_trans g.le.1 a, Nat.le_trans g.le.2 b⟩, c⟩
theorem gm_ite {u M : MM} {X : Option String} (hw : WFc u) (h : X = none → Gm u M) : Gm u (if X = none then M else u) := by
  by_cases z : X = none
  · rw [if_pos z]; exact h z
  · rw [if_neg z]; exact Gm.refl hw
theorem if_no {c : Prop} [Decidable c] {e : String} {b : Option String} (h : (if c then some e else b) = none) : ¬ c ∧ b = none := by
  by_cases z : c
  · rw [if_pos z] at h; cases h
  · rw [if_neg z] at h; exact ⟨z, h⟩
theorem nI_ltK {n k : Nat} (hk : n ≤ k) (hk2 : k < 2 ^ 31) (h : nI n < nI k) : n < k := (nI_ltI (by omega) hk2).mp h
theorem gm_open {u : MM} (hw : WFc u) (x y : Int32) : Gm u (if xOpH u x y = none then cHb u x y else u) := gm_ite hw (fun hX => by
  unfold xOpH at hX
  obtain ⟨z1, z2⟩ := if_no hX
  obtain ⟨z3, -⟩ := if_no z2
  have z4 : nI (nhN u) < nI 6 := Decidable.of_not_not (fun q => z3 (Or.inr q))
  have hn := nI_ltK hw.nh (by omega) z4
  exact ⟨(room_hub hw hn).1.le, UC_max (hw.addH hn)⟩)
theorem gm_add {u : MM} (hw : WFc u) (x y f per tr mb : Int32) : Gm u (if xAdd u x y f per tr mb = none then cAddM u x y f per tr mb else u) := gm_ite hw (fun hX => by
  unfold xAdd at hX
  obtain ⟨h1, h2⟩ := xo_no hX
  obtain ⟨h3, h4⟩ := xo_no h2
  obtain ⟨z1, z2⟩ := if_no h4
  obtain ⟨z3, -⟩ := if_no z2
  have z4 : nI (nlN u) < nI 12 := Decidable.of_not_not z3
  have hn := nI_ltK hw.nl (by omega) z4
  exact Gm.via (room_lin hw hn).1 (hw.addLn hn (vp_nat ((xHb_n hw).mp h1)) (vp_nat ((xHb_n hw).mp h3))) LB.planA)
theorem gm_acc {u : MM} (hw : WFc u) (x ad vol ser : Int32) : Gm u (if xAcc u x ad vol ser = none then cAcc u x ad vol ser else u) := gm_ite hw (fun hX => by
  unfold xAcc at hX
  obtain ⟨h1, h2⟩ := xo_no hX
  obtain ⟨z1, z2⟩ := if_no h2
  obtain ⟨z3, -⟩ := if_no z2
  have z4 : nI (npN u) < nI 40 := Decidable.of_not_not (fun q => z3 (Or.inr q))
  have hn := nI_ltK hw.np (by omega) z4
  have hx := vp_nat ((xHb_n hw).mp h1)
  have hd : (cHs u ad).toNatClampNeg < nhN u := by
    rcases cHs_ok u ad with q | ⟨v, hv, e⟩
    · exact absurd (Or.inl q) z3
    · have := hw.nh; rw [e, nI_clamp (by omega)]; exact hv
  have w1 := hw.addP (vol := vol) (ser := ser) hn hx hd
  have e39 : npN (cPc u x.toNatClampNeg (cHs u ad).toNatClampNeg vol ser) = npN u + 1 := (npN_ext (cLs_k (by omega) (by omega))).trans (cPc0_n hn).2.2
  have g2 := (LB.settle (u := cPc u x.toNatClampNeg (cHs u ad).toNatClampNeg vol ser) (p := npN u) (x := x) (now := u 41 0)).trans (LB.note (p := npN u) (j := 0) (t := u 41 0) (x := x.toNatClampNeg) (y := -1) (by rw [(LB.settle w1.lw).2.2.2.2, e39]; omega))
  exact Gm.via (room_par hw hn).1 w1 (g2.trans (LB.planP (p := npN u))))
theorem gm_scan {u : MM} (hw : WFc u) (x y : Int32) : Gm u (if xScn u x y = none then cScn u x y else u) := gm_ite hw (fun hX => by
  have hp := vp_nat ((xPa_n hw).mp (xo_no hX).1)
  exact Gm.ofB hw (LB.ite (fun _ => LB.mis hp) (fun _ => LB.ite (fun _ => LB.refl u) (fun _ => fun h => ((LB.settle.trans (LB.note (by rw [(LB.settle h).2.2.2.2]; exact hp))).trans LB.plan) h))))
theorem gm_del {u : MM} (hw : WFc u) (x t : Int32) : Gm u (if xDel u x = none then cDel u x t else u) := gm_ite hw (fun hX => by
  have hp := vp_nat ((xPa_n hw).mp (xo_no hX).1)
  exact Gm.ofB hw (LB.ite (fun _ => LB.fail hp) (fun _ => ((LB.upk (by unfold kSz; decide)).trans (LB.upk (by unfold kSz; decide))).trans (LB.note hp))))
theorem gm_rec {u : MM} (hw : WFc u) (x : Int32) : Gm u (if xRec u x = none then cTurn u x.toNatClampNeg else u) := gm_ite hw (fun hX => by
  have hp := vp_nat ((xPa_n hw).mp (xo_no (xo_no hX).1).1)
  exact Gm.ofB hw (LB.turn hp))
theorem gm_pass {u : MM} (hw : WFc u) (x : Int32) : Gm u (if xPas x = none then (cPsL x.toNatClampNeg 0 u).2 else u) := gm_ite hw (fun _ => Gm.ofB hw (LB.psL x.toNatClampNeg 0 hw.nl))
theorem gm_wt {u : MM} (hw : WFc u) (x : Int32) : Gm u (cWt u x) := Gm.ofB hw LB.wt
theorem gm_bn {u : MM} (hw : WFc u) (x : Int32) : Gm u (cBn u x) := Gm.ofB hw (LB.ite (fun _ => (LB.qu.trans (LB.upk (by unfold kSz; decide))).trans (LB.bnL _ _)) (fun _ => LB.refl u))
theorem gm_clo {u : MM} (hw : WFc u) (x : Int32) : Gm u (cClo u x) := Gm.ofB hw (LB.ite (fun _ => (LB.upk (by unfold kSz; decide)).trans LB.planA) (fun _ => LB.refl u))
theorem gm_sr {u : MM} (hw : WFc u) (x : Int32) : Gm u (cSr u x) := Gm.ofB hw (LB.ite (fun _ => LB.ext (fun k hk => cBp_key u _ _ (by unfold kSz at hk; omega))) (fun _ => LB.refl u))
theorem gm_tr {u : MM} (hw : WFc u) (x : Int32) : Gm u (cTr u x) := Gm.ofB hw (LB.ite (fun _ => LB.ext (fun k hk => cAll_k u _ _ (by unfold kSz at hk; omega))) (fun _ => LB.refl u))
theorem gm_sm {u : MM} (hw : WFc u) (x : Int32) : Gm u (cSm u x) := Gm.ofB hw (LB.ite (fun _ => LB.ext (fun k hk => cFa_key u _ _ (by unfold kSz at hk; omega) (by unfold kSz at hk; omega))) (fun _ => LB.refl u))

