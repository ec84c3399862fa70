/-! bounds of what the states behind deeds and minutes have taken -/
def Bnd (u : MM) : Prop := UC u ≤ 114900 ∧ US u ≤ 424000
theorem lbx_wti (u : MM) (l : Nat) : ∀ k, LB u (wtI l k u)
  | 0 => LB.refl u
  | k + 1 => (lbx_wti u l k).trans LB.wt
theorem lbx_bn {u : MM} {x : Int32} : LB u (cBn u x) := LB.ite (fun _ => (LB.qu.trans (LB.upk (by unfold kSz; decide))).trans (LB.bnL _ _)) (fun _ => LB.refl u)
theorem lbx_ord (u : MM) (l n : Nat) : LB u (ordC l n u) := (lbx_wti u l _).trans lbx_bn
theorem lbx_pas (m : MM) (now : Int32) (u : MM) : ∀ k, LB u (pasC m now k u)
  | 0 => LB.refl u
  | k + 1 => ((lbx_pas m now u k).trans (lbx_ord _ k _)).trans (LB.ite (fun _ => lbx_wti _ k _) (fun _ => LB.refl _))
theorem bd_c {u : MM} (hw : WFc u) : Bnd u := UC_max hw
theorem bd_pas {u : MM} (hw : WFc u) (m : MM) (v : Nat) : Bnd (pasZ m v u) :=
  UC_maxB hw (fun h => ((lbx_pas m (nI (v + 1)) u (nlN m)).trans (LB.psL (nI 1).toNatClampNeg 0 (by rw [(lbx_pas m (nI (v + 1)) u (nlN m) h).2.2.2.1]; exact hw.nl))) h)
theorem bd_scn {u : MM} (hw : WFc u) {x y : Int32} (hp : x.toNatClampNeg < npN u) : Bnd (cScn u x y) :=
  UC_maxB hw (LB.ite (fun _ => LB.mis hp) (fun _ => LB.ite (fun _ => LB.refl u) (fun _ => fun h => ((LB.settle.trans (LB.note (by rw [(LB.settle h).2.2.2.2]; exact hp))).trans LB.plan) h)))
theorem bd_del {u : MM} (hw : WFc u) {x t : Int32} (hp : x.toNatClampNeg < npN u) : Bnd (cDel u x t) :=
  UC_maxB hw (LB.ite (fun _ => LB.fail hp) (fun _ => ((LB.upk (by unfold kSz; decide)).trans (LB.upk (by unfold kSz; decide))).trans (LB.note hp)))
theorem bd_turn {u : MM} (hw : WFc u) {p : Nat} (hp : p < npN u) : Bnd (cTurn u p) := UC_maxB hw (LB.turn hp)
theorem bd_clo {u : MM} (hw : WFc u) (x : Int32) : Bnd (cClo u x) := (gm_clo hw x).2
theorem bd_acc {u : MM} (hw : WFc u) {x ad vol ser : Int32} (hX : xAcc u x ad vol ser = none) : Bnd (cAcc u x ad vol ser) := by
  have g := gm_acc hw x ad vol ser
  rw [if_pos hX] at g
  exact g.2
theorem bd_addL {u : MM} (hw : WFc u) {x y f per tr mb : Int32} (hX : xAdd u x y f per tr mb = none) : Bnd (cAddM u x y f per tr mb) := by
  have g := gm_add hw x y f per tr mb
  rw [if_pos hX] at g
  exact g.2
theorem bd_sr {u : MM} {x : Int32} (h : Bnd u) : Bnd (cSr u x) := by
  unfold Bnd
  rw [(uc_sr u x).1, (uc_sr u x).2]
  exact h
theorem bd_laid {u m : MM} {n : Nat} (hS : Sim n u m) (hw : WFc u) (hm : WFa m) (hk : nlN m < 12) {x y : Nat} (h1 : x < nhN m) (h2 : y < nhN m) (f per tr mb : Int32) : Bnd (cAddM u (nI x) (nI y) f per tr mb) := by
  have n6 := hm.nh.2
  have hn : nlN u < 12 := by rw [hS.1.1.1.2.1]; exact hk
  have hx : (nI x).toNatClampNeg < nhN u := by rw [nI_clamp (by omega), hS.1.1.1.1]; exact h1
  have hy : (nI y).toNatClampNeg < nhN u := by rw [nI_clamp (by omega), hS.1.1.1.1]; exact h2
  have g : Gm u (cAddM u (nI x) (nI y) f per tr mb) := Gm.via (room_lin hw hn).1 (hw.addLn hn hx hy) LB.planA
  exact g.2
