/-! the class's state behind one line's checks -/
theorem lg_bn {u : MM} {x : Int32} : LG u (cBn u x) := LG.ite (fun _ => (LG.qu.trans (LG.upk (by unfold kSz; decide))).trans (LG.bnL _ _)) (fun _ => LG.refl u)
theorem lg_wtI {c : MM} (l : Nat) : ∀ k, LG c (wtI l k c)
  | 0 => LG.refl c
  | k + 1 => (lg_wtI l k).trans LG.wt
theorem lg_wtL {c : MM} (l : Nat) {r k : Nat} (h : r ≤ k) : LG (wtI l r c) (wtI l k c) := by
  obtain ⟨d, rfl⟩ : ∃ d, k = r + d := ⟨k - r, by omega⟩
  rw [← wtI_add]
  exact lg_wtI l d
theorem LG.leU {u v : MM} (h : LG u v) (hw : LW u) : UC u ≤ UC v ∧ US u ≤ US v := (h hw).2.1.le
def oR (r : Nat) : Nat := if r = 0 then 1 else 2 * r
theorem oR_s (r : Nat) : oR (r + 1) = 2 * r + 2 := by unfold oR; rw [if_neg (by omega)]; omega
def ordC (l n : Nat) (c : MM) : MM := cBn (wtI l (oR n + n) c) (nI l)
theorem lg_ord {c : MM} {l n r : Nat} (h : r ≤ oR n + n) : LG (wtI l r c) (ordC l n c) := (lg_wtL l h).trans lg_bn
theorem lg_ord0 {c : MM} {l n : Nat} : LG c (ordC l n c) := lg_ord (r := 0) (Nat.zero_le _)
theorem ord_sim {n : Nat} {c m : MM} (h : Sim n c m) (hw : WFa m) (hc : WFc c) {l k : Nat} (hl : l < nlN m) : Sim n (ordC l k c) m :=
  v_bnS (wtI_sim h hw hc hl _) hw (wtI_wfc hc l _) _
theorem JW.less {E : Nat} {h : AH} {b : BA} {c : MM} {L L' : LNum} {M M' : LRef} (hJ : JW E h b c L' M') (e : ∀ a x, L a = some x → L' a = some x) (e2 : ∀ a x, M a = some x → M' a = some x) : JW E h b c L M :=
  ⟨hJ.1, fun a n f z => hJ.2.1 a n f (e a _ z), fun a n f z => hJ.2.2 a n f (e2 a _ z)⟩
