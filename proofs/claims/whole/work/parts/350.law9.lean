/-! the law's loop: its state, the ends of its cases -/
def lvs0 (b a o oL oD : Nat) (i : Int32) : List (Nat × Value) := [(5, .int i), (4, .ref oD), (3, .ref oL), (2, .ref o), (1, .ref a), (0, .ref b)]
/-- n calls are done: the class shows what the reference shows -/
def LwS (s : State) (G : GT) (cL cD : ClassId) (oL oD a o n : Nat) (H : Heap) (cells slots : Nat) : Prop :=
  ∃ (hc hr : AH) (bb : BA) (c9 mm : MM) (ad : Nat → Nat) (vL vD : Value), LwI s G cL cD oL oD hc hr vL vD H ∧ (RC G.2.2.1 hc bb c9 ∧ WFc c9 ∧ bb 14 0 = a) ∧ (RM hr o ad mm ∧ WFa mm ∧ Sim n c9 mm) ∧ cells ≤ 3100 + 4 * n + UC c9 + uC mm ∧ slots ≤ 17200 + 24 * n + US c9 + uS mm
theorem kodF_ne {e : String} : ∀ (L : List String) (k : Nat), k + L.length < 1000 → ¬ kodF e k L = 0
  | [], _, _ => by unfold kodF; decide
  | a :: L, k, h => by
    have h' : k + (L.length + 1) < 1000 := h
    unfold kodF
    by_cases z : e = a
    · rw [if_pos z]; exact nI_ne0 (by omega) (by omega)
    · rw [if_neg z]; exact kodF_ne L (k + 1) (by omega)
theorem kod_0 {L : List String} {X : Option String} (hL : L.length < 1000) (h : kod L X = 0) : X = none := by
  cases X with
  | none => rfl
  | some e => exact absurd h (kodF_ne L 0 (by omega))
theorem lg_cmp_self (x : Int64) : lg_cmp x x = 0 := by simp [lg_cmp]
/-- the log's row is bounded -/
theorem uC_max {n : Nat} {c m : MM} (h : Sim n c m) (hw : WFa m) (hn : n ≤ 512) : uC m ≤ 90 ∧ uS m ≤ 670000 ∧ logN m ≤ 40960 := by
  have h1 := h.log hw
  have h2 := hw.lg.2.2.2.2.2
  refine ⟨?_, ?_, by omega⟩
  · unfold uC; omega
  · unfold uS; omega
def TailH (t : Nat) : Prop := decode code t = .ok (.aload_n 2, 1) ∧ decode code (t + 1) = .ok (.invokevirtual 165, 3) ∧ decode code (t + 4) = .ok (.iload 6, 2) ∧ decode code (t + 6) = .ok (.if_icmp .eq 5, 3) ∧ decode code (t + 11) = .ok (.iload 6, 2)
def TailI (t : Nat) (off : Int) : Prop := decode code (t + 13) = .ok (.ifCond .ne 15, 3) ∧ decode code (t + 16) = .ok (.aload_n 3, 1) ∧ decode code (t + 17) = .ok (.iconst 0, 1) ∧ decode code (t + 18) = .ok (.laload, 1) ∧ decode code (t + 19) = .ok (.iload 7, 2) ∧ decode code (t + 21) = .ok (.i2l, 1) ∧ decode code (t + 22) = .ok (.lcmp, 1) ∧ decode code (t + 23) = .ok (.ifCond .eq 5, 3) ∧ decode code (t + 28) = .ok (.goto off, 3) ∧ ((t + 28 : Nat) : Int) + off = ((2903 : Nat) : Int)
def TailZ (t : Nat) (off : Int) : Prop := decode code (t + 13) = .ok (.ifCond .ne 22, 3) ∧ decode code (t + 16) = .ok (.aload_n 3, 1) ∧ decode code (t + 17) = .ok (.iconst 0, 1) ∧ decode code (t + 18) = .ok (.laload, 1) ∧ decode code (t + 19) = .ok (.iload 7, 2) ∧ decode code (t + 21) = .ok (.ifCond .eq 7, 3) ∧ decode code (t + 24) = .ok (.lconst 1, 1) ∧ decode code (t + 25) = .ok (.goto 4, 3) ∧ decode code (t + 28) = .ok (.lconst 0, 1) ∧ decode code (t + 29) = .ok (.lcmp, 1) ∧ decode code (t + 30) = .ok (.ifCond .eq 5, 3) ∧ decode code (t + 35) = .ok (.goto off, 3) ∧ ((t + 35 : Nat) : Int) + off = ((2903 : Nat) : Int)
section LAWTAIL
variable {p : Program} {l : Launch} {e : Env} {s : State} {m : MethodId} {below : List Frame} {meth : Method} {c : Code} {b L : Nat} {xs : Nat → Int32} {G : GT} {cL cD : ClassId} {oL oD : Nat} {hc hr : AH} {vL vD : Value} {H : Heap} {cells slots : Nat} {Q : State → Prop} {pc idx : Nat} {ls : Array Slot} {stk rest : List Value} {a o n : Nat}
theorem k_lald (F : LwF p s m c b L xs G cL cD oL oD) (I : LwI s G cL cD oL oD hc hr vL vD H) (hdg : decode code pc = .ok (.laload, 1)) (kk : W p l e room_1 s m #[Value.ref b] below meth c H [] cells slots Q (F0 m (pc + 1) ls (vL :: rest))) : W p l e room_1 s m #[Value.ref b] below meth c H [] cells slots Q (F0 m pc ls (.int 0 :: .ref oL :: rest)) := by
  obtain ⟨⟨hx, hb, -⟩, -, -, hLK, -⟩ := F
  obtain ⟨Ac, Ar, h1, h2, h3, h4, h5, h6, h7⟩ := I
  exact W.lald (j := 0) (v := vL) hx hb h5 (hLK.1.1 1 _) (fun q => by cases q) (by show ¬ ((0 : Int32) < 0 ∨ (arrV _ _ _).slots.size ≤ _); rw [arrV_size]; decide) (by show (arrV _ _ _).slots[_]? = _; rw [arrV_read _ _ (by decide)]) rfl rfl hdg kk
theorem k_dald (F : LwF p s m c b L xs G cL cD oL oD) (I : LwI s G cL cD oL oD hc hr vL vD H) (hdg : decode code pc = .ok (.daload, 1)) (kk : W p l e room_1 s m #[Value.ref b] below meth c H [] cells slots Q (F0 m (pc + 1) ls (vD :: rest))) : W p l e room_1 s m #[Value.ref b] below meth c H [] cells slots Q (F0 m pc ls (.int 0 :: .ref oD :: rest)) := by
  obtain ⟨⟨hx, hb, -⟩, -, -, hLK, -⟩ := F
  obtain ⟨Ac, Ar, h1, h2, h3, h4, h5, h6, h7⟩ := I
  exact W.dald (j := 0) (v := vD) hx hb h6 (hLK.1.2 1 _) (fun q => by cases q) (by show ¬ ((0 : Int32) < 0 ∨ (arrV _ _ _).slots.size ≤ _); rw [arrV_size]; decide) (by show (arrV _ _ _).slots[_]? = _; rw [arrV_read _ _ (by decide)]) rfl rfl hdg kk
/-- an element of the script -/
theorem lw_arg {j q : Nat} {j' : Int} {st : List Value} (F : LwF p s m c b L xs G cL cD oL oD) (I : LwI s G cL cD oL oD hc hr vL vD H) (hj : 7 * n + j < L) (hL : L ≤ 3584) (h0 : ls[0]? = some (.val (.ref b))) (h5 : ls[5]? = some (.val (.int (nI (7 * n))))) (d1 : decode code q = .ok (.aload_n 0, 1)) (d2 : decode code (q + 1) = .ok (.iload 5, 2)) (d3 : decode code (q + 3) = .ok (.iconst j', 1)) (hj' : Int32.ofInt j' = nI j) (d4 : decode code (q + 4) = .ok (.iadd, 1)) (d5 : decode code (q + 5) = .ok (.iaload, 1))
    (kk : W p l e room_1 s m #[Value.ref b] below meth c H [] cells slots Q (F0 m (q + 6) ls (.int (xs (7 * n + j)) :: st))) : W p l e room_1 s m #[Value.ref b] below meth c H [] cells slots Q (F0 m q ls st) := by
  obtain ⟨⟨hx, hb, -⟩, ⟨hX, hbl⟩, -⟩ := F
  obtain ⟨Ac, Ar, -, -, -, -, -, -, h7⟩ := I
  refine lv_aload_n hx hb d1 rfl h0 ?_
  refine lv_iload hx hb d2 h5 ?_
  refine lv_iconst (v := nI j) hx hb d3 hj' ?_
  refine lv_iadd hx hb d4 ?_
  rw [nI_add]
  refine va_sld (A := fun q => s.heap.size ≤ q) hx hb hX hbl (Nat.not_le.mpr hbl) h7 (vp_in_nI hj (by omega)) d5 ?_
  rw [nI_clamp (by omega)]
  exact kk
theorem lw_arg6 {q : Nat} {st : List Value} (F : LwF p s m c b L xs G cL cD oL oD) (I : LwI s G cL cD oL oD hc hr vL vD H) (hj : 7 * n + 6 < L) (hL : L ≤ 3584) (h0 : ls[0]? = some (.val (.ref b))) (h5 : ls[5]? = some (.val (.int (nI (7 * n))))) (d1 : decode code q = .ok (.aload_n 0, 1)) (d2 : decode code (q + 1) = .ok (.iload 5, 2)) (d3 : decode code (q + 3) = .ok (.bipush 6, 2)) (d4 : decode code (q + 5) = .ok (.iadd, 1)) (d5 : decode code (q + 6) = .ok (.iaload, 1))
    (kk : W p l e room_1 s m #[Value.ref b] below meth c H [] cells slots Q (F0 m (q + 7) ls (.int (xs (7 * n + 6)) :: st))) : W p l e room_1 s m #[Value.ref b] below meth c H [] cells slots Q (F0 m q ls st) := by
  obtain ⟨⟨hx, hb, -⟩, ⟨hX, hbl⟩, -⟩ := F
  obtain ⟨Ac, Ar, -, -, -, -, -, -, h7⟩ := I
  refine lv_aload_n hx hb d1 rfl h0 ?_
  refine lv_iload hx hb d2 h5 ?_
  refine lv_bipush (v := nI 6) hx hb d3 (by decide) ?_
  refine lv_iadd hx hb d4 ?_
  rw [nI_add]
  refine va_sld (A := fun q => s.heap.size ≤ q) hx hb hX hbl (Nat.not_le.mpr hbl) h7 (vp_in_nI hj (by omega)) d5 ?_
  rw [nI_clamp (by omega)]
  exact kk
/-- thrown() is what the wrapper answered -/
theorem lw_thr {t : Nat} {k : Int32} {m' : MM} {ad' : Nat → Nat} (F : LwF p s m c b L xs G cL cD oL oD) (I : LwI s G cL cD oL oD hc hr vL vD H) (hM : RM hr o ad' m') (hk : m' 45 0 = k) (hls : ls.size = 9) (h2 : ls[2]? = some (.val (.ref o))) (h6 : ls[6]? = some (.val (.int k))) (D : TailH t) (hf : cells ≤ 603072 ∧ slots ≤ 7207017)
    (kk : ∀ H1, LwI s G cL cD oL oD hc hr vL vD H1 → W p l e room_1 s m #[Value.ref b] below meth c H1 [] cells slots Q (F0 m (t + 13) ls [.int k])) : W p l e room_1 s m #[Value.ref b] below meth c H [] cells slots Q (F0 m t ls []) := by
  have F' := F
  obtain ⟨⟨hx, hb, -⟩, -⟩ := F'
  obtain ⟨d1, d2, d3, d4, d5⟩ := D
  refine lv_aload_n hx hb d1 rfl h2 ?_
  refine k_virtI (As := []) (rest := []) F I.swap (fun A => cM_thrown l G A hr o ad' m' hM) mv_X11_thrown ml_L_165 ci_15 hM.1 rfl ⟨by decide, by decide⟩ hls rfl (by decide) d2 ⟨hf.1, hf.2⟩ (fun r h' H1 hp I1 => ?_)
  obtain ⟨er, eh⟩ := hp
  rw [eh] at I1
  refine lv_iload hx hb d3 h6 ?_
  refine lv_icmp_eq (tgt := t + 11) hx hb d4 (by omega) (fun _ => ?_) (fun z => absurd (er.trans hk) z)
  refine lv_iload hx hb d5 h6 ?_
  exact kk H1 I1.swap
theorem lw_tailI {t : Nat} {off : Int} {k bv i R : Int32} {m' : MM} {ad' : Nat → Nat} {X : Option String} {nms : List String} (F : LwF p s m c b L xs G cL cD oL oD) (I : LwI s G cL cD oL oD hc hr vL vD H) (hM : RM hr o ad' m') (hk : m' 45 0 = k) (ek : k = kod nms X) (hn : nms.length < 1000) (hv : X = none → vL = .long R.toInt64) (hb9 : X = none → R = bv)
    (hl : lv_has ls 9 ((7, .int bv) :: (6, .int k) :: lvs0 b a o oL oD i)) (DH : TailH t) (D : TailI t off) (hf : cells ≤ 603072 ∧ slots ≤ 7207017)
    (K : ∀ H1 ls', LwI s G cL cD oL oD hc hr vL vD H1 → lv_has ls' 9 (lvs0 b a o oL oD i) → W p l e room_1 s m #[Value.ref b] below meth c H1 [] cells slots Q (F0 m 2903 ls' [])) : W p l e room_1 s m #[Value.ref b] below meth c H [] cells slots Q (F0 m t ls []) := by
  have F' := F
  obtain ⟨⟨hx, hb, -⟩, -⟩ := F'
  obtain ⟨d1, d2, d3, d4, d5, d6, d7, d8, d9, hg⟩ := D
  refine lw_thr F I hM hk hl.1 (lv_at hl 5 rfl) (lv_at hl 1 rfl) DH hf (fun H1 I1 => ?_)
  have hl' : lv_has ls 9 (lvs0 b a o oL oD i) := lv_sub hl [2, 3, 4, 5, 6, 7] rfl
  have hend : W p l e room_1 s m #[Value.ref b] below meth c H1 [] cells slots Q (F0 m (t + 28) ls []) := lv_goto (tgt := 2903) hx hb d9 hg (K H1 ls I1 hl')
  refine lv_if_ne (tgt := t + 28) hx hb d1 (by omega) (fun _ => hend) (fun z => ?_)
  have hX := kod_0 hn (ek.symm.trans z)
  refine lv_aload_n hx hb d2 rfl (lv_at hl 4 rfl) ?_
  refine lv_iconst (v := 0) hx hb d3 (by decide) ?_
  refine k_lald F I1 d4 ?_
  rw [hv hX, hb9 hX]
  refine lv_iload hx hb d5 (lv_at hl 0 rfl) ?_
  refine lv_i2l hx hb d6 rfl ?_
  refine W.lcmp hx hb d7 ?_
  rw [lg_cmp_self]
  exact lv_if_eq (tgt := t + 28) hx hb d8 (by omega) (fun _ => hend) (fun z => absurd rfl z)
theorem lw_tailZ {t : Nat} {off : Int} {k bv i R : Int32} {m' : MM} {ad' : Nat → Nat} {X : Option String} {nms : List String} (F : LwF p s m c b L xs G cL cD oL oD) (I : LwI s G cL cD oL oD hc hr vL vD H) (hM : RM hr o ad' m') (hk : m' 45 0 = k) (ek : k = kod nms X) (hn : nms.length < 1000) (hv : X = none → vL = .long (zl R)) (hb9 : X = none → R = bv)
    (hl : lv_has ls 9 ((7, .int bv) :: (6, .int k) :: lvs0 b a o oL oD i)) (DH : TailH t) (D : TailZ t off) (hf : cells ≤ 603072 ∧ slots ≤ 7207017)
    (K : ∀ H1 ls', LwI s G cL cD oL oD hc hr vL vD H1 → lv_has ls' 9 (lvs0 b a o oL oD i) → W p l e room_1 s m #[Value.ref b] below meth c H1 [] cells slots Q (F0 m 2903 ls' [])) : W p l e room_1 s m #[Value.ref b] below meth c H [] cells slots Q (F0 m t ls []) := by
  have F' := F
  obtain ⟨⟨hx, hb, -⟩, -⟩ := F'
  obtain ⟨d1, d2, d3, d4, d5, d6, d7, d8, d9, d10, d11, d12, hg⟩ := D
  refine lw_thr F I hM hk hl.1 (lv_at hl 5 rfl) (lv_at hl 1 rfl) DH hf (fun H1 I1 => ?_)
  have hl' : lv_has ls 9 (lvs0 b a o oL oD i) := lv_sub hl [2, 3, 4, 5, 6, 7] rfl
  have hend : W p l e room_1 s m #[Value.ref b] below meth c H1 [] cells slots Q (F0 m (t + 35) ls []) := lv_goto (tgt := 2903) hx hb d12 hg (K H1 ls I1 hl')
  refine lv_if_ne (tgt := t + 35) hx hb d1 (by omega) (fun _ => hend) (fun z => ?_)
  have hX := kod_0 hn (ek.symm.trans z)
  refine lv_aload_n hx hb d2 rfl (lv_at hl 4 rfl) ?_
  refine lv_iconst (v := 0) hx hb d3 (by decide) ?_
  refine k_lald F I1 d4 ?_
  rw [hv hX, hb9 hX]
  refine lv_iload hx hb d5 (lv_at hl 0 rfl) ?_
  refine lv_if_eq (tgt := t + 28) hx hb d6 (by omega) (fun z => ?_) (fun z => ?_)
  · refine lv_lconst (v := 0) hx hb d9 (by decide) ?_
    refine W.lcmp hx hb d10 ?_
    rw [show zl bv = 0 from if_pos z, lg_cmp_self]
    exact lv_if_eq (tgt := t + 35) hx hb d11 (by omega) (fun _ => hend) (fun z => absurd rfl z)
  · refine lv_lconst (v := 1) hx hb d7 (by decide) ?_
    refine lv_goto (tgt := t + 29) hx hb d8 (by omega) ?_
    refine W.lcmp hx hb d10 ?_
    rw [show zl bv = 1 from if_neg z, lg_cmp_self]
    exact lv_if_eq (tgt := t + 35) hx hb d11 (by omega) (fun _ => hend) (fun z => absurd rfl z)
end LAWTAIL
