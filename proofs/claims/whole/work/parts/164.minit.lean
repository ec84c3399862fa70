/-! the reference as it is made -/
def m0 : MM := fun k i => if k = 46 ∧ i = 0 then 4000 else 0
def RMp (h : AH) (o : Nat) (ad : Nat → Nat) (n : Nat) : Prop :=
  aK h o = 15 ∧ (∀ j, j < n → aR h j o = some (ad j) ∧ aK h (ad j) = kdM j ∧ aN h (ad j) = lenM m0 j ∧ ∀ i, aI h i (ad j) = 0) ∧ (∀ j, aI h j o = 0) ∧ ∀ i j, i < n → j < n → ad i = ad j → i = j
theorem RMp.step {h : AH} {o : Nat} {ad : Nat → Nat} {n q K N : Nat} (hM : RMp h o ad n) (hq : aK h q = 0) (hK : K = kdM n) (hN : N = lenM m0 n) : RMp (pR (pN h q K N) n o (some q)) o (fun j => if j = n then q else ad j) (n + 1) := by
  obtain ⟨p1, p2, p3, p4⟩ := hM
  have noq : o ≠ q := fun z => by rw [z, hq] at p1; exact absurd p1 (by decide)
  have nad : ∀ j, j < n → ad j ≠ q := fun j hj z => by
    have := (p2 j hj).2.1
    rw [z, hq] at this
    have := kdM_ge j
    omega
  refine ⟨by rw [aK_pR, aK_pN, if_neg noq]; exact p1, fun j hj => ?_, fun j => by rw [aI_pR, aI_pN, if_neg noq]; exact p3 j, fun i j hi hj e => ?_⟩
  · dsimp only
    by_cases z : j = n
    · subst z
      rw [if_pos rfl]
      exact ⟨by rw [aR_pR, if_pos ⟨rfl, rfl⟩], by rw [aK_pR, aK_pN, if_pos rfl]; exact hK, by rw [aN_pR, aN_pN, if_pos rfl]; exact hN, fun i => by rw [aI_pR, aI_pN, if_pos rfl]⟩
    · rw [if_neg z]
      obtain ⟨a1, a2, a3, a4⟩ := p2 j (by omega)
      have nz := nad j (by omega)
      exact ⟨by rw [aR_pR, if_neg (fun w => z w.1), aR_pN, if_neg noq]; exact a1, by rw [aK_pR, aK_pN, if_neg nz]; exact a2, by rw [aN_pR, aN_pN, if_neg nz]; exact a3, fun i => by rw [aI_pR, aI_pN, if_neg nz]; exact a4 i⟩
  · dsimp only at e
    by_cases z : i = n
    · by_cases y : j = n
      · omega
      · rw [if_pos z, if_neg y] at e; exact absurd e.symm (nad j (by omega))
    · by_cases y : j = n
      · rw [if_neg z, if_pos y] at e; exact absurd e (nad i (by omega))
      · rw [if_neg z, if_neg y] at e; exact p4 i j (by omega) (by omega) e
theorem RMp.all {h : AH} {o : Nat} {ad : Nat → Nat} (hM : RMp h o ad 37) : RM h o ad m0 := by
  obtain ⟨p1, p2, p3, p4⟩ := hM
  refine ⟨p1, fun j hj => ?_, fun j h1 h2 => ?_, p4⟩
  · obtain ⟨a1, a2, a3, a4⟩ := p2 j hj
    exact ⟨a1, a2, a3, fun i => by rw [a4]; unfold m0; rw [if_neg (fun z => by omega)]⟩
  · rw [p3]; unfold m0; rw [if_neg (fun z => by omega)]
set_option maxHeartbeats 4000000 in
set_option maxRecDepth 100000 in
theorem cM_init (l : Launch) (G : GT) (A : Nat → Prop) (h : AH) (o : Nat) (hk : aK h o = 15) (hz : ∀ j, aI h j o = 0) : cmV l G A yX11_init cX11_init 1 1 12 37 5088 [.ref (o)] h (fun h' => ∃ ad, RM h' o ad m0) := by
  refine cm_of "RoutepostModel" rfl (by decide) (Nat.le_of_ble_eq_true rfl) ?_
  intro pr e s m9 below meth c C0 hr hname hH ls hl
  obtain ⟨hx, hb, hml, hown, hts, hK, hA, -⟩ := id C0
  have hl : lv_has ls 1 [(0, .ref (o))] := hl
  have hin : meth.name = "<init>" := hname
  have hM : RMp h o (fun _ => 0) 0 := ⟨hk, fun j z => absurd z (by omega), hz, fun i j z => absurd z (by omega)⟩
  obtain ⟨ad, had⟩ : ∃ z, z = (fun _ => 0 : Nat → Nat) := ⟨_, rfl⟩
  rw [← had] at hM
  clear had
  refine lv_aload_n hx hb dX11_init_0 rfl (lv_at hl 0 rfl) ?_
  refine o_objI C0 ml_X11_1 hl.1 dX11_init_1 (Nat.le_of_ble_eq_true rfl) (Nat.le_of_ble_eq_true rfl) ?_
  refine lv_aload_n hx hb dX11_init_4 rfl (lv_at hl 0 rfl) ?_
  refine lv_bipush (v := 6) hx hb dX11_init_5 (by decide) ?_
  refine o_newP (K := 20) (t0 := 0) C0 hH ac_int rfl rfl (by decide) (by decide) (n := 6) (N' := 6) (fun _ => rfl) (by decide) rfl (by decide) (Nat.le_of_ble_eq_true rfl) (Nat.le_of_ble_eq_true rfl) dX11_init_7 (fun q H hq hH => ?_)
  have hko : aK (pN h q 20 6) o = 15 := by rw [aK_pN, if_neg (fun z => by have := hM.1; rw [z, hq] at this; exact absurd this (by decide))]; exact hM.1
  refine o_putFR (x := some q) hx hb hts hown hK hH ci_15 hko (j := 0) rfl rfl fl_X11_9 rfl hin rfl (fun x => by cases x <;> exact ⟨rfl, rfl⟩) dX11_init_9 (fun H locs hH => ?_)
  replace hM := hM.step (K := 20) (N := 6) hq rfl rfl
  obtain ⟨h, eh⟩ : ∃ z, z = pR (pN h q 20 6) 0 o (some q) := ⟨_, rfl⟩
  rw [← eh] at hH hM
  clear eh hko hq
  obtain ⟨ad, had⟩ : ∃ z, z = (fun j => if j = 0 then q else ad j) := ⟨_, rfl⟩
  rw [← had] at hM
  clear had
  refine lv_aload_n hx hb dX11_init_12 rfl (lv_at hl 0 rfl) ?_
  refine lv_bipush (v := 6) hx hb dX11_init_13 (by decide) ?_
  refine o_newP (K := 20) (t0 := 0) C0 hH ac_int rfl rfl (by decide) (by decide) (n := 6) (N' := 6) (fun _ => rfl) (by decide) rfl (by decide) (Nat.le_of_ble_eq_true rfl) (Nat.le_of_ble_eq_true rfl) dX11_init_15 (fun q H hq hH => ?_)
  have hko : aK (pN h q 20 6) o = 15 := by rw [aK_pN, if_neg (fun z => by have := hM.1; rw [z, hq] at this; exact absurd this (by decide))]; exact hM.1
  refine o_putFR (x := some q) hx hb hts hown hK hH ci_15 hko (j := 1) rfl rfl fl_X11_13 rfl hin rfl (fun x => by cases x <;> exact ⟨rfl, rfl⟩) dX11_init_17 (fun H locs hH => ?_)
  replace hM := hM.step (K := 20) (N := 6) hq rfl rfl
  obtain ⟨h, eh⟩ : ∃ z, z = pR (pN h q 20 6) 1 o (some q) := ⟨_, rfl⟩
  rw [← eh] at hH hM
  clear eh hko hq
  obtain ⟨ad, had⟩ : ∃ z, z = (fun j => if j = 1 then q else ad j) := ⟨_, rfl⟩
  rw [← had] at hM
  clear had
  refine lv_aload_n hx hb dX11_init_20 rfl (lv_at hl 0 rfl) ?_
  refine lv_bipush (v := 12) hx hb dX11_init_21 (by decide) ?_
  refine o_newP (K := 20) (t0 := 0) C0 hH ac_int rfl rfl (by decide) (by decide) (n := 12) (N' := 12) (fun _ => rfl) (by decide) rfl (by decide) (Nat.le_of_ble_eq_true rfl) (Nat.le_of_ble_eq_true rfl) dX11_init_23 (fun q H hq hH => ?_)
  have hko : aK (pN h q 20 12) o = 15 := by rw [aK_pN, if_neg (fun z => by have := hM.1; rw [z, hq] at this; exact absurd this (by decide))]; exact hM.1
  refine o_putFR (x := some q) hx hb hts hown hK hH ci_15 hko (j := 2) rfl rfl fl_X11_16 rfl hin rfl (fun x => by cases x <;> exact ⟨rfl, rfl⟩) dX11_init_25 (fun H locs hH => ?_)
  replace hM := hM.step (K := 20) (N := 12) hq rfl rfl
  obtain ⟨h, eh⟩ : ∃ z, z = pR (pN h q 20 12) 2 o (some q) := ⟨_, rfl⟩
  rw [← eh] at hH hM
  clear eh hko hq
  obtain ⟨ad, had⟩ : ∃ z, z = (fun j => if j = 2 then q else ad j) := ⟨_, rfl⟩
  rw [← had] at hM
  clear had
  refine lv_aload_n hx hb dX11_init_28 rfl (lv_at hl 0 rfl) ?_
  refine lv_bipush (v := 12) hx hb dX11_init_29 (by decide) ?_
  refine o_newP (K := 20) (t0 := 0) C0 hH ac_int rfl rfl (by decide) (by decide) (n := 12) (N' := 12) (fun _ => rfl) (by decide) rfl (by decide) (Nat.le_of_ble_eq_true rfl) (Nat.le_of_ble_eq_true rfl) dX11_init_31 (fun q H hq hH => ?_)
  have hko : aK (pN h q 20 12) o = 15 := by rw [aK_pN, if_neg (fun z => by have := hM.1; rw [z, hq] at this; exact absurd this (by decide))]; exact hM.1
  refine o_putFR (x := some q) hx hb hts hown hK hH ci_15 hko (j := 3) rfl rfl fl_X11_19 rfl hin rfl (fun x => by cases x <;> exact ⟨rfl, rfl⟩) dX11_init_33 (fun H locs hH => ?_)
  replace hM := hM.step (K := 20) (N := 12) hq rfl rfl
  obtain ⟨h, eh⟩ : ∃ z, z = pR (pN h q 20 12) 3 o (some q) := ⟨_, rfl⟩
  rw [← eh] at hH hM
  clear eh hko hq
  obtain ⟨ad, had⟩ : ∃ z, z = (fun j => if j = 3 then q else ad j) := ⟨_, rfl⟩
  rw [← had] at hM
  clear had
  refine lv_aload_n hx hb dX11_init_36 rfl (lv_at hl 0 rfl) ?_
  refine lv_bipush (v := 12) hx hb dX11_init_37 (by decide) ?_
  refine o_newP (K := 20) (t0 := 0) C0 hH ac_int rfl rfl (by decide) (by decide) (n := 12) (N' := 12) (fun _ => rfl) (by decide) rfl (by decide) (Nat.le_of_ble_eq_true rfl) (Nat.le_of_ble_eq_true rfl) dX11_init_39 (fun q H hq hH => ?_)
  have hko : aK (pN h q 20 12) o = 15 := by rw [aK_pN, if_neg (fun z => by have := hM.1; rw [z, hq] at this; exact absurd this (by decide))]; exact hM.1
  refine o_putFR (x := some q) hx hb hts hown hK hH ci_15 hko (j := 4) rfl rfl fl_X11_22 rfl hin rfl (fun x => by cases x <;> exact ⟨rfl, rfl⟩) dX11_init_41 (fun H locs hH => ?_)
  replace hM := hM.step (K := 20) (N := 12) hq rfl rfl
  obtain ⟨h, eh⟩ : ∃ z, z = pR (pN h q 20 12) 4 o (some q) := ⟨_, rfl⟩
  rw [← eh] at hH hM
  clear eh hko hq
  obtain ⟨ad, had⟩ : ∃ z, z = (fun j => if j = 4 then q else ad j) := ⟨_, rfl⟩
  rw [← had] at hM
  clear had
  refine lv_aload_n hx hb dX11_init_44 rfl (lv_at hl 0 rfl) ?_
  refine lv_bipush (v := 12) hx hb dX11_init_45 (by decide) ?_
  refine o_newP (K := 20) (t0 := 0) C0 hH ac_int rfl rfl (by decide) (by decide) (n := 12) (N' := 12) (fun _ => rfl) (by decide) rfl (by decide) (Nat.le_of_ble_eq_true rfl) (Nat.le_of_ble_eq_true rfl) dX11_init_47 (fun q H hq hH => ?_)
  have hko : aK (pN h q 20 12) o = 15 := by rw [aK_pN, if_neg (fun z => by have := hM.1; rw [z, hq] at this; exact absurd this (by decide))]; exact hM.1
  refine o_putFR (x := some q) hx hb hts hown hK hH ci_15 hko (j := 5) rfl rfl fl_X11_25 rfl hin rfl (fun x => by cases x <;> exact ⟨rfl, rfl⟩) dX11_init_49 (fun H locs hH => ?_)
  replace hM := hM.step (K := 20) (N := 12) hq rfl rfl
  obtain ⟨h, eh⟩ : ∃ z, z = pR (pN h q 20 12) 5 o (some q) := ⟨_, rfl⟩
  rw [← eh] at hH hM
  clear eh hko hq
  obtain ⟨ad, had⟩ : ∃ z, z = (fun j => if j = 5 then q else ad j) := ⟨_, rfl⟩
  rw [← had] at hM
  clear had
  refine lv_aload_n hx hb dX11_init_52 rfl (lv_at hl 0 rfl) ?_
  refine lv_bipush (v := 12) hx hb dX11_init_53 (by decide) ?_
  refine o_newP (K := 20) (t0 := 0) C0 hH ac_int rfl rfl (by decide) (by decide) (n := 12) (N' := 12) (fun _ => rfl) (by decide) rfl (by decide) (Nat.le_of_ble_eq_true rfl) (Nat.le_of_ble_eq_true rfl) dX11_init_55 (fun q H hq hH => ?_)
  have hko : aK (pN h q 20 12) o = 15 := by rw [aK_pN, if_neg (fun z => by have := hM.1; rw [z, hq] at this; exact absurd this (by decide))]; exact hM.1
  refine o_putFR (x := some q) hx hb hts hown hK hH ci_15 hko (j := 6) rfl rfl fl_X11_28 rfl hin rfl (fun x => by cases x <;> exact ⟨rfl, rfl⟩) dX11_init_57 (fun H locs hH => ?_)
  replace hM := hM.step (K := 20) (N := 12) hq rfl rfl
  obtain ⟨h, eh⟩ : ∃ z, z = pR (pN h q 20 12) 6 o (some q) := ⟨_, rfl⟩
  rw [← eh] at hH hM
  clear eh hko hq
  obtain ⟨ad, had⟩ : ∃ z, z = (fun j => if j = 6 then q else ad j) := ⟨_, rfl⟩
  rw [← had] at hM
  clear had
  refine lv_aload_n hx hb dX11_init_60 rfl (lv_at hl 0 rfl) ?_
  refine lv_bipush (v := 12) hx hb dX11_init_61 (by decide) ?_
  refine o_newP (K := 20) (t0 := 0) C0 hH ac_int rfl rfl (by decide) (by decide) (n := 12) (N' := 12) (fun _ => rfl) (by decide) rfl (by decide) (Nat.le_of_ble_eq_true rfl) (Nat.le_of_ble_eq_true rfl) dX11_init_63 (fun q H hq hH => ?_)
  have hko : aK (pN h q 20 12) o = 15 := by rw [aK_pN, if_neg (fun z => by have := hM.1; rw [z, hq] at this; exact absurd this (by decide))]; exact hM.1
  refine o_putFR (x := some q) hx hb hts hown hK hH ci_15 hko (j := 7) rfl rfl fl_X11_31 rfl hin rfl (fun x => by cases x <;> exact ⟨rfl, rfl⟩) dX11_init_65 (fun H locs hH => ?_)
  replace hM := hM.step (K := 20) (N := 12) hq rfl rfl
  obtain ⟨h, eh⟩ : ∃ z, z = pR (pN h q 20 12) 7 o (some q) := ⟨_, rfl⟩
  rw [← eh] at hH hM
  clear eh hko hq
  obtain ⟨ad, had⟩ : ∃ z, z = (fun j => if j = 7 then q else ad j) := ⟨_, rfl⟩
  rw [← had] at hM
  clear had
  refine lv_aload_n hx hb dX11_init_68 rfl (lv_at hl 0 rfl) ?_
  refine lv_bipush (v := 12) hx hb dX11_init_69 (by decide) ?_
  refine o_newP (K := 20) (t0 := 0) C0 hH ac_int rfl rfl (by decide) (by decide) (n := 12) (N' := 12) (fun _ => rfl) (by decide) rfl (by decide) (Nat.le_of_ble_eq_true rfl) (Nat.le_of_ble_eq_true rfl) dX11_init_71 (fun q H hq hH => ?_)
  have hko : aK (pN h q 20 12) o = 15 := by rw [aK_pN, if_neg (fun z => by have := hM.1; rw [z, hq] at this; exact absurd this (by decide))]; exact hM.1
  refine o_putFR (x := some q) hx hb hts hown hK hH ci_15 hko (j := 8) rfl rfl fl_X11_34 rfl hin rfl (fun x => by cases x <;> exact ⟨rfl, rfl⟩) dX11_init_73 (fun H locs hH => ?_)
  replace hM := hM.step (K := 20) (N := 12) hq rfl rfl
  obtain ⟨h, eh⟩ : ∃ z, z = pR (pN h q 20 12) 8 o (some q) := ⟨_, rfl⟩
  rw [← eh] at hH hM
  clear eh hko hq
  obtain ⟨ad, had⟩ : ∃ z, z = (fun j => if j = 8 then q else ad j) := ⟨_, rfl⟩
  rw [← had] at hM
  clear had
  refine lv_aload_n hx hb dX11_init_76 rfl (lv_at hl 0 rfl) ?_
  refine lv_bipush (v := 12) hx hb dX11_init_77 (by decide) ?_
  refine o_newP (K := 22) (t0 := 2) C0 hH ac_boolean rfl rfl (by decide) (by decide) (n := 12) (N' := 12) (fun _ => rfl) (by decide) rfl (by decide) (Nat.le_of_ble_eq_true rfl) (Nat.le_of_ble_eq_true rfl) dX11_init_79 (fun q H hq hH => ?_)
  have hko : aK (pN h q 22 12) o = 15 := by rw [aK_pN, if_neg (fun z => by have := hM.1; rw [z, hq] at this; exact absurd this (by decide))]; exact hM.1
  refine o_putFR (x := some q) hx hb hts hown hK hH ci_15 hko (j := 9) rfl rfl fl_X11_37 rfl hin rfl (fun x => by cases x <;> exact ⟨rfl, rfl⟩) dX11_init_81 (fun H locs hH => ?_)
  replace hM := hM.step (K := 22) (N := 12) hq rfl rfl
  obtain ⟨h, eh⟩ : ∃ z, z = pR (pN h q 22 12) 9 o (some q) := ⟨_, rfl⟩
  rw [← eh] at hH hM
  clear eh hko hq
  obtain ⟨ad, had⟩ : ∃ z, z = (fun j => if j = 9 then q else ad j) := ⟨_, rfl⟩
  rw [← had] at hM
  clear had
  refine lv_aload_n hx hb dX11_init_84 rfl (lv_at hl 0 rfl) ?_
  refine lv_bipush (v := 48) hx hb dX11_init_85 (by decide) ?_
  refine o_newP (K := 20) (t0 := 0) C0 hH ac_int rfl rfl (by decide) (by decide) (n := 48) (N' := 48) (fun _ => rfl) (by decide) rfl (by decide) (Nat.le_of_ble_eq_true rfl) (Nat.le_of_ble_eq_true rfl) dX11_init_87 (fun q H hq hH => ?_)
  have hko : aK (pN h q 20 48) o = 15 := by rw [aK_pN, if_neg (fun z => by have := hM.1; rw [z, hq] at this; exact absurd this (by decide))]; exact hM.1
  refine o_putFR (x := some q) hx hb hts hown hK hH ci_15 hko (j := 10) rfl rfl fl_X11_41 rfl hin rfl (fun x => by cases x <;> exact ⟨rfl, rfl⟩) dX11_init_89 (fun H locs hH => ?_)
  replace hM := hM.step (K := 20) (N := 48) hq rfl rfl
  obtain ⟨h, eh⟩ : ∃ z, z = pR (pN h q 20 48) 10 o (some q) := ⟨_, rfl⟩
  rw [← eh] at hH hM
  clear eh hko hq
  obtain ⟨ad, had⟩ : ∃ z, z = (fun j => if j = 10 then q else ad j) := ⟨_, rfl⟩
  rw [← had] at hM
  clear had
  refine lv_aload_n hx hb dX11_init_92 rfl (lv_at hl 0 rfl) ?_
  refine lv_bipush (v := 40) hx hb dX11_init_93 (by decide) ?_
  refine o_newP (K := 20) (t0 := 0) C0 hH ac_int rfl rfl (by decide) (by decide) (n := 40) (N' := 40) (fun _ => rfl) (by decide) rfl (by decide) (Nat.le_of_ble_eq_true rfl) (Nat.le_of_ble_eq_true rfl) dX11_init_95 (fun q H hq hH => ?_)
  have hko : aK (pN h q 20 40) o = 15 := by rw [aK_pN, if_neg (fun z => by have := hM.1; rw [z, hq] at this; exact absurd this (by decide))]; exact hM.1
  refine o_putFR (x := some q) hx hb hts hown hK hH ci_15 hko (j := 11) rfl rfl fl_X11_44 rfl hin rfl (fun x => by cases x <;> exact ⟨rfl, rfl⟩) dX11_init_97 (fun H locs hH => ?_)
  replace hM := hM.step (K := 20) (N := 40) hq rfl rfl
  obtain ⟨h, eh⟩ : ∃ z, z = pR (pN h q 20 40) 11 o (some q) := ⟨_, rfl⟩
  rw [← eh] at hH hM
  clear eh hko hq
  obtain ⟨ad, had⟩ : ∃ z, z = (fun j => if j = 11 then q else ad j) := ⟨_, rfl⟩
  rw [← had] at hM
  clear had
  refine lv_aload_n hx hb dX11_init_100 rfl (lv_at hl 0 rfl) ?_
  refine lv_bipush (v := 40) hx hb dX11_init_101 (by decide) ?_
  refine o_newP (K := 20) (t0 := 0) C0 hH ac_int rfl rfl (by decide) (by decide) (n := 40) (N' := 40) (fun _ => rfl) (by decide) rfl (by decide) (Nat.le_of_ble_eq_true rfl) (Nat.le_of_ble_eq_true rfl) dX11_init_103 (fun q H hq hH => ?_)
  have hko : aK (pN h q 20 40) o = 15 := by rw [aK_pN, if_neg (fun z => by have := hM.1; rw [z, hq] at this; exact absurd this (by decide))]; exact hM.1
  refine o_putFR (x := some q) hx hb hts hown hK hH ci_15 hko (j := 12) rfl rfl fl_X11_47 rfl hin rfl (fun x => by cases x <;> exact ⟨rfl, rfl⟩) dX11_init_105 (fun H locs hH => ?_)
  replace hM := hM.step (K := 20) (N := 40) hq rfl rfl
  obtain ⟨h, eh⟩ : ∃ z, z = pR (pN h q 20 40) 12 o (some q) := ⟨_, rfl⟩
  rw [← eh] at hH hM
  clear eh hko hq
  obtain ⟨ad, had⟩ : ∃ z, z = (fun j => if j = 12 then q else ad j) := ⟨_, rfl⟩
  rw [← had] at hM
  clear had
  refine lv_aload_n hx hb dX11_init_108 rfl (lv_at hl 0 rfl) ?_
  refine lv_bipush (v := 40) hx hb dX11_init_109 (by decide) ?_
  refine o_newP (K := 20) (t0 := 0) C0 hH ac_int rfl rfl (by decide) (by decide) (n := 40) (N' := 40) (fun _ => rfl) (by decide) rfl (by decide) (Nat.le_of_ble_eq_true rfl) (Nat.le_of_ble_eq_true rfl) dX11_init_111 (fun q H hq hH => ?_)
  have hko : aK (pN h q 20 40) o = 15 := by rw [aK_pN, if_neg (fun z => by have := hM.1; rw [z, hq] at this; exact absurd this (by decide))]; exact hM.1
  refine o_putFR (x := some q) hx hb hts hown hK hH ci_15 hko (j := 13) rfl rfl fl_X11_50 rfl hin rfl (fun x => by cases x <;> exact ⟨rfl, rfl⟩) dX11_init_113 (fun H locs hH => ?_)
  replace hM := hM.step (K := 20) (N := 40) hq rfl rfl
  obtain ⟨h, eh⟩ : ∃ z, z = pR (pN h q 20 40) 13 o (some q) := ⟨_, rfl⟩
  rw [← eh] at hH hM
  clear eh hko hq
  obtain ⟨ad, had⟩ : ∃ z, z = (fun j => if j = 13 then q else ad j) := ⟨_, rfl⟩
  rw [← had] at hM
  clear had
  refine lv_aload_n hx hb dX11_init_116 rfl (lv_at hl 0 rfl) ?_
  refine lv_bipush (v := 40) hx hb dX11_init_117 (by decide) ?_
  refine o_newP (K := 20) (t0 := 0) C0 hH ac_int rfl rfl (by decide) (by decide) (n := 40) (N' := 40) (fun _ => rfl) (by decide) rfl (by decide) (Nat.le_of_ble_eq_true rfl) (Nat.le_of_ble_eq_true rfl) dX11_init_119 (fun q H hq hH => ?_)
  have hko : aK (pN h q 20 40) o = 15 := by rw [aK_pN, if_neg (fun z => by have := hM.1; rw [z, hq] at this; exact absurd this (by decide))]; exact hM.1
  refine o_putFR (x := some q) hx hb hts hown hK hH ci_15 hko (j := 14) rfl rfl fl_X11_53 rfl hin rfl (fun x => by cases x <;> exact ⟨rfl, rfl⟩) dX11_init_121 (fun H locs hH => ?_)
  replace hM := hM.step (K := 20) (N := 40) hq rfl rfl
  obtain ⟨h, eh⟩ : ∃ z, z = pR (pN h q 20 40) 14 o (some q) := ⟨_, rfl⟩
  rw [← eh] at hH hM
  clear eh hko hq
  obtain ⟨ad, had⟩ : ∃ z, z = (fun j => if j = 14 then q else ad j) := ⟨_, rfl⟩
  rw [← had] at hM
  clear had
  refine lv_aload_n hx hb dX11_init_124 rfl (lv_at hl 0 rfl) ?_
  refine lv_bipush (v := 40) hx hb dX11_init_125 (by decide) ?_
  refine o_newP (K := 20) (t0 := 0) C0 hH ac_int rfl rfl (by decide) (by decide) (n := 40) (N' := 40) (fun _ => rfl) (by decide) rfl (by decide) (Nat.le_of_ble_eq_true rfl) (Nat.le_of_ble_eq_true rfl) dX11_init_127 (fun q H hq hH => ?_)
  have hko : aK (pN h q 20 40) o = 15 := by rw [aK_pN, if_neg (fun z => by have := hM.1; rw [z, hq] at this; exact absurd this (by decide))]; exact hM.1
  refine o_putFR (x := some q) hx hb hts hown hK hH ci_15 hko (j := 15) rfl rfl fl_X11_56 rfl hin rfl (fun x => by cases x <;> exact ⟨rfl, rfl⟩) dX11_init_129 (fun H locs hH => ?_)
  replace hM := hM.step (K := 20) (N := 40) hq rfl rfl
  obtain ⟨h, eh⟩ : ∃ z, z = pR (pN h q 20 40) 15 o (some q) := ⟨_, rfl⟩
  rw [← eh] at hH hM
  clear eh hko hq
  obtain ⟨ad, had⟩ : ∃ z, z = (fun j => if j = 15 then q else ad j) := ⟨_, rfl⟩
  rw [← had] at hM
  clear had
  refine lv_aload_n hx hb dX11_init_132 rfl (lv_at hl 0 rfl) ?_
  refine lv_bipush (v := 40) hx hb dX11_init_133 (by decide) ?_
  refine o_newP (K := 20) (t0 := 0) C0 hH ac_int rfl rfl (by decide) (by decide) (n := 40) (N' := 40) (fun _ => rfl) (by decide) rfl (by decide) (Nat.le_of_ble_eq_true rfl) (Nat.le_of_ble_eq_true rfl) dX11_init_135 (fun q H hq hH => ?_)
  have hko : aK (pN h q 20 40) o = 15 := by rw [aK_pN, if_neg (fun z => by have := hM.1; rw [z, hq] at this; exact absurd this (by decide))]; exact hM.1
  refine o_putFR (x := some q) hx hb hts hown hK hH ci_15 hko (j := 16) rfl rfl fl_X11_59 rfl hin rfl (fun x => by cases x <;> exact ⟨rfl, rfl⟩) dX11_init_137 (fun H locs hH => ?_)
  replace hM := hM.step (K := 20) (N := 40) hq rfl rfl
  obtain ⟨h, eh⟩ : ∃ z, z = pR (pN h q 20 40) 16 o (some q) := ⟨_, rfl⟩
  rw [← eh] at hH hM
  clear eh hko hq
  obtain ⟨ad, had⟩ : ∃ z, z = (fun j => if j = 16 then q else ad j) := ⟨_, rfl⟩
  rw [← had] at hM
  clear had
  refine lv_aload_n hx hb dX11_init_140 rfl (lv_at hl 0 rfl) ?_
  refine lv_bipush (v := 40) hx hb dX11_init_141 (by decide) ?_
  refine o_newP (K := 20) (t0 := 0) C0 hH ac_int rfl rfl (by decide) (by decide) (n := 40) (N' := 40) (fun _ => rfl) (by decide) rfl (by decide) (Nat.le_of_ble_eq_true rfl) (Nat.le_of_ble_eq_true rfl) dX11_init_143 (fun q H hq hH => ?_)
  have hko : aK (pN h q 20 40) o = 15 := by rw [aK_pN, if_neg (fun z => by have := hM.1; rw [z, hq] at this; exact absurd this (by decide))]; exact hM.1
  refine o_putFR (x := some q) hx hb hts hown hK hH ci_15 hko (j := 17) rfl rfl fl_X11_62 rfl hin rfl (fun x => by cases x <;> exact ⟨rfl, rfl⟩) dX11_init_145 (fun H locs hH => ?_)
  replace hM := hM.step (K := 20) (N := 40) hq rfl rfl
  obtain ⟨h, eh⟩ : ∃ z, z = pR (pN h q 20 40) 17 o (some q) := ⟨_, rfl⟩
  rw [← eh] at hH hM
  clear eh hko hq
  obtain ⟨ad, had⟩ : ∃ z, z = (fun j => if j = 17 then q else ad j) := ⟨_, rfl⟩
  rw [← had] at hM
  clear had
  refine lv_aload_n hx hb dX11_init_148 rfl (lv_at hl 0 rfl) ?_
  refine lv_bipush (v := 40) hx hb dX11_init_149 (by decide) ?_
  refine o_newP (K := 20) (t0 := 0) C0 hH ac_int rfl rfl (by decide) (by decide) (n := 40) (N' := 40) (fun _ => rfl) (by decide) rfl (by decide) (Nat.le_of_ble_eq_true rfl) (Nat.le_of_ble_eq_true rfl) dX11_init_151 (fun q H hq hH => ?_)
  have hko : aK (pN h q 20 40) o = 15 := by rw [aK_pN, if_neg (fun z => by have := hM.1; rw [z, hq] at this; exact absurd this (by decide))]; exact hM.1
  refine o_putFR (x := some q) hx hb hts hown hK hH ci_15 hko (j := 18) rfl rfl fl_X11_65 rfl hin rfl (fun x => by cases x <;> exact ⟨rfl, rfl⟩) dX11_init_153 (fun H locs hH => ?_)
  replace hM := hM.step (K := 20) (N := 40) hq rfl rfl
  obtain ⟨h, eh⟩ : ∃ z, z = pR (pN h q 20 40) 18 o (some q) := ⟨_, rfl⟩
  rw [← eh] at hH hM
  clear eh hko hq
  obtain ⟨ad, had⟩ : ∃ z, z = (fun j => if j = 18 then q else ad j) := ⟨_, rfl⟩
  rw [← had] at hM
  clear had
  refine lv_aload_n hx hb dX11_init_156 rfl (lv_at hl 0 rfl) ?_
  refine lv_bipush (v := 40) hx hb dX11_init_157 (by decide) ?_
  refine o_newP (K := 20) (t0 := 0) C0 hH ac_int rfl rfl (by decide) (by decide) (n := 40) (N' := 40) (fun _ => rfl) (by decide) rfl (by decide) (Nat.le_of_ble_eq_true rfl) (Nat.le_of_ble_eq_true rfl) dX11_init_159 (fun q H hq hH => ?_)
  have hko : aK (pN h q 20 40) o = 15 := by rw [aK_pN, if_neg (fun z => by have := hM.1; rw [z, hq] at this; exact absurd this (by decide))]; exact hM.1
  refine o_putFR (x := some q) hx hb hts hown hK hH ci_15 hko (j := 19) rfl rfl fl_X11_68 rfl hin rfl (fun x => by cases x <;> exact ⟨rfl, rfl⟩) dX11_init_161 (fun H locs hH => ?_)
  replace hM := hM.step (K := 20) (N := 40) hq rfl rfl
  obtain ⟨h, eh⟩ : ∃ z, z = pR (pN h q 20 40) 19 o (some q) := ⟨_, rfl⟩
  rw [← eh] at hH hM
  clear eh hko hq
  obtain ⟨ad, had⟩ : ∃ z, z = (fun j => if j = 19 then q else ad j) := ⟨_, rfl⟩
  rw [← had] at hM
  clear had
  refine lv_aload_n hx hb dX11_init_164 rfl (lv_at hl 0 rfl) ?_
  refine lv_bipush (v := 40) hx hb dX11_init_165 (by decide) ?_
  refine o_newP (K := 20) (t0 := 0) C0 hH ac_int rfl rfl (by decide) (by decide) (n := 40) (N' := 40) (fun _ => rfl) (by decide) rfl (by decide) (Nat.le_of_ble_eq_true rfl) (Nat.le_of_ble_eq_true rfl) dX11_init_167 (fun q H hq hH => ?_)
  have hko : aK (pN h q 20 40) o = 15 := by rw [aK_pN, if_neg (fun z => by have := hM.1; rw [z, hq] at this; exact absurd this (by decide))]; exact hM.1
  refine o_putFR (x := some q) hx hb hts hown hK hH ci_15 hko (j := 20) rfl rfl fl_X11_71 rfl hin rfl (fun x => by cases x <;> exact ⟨rfl, rfl⟩) dX11_init_169 (fun H locs hH => ?_)
  replace hM := hM.step (K := 20) (N := 40) hq rfl rfl
  obtain ⟨h, eh⟩ : ∃ z, z = pR (pN h q 20 40) 20 o (some q) := ⟨_, rfl⟩
  rw [← eh] at hH hM
  clear eh hko hq
  obtain ⟨ad, had⟩ : ∃ z, z = (fun j => if j = 20 then q else ad j) := ⟨_, rfl⟩
  rw [← had] at hM
  clear had
  refine lv_aload_n hx hb dX11_init_172 rfl (lv_at hl 0 rfl) ?_
  refine lv_bipush (v := 40) hx hb dX11_init_173 (by decide) ?_
  refine o_newP (K := 20) (t0 := 0) C0 hH ac_int rfl rfl (by decide) (by decide) (n := 40) (N' := 40) (fun _ => rfl) (by decide) rfl (by decide) (Nat.le_of_ble_eq_true rfl) (Nat.le_of_ble_eq_true rfl) dX11_init_175 (fun q H hq hH => ?_)
  have hko : aK (pN h q 20 40) o = 15 := by rw [aK_pN, if_neg (fun z => by have := hM.1; rw [z, hq] at this; exact absurd this (by decide))]; exact hM.1
  refine o_putFR (x := some q) hx hb hts hown hK hH ci_15 hko (j := 21) rfl rfl fl_X11_74 rfl hin rfl (fun x => by cases x <;> exact ⟨rfl, rfl⟩) dX11_init_177 (fun H locs hH => ?_)
  replace hM := hM.step (K := 20) (N := 40) hq rfl rfl
  obtain ⟨h, eh⟩ : ∃ z, z = pR (pN h q 20 40) 21 o (some q) := ⟨_, rfl⟩
  rw [← eh] at hH hM
  clear eh hko hq
  obtain ⟨ad, had⟩ : ∃ z, z = (fun j => if j = 21 then q else ad j) := ⟨_, rfl⟩
  rw [← had] at hM
  clear had
  refine lv_aload_n hx hb dX11_init_180 rfl (lv_at hl 0 rfl) ?_
  refine lv_bipush (v := 40) hx hb dX11_init_181 (by decide) ?_
  refine o_newP (K := 20) (t0 := 0) C0 hH ac_int rfl rfl (by decide) (by decide) (n := 40) (N' := 40) (fun _ => rfl) (by decide) rfl (by decide) (Nat.le_of_ble_eq_true rfl) (Nat.le_of_ble_eq_true rfl) dX11_init_183 (fun q H hq hH => ?_)
  have hko : aK (pN h q 20 40) o = 15 := by rw [aK_pN, if_neg (fun z => by have := hM.1; rw [z, hq] at this; exact absurd this (by decide))]; exact hM.1
  refine o_putFR (x := some q) hx hb hts hown hK hH ci_15 hko (j := 22) rfl rfl fl_X11_77 rfl hin rfl (fun x => by cases x <;> exact ⟨rfl, rfl⟩) dX11_init_185 (fun H locs hH => ?_)
  replace hM := hM.step (K := 20) (N := 40) hq rfl rfl
  obtain ⟨h, eh⟩ : ∃ z, z = pR (pN h q 20 40) 22 o (some q) := ⟨_, rfl⟩
  rw [← eh] at hH hM
  clear eh hko hq
  obtain ⟨ad, had⟩ : ∃ z, z = (fun j => if j = 22 then q else ad j) := ⟨_, rfl⟩
  rw [← had] at hM
  clear had
  refine lv_aload_n hx hb dX11_init_188 rfl (lv_at hl 0 rfl) ?_
  refine lv_bipush (v := 40) hx hb dX11_init_189 (by decide) ?_
  refine o_newP (K := 20) (t0 := 0) C0 hH ac_int rfl rfl (by decide) (by decide) (n := 40) (N' := 40) (fun _ => rfl) (by decide) rfl (by decide) (Nat.le_of_ble_eq_true rfl) (Nat.le_of_ble_eq_true rfl) dX11_init_191 (fun q H hq hH => ?_)
  have hko : aK (pN h q 20 40) o = 15 := by rw [aK_pN, if_neg (fun z => by have := hM.1; rw [z, hq] at this; exact absurd this (by decide))]; exact hM.1
  refine o_putFR (x := some q) hx hb hts hown hK hH ci_15 hko (j := 23) rfl rfl fl_X11_80 rfl hin rfl (fun x => by cases x <;> exact ⟨rfl, rfl⟩) dX11_init_193 (fun H locs hH => ?_)
  replace hM := hM.step (K := 20) (N := 40) hq rfl rfl
  obtain ⟨h, eh⟩ : ∃ z, z = pR (pN h q 20 40) 23 o (some q) := ⟨_, rfl⟩
  rw [← eh] at hH hM
  clear eh hko hq
  obtain ⟨ad, had⟩ : ∃ z, z = (fun j => if j = 23 then q else ad j) := ⟨_, rfl⟩
  rw [← had] at hM
  clear had
  refine lv_aload_n hx hb dX11_init_196 rfl (lv_at hl 0 rfl) ?_
  refine lv_bipush (v := 40) hx hb dX11_init_197 (by decide) ?_
  refine o_newP (K := 20) (t0 := 0) C0 hH ac_int rfl rfl (by decide) (by decide) (n := 40) (N' := 40) (fun _ => rfl) (by decide) rfl (by decide) (Nat.le_of_ble_eq_true rfl) (Nat.le_of_ble_eq_true rfl) dX11_init_199 (fun q H hq hH => ?_)
  have hko : aK (pN h q 20 40) o = 15 := by rw [aK_pN, if_neg (fun z => by have := hM.1; rw [z, hq] at this; exact absurd this (by decide))]; exact hM.1
  refine o_putFR (x := some q) hx hb hts hown hK hH ci_15 hko (j := 24) rfl rfl fl_X11_83 rfl hin rfl (fun x => by cases x <;> exact ⟨rfl, rfl⟩) dX11_init_201 (fun H locs hH => ?_)
  replace hM := hM.step (K := 20) (N := 40) hq rfl rfl
  obtain ⟨h, eh⟩ : ∃ z, z = pR (pN h q 20 40) 24 o (some q) := ⟨_, rfl⟩
  rw [← eh] at hH hM
  clear eh hko hq
  obtain ⟨ad, had⟩ : ∃ z, z = (fun j => if j = 24 then q else ad j) := ⟨_, rfl⟩
  rw [← had] at hM
  clear had
  refine lv_aload_n hx hb dX11_init_204 rfl (lv_at hl 0 rfl) ?_
  refine lv_bipush (v := 40) hx hb dX11_init_205 (by decide) ?_
  refine o_newP (K := 20) (t0 := 0) C0 hH ac_int rfl rfl (by decide) (by decide) (n := 40) (N' := 40) (fun _ => rfl) (by decide) rfl (by decide) (Nat.le_of_ble_eq_true rfl) (Nat.le_of_ble_eq_true rfl) dX11_init_207 (fun q H hq hH => ?_)
  have hko : aK (pN h q 20 40) o = 15 := by rw [aK_pN, if_neg (fun z => by have := hM.1; rw [z, hq] at this; exact absurd this (by decide))]; exact hM.1
  refine o_putFR (x := some q) hx hb hts hown hK hH ci_15 hko (j := 25) rfl rfl fl_X11_86 rfl hin rfl (fun x => by cases x <;> exact ⟨rfl, rfl⟩) dX11_init_209 (fun H locs hH => ?_)
  replace hM := hM.step (K := 20) (N := 40) hq rfl rfl
  obtain ⟨h, eh⟩ : ∃ z, z = pR (pN h q 20 40) 25 o (some q) := ⟨_, rfl⟩
  rw [← eh] at hH hM
  clear eh hko hq
  obtain ⟨ad, had⟩ : ∃ z, z = (fun j => if j = 25 then q else ad j) := ⟨_, rfl⟩
  rw [← had] at hM
  clear had
  refine lv_aload_n hx hb dX11_init_212 rfl (lv_at hl 0 rfl) ?_
  refine lv_bipush (v := 40) hx hb dX11_init_213 (by decide) ?_
  refine o_newP (K := 20) (t0 := 0) C0 hH ac_int rfl rfl (by decide) (by decide) (n := 40) (N' := 40) (fun _ => rfl) (by decide) rfl (by decide) (Nat.le_of_ble_eq_true rfl) (Nat.le_of_ble_eq_true rfl) dX11_init_215 (fun q H hq hH => ?_)
  have hko : aK (pN h q 20 40) o = 15 := by rw [aK_pN, if_neg (fun z => by have := hM.1; rw [z, hq] at this; exact absurd this (by decide))]; exact hM.1
  refine o_putFR (x := some q) hx hb hts hown hK hH ci_15 hko (j := 26) rfl rfl fl_X11_89 rfl hin rfl (fun x => by cases x <;> exact ⟨rfl, rfl⟩) dX11_init_217 (fun H locs hH => ?_)
  replace hM := hM.step (K := 20) (N := 40) hq rfl rfl
  obtain ⟨h, eh⟩ : ∃ z, z = pR (pN h q 20 40) 26 o (some q) := ⟨_, rfl⟩
  rw [← eh] at hH hM
  clear eh hko hq
  obtain ⟨ad, had⟩ : ∃ z, z = (fun j => if j = 26 then q else ad j) := ⟨_, rfl⟩
  rw [← had] at hM
  clear had
  refine lv_aload_n hx hb dX11_init_220 rfl (lv_at hl 0 rfl) ?_
  refine lv_bipush (v := 40) hx hb dX11_init_221 (by decide) ?_
  refine o_newP (K := 20) (t0 := 0) C0 hH ac_int rfl rfl (by decide) (by decide) (n := 40) (N' := 40) (fun _ => rfl) (by decide) rfl (by decide) (Nat.le_of_ble_eq_true rfl) (Nat.le_of_ble_eq_true rfl) dX11_init_223 (fun q H hq hH => ?_)
  have hko : aK (pN h q 20 40) o = 15 := by rw [aK_pN, if_neg (fun z => by have := hM.1; rw [z, hq] at this; exact absurd this (by decide))]; exact hM.1
  refine o_putFR (x := some q) hx hb hts hown hK hH ci_15 hko (j := 27) rfl rfl fl_X11_92 rfl hin rfl (fun x => by cases x <;> exact ⟨rfl, rfl⟩) dX11_init_225 (fun H locs hH => ?_)
  replace hM := hM.step (K := 20) (N := 40) hq rfl rfl
  obtain ⟨h, eh⟩ : ∃ z, z = pR (pN h q 20 40) 27 o (some q) := ⟨_, rfl⟩
  rw [← eh] at hH hM
  clear eh hko hq
  obtain ⟨ad, had⟩ : ∃ z, z = (fun j => if j = 27 then q else ad j) := ⟨_, rfl⟩
  rw [← had] at hM
  clear had
  refine lv_aload_n hx hb dX11_init_228 rfl (lv_at hl 0 rfl) ?_
  refine lv_bipush (v := 40) hx hb dX11_init_229 (by decide) ?_
  refine o_newP (K := 21) (t0 := 1) C0 hH ac_char rfl rfl (by decide) (by decide) (n := 40) (N' := 40) (fun _ => rfl) (by decide) rfl (by decide) (Nat.le_of_ble_eq_true rfl) (Nat.le_of_ble_eq_true rfl) dX11_init_231 (fun q H hq hH => ?_)
  have hko : aK (pN h q 21 40) o = 15 := by rw [aK_pN, if_neg (fun z => by have := hM.1; rw [z, hq] at this; exact absurd this (by decide))]; exact hM.1
  refine o_putFR (x := some q) hx hb hts hown hK hH ci_15 hko (j := 28) rfl rfl fl_X11_95 rfl hin rfl (fun x => by cases x <;> exact ⟨rfl, rfl⟩) dX11_init_233 (fun H locs hH => ?_)
  replace hM := hM.step (K := 21) (N := 40) hq rfl rfl
  obtain ⟨h, eh⟩ : ∃ z, z = pR (pN h q 21 40) 28 o (some q) := ⟨_, rfl⟩
  rw [← eh] at hH hM
  clear eh hko hq
  obtain ⟨ad, had⟩ : ∃ z, z = (fun j => if j = 28 then q else ad j) := ⟨_, rfl⟩
  rw [← had] at hM
  clear had
  refine lv_aload_n hx hb dX11_init_236 rfl (lv_at hl 0 rfl) ?_
  refine lv_bipush (v := 40) hx hb dX11_init_237 (by decide) ?_
  refine o_newP (K := 22) (t0 := 2) C0 hH ac_boolean rfl rfl (by decide) (by decide) (n := 40) (N' := 40) (fun _ => rfl) (by decide) rfl (by decide) (Nat.le_of_ble_eq_true rfl) (Nat.le_of_ble_eq_true rfl) dX11_init_239 (fun q H hq hH => ?_)
  have hko : aK (pN h q 22 40) o = 15 := by rw [aK_pN, if_neg (fun z => by have := hM.1; rw [z, hq] at this; exact absurd this (by decide))]; exact hM.1
  refine o_putFR (x := some q) hx hb hts hown hK hH ci_15 hko (j := 29) rfl rfl fl_X11_99 rfl hin rfl (fun x => by cases x <;> exact ⟨rfl, rfl⟩) dX11_init_241 (fun H locs hH => ?_)
  replace hM := hM.step (K := 22) (N := 40) hq rfl rfl
  obtain ⟨h, eh⟩ : ∃ z, z = pR (pN h q 22 40) 29 o (some q) := ⟨_, rfl⟩
  rw [← eh] at hH hM
  clear eh hko hq
  obtain ⟨ad, had⟩ : ∃ z, z = (fun j => if j = 29 then q else ad j) := ⟨_, rfl⟩
  rw [← had] at hM
  clear had
  refine lv_aload_n hx hb dX11_init_244 rfl (lv_at hl 0 rfl) ?_
  refine lv_bipush (v := 40) hx hb dX11_init_245 (by decide) ?_
  refine o_newP (K := 22) (t0 := 2) C0 hH ac_boolean rfl rfl (by decide) (by decide) (n := 40) (N' := 40) (fun _ => rfl) (by decide) rfl (by decide) (Nat.le_of_ble_eq_true rfl) (Nat.le_of_ble_eq_true rfl) dX11_init_247 (fun q H hq hH => ?_)
  have hko : aK (pN h q 22 40) o = 15 := by rw [aK_pN, if_neg (fun z => by have := hM.1; rw [z, hq] at this; exact absurd this (by decide))]; exact hM.1
  refine o_putFR (x := some q) hx hb hts hown hK hH ci_15 hko (j := 30) rfl rfl fl_X11_102 rfl hin rfl (fun x => by cases x <;> exact ⟨rfl, rfl⟩) dX11_init_249 (fun H locs hH => ?_)
  replace hM := hM.step (K := 22) (N := 40) hq rfl rfl
  obtain ⟨h, eh⟩ : ∃ z, z = pR (pN h q 22 40) 30 o (some q) := ⟨_, rfl⟩
  rw [← eh] at hH hM
  clear eh hko hq
  obtain ⟨ad, had⟩ : ∃ z, z = (fun j => if j = 30 then q else ad j) := ⟨_, rfl⟩
  rw [← had] at hM
  clear had
  refine lv_aload_n hx hb dX11_init_252 rfl (lv_at hl 0 rfl) ?_
  refine lv_sipush (v := 4000) hx hb dX11_init_253 (by decide) ?_
  refine o_newP (K := 20) (t0 := 0) C0 hH ac_int rfl rfl (by decide) (by decide) (n := 4000) (N' := 4000) (fun _ => rfl) (by decide) rfl (by decide) (Nat.le_of_ble_eq_true rfl) (Nat.le_of_ble_eq_true rfl) dX11_init_256 (fun q H hq hH => ?_)
  have hko : aK (pN h q 20 4000) o = 15 := by rw [aK_pN, if_neg (fun z => by have := hM.1; rw [z, hq] at this; exact absurd this (by decide))]; exact hM.1
  refine o_putR (x := some q) hx hb hts hown hK hH ci_15 hko (j := 31) rfl rfl fl_X11_105 rfl (fun x => by cases x <;> exact ⟨rfl, rfl⟩) dX11_init_258 (fun H locs hH => ?_)
  replace hM := hM.step (K := 20) (N := 4000) hq rfl rfl
  obtain ⟨h, eh⟩ : ∃ z, z = pR (pN h q 20 4000) 31 o (some q) := ⟨_, rfl⟩
  rw [← eh] at hH hM
  clear eh hko hq
  obtain ⟨ad, had⟩ : ∃ z, z = (fun j => if j = 31 then q else ad j) := ⟨_, rfl⟩
  rw [← had] at hM
  clear had
  refine lv_aload_n hx hb dX11_init_261 rfl (lv_at hl 0 rfl) ?_
  refine lv_bipush (v := 6) hx hb dX11_init_262 (by decide) ?_
  refine o_newP (K := 20) (t0 := 0) C0 hH ac_int rfl rfl (by decide) (by decide) (n := 6) (N' := 6) (fun _ => rfl) (by decide) rfl (by decide) (Nat.le_of_ble_eq_true rfl) (Nat.le_of_ble_eq_true rfl) dX11_init_264 (fun q H hq hH => ?_)
  have hko : aK (pN h q 20 6) o = 15 := by rw [aK_pN, if_neg (fun z => by have := hM.1; rw [z, hq] at this; exact absurd this (by decide))]; exact hM.1
  refine o_putFR (x := some q) hx hb hts hown hK hH ci_15 hko (j := 32) rfl rfl fl_X11_108 rfl hin rfl (fun x => by cases x <;> exact ⟨rfl, rfl⟩) dX11_init_266 (fun H locs hH => ?_)
  replace hM := hM.step (K := 20) (N := 6) hq rfl rfl
  obtain ⟨h, eh⟩ : ∃ z, z = pR (pN h q 20 6) 32 o (some q) := ⟨_, rfl⟩
  rw [← eh] at hH hM
  clear eh hko hq
  obtain ⟨ad, had⟩ : ∃ z, z = (fun j => if j = 32 then q else ad j) := ⟨_, rfl⟩
  rw [← had] at hM
  clear had
  refine lv_aload_n hx hb dX11_init_269 rfl (lv_at hl 0 rfl) ?_
  refine lv_bipush (v := 6) hx hb dX11_init_270 (by decide) ?_
  refine o_newP (K := 20) (t0 := 0) C0 hH ac_int rfl rfl (by decide) (by decide) (n := 6) (N' := 6) (fun _ => rfl) (by decide) rfl (by decide) (Nat.le_of_ble_eq_true rfl) (Nat.le_of_ble_eq_true rfl) dX11_init_272 (fun q H hq hH => ?_)
  have hko : aK (pN h q 20 6) o = 15 := by rw [aK_pN, if_neg (fun z => by have := hM.1; rw [z, hq] at this; exact absurd this (by decide))]; exact hM.1
  refine o_putFR (x := some q) hx hb hts hown hK hH ci_15 hko (j := 33) rfl rfl fl_X11_111 rfl hin rfl (fun x => by cases x <;> exact ⟨rfl, rfl⟩) dX11_init_274 (fun H locs hH => ?_)
  replace hM := hM.step (K := 20) (N := 6) hq rfl rfl
  obtain ⟨h, eh⟩ : ∃ z, z = pR (pN h q 20 6) 33 o (some q) := ⟨_, rfl⟩
  rw [← eh] at hH hM
  clear eh hko hq
  obtain ⟨ad, had⟩ : ∃ z, z = (fun j => if j = 33 then q else ad j) := ⟨_, rfl⟩
  rw [← had] at hM
  clear had
  refine lv_aload_n hx hb dX11_init_277 rfl (lv_at hl 0 rfl) ?_
  refine lv_bipush (v := 40) hx hb dX11_init_278 (by decide) ?_
  refine o_newP (K := 20) (t0 := 0) C0 hH ac_int rfl rfl (by decide) (by decide) (n := 40) (N' := 40) (fun _ => rfl) (by decide) rfl (by decide) (Nat.le_of_ble_eq_true rfl) (Nat.le_of_ble_eq_true rfl) dX11_init_280 (fun q H hq hH => ?_)
  have hko : aK (pN h q 20 40) o = 15 := by rw [aK_pN, if_neg (fun z => by have := hM.1; rw [z, hq] at this; exact absurd this (by decide))]; exact hM.1
  refine o_putFR (x := some q) hx hb hts hown hK hH ci_15 hko (j := 34) rfl rfl fl_X11_114 rfl hin rfl (fun x => by cases x <;> exact ⟨rfl, rfl⟩) dX11_init_282 (fun H locs hH => ?_)
  replace hM := hM.step (K := 20) (N := 40) hq rfl rfl
  obtain ⟨h, eh⟩ : ∃ z, z = pR (pN h q 20 40) 34 o (some q) := ⟨_, rfl⟩
  rw [← eh] at hH hM
  clear eh hko hq
  obtain ⟨ad, had⟩ : ∃ z, z = (fun j => if j = 34 then q else ad j) := ⟨_, rfl⟩
  rw [← had] at hM
  clear had
  refine lv_aload_n hx hb dX11_init_285 rfl (lv_at hl 0 rfl) ?_
  refine lv_bipush (v := 40) hx hb dX11_init_286 (by decide) ?_
  refine o_newP (K := 20) (t0 := 0) C0 hH ac_int rfl rfl (by decide) (by decide) (n := 40) (N' := 40) (fun _ => rfl) (by decide) rfl (by decide) (Nat.le_of_ble_eq_true rfl) (Nat.le_of_ble_eq_true rfl) dX11_init_288 (fun q H hq hH => ?_)
  have hko : aK (pN h q 20 40) o = 15 := by rw [aK_pN, if_neg (fun z => by have := hM.1; rw [z, hq] at this; exact absurd this (by decide))]; exact hM.1
  refine o_putFR (x := some q) hx hb hts hown hK hH ci_15 hko (j := 35) rfl rfl fl_X11_117 rfl hin rfl (fun x => by cases x <;> exact ⟨rfl, rfl⟩) dX11_init_290 (fun H locs hH => ?_)
  replace hM := hM.step (K := 20) (N := 40) hq rfl rfl
  obtain ⟨h, eh⟩ : ∃ z, z = pR (pN h q 20 40) 35 o (some q) := ⟨_, rfl⟩
  rw [← eh] at hH hM
  clear eh hko hq
  obtain ⟨ad, had⟩ : ∃ z, z = (fun j => if j = 35 then q else ad j) := ⟨_, rfl⟩
  rw [← had] at hM
  clear had
  refine lv_aload_n hx hb dX11_init_293 rfl (lv_at hl 0 rfl) ?_
  refine lv_bipush (v := 40) hx hb dX11_init_294 (by decide) ?_
  refine o_newP (K := 20) (t0 := 0) C0 hH ac_int rfl rfl (by decide) (by decide) (n := 40) (N' := 40) (fun _ => rfl) (by decide) rfl (by decide) (Nat.le_of_ble_eq_true rfl) (Nat.le_of_ble_eq_true rfl) dX11_init_296 (fun q H hq hH => ?_)
  have hko : aK (pN h q 20 40) o = 15 := by rw [aK_pN, if_neg (fun z => by have := hM.1; rw [z, hq] at this; exact absurd this (by decide))]; exact hM.1
  refine o_putFR (x := some q) hx hb hts hown hK hH ci_15 hko (j := 36) rfl rfl fl_X11_120 rfl hin rfl (fun x => by cases x <;> exact ⟨rfl, rfl⟩) dX11_init_298 (fun H locs hH => ?_)
  replace hM := hM.step (K := 20) (N := 40) hq rfl rfl
  obtain ⟨h, eh⟩ : ∃ z, z = pR (pN h q 20 40) 36 o (some q) := ⟨_, rfl⟩
  rw [← eh] at hH hM
  clear eh hko hq
  obtain ⟨ad, had⟩ : ∃ z, z = (fun j => if j = 36 then q else ad j) := ⟨_, rfl⟩
  rw [← had] at hM
  clear had
  exact e_V C0 hr hH ⟨_, hM.all⟩ (Nat.le_of_ble_eq_true rfl) (Nat.le_of_ble_eq_true rfl) dX11_init_301
