/-! what holds at the law's entry -/
theorem lf {s : State} {args : Array Value} (h : (Jvm.Cond.and given_1 narrow_1).before args s = true) (i : Nat) {w : Cond} (hi : (flatC (Jvm.Cond.and given_1 narrow_1))[i]? = some w) : w.before args s = true := flat_of_before _ h _ (List.mem_of_getElem? hi)
theorem wi_J0 : ∀ w ∈ u_ws RJ0 TJ0 4, w ∈ lw_all := lw_places _ [987, 989, 991, 993] (by decide +kernel) (by decide +kernel)
theorem wi_J4 : ∀ w ∈ u_ws RJ4 TJ4 4, w ∈ lw_all := lw_places _ [818, 820, 822, 824] (by decide +kernel) (by decide +kernel)
theorem wi_Jx00060 : ∀ w ∈ u_ws RJx00060 TJx00060 6, w ∈ lw_all := lw_places _ [1311, 1312, 1313, 1314, 1315, 1316] (by decide +kernel) (by decide +kernel)
theorem lw_known {s : State} {args : Array Value} (hts : ∀ w ∈ lw_all, w.before args s = true) : ∃ (dC : Nat → ClassId) (dI : Nat → Nat → Nat), ∀ (k : Nat) (q : vw_C), vwCl[k]? = some q → u_Kn s q.1 q.2.1 q.2.2 (dC k) (dI k) := by
  have h0 : ∀ k : Nat, ∃ z : ClassId × (Nat → Nat), ∀ q : vw_C, vwCl[k]? = some q → u_Kn s q.1 q.2.1 q.2.2 z.1 z.2 := by
    intro k
    obtain ⟨a0, b0, h0⟩ := u_known (C := RJ0) (T := TJ0) (N := 4) hts wi_J0 (hts _ im_J0)
    match k with
    | 0 => obtain ⟨a, b, h⟩ := u_known (C := RJ0) (T := TJ0) (N := 4) hts wi_J0 (hts _ im_J0); exact ⟨(a, b), fun q e => by cases e; exact h⟩
    | 1 => obtain ⟨a, b, h⟩ := u_known (C := RJ4) (T := TJ4) (N := 4) hts wi_J4 (hts _ im_J4); exact ⟨(a, b), fun q e => by cases e; exact h⟩
    | 2 => obtain ⟨a, b, h⟩ := u_known (C := RJx00060) (T := TJx00060) (N := 6) hts wi_Jx00060 (hts _ im_Jx00060); exact ⟨(a, b), fun q e => by cases e; exact h⟩
    | 3 => obtain ⟨a, b, h⟩ := u_known (C := RJx4a65c) (T := TJx4a65c) (N := 3) hts ci_3.2.2.2.1 (hts _ im_Jx4a65c); exact ⟨(a, b), fun q e => by cases e; exact h⟩
    | 4 => obtain ⟨a, b, h⟩ := u_known (C := RX0) (T := TX0) (N := 3) hts ci_4.2.2.2.1 (hts _ im_X0); exact ⟨(a, b), fun q e => by cases e; exact h⟩
    | 5 => obtain ⟨a, b, h⟩ := u_known (C := RX1) (T := TX1) (N := 3) hts ci_5.2.2.2.1 (hts _ im_X1); exact ⟨(a, b), fun q e => by cases e; exact h⟩
    | 6 => obtain ⟨a, b, h⟩ := u_known (C := RX2) (T := TX2) (N := 2) hts ci_6.2.2.2.1 (hts _ im_X2); exact ⟨(a, b), fun q e => by cases e; exact h⟩
    | 7 => obtain ⟨a, b, h⟩ := u_known (C := RX3) (T := TX3) (N := 3) hts ci_7.2.2.2.1 (hts _ im_X3); exact ⟨(a, b), fun q e => by cases e; exact h⟩
    | 8 => obtain ⟨a, b, h⟩ := u_known (C := RX4) (T := TX4) (N := 9) hts ci_8.2.2.2.1 (hts _ im_X4); exact ⟨(a, b), fun q e => by cases e; exact h⟩
    | 9 => obtain ⟨a, b, h⟩ := u_known (C := RX5) (T := TX5) (N := 20) hts ci_9.2.2.2.1 (hts _ im_X5); exact ⟨(a, b), fun q e => by cases e; exact h⟩
    | 10 => obtain ⟨a, b, h⟩ := u_known (C := RX6) (T := TX6) (N := 7) hts ci_10.2.2.2.1 (hts _ im_X6); exact ⟨(a, b), fun q e => by cases e; exact h⟩
    | 11 => obtain ⟨a, b, h⟩ := u_known (C := RX7) (T := TX7) (N := 3) hts ci_11.2.2.2.1 (hts _ im_X7); exact ⟨(a, b), fun q e => by cases e; exact h⟩
    | 12 => obtain ⟨a, b, h⟩ := u_known (C := RX8) (T := TX8) (N := 5) hts ci_12.2.2.2.1 (hts _ im_X8); exact ⟨(a, b), fun q e => by cases e; exact h⟩
    | 13 => obtain ⟨a, b, h⟩ := u_known (C := RX9) (T := TX9) (N := 2) hts ci_13.2.2.2.1 (hts _ im_X9); exact ⟨(a, b), fun q e => by cases e; exact h⟩
    | 14 => obtain ⟨a, b, h⟩ := u_known (C := RX10) (T := TX10) (N := 10) hts ci_14.2.2.2.1 (hts _ im_X10); exact ⟨(a, b), fun q e => by cases e; exact h⟩
    | k + 15 => exact ⟨(a0, b0), fun q e => by rw [List.getElem?_eq_none (show vwCl.length ≤ k + 15 from Nat.le_add_left _ _)] at e; cases e⟩
  obtain ⟨z, hz⟩ := Classical.axiomOfChoice h0
  exact ⟨fun k => (z k).1, fun k => (z k).2, hz⟩
theorem lw_arrP {s : State} {args : Array Value} {t : FieldType} (h : (Cond.arrayClass t).before args s = true) (ht : ∀ C, t ≠ .object C) : ∃ c : ClassId, ArrOfT s c t ∧ va_RA s c t := by
  obtain ⟨c, k, comp, h1, h2, h3⟩ := Cond.arrayClass_spec (first := s) (o := none) (idx := []) h
  refine ⟨c, fun n z => ⟨fun k9 h9 => (by cases h9), k, h2, comp, h3⟩, ?_⟩
  cases t <;> first | exact h1 | exact absurd rfl (ht _)
theorem lw_arrO {s : State} {args : Array Value} {C : String} (h : (Cond.arrayOver (.object C)).before args s = true) : ∃ c : ClassId, ArrOfT s c (.object C) ∧ va_RA s c (.object C) := by
  obtain ⟨comp, c, k, h1, h2, h3, h4, h5⟩ := Cond.arrayOver_spec (first := s) (o := none) (idx := []) h
  exact ⟨c, fun n z => ⟨fun k9 h9 => (by cases h9), k, h3, comp, h4⟩, k, comp, h3, h4, h1, h5⟩
theorem lw_arrA {s : State} {args : Array Value} (h : (Cond.arrayOver (.array .int)).before args s = true) : ∃ c : ClassId, ArrOfT s c (.array .int) ∧ va_RA s c (.array .int) := by
  obtain ⟨comp, c, k, h1, h2, h3, h4, h5⟩ := arrayOverA_spec h
  exact ⟨c, fun n z => ⟨fun k9 h9 => (by cases h9), k, h3, comp, h4⟩, h5⟩
theorem lw_ktOf {s : State} {args : Array Value} (hts : ∀ w ∈ lw_tbl, w.before args s = true) : ∀ w ∈ lw_kt, va_Nw w s := by
  intro w hw
  obtain ⟨hm, hk⟩ := List.mem_filter.mp hw
  have hb := hts w (List.mem_append_right _ hm)
  unfold isKT at hk
  split at hk
  · exact va_Nw.of rfl hb
  · exact hb
  · exact hb
  · exact va_Nw.of rfl hb
  · exact va_Nw.of rfl hb
  · exact va_Nw.of rfl hb
  · cases hk
theorem lw_strOf {s : State} {args : Array Value} {own tx : String} {k : Nat} (h1 : (Cond.stringRef own k tx).before args s = true) (h2 : (Cond.exactly (.string own k) "java/lang/String").before args s = true) : ∃ a : Nat, vk_R own k tx a s := by
  obtain ⟨a, c, cA, kA, q1, -⟩ := Cond.exactly_spec (args := args) (first := s) (o := none) (s := s) (idx := []) (t := .string own k) (cls := "java/lang/String") h2
  exact ⟨a, vk_R.of h1 q1⟩
theorem lw_strsOf {s : State} {args : Array Value} (hts : ∀ w ∈ lw_tbl, w.before args s = true) (hgv : (Jvm.Cond.and given_1 narrow_1).before args s = true) : ∀ q ∈ lw_strs, ∃ a : Nat, vk_R q.1 q.2.1 q.2.2 a s := by
  unfold lw_strs
  refine List.forall_mem_cons.mpr ⟨lw_strOf (hts _ (List.mem_append_right _ (lwt_1 (List.mem_of_getElem? (i := 102) (by decide +kernel))))) (lf hgv 336 (by decide +kernel)), ?_⟩
  refine List.forall_mem_cons.mpr ⟨lw_strOf (hts _ (List.mem_append_right _ (lwt_1 (List.mem_of_getElem? (i := 162) (by decide +kernel))))) (lf hgv 360 (by decide +kernel)), ?_⟩
  refine List.forall_mem_cons.mpr ⟨lw_strOf (hts _ (List.mem_append_right _ (lwt_2 (List.mem_of_getElem? (i := 43) (by decide +kernel))))) (lf hgv 391 (by decide +kernel)), ?_⟩
  refine List.forall_mem_cons.mpr ⟨lw_strOf (hts _ (List.mem_append_right _ (lwt_2 (List.mem_of_getElem? (i := 50) (by decide +kernel))))) (lf hgv 406 (by decide +kernel)), ?_⟩
  refine List.forall_mem_cons.mpr ⟨lw_strOf (hts _ (List.mem_append_right _ (lwt_2 (List.mem_of_getElem? (i := 51) (by decide +kernel))))) (lf hgv 429 (by decide +kernel)), ?_⟩
  refine List.forall_mem_cons.mpr ⟨lw_strOf (hts _ (List.mem_append_right _ (lwt_2 (List.mem_of_getElem? (i := 195) (by decide +kernel))))) (lf hgv 447 (by decide +kernel)), ?_⟩
  refine List.forall_mem_cons.mpr ⟨lw_strOf (hts _ (List.mem_append_right _ (lwt_2 (List.mem_of_getElem? (i := 196) (by decide +kernel))))) (lf hgv 463 (by decide +kernel)), ?_⟩
  refine List.forall_mem_cons.mpr ⟨lw_strOf (hts _ (List.mem_append_right _ (lwt_2 (List.mem_of_getElem? (i := 215) (by decide +kernel))))) (lf hgv 479 (by decide +kernel)), ?_⟩
  refine List.forall_mem_cons.mpr ⟨lw_strOf (hts _ (List.mem_append_right _ (lwt_2 (List.mem_of_getElem? (i := 220) (by decide +kernel))))) (lf hgv 518 (by decide +kernel)), ?_⟩
  refine List.forall_mem_cons.mpr ⟨lw_strOf (hts _ (List.mem_append_right _ (lwt_3 (List.mem_of_getElem? (i := 130) (by decide +kernel))))) (lf hgv 555 (by decide +kernel)), ?_⟩
  refine List.forall_mem_cons.mpr ⟨lw_strOf (hts _ (List.mem_append_right _ (lwt_3 (List.mem_of_getElem? (i := 229) (by decide +kernel))))) (lf hgv 568 (by decide +kernel)), ?_⟩
  refine List.forall_mem_cons.mpr ⟨lw_strOf (hts _ (List.mem_append_right _ (lwt_3 (List.mem_of_getElem? (i := 230) (by decide +kernel))))) (lf hgv 586 (by decide +kernel)), ?_⟩
  refine List.forall_mem_cons.mpr ⟨lw_strOf (hts _ (List.mem_append_right _ (lwt_4 (List.mem_of_getElem? (i := 6) (by decide +kernel))))) (lf hgv 617 (by decide +kernel)), ?_⟩
  refine List.forall_mem_cons.mpr ⟨lw_strOf (hts _ (List.mem_append_right _ (lwt_4 (List.mem_of_getElem? (i := 26) (by decide +kernel))))) (lf hgv 657 (by decide +kernel)), ?_⟩
  refine List.forall_mem_cons.mpr ⟨lw_strOf (hts _ (List.mem_append_right _ (lwt_4 (List.mem_of_getElem? (i := 107) (by decide +kernel))))) (lf hgv 689 (by decide +kernel)), ?_⟩
  refine List.forall_mem_cons.mpr ⟨lw_strOf (hts _ (List.mem_append_right _ (lwt_4 (List.mem_of_getElem? (i := 210) (by decide +kernel))))) (lf hgv 700 (by decide +kernel)), ?_⟩
  refine List.forall_mem_cons.mpr ⟨lw_strOf (hts _ (List.mem_append_right _ (lwt_5 (List.mem_of_getElem? (i := 11) (by decide +kernel))))) (lf hgv 712 (by decide +kernel)), ?_⟩
  refine List.forall_mem_cons.mpr ⟨lw_strOf (hts _ (List.mem_append_right _ (lwt_5 (List.mem_of_getElem? (i := 66) (by decide +kernel))))) (lf hgv 719 (by decide +kernel)), ?_⟩
  refine List.forall_mem_cons.mpr ⟨lw_strOf (hts _ (List.mem_append_right _ (lwt_6 (List.mem_of_getElem? (i := 24) (by decide +kernel))))) (lf hgv 733 (by decide +kernel)), ?_⟩
  refine List.forall_mem_cons.mpr ⟨lw_strOf (hts _ (List.mem_append_right _ (lwt_6 (List.mem_of_getElem? (i := 32) (by decide +kernel))))) (lf hgv 763 (by decide +kernel)), ?_⟩
  refine List.forall_mem_cons.mpr ⟨lw_strOf (hts _ (List.mem_append_right _ (lwt_6 (List.mem_of_getElem? (i := 47) (by decide +kernel))))) (lf hgv 783 (by decide +kernel)), ?_⟩
  refine List.forall_mem_cons.mpr ⟨lw_strOf (hts _ (List.mem_append_right _ (lwt_6 (List.mem_of_getElem? (i := 72) (by decide +kernel))))) (lf hgv 804 (by decide +kernel)), ?_⟩
  refine List.forall_mem_cons.mpr ⟨lw_strOf (hts _ (List.mem_append_right _ (lwt_6 (List.mem_of_getElem? (i := 127) (by decide +kernel))))) (lf hgv 830 (by decide +kernel)), ?_⟩
  refine List.forall_mem_cons.mpr ⟨lw_strOf (hts _ (List.mem_append_right _ (lwt_6 (List.mem_of_getElem? (i := 200) (by decide +kernel))))) (lf hgv 846 (by decide +kernel)), ?_⟩
  refine List.forall_mem_cons.mpr ⟨lw_strOf (hts _ (List.mem_append_right _ (lwt_7 (List.mem_of_getElem? (i := 1) (by decide +kernel))))) (lf hgv 861 (by decide +kernel)), ?_⟩
  refine List.forall_mem_cons.mpr ⟨lw_strOf (hts _ (List.mem_append_right _ (lwt_7 (List.mem_of_getElem? (i := 10) (by decide +kernel))))) (lf hgv 875 (by decide +kernel)), ?_⟩
  exact fun _ h => absurd h List.not_mem_nil
theorem lw_ncOf {s : State} {args : Array Value} (hgv : (Jvm.Cond.and given_1 narrow_1).before args s = true) : ∀ q ∈ ncL, va_Nc q.1 q.2 s := by
  unfold ncL
  refine List.forall_mem_cons.mpr ⟨va_Nc.of (lf hgv 228 (by decide +kernel)), ?_⟩
  refine List.forall_mem_cons.mpr ⟨va_Nc.of (lf hgv 266 (by decide +kernel)), ?_⟩
  refine List.forall_mem_cons.mpr ⟨va_Nc.of (lf hgv 267 (by decide +kernel)), ?_⟩
  refine List.forall_mem_cons.mpr ⟨va_Nc.of (lf hgv 275 (by decide +kernel)), ?_⟩
  exact fun _ h => absurd h List.not_mem_nil
theorem lw_world {s : State} {args : Array Value} {A : Nat → Prop} (hts : ∀ w ∈ lw_tbl, w.before args s = true) (hgv : (Jvm.Cond.and given_1 narrow_1).before args s = true) (hA : ∀ a : Nat, a < s.heap.size → ¬ A a) : ∃ G : GT, va_K G.1 vwCl (tyA G.2.1) s ∧ KSv G s ∧ KSh G A s s.heap := by
  have hta : ∀ w ∈ lw_all, w.before args s = true := fun w hw => hts w (List.mem_filter.mp hw).1
  obtain ⟨dC, dI, hKn⟩ := lw_known hta
  obtain ⟨c20, r20⟩ := lw_arrP (hta _ ac_int) (fun C h => by cases h)
  obtain ⟨c30, r30⟩ := lw_arrO (C := "Routepost$Hub") (hts _ (List.mem_append_right _ (lwt_2 (List.mem_of_getElem? (i := 65) (by decide +kernel)))))
  obtain ⟨c31, r31⟩ := lw_arrO (C := "java/lang/Object") (hts _ (List.mem_append_right _ (lwt_2 (List.mem_of_getElem? (i := 10) (by decide +kernel)))))
  obtain ⟨c32, r32⟩ := lw_arrA (hts _ (List.mem_append_right _ (lwt_6 (List.mem_of_getElem? (i := 89) (by decide +kernel)))))
  obtain ⟨mi, hmi⟩ := va_Mi.of (C := "[Ljava/lang/Object;") (lf hgv 335 (by decide +kernel))
  obtain ⟨tE, eE, TE⟩ := va_Tof (tm := .static "java/util/ArrayList" "DEFAULTCAPACITY_EMPTY_ELEMENTDATA" "[Ljava/lang/Object;") (ty := .object "java/lang/Object") (N := 0) (f := fun _ => .null) (A := A) (by decide) (lf hgv 7 (by decide +kernel)) (va_eqt (lf hgv 9 (by decide +kernel))) (fun j hj => absurd hj (Nat.not_lt_zero j)) hA
  obtain ⟨adK, adV, hS, hE⟩ := vk_Sof (N := 1) (tm := fun _ => .string "Routepost$History" 37) (len := [9]) (byt := [lw_letters]) (A := A) (args := args) (s := s) (fun i hi => by have e : i = 0 := (by omega); subst e; decide)
    (fun i hi => by have e : i = 0 := (by omega); subst e; exact lf hgv 555 (by decide +kernel))
    (fun i hi => by have e : i = 0 := (by omega); subst e; exact lf hgv 556 (by decide +kernel))
    (fun i hi => by have e : i = 0 := (by omega); subst e; exact lf hgv 557 (by decide +kernel))
    (fun i hi => by have e : i = 0 := (by omega); subst e; exact lf hgv 558 (by decide +kernel))
    (fun i hi j hj => by
      have e : i = 0 := (by omega)
      subst e
      have hj : j < 9 := hj
      match j, hj with
      | 0, _ => exact lf hgv 559 (by decide +kernel)
      | 1, _ => exact lf hgv 560 (by decide +kernel)
      | 2, _ => exact lf hgv 561 (by decide +kernel)
      | 3, _ => exact lf hgv 562 (by decide +kernel)
      | 4, _ => exact lf hgv 563 (by decide +kernel)
      | 5, _ => exact lf hgv 564 (by decide +kernel)
      | 6, _ => exact lf hgv 565 (by decide +kernel)
      | 7, _ => exact lf hgv 566 (by decide +kernel)
      | 8, _ => exact lf hgv 567 (by decide +kernel)
      | j + 9, hj => omega)
    (fun i j hi hj hij => by omega) hA
  obtain ⟨o1, o2, o3, o4⟩ := hS.1 0 (by decide)
  refine ⟨((dC, dI), (fun k => if k = 20 then c20 else if k = 30 then c30 else if k = 31 then c31 else if k = 32 then c32 else mi), tE, adK 0, adV 0), ⟨hKn, fun k q hq => ?_⟩, ⟨lw_ktOf hts, lw_strsOf hts hgv, vk_R.of (hts _ (List.mem_append_right _ (lwt_3 (List.mem_of_getElem? (i := 130) (by decide +kernel))))) (hE 0 (by decide)), hmi⟩, ?_, ?_, ?_, TE, o1, o2, o3, o4, ?_⟩
  · match k, hq with
    | 0, hq => cases hq; exact r20
    | 1, hq => cases hq; exact r20
    | 2, hq => cases hq; exact r20
    | 3, hq => cases hq; exact r30
    | 4, hq => cases hq; exact r31
    | 5, hq => cases hq; exact r32
    | k + 6, hq => simp [tyA] at hq
  · exact vx_Zqof (hts _ (List.mem_append_right _ (lwt_1 (List.mem_of_getElem? (i := 85) (by decide +kernel))))) (hts _ (List.mem_append_right _ (lwt_1 (List.mem_of_getElem? (i := 14) (by decide +kernel))))) (lf hgv 4 (by decide +kernel)) hA
  · exact vx_Zqof (hts _ (List.mem_append_right _ (lwt_1 (List.mem_of_getElem? (i := 87) (by decide +kernel))))) (hts _ (List.mem_append_right _ (lwt_1 (List.mem_of_getElem? (i := 14) (by decide +kernel))))) (lf hgv 5 (by decide +kernel)) hA
  · exact va_Zref (hts _ (List.mem_append_right _ (lwt_1 (List.mem_of_getElem? (i := 208) (by decide +kernel))))) (hts _ (List.mem_append_right _ (lwt_1 (List.mem_of_getElem? (i := 4) (by decide +kernel))))) eE hA
  · exact va_Zof (hts _ (List.mem_append_right _ (lwt_3 (List.mem_of_getElem? (i := 144) (by decide +kernel))))) (hts _ (List.mem_append_right _ (lwt_1 (List.mem_of_getElem? (i := 25) (by decide +kernel))))) (va_eqt (lf hgv 10 (by decide +kernel))) hA
