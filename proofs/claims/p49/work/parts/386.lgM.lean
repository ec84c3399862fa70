theorem lL_isLaidB (l : Launch) (hlt : l.stackTraces = false) (Sc : SCR) (G : GT) (A : Nat → Prop) (h : AH) (b : BA) (c m : MM) (n : Nat) (L : LNum) (M : LRef) (o : Nat) (hJ : JW G.2.2.1 h b c L M) (ho : b 14 0 = o) (hwc : WFc c) (hS : Sim n c m) (hw : WFa m) (hI : IV m) (hn : n < 512) (i0 : Nat) (hi0 : i0 < 2 ^ 19) (h2 : 2 ≤ nhN m) (an : Nat) (f : Nat → Int32) (hL : L an = some (700, f)) (hT : NT f m) : ∃ c2, Bnd c2 ∧ lcI l Sc G A yL_isLaid cL_isLaid 11 (Option.some FieldType.boolean) 9 247 (4 + (UC c2 - UC c)) (24 + (US c2 - US c)) [.ref o, .ref an, .ref Sc.1, .int (nI i0)] h (fun r h' => r = nI 1 ∧ ∃ b' f' m' n', JW G.2.2.1 h' b' (c2) (setL L an 700 f') M ∧ b' 14 0 = o ∧ WFc (c2) ∧ n' ≤ n + 1 ∧ Stt n' (c2) m' ∧ NT f' m' ∧ Kp m m' ∧ UC c ≤ UC (c2) ∧ US c ≤ US (c2)) := by
  by_cases hk : nlN m = 12
  · have q := lL_isLaid_x l hlt Sc G A h b c m n L M o hJ ho hwc hS hw hI hn i0 hi0 h2 hk _ _ _ _ _ _ _ _ rfl rfl rfl rfl rfl rfl rfl rfl an f hL hT
    exact ⟨c, bd_c hwc, by rw [Nat.sub_self, Nat.sub_self]; exact q⟩
  · have hk2 : nlN m < 12 := by have := hw.nl.2; omega
    exact ⟨_, bd_laid hS hwc hw hk2 (inN_lt Sc i0 (by omega)) (Nat.mod_lt _ (by omega)) _ _ _ _, lL_isLaid_a l hlt Sc G A h b c m n L M o hJ ho hwc hS hw hI hn i0 hi0 h2 hk2 _ _ _ _ _ _ _ _ rfl rfl rfl rfl rfl rfl rfl rfl an f hL hT⟩
theorem lL_isAccepted (l : Launch) (hlt : l.stackTraces = false) (Sc : SCR) (G : GT) (A : Nat → Prop) (h : AH) (b : BA) (c m : MM) (n : Nat) (L : LNum) (M : LRef) (o : Nat) (hJ : JW G.2.2.1 h b c L M) (ho : b 14 0 = o) (hwc : WFc c) (hS : Sim n c m) (hw : WFa m) (hI : IV m) (hn : n < 512) (i0 : Nat) (hi0 : i0 < 2 ^ 19) (h2 : 2 ≤ nhN m) (an : Nat) (f : Nat → Int32) (hL : L an = some (700, f)) (hT : NT f m) : ∃ c2, Bnd c2 ∧ lcI l Sc G A yL_isAccepted cL_isAccepted 11 (Option.some FieldType.boolean) 11 407 (6 + (UC c2 - UC c)) (36 + (US c2 - US c)) [.ref o, .ref an, .ref Sc.1, .int (nI i0)] h (fun r h' => r = nI 1 ∧ ∃ b' f' m' n', JW G.2.2.1 h' b' (c2) (setL L an 700 f') M ∧ b' 14 0 = o ∧ WFc (c2) ∧ n' ≤ n + 1 ∧ Stt n' (c2) m' ∧ NT f' m' ∧ Kp m m' ∧ UC c ≤ UC (c2) ∧ US c ≤ US (c2)) := by
  have n40 := hw.np.2
  rcases found_or hw (nI (1111 + 1000 * inN Sc (i0 + 1) 3 + 100 * inN Sc (i0 + 2) 3 + 10 * inN Sc (i0 + 3) 2 + inN Sc (i0 + 4) 9)) with hz | ⟨d, hd, htv⟩
  · have q := lL_isAccepted_x l hlt Sc G A h b c m n L M o hJ ho hwc hS hw hI hn i0 hi0 h2 _ _ _ _ _ _ _ _ rfl rfl rfl rfl rfl rfl rfl rfl _ rfl (Or.inl hz) an f hL hT
    exact ⟨c, bd_c hwc, by rw [Nat.sub_self, Nat.sub_self]; exact q⟩
  · by_cases hnp : npN m = 40
    · have q := lL_isAccepted_x l hlt Sc G A h b c m n L M o hJ ho hwc hS hw hI hn i0 hi0 h2 _ _ _ _ _ _ _ _ rfl rfl rfl rfl rfl rfl rfl rfl _ rfl (Or.inr hnp) an f hL hT
      exact ⟨c, bd_c hwc, by rw [Nat.sub_self, Nat.sub_self]; exact q⟩
    · have q1 := inN_lt Sc i0 (n := nhN m) (by omega)
      have q2 := inN_lt Sc (i0 + 1) (n := 3) (by omega)
      have q3 := inN_lt Sc (i0 + 2) (n := 3) (by omega)
      have q4 := inN_lt Sc (i0 + 3) (n := 2) (by omega)
      have q5 := inN_lt Sc (i0 + 4) (n := 9) (by omega)
      have q6 := inN_lt Sc (i0 + 5) (n := 9) (by omega)
      have q7 := inN_lt Sc (i0 + 6) (n := 3) (by omega)
      have hX := (d_acc ⟨hS, hw, hI⟩ hwc hn q1 (show npN m < 40 by omega) (law_ad _ q2 _ q3 _ q4 _ q5) (v := 1 + inN Sc (i0 + 5) 9) (s := inN Sc (i0 + 6) 3) (by omega) (by omega) htv hd).1
      exact ⟨_, bd_sr (bd_acc hwc hX), lL_isAccepted_a l hlt Sc G A h b c m n L M o hJ ho hwc hS hw hI hn i0 hi0 h2 _ _ _ _ _ _ _ _ rfl rfl rfl rfl rfl rfl rfl rfl d hd htv (by omega) an f hL hT⟩
theorem lL_isScanned (l : Launch) (hlt : l.stackTraces = false) (Sc : SCR) (G : GT) (A : Nat → Prop) (h : AH) (b : BA) (c m : MM) (n : Nat) (L : LNum) (M : LRef) (o : Nat) (hJ : JW G.2.2.1 h b c L M) (ho : b 14 0 = o) (hwc : WFc c) (hS : Sim n c m) (hw : WFa m) (hI : IV m) (hn : n < 512) (i0 : Nat) (hi0 : i0 < 2 ^ 19) (h2 : 2 ≤ nhN m) (p : Nat) (hp : p < npN m) (an : Nat) (f : Nat → Int32) (hL : L an = some (700, f)) (hT : NT f m) : ∃ c2, Bnd c2 ∧ lcI l Sc G A yL_isScanned cL_isScanned 11 (Option.some FieldType.boolean) 13 445 (8 + (UC c2 - UC c)) (48 + (US c2 - US c)) [.ref o, .ref an, .ref Sc.1, .int (nI i0), .int (nI p)] h (fun r h' => r = nI 1 ∧ ∃ b' f' m' n', JW G.2.2.1 h' b' (c2) (setL L an 700 f') M ∧ b' 14 0 = o ∧ WFc (c2) ∧ n' ≤ n + 1 ∧ Stt n' (c2) m' ∧ NT f' m' ∧ Kp m m' ∧ UC c ≤ UC (c2) ∧ US c ≤ US (c2)) := by
  have n6 := hw.nh.2
  have hpc : (nI p).toNatClampNeg < npN c := by rw [v_pC hw hp, hS.1.1.1.2.2]; exact hp
  have hml := hS.1.2.1
  -- the hub
  have hY : ∃ y, y < nhN m ∧ (if inN Sc i0 4 = 0 then inN Sc (i0 + 1) (nhN m) = y else if m 28 p = 116 then m 3 (vN (m 16 p)) = nI y else m 15 p = nI y) := by
    by_cases z : inN Sc i0 4 = 0
    · exact ⟨_, inN_lt Sc (i0 + 1) (n := nhN m) (by omega), by rw [if_pos z]⟩
    · by_cases z2 : m 28 p = 116
      · have h16 := vp_nat ((hw.pa hp).2.2.2.2.1 z2)
        have h3 := (hml.1.ln h16).2
        exact ⟨_, vp_nat h3, by rw [if_neg z, if_pos z2]; exact vp_nI h3 (by omega)⟩
      · have h15 := (hw.pa hp).2.2.1
        exact ⟨_, vp_nat h15, by rw [if_neg z, if_neg z2]; exact vp_nI h15 (by omega)⟩
  obtain ⟨y, hy, hdf⟩ := hY
  by_cases hov : m 28 p = 100 ∨ m 28 p = 104
  · have q := lL_isScanned_X l hlt Sc G A h b c m n L M o hJ ho hwc hS hw hI hn i0 hi0 h2 p hp y hy hdf _ hov rfl an f hL hT
    exact ⟨c, bd_c hwc, by rw [Nat.sub_self, Nat.sub_self]; exact q⟩
  · by_cases z : m 28 p = 116 ∨ ¬ m 15 p = nI y
    · by_cases z2 : m 22 p + 1 = 3
      · exact ⟨_, bd_scn hwc hpc, lL_isScanned_H l hlt Sc G A h b c m n L M o hJ ho hwc hS hw hI hn i0 hi0 h2 p hp y hy hdf hov z z2 an f hL hT⟩
      · exact ⟨_, bd_scn hwc hpc, lL_isScanned_M l hlt Sc G A h b c m n L M o hJ ho hwc hS hw hI hn i0 hi0 h2 p hp y hy hdf hov z z2 an f hL hT⟩
    · have z3 : m 15 p = nI y := Classical.byContradiction (fun w => z (Or.inr w))
      have z4 : ¬ m 28 p = 116 := fun w => z (Or.inl w)
      rcases (hw.pa hp).2.2.2.2.2 with e | e | e | e | e
      · exact ⟨_, bd_scn hwc hpc, lL_isScanned_A l hlt Sc G A h b c m n L M o hJ ho hwc hS hw hI hn i0 hi0 h2 p hp y hy hdf e z3 an f hL hT⟩
      · exact absurd e z4
      · exact ⟨_, bd_scn hwc hpc, lL_isScanned_O l hlt Sc G A h b c m n L M o hJ ho hwc hS hw hI hn i0 hi0 h2 p hp y hy hdf e z3 an f hL hT⟩
      · exact absurd (Or.inl e) hov
      · exact absurd (Or.inr e) hov
theorem lL_isDelivered (l : Launch) (hlt : l.stackTraces = false) (Sc : SCR) (G : GT) (A : Nat → Prop) (h : AH) (b : BA) (c m : MM) (n : Nat) (L : LNum) (M : LRef) (o : Nat) (hJ : JW G.2.2.1 h b c L M) (ho : b 14 0 = o) (hwc : WFc c) (hS : Sim n c m) (hw : WFa m) (hI : IV m) (hn : n < 512) (i0 : Nat) (hi0 : i0 < 2 ^ 19) (p : Nat) (hp : p < npN m) (an : Nat) (f : Nat → Int32) (hL : L an = some (700, f)) (hT : NT f m) : ∃ c2, Bnd c2 ∧ lcI l Sc G A yL_isDelivered cL_isDelivered 11 (Option.some FieldType.boolean) 13 443 (8 + (UC c2 - UC c)) (48 + (US c2 - US c)) [.ref o, .ref an, .ref Sc.1, .int (nI i0), .int (nI p)] h (fun r h' => r = nI 1 ∧ ∃ b' f' m' n', JW G.2.2.1 h' b' (c2) (setL L an 700 f') M ∧ b' 14 0 = o ∧ WFc (c2) ∧ n' ≤ n + 1 ∧ Stt n' (c2) m' ∧ NT f' m' ∧ Kp m m' ∧ UC c ≤ UC (c2) ∧ US c ≤ US (c2)) := by
  have hpc : (nI p).toNatClampNeg < npN c := by rw [v_pC hw hp, hS.1.1.1.2.2]; exact hp
  by_cases hz : m 28 p = 115 ∧ m 15 p = m 14 p
  · by_cases ht : inN Sc i0 3 = 0
    · exact ⟨_, bd_del hwc hpc, lL_isDelivered_D l hlt Sc G A h b c m n L M o hJ ho hwc hS hw hI hn i0 hi0 p hp hz.1 hz.2 ht an f hL hT⟩
    · by_cases hy : m 23 p + 1 < 3 - m 12 p
      · exact ⟨_, bd_del hwc hpc, lL_isDelivered_W l hlt Sc G A h b c m n L M o hJ ho hwc hS hw hI hn i0 hi0 p hp hz.1 hz.2 ht hy an f hL hT⟩
      · by_cases h29 : m 29 p = 0
        · exact ⟨_, bd_sr (bd_del hwc hpc), lL_isDelivered_R l hlt Sc G A h b c m n L M o hJ ho hwc hS hw hI hn i0 hi0 p hp hz.1 hz.2 ht hy h29 an f hL hT⟩
        · exact ⟨_, bd_del hwc hpc, lL_isDelivered_H l hlt Sc G A h b c m n L M o hJ ho hwc hS hw hI hn i0 hi0 p hp hz.1 hz.2 ht hy h29 an f hL hT⟩
  · have q := lL_isDelivered_X l hlt Sc G A h b c m n L M o hJ ho hwc hS hw hI hn i0 hi0 p hp hz an f hL hT
    exact ⟨c, bd_c hwc, by rw [Nat.sub_self, Nat.sub_self]; exact q⟩
theorem lL_isDone (l : Launch) (hlt : l.stackTraces = false) (Sc : SCR) (G : GT) (A : Nat → Prop) (h : AH) (b : BA) (c m : MM) (n : Nat) (L : LNum) (M : LRef) (o : Nat) (hJ : JW G.2.2.1 h b c L M) (ho : b 14 0 = o) (hwc : WFc c) (hS : Sim n c m) (hw : WFa m) (hI : IV m) (hn : n < 512) (i0 : Nat) (hi0 : i0 < 2 ^ 18) (h2 : 2 ≤ nhN m) (hl9 : 1 ≤ nlN m) (an : Nat) (f : Nat → Int32) (hL : L an = some (700, f)) (hT : NT f m) : ∃ c2, Bnd c2 ∧ lcI l Sc G A yL_isDone cL_isDone 8 (Option.some FieldType.boolean) 14 475 (12 + (UC c2 - UC c)) (72 + (US c2 - US c)) [.ref o, .ref an, .ref Sc.1, .int (nI i0)] h (fun r h' => r = nI 1 ∧ ∃ b' f' m' n', JW G.2.2.1 h' b' (c2) (setL L an 700 f') M ∧ b' 14 0 = o ∧ WFc (c2) ∧ n' ≤ n + 1 ∧ Stt n' (c2) m' ∧ NT f' m' ∧ Kp m m' ∧ UC c ≤ UC (c2) ∧ US c ≤ US (c2)) := by
  obtain ⟨p, ep⟩ : ∃ z, inN Sc (i0 + 1) (npN m + 1) % (if npN m = 0 then 1 else npN m) = z := ⟨_, rfl⟩
  obtain ⟨ac, eac⟩ : ∃ z, (if npN m = 0 then 0 else inN Sc i0 12) = z := ⟨_, rfl⟩
  have D1 := fun (hac : ac < 3) => lL_isDone_acc l hlt Sc G A h b c m n L M o hJ ho hwc hS hw hI hn i0 (by omega) h2 hl9 p ac ep eac an f hL hT hac
  have hac12 : ac < 12 := by rw [← eac]; split; (· omega); (· exact inN_lt Sc i0 (by omega))
  by_cases k1 : ac < 3
  · obtain ⟨c2, hbd, q⟩ := lL_isAccepted l hlt Sc G A h b c m n L M o hJ ho hwc hS hw hI hn (i0 + 2) (by omega) h2 an f hL hT
    exact ⟨c2, hbd, D1 k1 c2 q⟩
  · have hnp : ¬ npN m = 0 := fun z => by rw [if_pos z] at eac; omega
    have hp : p < npN m := by rw [← ep, if_neg hnp]; exact Nat.mod_lt _ (by omega)
    by_cases k2 : ac < 7
    · obtain ⟨c2, hbd, q⟩ := lL_isScanned l hlt Sc G A h b c m n L M o hJ ho hwc hS hw hI hn (i0 + 2) (by omega) h2 p hp an f hL hT
      exact ⟨c2, hbd, lL_isDone_scn l hlt Sc G A h b c m n L M o hJ ho hwc hS hw hI hn i0 (by omega) h2 hl9 p ac ep eac an f hL hT ⟨by omega, k2⟩ c2 q⟩
    · by_cases k3 : ac < 9
      · obtain ⟨c2, hbd, q⟩ := lL_isDelivered l hlt Sc G A h b c m n L M o hJ ho hwc hS hw hI hn (i0 + 2) (by omega) p hp an f hL hT
        exact ⟨c2, hbd, lL_isDone_del l hlt Sc G A h b c m n L M o hJ ho hwc hS hw hI hn i0 (by omega) h2 hl9 p ac ep eac an f hL hT ⟨by omega, k3⟩ c2 q⟩
      · by_cases k4 : ac = 9
        · by_cases hz : m 28 p = 115 ∧ m 29 p = 0
          · have hpc : p < npN c := by rw [hS.1.1.1.2.2]; exact hp
            exact ⟨_, bd_sr (bd_turn hwc (by rw [v_pC hw hp]; exact hpc)), lL_isDone_rec1 l hlt Sc G A h b c m n L M o hJ ho hwc hS hw hI hn i0 (by omega) h2 hl9 p ac ep eac an f hL hT k4 hp hz.1 hz.2⟩
          · have q := lL_isDone_rec0 l hlt Sc G A h b c m n L M o hJ ho hwc hS hw hI hn i0 (by omega) h2 hl9 p ac ep eac an f hL hT k4 hp hz
            exact ⟨c, bd_c hwc, by rw [Nat.sub_self, Nat.sub_self]; exact q⟩
        · by_cases k5 : ac = 10
          · obtain ⟨c2, hbd, q⟩ := lL_isLaidB l hlt Sc G A h b c m n L M o hJ ho hwc hS hw hI hn (i0 + 2) (by omega) h2 an f hL hT
            exact ⟨c2, hbd, lL_isDone_lay l hlt Sc G A h b c m n L M o hJ ho hwc hS hw hI hn i0 (by omega) h2 hl9 p ac ep eac an f hL hT k5 c2 q⟩
          · have k6 : ac = 11 := by omega
            by_cases hcl : inN Sc (i0 + 3) 2 = 0
            · by_cases h90 : m 9 (inN Sc (i0 + 2) (nlN m)) = 0
              · exact ⟨_, bd_clo hwc _, lL_isDone_clB l hlt Sc G A h b c m n L M o hJ ho hwc hS hw hI hn i0 (by omega) h2 hl9 p ac ep eac an f hL hT k6 _ rfl hcl h90⟩
              · exact ⟨_, bd_clo hwc _, lL_isDone_clC l hlt Sc G A h b c m n L M o hJ ho hwc hS hw hI hn i0 (by omega) h2 hl9 p ac ep eac an f hL hT k6 _ rfl hcl h90⟩
            · have q := lL_isDone_clA l hlt Sc G A h b c m n L M o hJ ho hwc hS hw hI hn i0 (by omega) h2 hl9 p ac ep eac an f hL hT k6 _ rfl hcl
              exact ⟨c, bd_c hwc, by rw [Nat.sub_self, Nat.sub_self]; exact q⟩
