/-! what each call can throw -/
theorem xo_in {a b : Option String} {L : List String} (ha : ∀ E, a = some E → E ∈ L) (hb : ∀ E, b = some E → E ∈ L) : ∀ E, xo a b = some E → E ∈ L := by
  intro E h
  cases a with
  | none => exact hb E h
  | some e => exact ha E h
theorem if_in {c : Prop} [Decidable c] {a b : Option String} {L : List String} (ha : ∀ E, a = some E → E ∈ L) (hb : ∀ E, b = some E → E ∈ L) : ∀ E, (if c then a else b) = some E → E ∈ L := by
  intro E h
  by_cases z : c
  · rw [if_pos z] at h; exact ha E h
  · rw [if_neg z] at h; exact hb E h
theorem no_in {L : List String} : ∀ E, (none : Option String) = some E → E ∈ L := fun _ h => by cases h
theorem so_in {e : String} {L : List String} (h : e ∈ L) : ∀ E, some e = some E → E ∈ L := fun E z => by cases z; exact h
theorem nse1 {L : List String} : nseC ∈ nseC :: L := List.mem_cons_self
theorem xHb_in {u : MM} {x : Int32} {L : List String} : ∀ E, xHb u x = some E → E ∈ nseC :: L := if_in no_in (so_in nse1)
theorem xLn_in {u : MM} {x : Int32} {L : List String} : ∀ E, xLn u x = some E → E ∈ nseC :: L := if_in no_in (so_in nse1)
theorem xPa_in {u : MM} {x : Int32} {L : List String} : ∀ E, xPa u x = some E → E ∈ nseC :: L := if_in no_in (so_in nse1)
theorem snd_in {a b : String} {L : List String} : b ∈ a :: b :: L := List.mem_cons_of_mem _ List.mem_cons_self
theorem trd_in {a b c : String} {L : List String} : c ∈ a :: b :: c :: L := List.mem_cons_of_mem _ (List.mem_cons_of_mem _ List.mem_cons_self)
theorem xOpn_in {u : MM} {x : Int32} : ∀ E, xOpn u x = some E → E ∈ [nseC, iseC] := xo_in xLn_in (if_in (so_in snd_in) no_in)
theorem xSc_in {u : MM} {x : Int32} {L : List String} : ∀ E, xSc u x = some E → E ∈ nseC :: iseC :: L := xo_in xPa_in (if_in no_in (so_in snd_in))
theorem xEv_in {u : MM} {x i : Int32} : ∀ E, xEv u x i = some E → E ∈ [nseC, iobC] := xo_in xPa_in (if_in (so_in snd_in) no_in)
theorem xAt_in {u : MM} {x : Int32} : ∀ E, xAt u x = some E → E ∈ [nseC, iseC] := xo_in xPa_in (if_in (so_in snd_in) no_in)
theorem xRd_in {u : MM} {x : Int32} : ∀ E, xRd u x = some E → E ∈ [nseC, iseC] := xo_in xPa_in (if_in no_in (so_in snd_in))
theorem xAd_in {x : Int32} : ∀ E, xAd x = some E → E ∈ [iaeC] := if_in (so_in List.mem_cons_self) no_in
theorem xBv_in {u : MM} {x i : Int32} : ∀ E, xBv u x i = some E → E ∈ [nseC, iobC] := xo_in xLn_in (if_in (so_in snd_in) no_in)
theorem xPaA_in {u : MM} {x i : Int32} : ∀ E, xPaA u x i = some E → E ∈ [nseC, iseC, iobC] := xo_in xSc_in (if_in no_in (so_in trd_in))
theorem xScn_in {u : MM} {x y : Int32} : ∀ E, xScn u x y = some E → E ∈ [nseC, iseC] := xo_in xPa_in (xo_in xHb_in (if_in (so_in snd_in) no_in))
theorem xDel_in {u : MM} {x : Int32} : ∀ E, xDel u x = some E → E ∈ [nseC, iseC] := xo_in xPa_in (if_in no_in (so_in snd_in))
theorem xRec_in {u : MM} {x : Int32} : ∀ E, xRec u x = some E → E ∈ [nseC, iseC] := xo_in xSc_in (if_in no_in (so_in snd_in))
theorem xPas_in {x : Int32} : ∀ E, xPas x = some E → E ∈ [iaeC] := if_in no_in (so_in List.mem_cons_self)
theorem xWat_in {u : MM} {x i : Int32} : ∀ E, xWat u x i = some E → E ∈ [nseC, iobC] := xo_in xLn_in (if_in (so_in snd_in) no_in)
theorem xOpH_in {u : MM} {x y : Int32} : ∀ E, xOpH u x y = some E → E ∈ [iaeC, iseC] := if_in (so_in List.mem_cons_self) (if_in (so_in snd_in) no_in)
theorem xAdd_in {u : MM} {x y f per tr mb : Int32} : ∀ E, xAdd u x y f per tr mb = some E → E ∈ [nseC, iaeC, iseC] := xo_in xHb_in (xo_in xHb_in (if_in (so_in snd_in) (if_in (so_in trd_in) no_in)))
theorem xAcc_in {u : MM} {x ad vol ser : Int32} : ∀ E, xAcc u x ad vol ser = some E → E ∈ [nseC, iaeC, iseC] := xo_in xHb_in (if_in (so_in snd_in) (if_in (so_in trd_in) no_in))
theorem xLat_in {u : MM} : ∀ E, xLat u = some E → E ∈ [aeC] := if_in (so_in List.mem_cons_self) no_in
theorem xMea_in {u : MM} : ∀ E, xMea u = some E → E ∈ [aeC] := if_in (so_in List.mem_cons_self) no_in
/-! values that no thing shows may be any -/
theorem RC.off {E : Nat} {h : AH} {b : BA} {c : MM} (hR : RC E h b c) {k i : Nat} {x : Int32} (hsz : ¬ kSz k) (hne : k ≠ 36 ∧ k ≠ 176 ∧ k ≠ 10 ∧ k ≠ 160 ∧ k ≠ 161 ∧ k ≠ 111) (hn : ¬ ok c (kInvI k).1 i) : RC E h b (up c k i x) := by
  have e : ∀ k', kSz k' → up c k i x k' = c k' := fun k' hk' => up_key (fun z => hsz (z ▸ hk'))
  have eo : ok (up c k i x) = ok c := ok_ext e
  obtain ⟨h1, h2, h3, h4, h5, h6⟩ := hne
  have f : ∀ {k' : Nat}, k ≠ k' → up c k i x k' = c k' := fun z => up_key (fun q => z q.symm)
  refine hR.intro2 (fun _ _ => False) (fun K j hk => Or.inl (by rw [eo] at hk; exact hk)) ((AgF.refl c).upn hn) (fun q _ => by rw [e 172 (by unfold kSz; omega)]) (f h1) (f h2) (fun i' k' _ _ => ?_) (fun i' k' _ _ => by rw [f h6]) (fun _ _ q => q.elim) (fun _ _ _ q => q.elim) (fun _ _ _ q => q.elim) (fun _ q => q.elim) (fun _ q => q.elim) (fun _ q => q.elim) (fun _ _ _ q => q.elim)
  unfold c20
  rw [f h3, f h4, f h5]
