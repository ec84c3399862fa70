theorem cpW_43 (n : Nat) (m : MM) : cpW n m 43 = m 43 := by
  induction n generalizing m with
  | zero => rfl
  | succ n ih =>
    unfold cpW
    first
    | rw [ih]; exact up_key (by decide)
    | (rw [up_key (by decide)]; exact ih m)
theorem tries_43 : ∀ (d : Nat) (en : Int32) (m : MM) (ah s t : Int32) (size : Nat) (seen : Int32), size + d ≤ 6 → vp_in (m 43 0) 6 → vp_in (triesF d en m ah s t size seen 43 0) 6 := by
  intro d
  induction d with
  | zero => intro en m ah s t size seen _ h; exact h
  | succ d ih =>
    intro en m ah s t size seen hs h
    unfold triesF
    split
    · split
      · rw [cpW_43, up_s]; exact vp_in_nI (by omega) (by omega)
      · exact h
    · have K : ∀ (k l : Nat) (m : MM), vp_in (m 43 0) 6 → vp_in (trL (fun m' a' s' t' sz' sn' => triesF d en m' a' s' t' sz'.toNatClampNeg sn') ah size s t seen k l m 43 0) 6 := by
        intro k
        induction k with
        | zero => intro l m h; exact h
        | succ k ihk =>
          intro l m h
          unfold trL
          refine ihk _ _ ?_
          split
          · rw [nI_clamp (by omega)]
            exact ih _ _ _ _ _ _ _ (by omega) (by rw [up_k (by decide)]; exact h)
          · exact h
      exact K _ _ _ h
theorem fLays_43 (m : MM) (p : Nat) : vp_in (fLays m p 43 0) 6 := tries_43 6 _ _ _ _ _ 0 _ (by omega) (by rw [up_s]; exact vp_in_nI (n := 0) (by decide) (by decide))

