/-! the beginning -/
/-! the reference as it is made -/
def m0 : MM := fun k i => if k = 46 ∧ i = 0 then 4000 else 0
/-! the start: nothing is there -/
theorem m0_z {k : Nat} (hk : k ≠ 46) (i : Nat) : m0 k i = 0 := if_neg (fun z => hk z.1)
theorem m0_nh : nhN m0 = 0 := by unfold nhN; rw [m0_z (by omega)]; rfl
theorem m0_nl : nlN m0 = 0 := by unfold nlN; rw [m0_z (by omega)]; rfl
theorem m0_np : npN m0 = 0 := by unfold npN; rw [m0_z (by omega)]; rfl
theorem m0_lg : logN m0 = 0 := by unfold logN; rw [m0_z (by omega)]; rfl
theorem m0_LL : LLm m0 = 4000 := by unfold LLm; rw [show m0 46 0 = 4000 from if_pos ⟨rfl, rfl⟩]; rfl
theorem isN_0 {x : Int32} {b : Nat} (h : x = 0) : isN x 0 b := by
  subst h
  exact ⟨rfl, Nat.zero_le _, Nat.zero_le _⟩
theorem m0_wf : WFa m0 := by
  refine ⟨⟨?_, ?_⟩, ⟨?_, ?_⟩, ⟨?_, ?_⟩, ?_, ?_, ⟨?_, ?_, ?_, ?_, ?_, ?_⟩, ?_, ⟨?_, ?_⟩⟩
  · rw [m0_nh, m0_z (by omega)]; rfl
  · rw [m0_nh]; omega
  · rw [m0_nl, m0_z (by omega)]; rfl
  · rw [m0_nl]; omega
  · rw [m0_np, m0_z (by omega)]; rfl
  · rw [m0_np]; omega
  · intro i hi; rw [m0_nl] at hi; omega
  · intro i hi; rw [m0_np] at hi; omega
  · rw [m0_lg, m0_z (by omega)]; rfl
  · rw [m0_lg, m0_LL]; omega
  · rw [m0_LL]; exact if_pos ⟨rfl, rfl⟩
  · rw [m0_LL]; omega
  · rw [m0_LL]; omega
  · rw [m0_lg, m0_LL]; omega
  · intro j hj; rw [m0_lg] at hj; omega
  · intro i _; exact m0_z (by omega) i
  · intro i _; exact ⟨m0_z (by omega) i, m0_z (by omega) i⟩
theorem sim0 (cap : Nat) : Sim 0 (c00 cap) m0 := by
  have hw := m0_wf
  have c1 : nhN (c00 cap) = 0 := by unfold nhN; rw [c0_z rfl (by omega) (by omega)]; rfl
  have c2 : nlN (c00 cap) = 0 := by unfold nlN; rw [c0_z rfl (by omega) (by omega)]; rfl
  have c3 : npN (c00 cap) = 0 := by unfold npN; rw [c0_z rfl (by omega) (by omega)]; rfl
  have e41 : m0 41 0 = 0 := m0_z (by omega) 0
  refine ⟨⟨⟨⟨?_, ?_, ?_⟩, ?_, ?_, ?_⟩, ⟨hw.lnk, ⟨?_, ?_⟩, ?_, ?_⟩, ?_, ?_, ?_⟩, ?_, ?_, ?_, ?_, ?_, ?_, ?_, ?_⟩
  · rw [c1, m0_nh]
  · rw [c2, m0_nl]
  · rw [c3, m0_np]
  · rw [e41, c0_z rfl (by omega) (by omega)]
  · intro i hi; rw [m0_nh] at hi; omega
  · intro i hi; rw [m0_nl] at hi; omega
  · intro i hi; rw [m0_nh] at hi; omega
  · intro i hi; rw [m0_nl] at hi; omega
  · rw [m0_np]; omega
  · exact isN_0 e41
  · intro i hi; rw [m0_np] at hi; omega
  · intro i hi; rw [m0_nl] at hi; omega
  · intro i hi; rw [m0_np] at hi; omega
  · intro i hi; rw [m0_np] at hi; omega
  · intro i _; rw [m0_lg]; exact Nat.zero_le _
  · exact isN_0 e41
  · intro i _; exact ⟨m0_z (by omega) i, m0_z (by omega) i, m0_z (by omega) i, m0_z (by omega) i, m0_z (by omega) i, m0_z (by omega) i, m0_z (by omega) i⟩
  · intro i; exact m0_z (by omega) i
  · intro i hi; rw [m0_np] at hi; omega
  · intro i hi; rw [m0_nh] at hi; omega
  · intro i hi; rw [m0_np] at hi; omega

