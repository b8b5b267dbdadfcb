theorem s_findings (σ : zSt) (h : RR σ) (f : Int32) : Step σ mi_X5_findings mi_X6_findings [zi f] := by
  by_cases hf : f < 1 ∨ ¬ f ≤ 5
  · refine step_ff (c_X5_findings_bad σ f hf) (c_X6_findings_bad σ f ?_) (by decide) (by decide) rfl h
    rintro ⟨a, b⟩
    exact hf.elim a (fun z => b (Int32.not_le.mp z))
  · have h1 : ¬ f < 1 := fun z => hf (Or.inl z)
    have h5 : f ≤ 5 := Int32.not_lt.mp fun z => hf (Or.inr (Int32.not_le.mpr z))
    obtain ⟨k, hk, rfl⟩ := nI_of2 (M := 5) (n := 5) (by decide) (fun z => h1 (Int32.lt_of_lt_of_le z (by decide))) h5
    have hk1 : 1 ≤ k := Nat.le_of_not_lt fun z => h1 (nI_lt (b := 1) z (by decide))
    exact step_ff (c_X5_findings_ok σ k ⟨hk1, hk⟩) (c_X6_findings_ok σ k ⟨hk1, hk⟩) (by decide) (by decide) (congrArg zi (h.1.1.2 k (by omega)).symm) h
