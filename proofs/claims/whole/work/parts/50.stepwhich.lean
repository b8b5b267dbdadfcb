theorem pic_iff {s : Int32} : m_in s 0 511 ↔ ¬ (s < 0 ∨ ¬ s ≤ 511) := by
  constructor
  · rintro ⟨a, b⟩ (z | z)
    · exact a z
    · exact b (Int32.not_le.mp z)
  · intro z
    exact ⟨fun y => z (Or.inl y), fun y => z (Or.inr (Int32.not_le.mpr y))⟩
theorem which_eq {σ : zSt} {n : Nat} (h1 : RD1 σ n) (pic : Int32) : ∀ b, b ≤ 9 → x_which σ pic b = m_which σ n pic b
  | 0, _ => rfl
  | b + 1, hb => by
    rw [x_which, m_which, which_eq h1 pic b (by omega), sb_eq h1 (by omega), Int32.or_zero]
theorem s_which (σ : zSt) (h : RR σ) (s : Int32) : Step σ mi_X5_which mi_X6_which [zi s] := by
  rcases h.2.2.2.2 with h0 | ⟨n, h1⟩
  · exact step_ff (c_X5_which_none σ s (by rw [h0.1]; decide)) (c_X6_which_none σ s h0.2.1) (by decide) (by decide) rfl h
  · by_cases hs : s < 0 ∨ ¬ s ≤ 511
    · exact step_ff (c_X5_which_bad σ s (cur_n h1) hs) (c_X6_which_bad σ s h1.2.1 (fun z => pic_iff.mp z hs)) (by decide) (by decide) rfl h
    · have hm := c_X6_which_ok σ n s h1.2.1 h1.2.2.1 h1.1 (pic_iff.mpr hs) (fA σ 31)
      rw [sA_self] at hm
      refine step_fq (c_X5_which_ok σ s (cur_n h1) hs) hm (by decide) (by decide) ?_
      rintro r2 σ2 ⟨rfl, g, rfl⟩
      rw [which_eq h1 s 9 (Nat.le_refl _)]
      exact ⟨rfl, RR_31 h⟩
theorem s_asked (σ : zSt) (h : RR σ) : Step σ mi_X5_asked mi_X6_asked [] := step_ff (c_X5_asked σ) (c_X6_asked σ) (by decide) (by decide) (congrArg zi h.1.2.1.symm) h
theorem s_finding (σ : zSt) (h : RR σ) : Step σ mi_X5_finding mi_X6_finding [] := step_ff (c_X5_finding σ) (c_X6_finding σ) (by decide) (by decide) (congrArg zi h.1.1.1.symm) h
theorem s_upper (σ : zSt) (h : RR σ) : Step σ mi_X5_upper mi_X6_upper [] := step_ff (c_X5_upper σ) (c_X6_upper σ) (by decide) (by decide) (congrArg zl h.1.2.2.1.symm) h
theorem s_lower (σ : zSt) (h : RR σ) : Step σ mi_X5_lower mi_X6_lower [] := step_ff (c_X5_lower σ) (c_X6_lower σ) (by decide) (by decide) (congrArg zl h.1.2.2.2.symm) h
