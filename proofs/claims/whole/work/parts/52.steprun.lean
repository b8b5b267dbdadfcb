theorem first_no {P : Nat → Prop} : ∀ n, (¬ ∀ i, i < n → P i) → ∃ u, u < n ∧ ¬ P u ∧ ∀ i, i < u → P i
  | 0, h => absurd (fun i hi => absurd hi (by omega)) h
  | n + 1, h => by
    by_cases h2 : ∀ i, i < n → P i
    · refine ⟨n, by omega, fun z => h (fun i hi => ?_), h2⟩
      by_cases e : i = n
      · rw [e]
        exact z
      · exact h2 i (by omega)
    · obtain ⟨u, a, b, c⟩ := first_no n h2
      exact ⟨u, by omega, b, c⟩
theorem run_eq {σ : zSt} {n j w : Nat} (h1 : RD1 σ n) (hv : ∀ i, i < w → fA σ j i = fA σ 23 (40 * j + i)) (hb : ∀ i, i < w → ∃ b, b < 9 ∧ fA σ 23 (40 * j + i) = nI b) : ∀ i, i ≤ w → Sd (fI σ 1 0 0) (x_run σ j i) (m_run σ j n i) ∧ p_number σ 3 + nI i = m_run σ j n i 9
  | 0, _ => ⟨cur_S h1, by rw [show nI 0 = 0 from rfl, Int32.add_zero]; exact cur_q h1⟩
  | i + 1, hi => by
    obtain ⟨a, b⟩ := run_eq h1 hv hb i (by omega)
    obtain ⟨c, hc, e⟩ := hb i (by omega)
    rw [x_run, m_run, hv i (by omega), e, nI_clamp (by omega)]
    refine ⟨prs_eq h1.2.2.2.1 a b hc, ?_⟩
    unfold ms
    rw [press_9, ← b, ← nI_1 i, Int32.add_assoc]
