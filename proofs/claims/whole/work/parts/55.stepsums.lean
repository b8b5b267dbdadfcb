theorem sum_A {σ τ : zSt} (e : fA τ = fA σ) (n : Nat) (x : Int32) : ∀ i, m_sum τ n x i = m_sum σ n x i
  | 0 => rfl
  | i + 1 => by rw [m_sum, m_sum, sum_A e n x i, e]
theorem sums_A {σ τ : zSt} (e : fA τ = fA σ) (n : Nat) (v : Int32) : ∀ m, m_sums τ n v m = m_sums σ n v m
  | 0 => rfl
  | m + 1 => by rw [m_sums, m_sums, sums_A e n v m, sum_A e]
theorem sums_eq {σ : zSt} {n : Nat} (h1 : RD1 σ n) (v : Int32) : x_sums σ v 512 = m_sums σ n v 512 := by
  rw [xsums_u, msums_u σ n v 512 (Nat.le_refl _)]
  refine uP_c 0 512 (fun i hi => ?_)
  show st_total (p_state σ 3) (nI (0 + i)) = v ↔ m_sum σ n (nI (0 + i)) 9 = v
  rw [msum_eq h1 _ 9 (Nat.le_refl _), ← zbc_bits (s9_and (s9_ones _)), ← zbc_bits (s9_and (s9_twos _))]
  exact Iff.rfl
theorem s_sums (σ : zSt) (h : RR σ) (v : Int32) : Step σ mi_X5_sums mi_X6_sums [zi v] := by
  rcases h.2.2.2.2 with h0 | ⟨n, h1⟩
  · exact step_ff (c_X5_sums_none σ v (by rw [h0.1]; decide)) (c_X6_sums_none σ v h0.2.1) (by decide) (by decide) rfl h
  · by_cases hv : v < 0 ∨ ¬ v ≤ 18
    · exact step_ff (c_X5_sums_bad σ v (cur_n h1) hv) (c_X6_sums_bad σ v h1.2.1 (fun z => hv.elim z.1 (fun y => z.2 (Int32.not_le.mp y)))) (by decide) (by decide) rfl h
    · refine step_ff (c_X5_sums_ok σ v (cur_n h1) hv) (c_X6_sums_ok _ n v h1.2.1 h1.2.2.1 h1.1 ⟨fun z => hv (Or.inl z), fun z => hv (Or.inr (Int32.not_le.mpr z))⟩) (by decide) (by decide) rfl ?_
      rw [sums_A (σ := σ) (τ := sI (x_parts1 σ (x_sums σ v 512).1.toInt64) 0 0 11 (x_sums σ v 512).2) rfl, ← sums_eq h1]
      exact RR_ask (σ := sL (sL (sL (sL σ 0 0 12 _) 0 0 13 1) 5 0 3 _) 5 0 4 1) rfl (RR_parts h)
