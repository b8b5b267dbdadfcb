theorem isBy_A {σ τ : zSt} (e1 : fA τ 26 = fA σ 26) (e2 : fA τ 28 = fA σ 28) (n : Nat) (x pic : Int32) : m_isBy τ n x pic ↔ m_isBy σ n x pic := by
  unfold m_isBy m_st
  rw [e1, e2]
theorem ways_A {σ τ : zSt} (e1 : fA τ 26 = fA σ 26) (e2 : fA τ 28 = fA σ 28) (n : Nat) (pic : Int32) : ∀ m, m_ways τ n pic m = m_ways σ n pic m
  | 0 => rfl
  | m + 1 => by
    rw [m_ways, m_ways, ways_A e1 e2 n pic m]
    have := isBy_A e1 e2 n (nI (511 - m)) pic
    by_cases h : m_isBy σ n (nI (511 - m)) pic
    · rw [if_pos h, if_pos (this.mpr h)]
    · rw [if_neg h, if_neg (fun z => h (this.mp z))]
theorem ways_eq {σ : zSt} {n : Nat} (h1 : RD1 σ n) (pic : Int32) : x_ways σ pic 512 = m_ways σ n pic 512 := by
  rw [xways_u, mways_u σ n pic 512 (Nat.le_refl _)]
  refine uP_c 0 512 (fun i hi => ?_)
  rw [Nat.zero_add]
  exact by_iff h1 pic hi
theorem s_ways (σ : zSt) (h : RR σ) (s : Int32) : Step σ mi_X5_ways mi_X6_ways [zi s] := by
  rcases h.2.2.2.2 with h0 | ⟨n, h1⟩
  · exact step_ff (c_X5_ways_none σ s (by rw [h0.1]; decide)) (c_X6_ways_none σ s h0.2.1) (by decide) (by decide) rfl h
  · by_cases hs : s < 0 ∨ ¬ s ≤ 511
    · exact step_ff (c_X5_ways_bad σ s (cur_n h1) hs) (c_X6_ways_bad σ s h1.2.1 (fun z => pic_iff.mp z hs)) (by decide) (by decide) rfl h
    · have hm := c_X6_ways_ok (sI (x_parts1 (x_fill σ) (x_ways σ s 512).1.toInt64) 0 0 11 (x_ways σ s 512).2) n s h1.2.1 h1.2.2.1 h1.1 (pic_iff.mpr hs) (fA (sI (x_parts1 (x_fill σ) (x_ways σ s 512).1.toInt64) 0 0 11 (x_ways σ s 512).2) 31)
      have ew : m_ways (sI (x_parts1 (x_fill σ) (x_ways σ s 512).1.toInt64) 0 0 11 (x_ways σ s 512).2) n s 512 = x_ways σ s 512 := (ways_A (σ := σ) (τ := sI (x_parts1 (x_fill σ) (x_ways σ s 512).1.toInt64) 0 0 11 (x_ways σ s 512).2) rfl rfl n s 512).trans (ways_eq h1 s).symm
      rw [sA_self, ew] at hm
      refine step_fq (c_X5_ways_ok σ s (cur_n h1) hs) hm (by decide) (by decide) ?_
      rintro r2 σ2 ⟨rfl, g, rfl⟩
      exact ⟨rfl, RR_ask (σ := sL (sL (sL (sL (sA (x_fill σ) 31 g) 0 0 12 _) 0 0 13 1) 5 0 3 _) 5 0 4 1) rfl (RR_parts (RR_31 (RR_18 h)))⟩
