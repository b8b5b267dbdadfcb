/-! ===== the digest, on both sides ===== -/
theorem mix_c {f g : Nat → Int32} (h : Int64) : ∀ n, (∀ i, i < n → f i = g i) → r_mix f h n = r_mix g h n
  | 0, _ => rfl
  | n + 1, e => by rw [r_mix, r_mix, mix_c h n (fun i hi => e i (by omega)), e n (by omega)]
theorem d1_eq {σ : zSt} {n : Nat} (he : ∀ w, w < 11 → x_cnt σ w = m_ct σ n w) : ∀ w, w ≤ 11 → x_d1 σ w = r_mix (m_ct σ n) 17 w
  | 0, _ => rfl
  | w + 1, hw => by rw [x_d1, r_mix, d1_eq he w (by omega), he w (by omega)]
theorem di_eq {σ : zSt} {n : Nat} (h1 : RD1 σ n) {i : Nat} (hi : i < 9) (h : Int64) : ∀ w, x_di σ i h w = r_mix (m_fact σ n i) h w
  | 0 => rfl
  | w + 1 => by rw [x_di, r_mix, di_eq h1 hi h w, told_eq h1 hi w]
theorem d2_eq {σ : zSt} {n : Nat} (h1 : RD1 σ n) (h : Int64) : ∀ i, i ≤ 9 → x_d2 σ h i = m_d2 σ n h i
  | 0, _ => rfl
  | i + 1, hi => by rw [x_d2, m_d2, d2_eq h1 h i (by omega), di_eq h1 (by omega)]
theorem d3_eq {σ : zSt} (hD : RD σ) (h : Int64) : ∀ k, k ≤ 3 → x_d3 σ h k = r_mix (fA σ 30) h k
  | 0, _ => rfl
  | k + 1, hk => by
    obtain ⟨e, c⟩ := kp_eq hD (k := k) (by omega)
    have ev : (if 0 ≤ fI σ 2 k 2 then zmax (fI σ 2 k 2) 0 else -1) = fI σ 2 k 2 := by
      rcases c with c | ⟨m, hm, c⟩
      · rw [c]
        decide
      · rw [c, if_pos (nI_pos' (by omega))]
        unfold zmax
        rw [if_neg (nI_pos (by omega))]
    rw [x_d3, r_mix, d3_eq hD h k (by omega), e, ev]
theorem d4a_eq {σ : zSt} (hB : RB σ) (h : Int64) : ∀ r, r ≤ 6 → x_d4 σ 0 h r = m_d4 σ 22 23 40 h r
  | 0, _ => rfl
  | r + 1, hr => by
    obtain ⟨e, c⟩ := hB r (by omega)
    rw [x_d4, m_d4, d4a_eq hB h r (by omega), Nat.zero_add, e]
    unfold x_mr
    refine mix_c _ _ (fun i hi => ?_)
    rcases c with c | ⟨m, hm, c, hv⟩
    · rw [c] at hi
      exact absurd hi (by decide +revert)
    · rw [c, nI_clamp (by omega)] at hi
      exact hv i hi
theorem d4b_eq {σ : zSt} (hC : RC σ) (h : Int64) : ∀ r, r ≤ 4 → x_d4 σ 6 h r = m_d4 σ 24 33 60 h r
  | 0, _ => rfl
  | r + 1, hr => by
    obtain ⟨e, c⟩ := hC r (by omega)
    rw [x_d4, m_d4, d4b_eq hC h r (by omega), e]
    unfold x_mr
    refine mix_c _ _ (fun i hi => ?_)
    rcases c with c | ⟨m, hm, c, hv⟩
    · rw [c] at hi
      exact absurd hi (by decide +revert)
    · rw [c, nI_clamp (by omega)] at hi
      exact hv i hi
theorem s_digest (σ : zSt) (h : RR σ) : Step σ mi_X5_digest mi_X6_digest [] := by
  obtain ⟨n, hc, he, hR⟩ := cnt_eq h
  have hB := h.2.1
  have hC := h.2.2.1
  have hr : ∀ j, j < 10 → r_ok σ j := fun j hj => by
    by_cases h6 : j < 6
    · rcases (hB j h6).2 with c | ⟨m, hm, c, _⟩
      · exact Or.inl c
      · exact Or.inr ⟨m, by rw [zlenR j h6]; exact hm, c⟩
    · obtain ⟨i, rfl⟩ : ∃ i, j = 6 + i := ⟨j - 6, by omega⟩
      rcases (hC i (by omega)).2 with c | ⟨m, hm, c, _⟩
      · exact Or.inl c
      · exact Or.inr ⟨m, by rw [zlenT i (by omega)]; exact hm, c⟩
  have ho : ∀ j, j < 6 → mr_ok (fA σ 22 j) 40 := fun j hj => by
    obtain ⟨e, c⟩ := hB j hj
    rw [e]
    rcases c with c | ⟨m, hm, c, _⟩
    · exact Or.inl c
    · exact Or.inr ⟨m, hm, c⟩
  have ht : ∀ j, j < 4 → mr_ok (fA σ 24 j) 60 := fun j hj => by
    obtain ⟨e, c⟩ := hC j hj
    rw [e]
    rcases c with c | ⟨m, hm, c, _⟩
    · exact Or.inl c
    · exact Or.inr ⟨m, hm, c⟩
  have eA : x_dgA σ = m_dgA σ n := by
    unfold x_dgA m_dgA
    rw [d1_eq he 11 (Nat.le_refl _)]
    rcases hR with h1 | h0
    · rw [if_pos (cur_n h1), if_pos h1.2.1, d2_eq h1 _ 9 (Nat.le_refl _)]
    · rw [if_neg (by rw [h0.1]; decide), if_neg (by rw [h0.2.1]; decide)]
  have e : m_dig σ n = x_dig σ := by
    unfold x_dig m_dig
    rw [d4b_eq hC _ 4 (Nat.le_refl _), d4a_eq hB _ 6 (Nat.le_refl _), d3_eq h.2.2.2 _ 3 (Nat.le_refl _), eA]
  rcases hR with h1 | h0
  · exact step_ff (c_X5_digest_ok σ (cur_n h1) hr) (c_X6_digest σ n hc ho ht) (by decide) (by decide) (congrArg zl e) h
  · exact step_ff (c_X5_digest_none σ (by rw [h0.1]; decide) hr) (c_X6_digest σ n hc ho ht) (by decide) (by decide) (congrArg zl e) h
