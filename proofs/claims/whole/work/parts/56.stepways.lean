/-! ===== sets of buttons on both sides ===== -/
theorem bit_tb {s i : Nat} (hi : i < 32) : m_bit (nI s) (nI i) = 1 ↔ s.testBit i = true := by rw [m_bit1 _ hi, bt_nI _ _ hi]
theorem bS_c (kd S : Nat → Int32) {s r : Nat} : ∀ b, b ≤ 9 → (∀ i, i < b → s.testBit i = r.testBit i) → m_bS kd (nI s) S b = m_bS kd (nI r) S b
  | 0, _, _ => rfl
  | b + 1, hb, h => by
    rw [m_bS, m_bS, bS_c kd S b (by omega) (fun i hi => h i (by omega))]
    have e : m_bit (nI s) (nI b) = 1 ↔ m_bit (nI r) (nI b) = 1 := by rw [bit_tb (by omega), bit_tb (by omega), h b (by omega)]
    by_cases z : m_bit (nI r) (nI b) = 1
    · rw [if_pos z, if_pos (e.mpr z)]
    · rw [if_neg z, if_neg (fun y => z (e.mp y))]
theorem bits_up : ∀ b, b < 9 → ∀ r, r < 2 ^ b → m_bits (nI (2 ^ b + r)) 9 = m_bits (nI r) 9 + 1 := by decide +kernel
theorem bT_eq {σ : zSt} {n : Nat} (h1 : RD1 σ n) : ∀ b, b ≤ 9 → ∀ s, s < 2 ^ b → Sd (fI σ 1 0 0) (x_bT σ b s) (m_bS (fA σ 26) (nI s) (m_st σ n) b) ∧ m_bS (fA σ 26) (nI s) (m_st σ n) b 9 = p_number σ 3 + m_bits (nI s) 9
  | 0, _, s, hs => by
    obtain rfl : s = 0 := by
      rw [Nat.pow_zero] at hs
      omega
    refine ⟨cur_S h1, ?_⟩
    rw [show m_bits (nI 0) 9 = 0 by decide, Int32.add_zero]
    exact (cur_q h1).symm
  | b + 1, hb, s, hs => by
    rw [x_bT, m_bS]
    by_cases h : s < 2 ^ b
    · have hz : ¬ m_bit (nI s) (nI b) = 1 := by
        rw [bit_tb (by omega), Nat.testBit_lt_two_pow h]
        decide
      rw [if_pos h, if_neg hz]
      exact bT_eq h1 b (by omega) s h
    · obtain ⟨r, rfl⟩ : ∃ r, s = 2 ^ b + r := ⟨s - 2 ^ b, by omega⟩
      have hr : r < 2 ^ b := by
        rw [Nat.pow_succ] at hs
        omega
      have h512 : 2 ^ b ≤ 256 := Nat.pow_le_pow_right (n := 2) (i := b) (j := 8) (by decide) (by omega)
      obtain ⟨a, q⟩ := bT_eq h1 b (by omega) r hr
      have hz : m_bit (nI (2 ^ b + r)) (nI b) = 1 := by
        rw [bit_tb (by omega), Nat.testBit_two_pow_add_eq, Nat.testBit_lt_two_pow hr]
        rfl
      rw [if_neg h, if_pos hz, bS_c (fA σ 26) (m_st σ n) (s := 2 ^ b + r) (r := r) b (by omega) (fun i hi => Nat.testBit_two_pow_add_gt hi r), Nat.add_sub_cancel_left, zbc_bits (s9_nI (by omega))]
      refine ⟨prs_eq h1.2.2.2.1 a q.symm (by omega), ?_⟩
      unfold ms
      rw [press_9, q, bits_up b (by omega) r hr, Int32.add_assoc]
theorem by_iff {σ : zSt} {n : Nat} (h1 : RD1 σ n) (pic : Int32) {s : Nat} (hs : s < 512) : kx_show σ 0 (x_bs σ s) = pic ↔ m_isBy σ n (nI s) pic := by
  unfold x_bs m_isBy
  rw [shw_eq h1.2.2.2.1 (bT_eq h1 9 (Nat.le_refl _) s hs).1]
