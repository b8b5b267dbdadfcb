/-! ===== what is counted, on both sides ===== -/
theorem le_lt (x a b : Int32) : (if 0 ≤ x then a else b) = if x < 0 then b else a := by
  by_cases h : x < 0
  · rw [if_pos h, if_neg (Int32.not_le.mpr h)]
  · rw [if_neg h, if_pos (Int32.not_lt.mp h)]
theorem cr0_eq {σ : zSt} (h : RB σ) : ∀ i, i ≤ 6 → x_cr σ 0 i = m_cnt (fA σ 22) i
  | 0, _ => rfl
  | i + 1, hi => by rw [x_cr, m_cnt, cr0_eq h i (by omega), Nat.zero_add, (h i (by omega)).1, le_lt]
theorem cr1_eq {σ : zSt} (h : RC σ) : ∀ i, i ≤ 4 → x_cr σ 6 i = m_cnt (fA σ 24) i
  | 0, _ => rfl
  | i + 1, hi => by rw [x_cr, m_cnt, cr1_eq h i (by omega), (h i (by omega)).1, le_lt]
theorem kp_eq {σ : zSt} (h : RD σ) {k : Nat} (hk : k < 3) : fA σ 30 k = fI σ 2 k 2 ∧ (fI σ 2 k 2 = -1 ∨ ∃ m, m ≤ 40 ∧ fI σ 2 k 2 = nI m) := by
  rcases h.2 with h0 | ⟨n, h1⟩
  · obtain ⟨a, b⟩ := h0.2.2.2.2 k hk
    exact ⟨b.trans a.symm, Or.inl a⟩
  · rcases h1.2.2.2.2.2.2 k hk with ⟨a, b⟩ | ⟨m, hm, a, b, _⟩
    · exact ⟨b.trans a.symm, Or.inl a⟩
    · exact ⟨b.trans a.symm, Or.inr ⟨m, hm, a⟩⟩
theorem ck_eq {σ : zSt} (h : RD σ) : ∀ i, i ≤ 3 → x_ck σ i = m_cnt (fA σ 30) i
  | 0, _ => rfl
  | i + 1, hi => by rw [x_ck, m_cnt, ck_eq h i (by omega), (kp_eq h (by omega)).1, le_lt]
theorem bits_sm {x : Int32} {f : Nat → Int32} (h : ∀ i, i < 9 → bI (bt x i) = f i) : ∀ i, i ≤ 9 → m_bits x i = m_sm f i
  | 0, _ => rfl
  | i + 1, hi => by
    rw [m_bits, m_sm, bits_sm h i (by omega), ← h i (by omega)]
    unfold m_bit
    rw [m_bit_bt _ (by omega)]
theorem sum_sm (σ : zSt) (n : Nat) : ∀ i, i ≤ 9 → m_sum σ n 511 i = m_sm (m_so σ n 5) i
  | 0, _ => rfl
  | i + 1, hi => by
    rw [m_sum, m_sm, if_pos ((m_bit1 511 (k := i) (by omega)).mpr (by rw [bt_511]; exact decide_eq_true (by omega))), sum_sm σ n i (by omega)]
    rfl
theorem k6_fin : ∀ k, k < 6 → bI (k == 1 || k == 4) = (if nI k = 1 ∨ nI k = 4 then 1 else 0) ∧ bI (k == 3 || k == 5) = (if nI k = 3 ∨ nI k = 5 then 1 else 0) := by decide +kernel
theorem cw_eq {σ : zSt} {n : Nat} (h1 : RD1 σ n) : ∀ w, x_cw σ w = m_cw σ n w := by
  have hn := h1.1
  have hK := h1.2.2.2.1
  have e5 : st_total (p_state σ 3) 511 = m_sm (m_so σ n 5) 9 := by
    unfold st_total
    rw [← sum_sm σ n 9 (Nat.le_refl _), msum_eq h1 511 9 (Nat.le_refl _), zbc_bits (s9_and (s9_ones _)), zbc_bits (s9_and (s9_twos _))]
  have e6 : zbc (fI σ 1 0 0) = m_sm (m_so σ n 6) 9 := by
    rw [zbc_bits hK.1.1]
    refine bits_sm (fun i hi => ?_) 9 (Nat.le_refl _)
    obtain ⟨k, hk, ek, a, _⟩ := hK.2 i hi
    show bI (bt (fI σ 1 0 0) i) = (if fA σ 26 i = 1 ∨ fA σ 26 i = 4 then 1 else 0)
    rw [a, ek]
    exact (k6_fin k hk).1
  have e7 : zbc (fI σ 1 0 2) = m_sm (m_so σ n 7) 9 := by
    rw [zbc_bits hK.1.2.2.1]
    refine bits_sm (fun i hi => ?_) 9 (Nat.le_refl _)
    obtain ⟨k, hk, ek, _, _, a, _⟩ := hK.2 i hi
    show bI (bt (fI σ 1 0 2) i) = (if fA σ 26 i = 3 ∨ fA σ 26 i = 5 then 1 else 0)
    rw [a, ek]
    exact (k6_fin k hk).2
  have e2 : zmax (fI σ 2 3 2) 0 = nI n := by
    rw [h1.2.2.2.2.1]
    unfold zmax
    rw [if_neg (nI_pos (by omega))]
  intro w
  rcases w with _ | _ | _ | _ | _ | _ | _ | w
  · rfl
  · exact cur_q h1
  · exact e2
  · exact cur_show h1
  · exact (cur_S h1).2.symm
  · exact e5
  · exact e6
  · exact e7
theorem cnt_eq {σ : zSt} (h : RR σ) : ∃ n, m_cok σ n ∧ (∀ w, w < 11 → x_cnt σ w = m_ct σ n w) ∧ (RD1 σ n ∨ RD0 σ) := by
  have e8 := cr0_eq h.2.1 6 (Nat.le_refl _)
  have e9 := cr1_eq h.2.2.1 4 (Nat.le_refl _)
  have e10 := ck_eq h.2.2.2 3 (Nat.le_refl _)
  rcases h.2.2.2.2 with h0 | ⟨n, h1⟩
  · refine ⟨0, Or.inr ⟨rfl, h0.2.1, h0.2.2.1, h0.2.2.2.1 9 (by decide), h0.2.2.2.1 10 (by decide)⟩, fun w hw => ?_, Or.inr h0⟩
    have hx : ¬ 0 ≤ fI σ 2 3 2 := by
      rw [h0.1]
      decide
    have hm : ¬ fI σ 5 0 10 = 9 := by
      rw [h0.2.1]
      decide
    have e : ∀ v, (if 0 ≤ fI σ 2 3 2 then x_cw σ v else 0) = (if fI σ 5 0 10 = 9 then m_cw σ 0 v else 0) := fun v => by rw [if_neg hx, if_neg hm]
    rcases w with _ | _ | _ | _ | _ | _ | _ | _ | _ | _ | _ | w
    · exact e 0
    · exact e 1
    · exact e 2
    · exact e 3
    · exact e 4
    · exact e 5
    · exact e 6
    · exact e 7
    · exact e8
    · exact e9
    · exact e10
    · omega
  · refine ⟨n, Or.inl ⟨h1.2.1, h1.2.2.1, h1.1⟩, fun w hw => ?_, Or.inl h1⟩
    have e : ∀ v, (if 0 ≤ fI σ 2 3 2 then x_cw σ v else 0) = (if fI σ 5 0 10 = 9 then m_cw σ n v else 0) := fun v => by rw [if_pos (cur_n h1), if_pos h1.2.1, cw_eq h1 v]
    rcases w with _ | _ | _ | _ | _ | _ | _ | _ | _ | _ | _ | w
    · exact e 0
    · exact e 1
    · exact e 2
    · exact e 3
    · exact e 4
    · exact e 5
    · exact e 6
    · exact e 7
    · exact e8
    · exact e9
    · exact e10
    · omega
theorem s_count (σ : zSt) (h : RR σ) (x : Int32) : Step σ mi_X5_count mi_X6_count [zi x] := by
  rcases in_out x (N := 11) (by decide) with hx | ⟨w, hw, rfl⟩
  · refine step_ff (c_X5_count_bad σ x (hx.elim Or.inl (fun z => Or.inr (Int32.not_lt.mpr z)))) (c_X6_count_bad σ x ?_) (by decide) (by decide) rfl h
    rcases hx with hx | hx
    · refine Or.inl ?_
      rw [i32lt, i32z] at hx
      exact hx
    · refine Or.inr ?_
      rw [i32le, nI_toInt (by decide)] at hx
      omega
  · obtain ⟨n, hc, he, _⟩ := cnt_eq h
    exact step_ff (c_X5_count_ok σ w hw) (c_X6_count σ n w hc hw) (by decide) (by decide) (congrArg zi (he w hw).symm) h
