theorem isA_iff : ∀ k, k < 6 → ∀ w, w < 6 → (decide (k_isA (nI k) (nI (w + 1))) = decide (m_isA (nI k) (nI (w + 1)))) := by decide +kernel
theorem isA_eq {k w : Nat} (hk : k < 6) (h0 : 0 < w) (hw : w < 6) : k_isA (nI k) (nI w) ↔ m_isA (nI k) (nI w) := by
  obtain ⟨v, rfl⟩ : ∃ v, w = v + 1 := ⟨w - 1, by omega⟩
  exact decide_eq_decide.mp (isA_iff k hk v (by omega))
theorem above_0 {th s : Int32} {S : Nat → Int32} (h : Sd th s S) {i : Nat} (hi : i < 9) : bt (st_above s) i = true ↔ ¬ S i = 0 := by
  obtain ⟨e, h1, _⟩ := h.1 i hi
  unfold st_above
  rw [bt_or, bt_ones _ hi, bt_twos _ hi, e]
  cases bt s i <;> cases bt s (9 + i) <;> decide
theorem mk2_eq {σ : zSt} {n : Nat} (h1 : RD1 σ n) : ∀ j, j ≤ 9 → m_bits (fI σ 1 0 1 &&& zcom (st_above (p_state σ 3))) j = m_mk2 σ n j
  | 0, _ => rfl
  | j + 1, hj => by
    have ih := mk2_eq h1 j (by omega)
    obtain ⟨k, hk, ek, _, e2, _⟩ := h1.2.2.2.1.2 j (by omega)
    have ha := above_0 (cur_S h1) (i := j) (by omega)
    rw [m_bits, m_mk2, ih]
    unfold m_bit
    rw [m_bit_bt _ (by omega), bt_and, bt_com _ (by omega), e2, ek]
    have hs : fA σ 28 (11 * n + j) = m_st σ n j := rfl
    rw [hs]
    by_cases h2 : k = 2
    · subst h2
      by_cases h0 : m_st σ n j = 0
      · have hb : bt (st_above (p_state σ 3)) j = false := Bool.eq_false_iff.mpr (fun z => ha.mp z h0)
        rw [if_pos ⟨rfl, h0⟩, hb]
        rfl
      · rw [if_neg (fun z => h0 z.2), ha.mpr h0]
        rfl
    · have hn : ¬ nI k = 2 := fun z => h2 ((nI_eq (b := 2) (by omega) (by decide)).mp z)
      rw [if_neg (fun z => hn z.1), beq_eq_false_iff_ne.mpr h2]
      rfl
theorem mark_eq {σ : zSt} {n k : Nat} (h1 : RD1 σ n) (hk : k < 9) (w : Nat) (h0 : 0 < w) : x_mark σ (nI k) w = m_mark σ n k w := by
  have hK := h1.2.2.2.1
  have hS := cur_S h1
  have hz5 : s9 (kx_show σ 0 (p_state σ 3) &&& zcom (zshl 1 (nI k))) := s9_and (s9_show _ hK.1.2.2.2.2)
  have hd : x_mark σ (nI k) 5 = m_mark σ n k 5 := by
    show zbc (kx_show σ 0 (p_state σ 3) &&& zcom (zshl 1 (nI k))) = m_bits (m_sh (fA σ 26) (fA σ 28) (11 * n) 9 &&& zcom (zshl 1 (nI k))) 9
    rw [zbc_bits hz5, cur_show h1]
  rcases w with _ | _ | _ | _ | _ | w
  · omega
  · show zrem (3 - st_of (p_state σ 3) (nI k)) 3 = _
    rw [Sd_of hS hk]
    rfl
  · show zbc (fI σ 1 0 1 &&& zcom (st_above (p_state σ 3))) = _
    rw [zbc_bits (s9_and hK.1.2.1), mk2_eq h1 9 (Nat.le_refl _)]
    rfl
  · show zbc (x_tb (nI k)) - 1 = _
    rw [zbc_bits (s9_tbb hk), tb_eq k hk]
    rfl
  · show zrem (p_number σ 3) 2 = _
    rw [cur_q h1]
    rfl
  · exact hd
theorem s_mark (σ : zSt) (h : RR σ) (i w : Int32) : Step σ mi_X5_mark mi_X6_mark [zi i, zi w] := by
  rcases h.2.2.2.2 with h0 | ⟨n, h1⟩
  · exact step_ff (c_X5_mark_bad σ i w (fun z => xl_no h0 z.1)) (c_X6_mark_bad1 σ i w (in_no0 i h0)) (by decide) (by decide) rfl h
  · rcases in_out i (N := 9) (by decide) with hi | ⟨k, hk, rfl⟩
    · exact step_ff (c_X5_mark_bad σ i w (fun z => xl_out hi z.1)) (c_X6_mark_bad1 σ i w (in_no1 h1 hi)) (by decide) (by decide) rfl h
    · by_cases hw : ¬ w ≤ 0 ∧ w < 6
      · obtain ⟨x, hx, rfl⟩ := nI_of (x := w) (fun z => hw.1 (Int32.le_of_lt z))
        have hx6 : x < 6 := Nat.lt_of_not_le fun z => absurd hw.2 (Int32.not_lt.mpr (nI_le (a := 6) z hx))
        have hx0 : 0 < x := Nat.pos_of_ne_zero fun z => hw.1 (by rw [z]; decide)
        obtain ⟨c, hc, ec, _⟩ := h1.2.2.2.1.2 k hk
        have hkk := kind_eq h1.2.2.2.1 hk
        have hin : m_in (nI x) 1 5 := ⟨nI_nlt (b := 1) hx0 hx, nI_nlt (a := 5) (by omega) (by decide)⟩
        by_cases hu : k_isA (kx_kind σ 0 (nI k)) (nI x)
        · have hu2 := hu
          rw [hkk, ec, isA_eq hc hx0 hx6, ← ec] at hu2
          exact step_ff (c_X5_mark_ok σ _ x (xl_yes h1 hk) hx0 hx6 hu) (c_X6_mark_ok σ n k x h1.2.1 h1.2.2.1 h1.1 hk hx0 hx6 hu2) (by decide) (by decide) (congrArg zi (mark_eq h1 hk x hx0).symm) h
        · have hu2 := hu
          rw [hkk, ec, isA_eq hc hx0 hx6, ← ec] at hu2
          exact step_ff (c_X5_mark_unl σ _ _ ⟨xl_yes h1 hk, hw⟩ hu) (c_X6_mark_unl _ k _ h1.2.1 hk hin hu2) (by decide) (by decide) rfl (RR_fnd (by decide) h)
      · refine step_ff (c_X5_mark_bad σ _ w (fun z => hw z.2)) (c_X6_mark_bad2 σ _ w (lamp_in h1.2.1 hk) ?_) (by decide) (by decide) rfl h
        rintro ⟨z1, z2⟩
        obtain ⟨x, hx, rfl⟩ := nI_of (x := w) (fun z => z1 (Int32.lt_of_lt_of_le z (by decide)))
        refine hw ⟨fun z => z1 (Int32.lt_of_le_of_lt z (by decide)), Int32.not_le.mp fun z => z2 (Int32.lt_of_lt_of_le (by decide) z)⟩
