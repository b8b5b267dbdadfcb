/-! ===== what a lamp tells, on both sides ===== -/
theorem bI_b2i (x : Int32) {k : Nat} (hk : k < 9) : zshr x (nI k) &&& 1 = b2i (m_bit x (nI k) = 1) := by
  rw [m_bit_bt _ (by omega)]
  by_cases hz : bt x k = true
  · rw [b2i_t ((m_bit1 _ (by omega)).mpr hz), hz]
    rfl
  · rw [b2i_f (fun z => hz ((m_bit1 _ (by omega)).mp z)), Bool.eq_false_iff.mpr hz]
    rfl
/-- one lamp touched alone, own button o -/
theorem touch_one {th stk shy slow fal s own q : Int32} {kd : Nat → Int32} {i : Nat} (hK : Kd th stk shy slow fal kd) (hi : i < 9) (h1 : ¬ (bt s i = true ∧ bt s (9 + i) = true)) (h2 : bt s (9 + i) = true → bt th i = true) :
    st_of (k_touch th stk shy slow s (zshl 1 (nI i)) own q) (nI i) = m_aft (kd i) (nI (stp (bt s i) (bt s (9 + i)))) (bI (bt own i)) q := by
  obtain ⟨k, hk, ek, e1, e2, e3, e4, _⟩ := hK.2 i hi
  have hm : s9 (k_moved shy slow (zshl 1 (nI i)) own q) := s9_moved (s9_one hi)
  unfold k_touch
  rw [st_of_bt _ hi, touch_0 hm hi, touch_1 hm hi, bt_moved _ _ _ _ _ hi, e1, e2, e3, e4, bt_one (by omega) (by omega), decide_eq_true rfl, aft_B, ek]
  rw [e1] at h2
  exact (aft_use hk _ _ h1 h2).1.symm
theorem told_eq {σ : zSt} {n k : Nat} (h1 : RD1 σ n) (hk : k < 9) (w : Nat) : x_told σ (nI k) w = m_fact σ n k w := by
  have hK := h1.2.2.2.1
  have hS := cur_S h1
  obtain ⟨t1, t2, t3⟩ := hS.1 k hk
  have h5 : st_of (kx_touch σ 0 (p_state σ 3) (zshl 1 (nI k)) (zshl 1 (nI k)) (p_number σ 3)) (nI k) = m_aft (fA σ 26 k) (fA σ 28 (11 * n + k)) 1 (fA σ 28 (11 * n + 9)) := by
    unfold kx_touch
    rw [touch_one hK hk t2 t3, bt_one (by omega) (by omega), decide_eq_true rfl, ← t1, cur_q h1]
    rfl
  rcases w with _ | _ | _ | _ | _ | w
  · exact kind_eq hK hk
  · exact Sd_of hS hk
  · show zshr (kx_show σ 0 (p_state σ 3)) (nI k) &&& 1 = _
    rw [cur_show h1]
    exact bI_b2i _ hk
  · show zshr (st_broken (p_state σ 3)) (nI k) &&& 1 = _
    rw [← hS.2]
    exact bI_b2i _ hk
  · exact tb_eq k hk
  · exact h5
theorem s_lamp (σ : zSt) (h : RR σ) (i w : Int32) : Step σ mi_X5_lamp mi_X6_lamp [zi i, zi w] := by
  rcases h.2.2.2.2 with h0 | ⟨n, h1⟩
  · exact step_ff (c_X5_lamp_bad σ i w (fun z => xl_no h0 z.1)) (c_X6_lamp_bad1 σ i w (in_no0 i h0)) (by decide) (by decide) rfl h
  · rcases in_out i (N := 9) (by decide) with hi | ⟨k, hk, rfl⟩
    · exact step_ff (c_X5_lamp_bad σ i w (fun z => xl_out hi z.1)) (c_X6_lamp_bad1 σ i w (in_no1 h1 hi)) (by decide) (by decide) rfl h
    · rcases in_out w (N := 6) (by decide) with hw | ⟨x, hx, rfl⟩
      · exact step_ff (c_X5_lamp_bad σ _ w (fun z => hw.elim z.2.1 (fun y => absurd z.2.2 (Int32.not_lt.mpr y)))) (c_X6_lamp_bad2 σ _ w (lamp_in h1.2.1 hk) (m_outN (n := 5) hw (by decide))) (by decide) (by decide) rfl h
      · exact step_ff (c_X5_lamp_ok σ _ x (xl_yes h1 hk) hx) (c_X6_lamp_ok _ n k x h1.2.1 h1.2.2.1 h1.1 hk hx) (by decide) (by decide) rfl (RR_ask (told_eq h1 hk x) h)
