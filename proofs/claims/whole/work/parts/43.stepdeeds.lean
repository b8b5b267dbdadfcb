theorem Sd_with {th s : Int32} {S : Nat → Int32} {k u : Nat} (h : Sd th s S) (hk : k < 9) (hu : u ≤ (if bt th k = true then 2 else 1)) : Sd th (st_with s (nI k) (nI u)) (upd S k (nI u)) := by
  have hu3 : u < 3 := by split at hu <;> omega
  obtain ⟨t1, t2⟩ := t_fin u hu3
  refine ⟨fun i hi => ?_, ?_⟩
  · rw [with_0 _ _ hk hi, with_1 _ _ hk hi, upd_at]
    by_cases e : i = k
    · simp only [if_pos e]
      rw [t1, t2]
      refine ⟨?_, ?_, ?_⟩
      · rcases u with _ | _ | _ | u
        · rfl
        · rfl
        · rfl
        · omega
      · rcases u with _ | _ | _ | u
        · decide
        · decide
        · decide
        · omega
      · intro z
        have z2 : u = 2 := by simpa using z
        subst z2
        rw [e]
        by_cases hh : bt th k = true
        · exact hh
        · rw [if_neg hh] at hu
          omega
    · simp only [if_neg e]
      exact h.1 i hi
  · rw [upd_at, if_neg (by omega), with_2 _ _ hk]
    exact h.2
theorem flip_eq (x : Int32) {k : Nat} (hk : k < 9) : m_flip x (nI k) = x ^^^ zshl 1 (nI k) := by
  apply bt_ext
  intro i hi
  unfold m_flip
  rw [bt_xor, bt_one (by omega) hi]
  by_cases h : m_bit x (nI k) = 1
  · have hb := (m_bit1 x (by omega)).mp h
    rw [if_pos h, bt_and, bt_com _ hi, bt_one (by omega) hi]
    by_cases e : i = k
    · rw [e, hb, decide_eq_true rfl]
      rfl
    · rw [decide_eq_false e]
      cases bt x i <;> rfl
  · have hb : bt x k = false := by
      cases hz : bt x k
      · rfl
      · exact absurd ((m_bit1 x (by omega)).mpr hz) h
    rw [if_neg h, bt_or, bt_one (by omega) hi]
    by_cases e : i = k
    · rw [e, hb, decide_eq_true rfl]
      rfl
    · rw [decide_eq_false e]
      cases bt x i <;> rfl
theorem Sd_broken {th s b : Int32} {S : Nat → Int32} (h : Sd th s S) (hb : s9 b) : Sd th (st_withBroken s b) (upd S 10 b) := by
  unfold st_withBroken
  refine ⟨fun i hi => ?_, ?_⟩
  · rw [bt_j0 (s9_ones s) (s9_twos s) hb hi, bt_j1 (s9_ones s) (s9_twos s) hb hi, bt_ones _ hi, bt_twos _ hi, upd_at, if_neg (by omega)]
    exact h.1 i hi
  · rw [upd_at, if_pos rfl, j_broken (s9_ones s) (s9_twos s) hb]
theorem upd_sh (f : Nat → Int32) (a k : Nat) (v : Int32) (y : Nat) : upd f (a + k) v (a + y) = upd (fun z => f (a + z)) k v y := by
  rw [upd_at, upd_at]
  by_cases e : y = k
  · rw [if_pos (show a + y = a + k by omega), if_pos e]
  · rw [if_neg (show ¬ a + y = a + k by omega), if_neg e]
theorem RR_set {σ : zSt} {n k u : Nat} (h : RR σ) (h1 : RD1 σ n) (hn : n < 40) (hk : k < 9) (hu : u ≤ (if bt (fI σ 1 0 0) k = true then 2 else 1)) : RR (m_set1 (x_set1 σ n (nI k) (nI u)) n k (nI u)) ∧ RD1 (m_set1 (x_set1 σ n (nI k) (nI u)) n k (nI u)) (n + 1) := by
  have hF : ∀ y, y < 11 → upd (m_mv (fA σ 28) n 11) (11 * (n + 1) + k) (nI u) (11 * (n + 1) + y) = upd (m_st σ n) k (nI u) y := fun y hy => by
    rw [upd_sh, upd_at, upd_at]
    by_cases e : y = k
    · rw [if_pos e, if_pos e]
    · rw [if_neg e, if_neg e]
      exact mv_new _ _ hy
  refine RR_go (F := upd (m_mv (fA σ 28) n 11) (11 * (n + 1) + k) (nI u)) h h1 hn (Sd_c hF (Sd_with (cur_S h1) hk hu)) ?_ ?_
  · rw [hF 9 (by decide), upd_at, if_neg (by omega), Int32.add_zero]
    exact cur_q h1
  · intro y hy
    rw [upd_at, if_neg (by omega), mv_old _ _ hy]
theorem RR_crack {σ : zSt} {n k : Nat} (h : RR σ) (h1 : RD1 σ n) (hn : n < 40) (hk : k < 9) : RR (m_crack1 (x_crack1 σ n (nI k)) n k) ∧ RD1 (m_crack1 (x_crack1 σ n (nI k)) n k) (n + 1) := by
  have hb : m_mv (fA σ 28) n 11 (11 * (n + 1) + 10) = st_broken (p_state σ 3) := (mv_new _ _ (by decide)).trans (cur_S h1).2
  have hF : ∀ y, y < 11 → upd (m_mv (fA σ 28) n 11) (11 * (n + 1) + 10) (m_flip (m_mv (fA σ 28) n 11 (11 * (n + 1) + 10)) (nI k)) (11 * (n + 1) + y) = upd (m_st σ n) 10 (st_broken (p_state σ 3) ^^^ zshl 1 (nI k)) y := fun y hy => by
    rw [upd_sh, upd_at, upd_at, hb, flip_eq _ hk]
    by_cases e : y = 10
    · rw [if_pos e, if_pos e]
    · rw [if_neg e, if_neg e]
      exact mv_new _ _ hy
  refine RR_go (F := upd (m_mv (fA σ 28) n 11) (11 * (n + 1) + 10) (m_flip (m_mv (fA σ 28) n 11 (11 * (n + 1) + 10)) (nI k))) h h1 hn (Sd_c hF (Sd_broken (cur_S h1) (s9_xor (s9_broken _) (s9_one hk)))) ?_ ?_
  · rw [hF 9 (by decide), upd_at, if_neg (by decide), Int32.add_zero]
    exact cur_q h1
  · intro y hy
    rw [upd_at, if_neg (by omega), mv_old _ _ hy]
theorem cur_show {σ : zSt} {n : Nat} (h : RD1 σ n) : kx_show σ 0 (p_state σ 3) = m_sh (fA σ 26) (fA σ 28) (11 * n) 9 := show_eq h.2.2.2.1 (cur_S h)
theorem xl_no {σ : zSt} {i : Int32} (h : RD0 σ) : ¬ x_lamp σ i := fun z => by
  have := z.1
  rw [h.1] at this
  exact m1_no this
theorem xl_out {σ : zSt} {i : Int32} (h : i < 0 ∨ nI 9 ≤ i) : ¬ x_lamp σ i := fun z => h.elim z.2.1 z.2.2
theorem xl_yes {σ : zSt} {n k : Nat} (h : RD1 σ n) (hk : k < 9) : x_lamp σ (nI k) := ⟨cur_n h, nI_pos (by omega), nI_ge (b := 9) hk (by decide)⟩
theorem in_no0 {σ : zSt} (i : Int32) (h : RD0 σ) : ¬ m_in i 0 (fI σ 5 0 10 - 1) := by
  rw [h.2.1]
  intro z
  obtain ⟨k, hk, rfl⟩ := nI_of z.1
  exact z.2 (show (0 : Int32) - 1 < nI k from Int32.lt_of_lt_of_le (by decide) (nI_pos' hk))
theorem in_no1 {σ : zSt} {n : Nat} {i : Int32} (h : RD1 σ n) (hi : i < 0 ∨ nI 9 ≤ i) : ¬ m_in i 0 (fI σ 5 0 10 - 1) := by
  rw [h.2.1]
  exact m_outN (n := 8) hi (by decide)
theorem s_press (σ : zSt) (h : RR σ) (i : Int32) : Step σ mi_X5_press mi_X6_press [zi i] := by
  rcases h.2.2.2.2 with h0 | ⟨n, h1⟩
  · exact step_ff (c_X5_press_none σ i (by rw [h0.1]; decide)) (c_X6_press_none σ i h0.2.1) (by decide) (by decide) rfl h
  · rcases in_out i (N := 9) (by decide) with hi | ⟨b, hb, rfl⟩
    · exact step_ff (c_X5_press_bad σ i (cur_n h1) (xl_out hi)) (c_X6_press_bad σ i h1.2.1 hi) (by decide) (by decide) rfl h
    · by_cases hn : n < 40
      · obtain ⟨r1, r2⟩ := RR_press h h1 hn hb
        refine step_ff (c_X5_press_ok σ n _ (xl_yes h1 hb) h1.2.2.2.2.1 hn) (c_X6_press_ok _ n b hb h1.2.1 h1.2.2.1 hn) (by decide) (by decide) (congrArg zi ?_) r1
        exact (cur_show r2).symm
      · obtain rfl : n = 40 := by
          have := h1.1
          omega
        exact step_ff (c_X5_press_full σ _ (xl_yes h1 hb) h1.2.2.2.2.1) (c_X6_press_full σ b hb h1.2.1 h1.2.2.1) (by decide) (by decide) rfl h
theorem s_crack (σ : zSt) (h : RR σ) (i : Int32) : Step σ mi_X5_crack mi_X6_crack [zi i] := by
  rcases h.2.2.2.2 with h0 | ⟨n, h1⟩
  · exact step_ff (c_X5_crack_bad σ i (xl_no h0)) (c_X6_crack_bad σ i (in_no0 i h0)) (by decide) (by decide) rfl h
  · rcases in_out i (N := 9) (by decide) with hi | ⟨k, hk, rfl⟩
    · exact step_ff (c_X5_crack_bad σ i (xl_out hi)) (c_X6_crack_bad σ i (in_no1 h1 hi)) (by decide) (by decide) rfl h
    · by_cases hn : n < 40
      · obtain ⟨r1, r2⟩ := RR_crack h h1 hn hk
        refine step_ff (c_X5_crack_ok σ n _ (xl_yes h1 hk) h1.2.2.2.2.1 hn) (c_X6_crack_ok _ n k hk h1.2.1 h1.2.2.1 hn) (by decide) (by decide) (congrArg zi ?_) r1
        have e : fA (m_crack1 (x_crack1 σ n (nI k)) n k) 28 (11 * (n + 1) + 10) = st_broken (p_state (x_crack1 σ n (nI k)) 3) := (cur_S r2).2
        rw [e, m_bit_bt _ (by omega)]
        by_cases hz : bt (st_broken (p_state (x_crack1 σ n (nI k)) 3)) k = true
        · rw [b2i_t ((m_bit1 _ (by omega)).mpr hz), hz]
          rfl
        · rw [b2i_f (fun z => hz ((m_bit1 _ (by omega)).mp z)), Bool.eq_false_iff.mpr hz]
          rfl
      · obtain rfl : n = 40 := by
          have := h1.1
          omega
        exact step_ff (c_X5_crack_full σ _ (xl_yes h1 hk) h1.2.2.2.2.1) (c_X6_crack_full σ k hk h1.2.1 h1.2.2.1) (by decide) (by decide) rfl h
