/-! ===== what shows behind a button, on both sides ===== -/
theorem z_fun (S : Nat → Int32) : (fun k => S (0 + k)) = S := by
  funext k
  rw [Nat.zero_add]
theorem shw_eq {σ : zSt} (hK : KD σ) {s : Int32} {S : Nat → Int32} (hS : Sd (fI σ 1 0 0) s S) : kx_show σ 0 s = mw (fA σ 26) S := by
  unfold mw
  exact show_eq (a := 0) hK (by rw [z_fun]; exact hS)
theorem prs_eq {σ : zSt} (hK : KD σ) {s q : Int32} {S : Nat → Int32} {b : Nat} (hS : Sd (fI σ 1 0 0) s S) (hq : q = S 9) (hb : b < 9) : Sd (fI σ 1 0 0) (kx_press σ 0 s (nI b) q) (ms (fA σ 26) b S) := by
  subst hq
  exact press_eq0 hK hS hb
theorem sb_eq {σ : zSt} {n b : Nat} (h1 : RD1 σ n) (hb : b < 9) : x_sb σ (nI b) = mw (fA σ 26) (ms (fA σ 26) b (m_st σ n)) := shw_eq h1.2.2.2.1 (prs_eq h1.2.2.2.1 (cur_S h1) (cur_q h1) hb)
theorem s9_mw (kd S : Nat → Int32) : s9 (mw kd S) := s9_msh kd S 0
theorem most_eq {σ : zSt} {n : Nat} (h1 : RD1 σ n) : ∀ b, b < 9 → x_most σ (b + 1) = m_most σ n (b + 1)
  | 0, _ => by
    obtain ⟨c, hc, e⟩ := bits_9 (s9_mw (fA σ 26) (ms (fA σ 26) 0 (m_st σ n)))
    have ez : zbc (x_sb σ (nI 0)) = nI c := by rw [sb_eq h1 (by decide), zbc_bits (s9_mw _ _), e]
    rw [x_most, m_most, ez, e]
    have hp : (0 : Int32) ≤ nI c := nI_pos' (by omega)
    rw [if_pos (show (x_most σ 0).2 < nI c from Int32.lt_of_lt_of_le (by show (-1 : Int32) < 0; decide) hp), if_pos (show (m_most σ n 0).2 < nI c from Int32.lt_of_lt_of_le (by show (-9 : Int32) < 0; decide) hp)]
  | b + 1, hb => by
    rw [x_most, m_most, most_eq h1 b (by omega), sb_eq h1 hb, zbc_bits (s9_mw _ _)]
theorem mm_I (σ : zSt) (k j f : Nat) (x : Int32) (n : Nat) : ∀ b, m_most (sI σ k j f x) n b = m_most σ n b
  | 0 => rfl
  | b + 1 => by
    unfold m_most
    rw [mm_I σ k j f x n b]
    rfl
theorem s_most (σ : zSt) (h : RR σ) : Step σ mi_X5_most mi_X6_most [] := by
  rcases h.2.2.2.2 with h0 | ⟨n, h1⟩
  · exact step_ff (c_X5_most_none σ (by rw [h0.1]; decide)) (c_X6_most_none σ h0.2.1) (by decide) (by decide) rfl h
  · have hm := c_X6_most_ok (sI σ 0 0 11 (x_most σ 9).2) n h1.2.1 h1.2.2.1 h1.1 (fA (sI σ 0 0 11 (x_most σ 9).2) 31)
    rw [sA_self] at hm
    refine step_fq (c_X5_most_ok σ (cur_n h1)) hm (by decide) (by decide) ?_
    rintro r2 σ2 ⟨rfl, g, rfl⟩
    rw [mm_I, ← most_eq h1 8 (by decide)]
    exact ⟨rfl, RR_ask (σ := sA σ 31 g) rfl (RR_31 h)⟩
