theorem lamp_iff {σ : zSt} {n : Nat} (h1 : RD1 σ n) (x : Int32) : x_lamp σ x ↔ m_in x 0 8 := by
  constructor
  · rintro ⟨_, a, b⟩
    exact ⟨a, fun z => b (by
      obtain ⟨k, hk, rfl⟩ := nI_of a
      have : 8 < k := Nat.lt_of_not_le fun y => nI_nlt (a := 8) (b := k) y (by decide) z
      exact nI_le (a := 9) (by omega) hk)⟩
  · rintro ⟨a, b⟩
    exact ⟨cur_n h1, a, fun z => b (Int32.lt_of_lt_of_le (by decide) z)⟩
theorem s_shows (σ : zSt) (h : RR σ) (r : Int32) : Step σ mi_X5_shows mi_X6_shows [zi r] := by
  rcases h.2.2.2.2 with h0 | ⟨n, h1⟩
  · exact step_ff (c_X5_shows_none σ r (by rw [h0.1]; decide)) (c_X6_shows_none σ r h0.2.1) (by decide) (by decide) rfl h
  · rcases in_out r (N := 6) (by decide) with hr | ⟨j, hj, rfl⟩
    · exact step_ff (c_X5_shows_bad σ r (cur_n h1) hr) (c_X6_shows_bad σ r h1.2.1 hr) (by decide) (by decide) rfl h
    · obtain ⟨hw, hc⟩ := h.2.1 j hj
      have hz := zlenR j hj
      rcases hc with hc | ⟨w, hn, hc, hv⟩
      · exact step_ff (c_X5_shows_mis σ j (cur_n h1) hj (by rw [hc]; decide)) (c_X6_shows_mis _ j h1.2.1 hj (hw.trans hc)) (by decide) (by decide) rfl (RR_fnd (by decide) h)
      · by_cases hb : 20 < w
        · exact step_ff (c_X5_shows_big σ j w (cur_n h1) hj hc (by omega) hb) (c_X6_shows_big _ j w h1.2.1 hj (hw.trans hc) hn hb) (by decide) (by decide) rfl (RR_fnd (by decide) h)
        · by_cases hok : ∀ i, i < w → x_lamp σ (fA σ j i)
          · have hall : m_allB σ j w := fun k hk => by
              rw [← hv k hk]
              exact (lamp_iff h1 _).mp (hok k hk)
            have hbb : ∀ i, i < w → ∃ b, b < 9 ∧ fA σ 23 (40 * j + i) = nI b := fun i hi => by
              obtain ⟨b, hb9, e⟩ := nI_of2 (M := 8) (n := 8) (by decide) (hall i hi).1 (Int32.not_lt.mp (hall i hi).2)
              exact ⟨b, by omega, e⟩
            have hm := c_X6_shows_ok σ j w n h1.2.1 hj (hw.trans hc) hn h1.2.2.1 h1.1 (by omega) hall (fA σ 31)
            rw [sA_self] at hm
            refine step_fq (c_X5_shows_ok σ j w (cur_n h1) hj hc (by omega) (by omega) hok) hm (by decide) (by decide) ?_
            rintro r2 σ2 ⟨rfl, g, rfl⟩
            exact ⟨by rw [shw_eq h1.2.2.2.1 (run_eq h1 hv hbb w (Nat.le_refl _)).1], RR_31 h⟩
          · obtain ⟨u, hu, hno, hpre⟩ := first_no w hok
            refine step_ff (c_X5_shows_unl σ j w u (cur_n h1) hj hc (by omega) (by omega) hu hno hpre) (c_X6_shows_unl _ j w h1.2.1 hj (hw.trans hc) hn (by omega) (fun z => hno ?_)) (by decide) (by decide) rfl (RR_fnd (by decide) h)
            rw [lamp_iff h1, hv u hu]
            exact z u hu
