/-! ===== the buttons that are in all ways, on both sides ===== -/
theorem fnd_31 (σ : zSt) (f : Nat) (g : Nat → Int32) : sA (x_fnd σ f) 31 g = x_fnd (sA σ 31 g) f := sA_com _ _ _ (by decide)
theorem sure_eq {σ : zSt} {n : Nat} (h1 : RD1 σ n) (pic : Int32) : ∀ s, s ≤ 512 → x_sure σ pic s = m_sure σ n pic s
  | 0, _ => rfl
  | s + 1, hs => by
    rw [x_sure, m_sure, sure_eq h1 pic s (by omega)]
    have := by_iff h1 pic (s := s) (by omega)
    by_cases h : m_isBy σ n (nI s) pic
    · rw [if_pos h, if_pos (this.mpr h)]
    · rw [if_neg h, if_neg (fun z => h (this.mp z))]
theorem sure_A {σ τ : zSt} (e1 : fA τ 26 = fA σ 26) (e2 : fA τ 28 = fA σ 28) (n : Nat) (pic : Int32) : ∀ m, m_sure τ n pic m = m_sure σ n pic m
  | 0 => rfl
  | m + 1 => by
    rw [m_sure, m_sure, sure_A e1 e2 n pic m]
    have := isBy_A e1 e2 n (nI m) pic
    by_cases h : m_isBy σ n (nI m) pic
    · rw [if_pos h, if_pos (this.mpr h)]
    · rw [if_neg h, if_neg (fun z => h (this.mp z))]
theorem s_sure (σ : zSt) (h : RR σ) (s : Int32) : Step σ mi_X5_sure mi_X6_sure [zi s] := by
  rcases h.2.2.2.2 with h0 | ⟨n, h1⟩
  · exact step_ff (c_X5_sure_none σ s (by rw [h0.1]; decide)) (c_X6_sure_none σ s h0.2.1) (by decide) (by decide) rfl h
  · by_cases hs : s < 0 ∨ ¬ s ≤ 511
    · exact step_ff (c_X5_sure_bad σ s (cur_n h1) hs) (c_X6_sure_bad σ s h1.2.1 (fun z => pic_iff.mp z hs)) (by decide) (by decide) rfl h
    · have e1 : m_sure (x_fnd (x_fill σ) 4) n s 512 = x_sure σ s 512 := (sure_A (σ := σ) (τ := x_fnd (x_fill σ) 4) rfl rfl n s 512).trans (sure_eq h1 s 512 (Nat.le_refl _)).symm
      have e2 : m_sure (sI (x_fill σ) 0 0 11 (511 &&& zcom (x_sure σ s 512).2.2)) n s 512 = x_sure σ s 512 := (sure_A (σ := σ) (τ := sI (x_fill σ) 0 0 11 (511 &&& zcom (x_sure σ s 512).2.2)) rfl rfl n s 512).trans (sure_eq h1 s 512 (Nat.le_refl _)).symm
      by_cases hz : (x_sure σ s 512).1 = 0
      · have hm := c_X6_sure_nou (x_fnd (x_fill σ) 4) n s h1.2.1 h1.2.2.1 h1.1 (pic_iff.mpr hs) (by rw [e1]; exact hz) (fA (x_fnd (x_fill σ) 4) 31)
        rw [sA_self] at hm
        refine step_fq (c_X5_sure_nou σ s (cur_n h1) hs hz) hm (by decide) (by decide) ?_
        rintro r2 σ2 ⟨rfl, g, rfl⟩
        rw [fnd_31]
        exact ⟨rfl, RR_fnd (by decide) (RR_31 (RR_18 h))⟩
      · have hm := c_X6_sure_ok (sI (x_fill σ) 0 0 11 (511 &&& zcom (x_sure σ s 512).2.2)) n s h1.2.1 h1.2.2.1 h1.1 (pic_iff.mpr hs) (by rw [e2]; exact hz) (fA (sI (x_fill σ) 0 0 11 (511 &&& zcom (x_sure σ s 512).2.2)) 31)
        rw [sA_self, e2] at hm
        refine step_fq (c_X5_sure_ok σ s (cur_n h1) hs hz) hm (by decide) (by decide) ?_
        rintro r2 σ2 ⟨rfl, g, rfl⟩
        exact ⟨rfl, RR_ask (σ := sA (x_fill σ) 31 g) rfl (RR_31 (RR_18 h))⟩
