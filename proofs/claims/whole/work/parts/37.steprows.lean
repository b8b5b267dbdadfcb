/-! ===== a call on both sides: rows and texts ===== -/
theorem RA_sA {σ : zSt} {a : Nat} {g : Nat → Int32} (ha : a ≠ 20 ∧ a ≠ 21) (h : RA σ) : RA (sA σ a g) := by
  have e1 : fA (sA σ a g) 20 = fA σ 20 := fA_ne _ _ (by omega)
  have e2 : fA (sA σ a g) 21 = fA σ 21 := fA_ne _ _ (by omega)
  refine ⟨⟨h.1.1, ?_⟩, h.2⟩
  rw [e1, e2]
  exact h.1.2
theorem RA_sI {σ : zSt} {k j f : Nat} {x : Int32} (hk : k ≠ 0 ∧ k ≠ 5) (h : RA σ) : RA (sI σ k j f x) := by
  have e : ∀ k' j' f', k' = 0 ∨ k' = 5 → fI (sI σ k j f x) k' j' f' = fI σ k' j' f' := fun k' j' f' hh => by rw [fI_sI, if_neg (by omega)]
  refine ⟨⟨?_, h.1.2⟩, ?_, h.2.2⟩
  · rw [e _ _ _ (Or.inl rfl), e _ _ _ (Or.inr rfl)]
    exact h.1.1
  · rw [e _ _ _ (Or.inl rfl), e _ _ _ (Or.inr rfl)]
    exact h.2.1
theorem RA_ask {σ : zSt} {x : Int32} (h : RA σ) : RA (sI (sI σ 0 0 11 x) 5 0 2 x) := ⟨h.1, rfl, h.2.2⟩
theorem in_out (r : Int32) {N : Nat} (hN : N < 2 ^ 31) : (r < 0 ∨ nI N ≤ r) ∨ ∃ j, j < N ∧ r = nI j := by
  by_cases h : r < 0
  · exact Or.inl (Or.inl h)
  · obtain ⟨j, hj, rfl⟩ := nI_of h
    by_cases hk : j < N
    · exact Or.inr ⟨j, hk, rfl⟩
    · exact Or.inl (Or.inr (nI_le (by omega) hj))
theorem zlenR : ∀ j, j < 6 → zlen j = 40 := by decide
theorem zlenT : ∀ j, j < 4 → zlen (6 + j) = 60 := by decide
theorem has_of {σ : zSt} {j n : Nat} {i : Int32} (hs : fI σ 4 j 1 = nI n) (hn : n ≤ zlen j) (h60 : zlen j ≤ 60) (h : r_has σ j i) : ∃ k, k < n ∧ i = nI k := by
  obtain ⟨k, hk, rfl⟩ := nI_of h.1
  refine ⟨k, ?_, rfl⟩
  have h2 := h.2.1
  rw [hs] at h2
  exact Nat.lt_of_not_le fun z => h2 (nI_le z hk)
theorem has_no {σ : zSt} {j n : Nat} {i : Int32} (hs : fI σ 4 j 1 = nI n) (hn : n ≤ zlen j) (h60 : zlen j ≤ 60) (h : ¬ r_has σ j i) : ¬ m_in i 0 (nI n - 1) := by
  intro hm
  obtain ⟨k, hk, rfl⟩ := nI_of hm.1
  apply h
  have h2 := hm.2
  have hkn : k < n := by
    by_cases h0 : n = 0
    · subst h0
      exact absurd (show nI 0 - 1 < nI k from Int32.lt_of_lt_of_le (by decide) (nI_pos' hk)) h2
    · obtain ⟨m, rfl⟩ : ∃ m, n = m + 1 := ⟨n - 1, by omega⟩
      rw [nI_pred] at h2
      exact Nat.lt_of_not_le fun z => h2 (nI_lt (by omega) hk)
  refine ⟨hm.1, ?_, nI_ge (by omega) (by omega)⟩
  rw [hs]
  exact nI_ge hkn (by omega)
theorem RB_put {σ τ : zSt} {j N : Nat} (hj : j < 6) (hN : N ≤ 40) (h : RB σ) (h1 : fI τ 4 j 1 = nI N) (h2 : fA τ 22 j = nI N) (h3 : ∀ i, i < N → fA τ j i = fA τ 23 (40 * j + i))
    (h4 : ∀ i, i < 6 → i ≠ j → fI τ 4 i 1 = fI σ 4 i 1 ∧ fA τ 22 i = fA σ 22 i ∧ fA τ i = fA σ i ∧ ∀ k, k < 40 → fA τ 23 (40 * i + k) = fA σ 23 (40 * i + k)) : RB τ := by
  intro i hi
  by_cases e : i = j
  · subst e
    exact ⟨by rw [h1, h2], Or.inr ⟨N, hN, h1, h3⟩⟩
  · obtain ⟨e1, e2, e3, e4⟩ := h4 i hi e
    obtain ⟨g1, g2⟩ := h i hi
    rw [e1, e2]
    refine ⟨g1, ?_⟩
    rcases g2 with g2 | ⟨n, hn, g3, g4⟩
    · exact Or.inl g2
    · refine Or.inr ⟨n, hn, g3, fun k hk => ?_⟩
      rw [e3, e4 k (by omega)]
      exact g4 k hk
theorem RC_put {σ τ : zSt} {j N : Nat} (hj : j < 4) (hN : N ≤ 60) (h : RC σ) (h1 : fI τ 4 (6 + j) 1 = nI N) (h2 : fA τ 24 j = nI N) (h3 : ∀ i, i < N → fA τ (6 + j) i = fA τ 33 (60 * j + i))
    (h4 : ∀ i, i < 4 → i ≠ j → fI τ 4 (6 + i) 1 = fI σ 4 (6 + i) 1 ∧ fA τ 24 i = fA σ 24 i ∧ fA τ (6 + i) = fA σ (6 + i) ∧ ∀ k, k < 60 → fA τ 33 (60 * i + k) = fA σ 33 (60 * i + k)) : RC τ := by
  intro i hi
  by_cases e : i = j
  · subst e
    exact ⟨by rw [h1, h2], Or.inr ⟨N, hN, h1, h3⟩⟩
  · obtain ⟨e1, e2, e3, e4⟩ := h4 i hi e
    obtain ⟨g1, g2⟩ := h i hi
    rw [e1, e2]
    refine ⟨g1, ?_⟩
    rcases g2 with g2 | ⟨n, hn, g3, g4⟩
    · exact Or.inl g2
    · refine Or.inr ⟨n, hn, g3, fun k hk => ?_⟩
      rw [e3, e4 k (by omega)]
      exact g4 k hk
theorem m1_no : ¬ (0 : Int32) ≤ -1 := by decide
theorem w_fnd (σ : zSt) (f : Nat) : fA (x_fnd σ f) 22 = fA σ 22 ∧ fA (x_fnd σ f) 24 = fA σ 24 := ⟨rfl, rfl⟩
theorem s_row (σ : zSt) (h : RR σ) (r n : Int32) : Step σ mi_X5_row mi_X6_row [zi r, zi n] := by
  rcases in_out r (N := 6) (by decide) with hr | ⟨j, hj, rfl⟩
  · exact step_ff (c_X5_row_bad σ r n hr) (c_X6_row_bad σ r n hr) (by decide) (by decide) rfl h
  · by_cases hb : n ≤ 40
    · by_cases h0 : 0 ≤ n
      · obtain ⟨N, hN, rfl⟩ := nI_of2 (M := 40) (n := 40) (by decide) (Int32.not_lt.mpr h0) hb
        refine step_ff (c_X5_row_ok σ j N hj hN (zlenR j hj)) (c_X6_row_ok _ j N hj hN) (by decide) (by decide) rfl ⟨RA_sA (by decide) (RA_sA (by decide) (RA_sA (by omega) (RA_sI (by decide) h.1))), ?_, ?_, ?_⟩
        · refine RB_put hj hN h.2.1 ?_ ?_ ?_ ?_
          · exact fI_same _ _ _ _ _
          · rw [fA_ne _ _ (by decide), fA_same, upd_at, if_pos rfl]
          · intro i hi
            rw [fA_ne _ _ (by omega), fA_ne _ _ (by omega), fA_same, fA_same]
            unfold zfill
            rw [if_pos ⟨by omega, hi⟩, if_pos ⟨by omega, by omega⟩]
          · intro i hi hne
            refine ⟨?_, ?_, ?_, fun k hk => ?_⟩
            · show fI (sI σ 4 j 1 (nI N)) 4 i 1 = _
              rw [fI_sI, if_neg (fun z => hne z.2.1)]
            · rw [fA_ne _ _ (by decide), fA_same, upd_at, if_neg hne, fA_ne _ _ (by omega)]
              rfl
            · rw [fA_ne _ _ (by omega), fA_ne _ _ (by omega), fA_ne _ _ hne]
              rfl
            · rw [fA_same, fA_ne _ _ (by omega)]
              unfold zfill
              rw [if_neg (by omega)]
              rfl
        · exact RC_sA (by decide) (RC_sA (by decide) (RC_sA (by omega) (RC_sI4 hj h.2.2.1)))
        · exact RD_sA (by decide) (RD_sA (by decide) (RD_sA (by omega) (RD_sI (by omega) h.2.2.2)))
      · exact step_ff (c_X5_row_neg σ j n hj hb h0) (c_X6_row_neg _ j n hj hb h0) (by decide) (by decide) rfl (RR_fnd (by decide) h)
    · exact step_ff (c_X5_row_big σ j n hj hb) (c_X6_row_big σ j n hj hb) (by decide) (by decide) rfl h
theorem s_text (σ : zSt) (h : RR σ) (r n : Int32) : Step σ mi_X5_text mi_X6_text [zi r, zi n] := by
  rcases in_out r (N := 4) (by decide) with hr | ⟨j, hj, rfl⟩
  · exact step_ff (c_X5_text_bad σ r n hr) (c_X6_text_bad σ r n hr) (by decide) (by decide) rfl h
  · by_cases hb : n ≤ 60
    · by_cases h0 : 0 ≤ n
      · obtain ⟨N, hN, rfl⟩ := nI_of2 (M := 60) (n := 60) (by decide) (Int32.not_lt.mpr h0) hb
        refine step_ff (c_X5_text_ok σ j N hj hN (zlenT j hj)) (c_X6_text_ok _ j N hj hN) (by decide) (by decide) rfl ⟨RA_sA (by decide) (RA_sA (by decide) (RA_sA (by omega) (RA_sI (by decide) h.1))), ?_, ?_, ?_⟩
        · exact RB_sA (by decide) (RB_sA (by decide) (RB_sA (by omega) (RB_sI4 (by omega) h.2.1)))
        · refine RC_put hj hN h.2.2.1 ?_ ?_ ?_ ?_
          · exact fI_same _ _ _ _ _
          · rw [fA_ne _ _ (by decide), fA_same, upd_at, if_pos rfl]
          · intro i hi
            rw [fA_ne _ _ (by omega), fA_ne _ _ (by omega), fA_same, fA_same]
            unfold zfill
            rw [if_pos ⟨by omega, hi⟩, if_pos ⟨by omega, by omega⟩]
          · intro i hi hne
            refine ⟨?_, ?_, ?_, fun k hk => ?_⟩
            · show fI (sI σ 4 (6 + j) 1 (nI N)) 4 (6 + i) 1 = _
              rw [fI_sI, if_neg (by omega)]
            · rw [fA_ne _ _ (by decide), fA_same, upd_at, if_neg hne, fA_ne _ _ (by omega)]
              rfl
            · rw [fA_ne _ _ (by omega), fA_ne _ _ (by omega), fA_ne _ _ (by omega)]
              rfl
            · rw [fA_same, fA_ne _ _ (by omega)]
              unfold zfill
              rw [if_neg (by omega)]
              rfl
        · exact RD_sA (by decide) (RD_sA (by decide) (RD_sA (by omega) (RD_sI (by omega) h.2.2.2)))
      · exact step_ff (c_X5_text_neg σ j n hj hb h0) (c_X6_text_neg _ j n hj hb h0) (by decide) (by decide) rfl (RR_fnd (by decide) h)
    · exact step_ff (c_X5_text_big σ j n hj hb) (c_X6_text_big σ j n hj hb) (by decide) (by decide) rfl h
theorem s_at (σ : zSt) (h : RR σ) (r i : Int32) : Step σ mi_X5_at mi_X6_at [zi r, zi i] := by
  rcases in_out r (N := 6) (by decide) with hr | ⟨j, hj, rfl⟩
  · exact step_ff (c_X5_at_bad σ r i hr) (c_X6_at_bad σ r i hr) (by decide) (by decide) rfl h
  · obtain ⟨hw, hc⟩ := h.2.1 j hj
    have hz := zlenR j hj
    rcases hc with hc | ⟨n, hn, hc, hv⟩
    · exact step_ff (c_X5_at_mis σ j i hj (by rw [hc]; decide)) (c_X6_at_mis _ j i hj (hw.trans hc)) (by decide) (by decide) rfl (RR_fnd (by decide) h)
    · have hp : 0 ≤ fI σ 4 j 1 := by rw [hc]; exact nI_pos' (by omega)
      by_cases hh : r_has σ j i
      · obtain ⟨k, hk, rfl⟩ := has_of hc (by omega) (by omega) hh
        refine step_ff (c_X5_at_ok σ j _ hj hp hh) (c_X6_at_ok _ j n k hj (hw.trans hc) hn hk) (by decide) (by decide) rfl (RR_ask ?_ h)
        rw [nI_clamp (by omega)]
        exact hv k hk
      · exact step_ff (c_X5_at_bey σ j i hj hp hh) (c_X6_at_bey _ j n i hj (hw.trans hc) (by omega) (has_no hc (by omega) (by omega) hh)) (by decide) (by decide) rfl (RR_fnd (by decide) h)
theorem s_lay (σ : zSt) (h : RR σ) (r i v : Int32) : Step σ mi_X5_lay mi_X6_lay [zi r, zi i, zi v] := by
  rcases in_out r (N := 6) (by decide) with hr | ⟨j, hj, rfl⟩
  · exact step_ff (c_X5_lay_bad σ r i v hr) (c_X6_lay_bad σ r i v hr) (by decide) (by decide) rfl h
  · obtain ⟨hw, hc⟩ := h.2.1 j hj
    have hz := zlenR j hj
    rcases hc with hc | ⟨n, hn, hc, hv⟩
    · exact step_ff (c_X5_lay_mis σ j i v hj (by rw [hc]; decide)) (c_X6_lay_mis _ j i v hj (hw.trans hc)) (by decide) (by decide) rfl (RR_fnd (by decide) h)
    · have hp : 0 ≤ fI σ 4 j 1 := by rw [hc]; exact nI_pos' (by omega)
      by_cases hh : r_has σ j i
      · obtain ⟨k, hk, rfl⟩ := has_of hc (by omega) (by omega) hh
        have e22 : fA (sI (sA σ j (upd (fA σ j) (nI k).toNatClampNeg v)) 0 0 11 (fA σ j (nI k).toNatClampNeg)) 22 = fA σ 22 := by rw [fA_sI, fA_ne _ _ (by omega)]
        have e23 : fA (sI (sA σ j (upd (fA σ j) (nI k).toNatClampNeg v)) 0 0 11 (fA σ j (nI k).toNatClampNeg)) 23 = fA σ 23 := by rw [fA_sI, fA_ne _ _ (by omega)]
        refine step_ff (c_X5_lay_ok σ j _ v hj hp hh) (c_X6_lay_ok _ j n k v hj (by rw [e22]; exact hw.trans hc) hn hk) (by decide) (by decide) rfl ?_
        rw [e23, nI_clamp (by omega), ← hv k hk]
        refine ⟨RA_ask (σ := sA (sA σ j (upd (fA σ j) k v)) 23 (upd (fA σ 23) (40 * j + k) v)) (RA_sA (by decide) (RA_sA (by omega) h.1)), ?_, ?_, ?_⟩
        · refine RB_sI (by decide) ?_
          refine RB_put hj hn h.2.1 hc ?_ ?_ ?_
          · rw [fA_ne _ _ (by decide), fA_sI, fA_ne _ _ (by omega)]
            exact hw.trans hc
          · intro x hx
            rw [fA_same, fA_ne _ _ (by omega), fA_sI, fA_same, upd_at, upd_at]
            by_cases e : x = k
            · rw [if_pos e, if_pos (by omega)]
            · rw [if_neg e, if_neg (by omega)]
              exact hv x hx
          · intro x hx hne
            refine ⟨rfl, ?_, ?_, fun y hy => ?_⟩
            · rw [fA_ne _ _ (by decide), fA_sI, fA_ne _ _ (by omega)]
            · rw [fA_ne _ _ (by omega), fA_sI, fA_ne _ _ hne]
            · rw [fA_same, upd_at, if_neg (by omega)]
        · exact RC_sI (by decide) (RC_sA (by decide) (RC_sI (by decide) (RC_sA (by omega) h.2.2.1)))
        · exact RD_sI (by decide) (RD_sA (by decide) (RD_sI (by decide) (RD_sA (by omega) h.2.2.2)))
      · exact step_ff (c_X5_lay_bey σ j i v hj hp hh) (c_X6_lay_bey _ j n i v hj (hw.trans hc) (by omega) (has_no hc (by omega) (by omega) hh)) (by decide) (by decide) rfl (RR_fnd (by decide) h)
theorem s_put (σ : zSt) (h : RR σ) (r i v : Int32) : Step σ mi_X5_put mi_X6_put [zi r, zi i, zi v] := by
  rcases in_out r (N := 4) (by decide) with hr | ⟨j, hj, rfl⟩
  · exact step_ff (c_X5_put_bad σ r i v hr) (c_X6_put_bad σ r i v hr) (by decide) (by decide) rfl h
  · obtain ⟨hw, hc⟩ := h.2.2.1 j hj
    have hz := zlenT j hj
    rcases hc with hc | ⟨n, hn, hc, hv⟩
    · exact step_ff (c_X5_put_mis σ j i v hj (by rw [hc]; decide)) (c_X6_put_mis _ j i v hj (hw.trans hc)) (by decide) (by decide) rfl (RR_fnd (by decide) h)
    · have hp : 0 ≤ fI σ 4 (6 + j) 1 := by rw [hc]; exact nI_pos' (by omega)
      by_cases hh : r_has σ (6 + j) i
      · obtain ⟨k, hk, rfl⟩ := has_of hc (by omega) (by omega) hh
        have hx := c_X5_put_ok σ j _ v hj hp hh
        rw [nI_clamp (by omega)] at hx
        have e24 : fA (sA σ (6 + j) (upd (fA σ (6 + j)) k v.toInt8.toInt32)) 24 = fA σ 24 := fA_ne _ _ (by omega)
        have e33 : fA (sA σ (6 + j) (upd (fA σ (6 + j)) k v.toInt8.toInt32)) 33 = fA σ 33 := fA_ne _ _ (by omega)
        refine step_ff hx (c_X6_put_ok _ j n k v hj (by rw [e24]; exact hw.trans hc) hn hk) (by decide) (by decide) (by rw [e33, ← hv k hk]) ?_
        rw [e33]
        refine ⟨RA_sA (by decide) (RA_sA (by omega) h.1), RB_sA (by decide) (RB_sA (by omega) h.2.1), ?_, RD_sA (by decide) (RD_sA (by omega) h.2.2.2)⟩
        refine RC_put hj hn h.2.2.1 hc ?_ ?_ ?_
        · rw [fA_ne _ _ (by decide), e24]
          exact hw.trans hc
        · intro x hx
          rw [fA_ne _ _ (by omega), fA_same, fA_same, upd_at, upd_at]
          by_cases e : x = k
          · rw [if_pos e, if_pos (by omega)]
          · rw [if_neg e, if_neg (by omega)]
            exact hv x hx
        · intro x hx hne
          refine ⟨rfl, ?_, ?_, fun y hy => ?_⟩
          · rw [fA_ne _ _ (by decide), e24]
          · rw [fA_ne _ _ (by omega), fA_ne _ _ (by omega)]
          · rw [fA_same, upd_at, if_neg (by omega)]
      · exact step_ff (c_X5_put_bey σ j i v hj hp hh) (c_X6_put_bey _ j n i v hj (hw.trans hc) (by omega) (has_no hc (by omega) (by omega) hh)) (by decide) (by decide) rfl (RR_fnd (by decide) h)
theorem s_tear (σ : zSt) (h : RR σ) (r : Int32) : Step σ mi_X5_tear mi_X6_tear [zi r] := by
  rcases in_out r (N := 6) (by decide) with hr | ⟨j, hj, rfl⟩
  · exact step_ff (c_X5_tear_bad σ r hr) (c_X6_tear_bad σ r hr) (by decide) (by decide) rfl h
  · obtain ⟨hw, hc⟩ := h.2.1 j hj
    rcases hc with hc | ⟨n, hn, hc, hv⟩
    · exact step_ff (c_X5_tear_mis σ j hj (by rw [hc]; decide)) (c_X6_tear_mis _ j hj (hw.trans hc)) (by decide) (by decide) rfl (RR_fnd (by decide) h)
    · refine step_ff (c_X5_tear_ok σ j hj (by rw [hc]; exact nI_pos' (by omega))) (c_X6_tear_ok _ j n hj (hw.trans hc) hn) (by decide) (by decide) rfl ⟨RA_sA (by decide) (RA_sI (by decide) h.1), ?_, RC_sA (by decide) (RC_sI4 hj h.2.2.1), RD_sA (by decide) (RD_sI (by omega) h.2.2.2)⟩
      intro i hi
      by_cases e : i = j
      · subst e
        rw [fA_same, upd_at, if_pos rfl, fI_sA, fI_same]
        exact ⟨rfl, Or.inl rfl⟩
      · have h0 := h.2.1 i hi
        rw [fA_same, upd_at, if_neg e, fI_sA, fI_sI, if_neg (fun z => e z.2.1), fA_ne _ _ (by omega), fA_ne _ _ (by omega)]
        exact h0
theorem r_lsum_c {f g : Nat → Int32} : ∀ n, (∀ i, i < n → f i = g i) → r_lsum f n = r_lsum g n
  | 0, _ => rfl
  | n + 1, h => by rw [r_lsum, r_lsum, r_lsum_c n (fun i hi => h i (by omega)), h n (by omega)]
theorem s_mean (σ : zSt) (h : RR σ) (r : Int32) : Step σ mi_X5_mean mi_X6_mean [zi r] := by
  rcases in_out r (N := 6) (by decide) with hr | ⟨j, hj, rfl⟩
  · exact step_ff (c_X5_mean_bad σ r hr) (c_X6_mean_bad σ r hr) (by decide) (by decide) rfl h
  · obtain ⟨hw, hc⟩ := h.2.1 j hj
    have hz := zlenR j hj
    rcases hc with hc | ⟨n, hn, hc, hv⟩
    · exact step_ff (c_X5_mean_mis σ j hj (by rw [hc]; decide)) (c_X6_mean_mis _ j hj (hw.trans hc)) (by decide) (by decide) rfl (RR_fnd (by decide) h)
    · by_cases h0 : n = 0
      · subst h0
        exact step_ff (c_X5_mean_nou σ j hj hc) (c_X6_mean_nou _ j hj (hw.trans hc)) (by decide) (by decide) rfl (RR_fnd (by decide) h)
      · refine step_ff (c_X5_mean_ok σ j n hj hc (by omega) (by omega)) (c_X6_mean_ok _ j n hj (hw.trans hc) hn (by omega)) (by decide) (by decide) rfl (RR_ask ?_ h)
        rw [r_lsum_c n hv]
        rfl
