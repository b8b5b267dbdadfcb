/-! ===== walls kept, on both sides ===== -/
theorem pt_A (σ : zSt) (j k n : Nat) {a : Nat} (h1 : a ≠ 10 + j) (h2 : a ≠ 14 + j) : fA (p_take σ j k n) a = fA σ a := by
  unfold p_take
  rw [fA_sI, fA_ne _ _ h2, fA_ne _ _ h1]
theorem pt_s (σ : zSt) (j k n : Nat) (hj : j < 4) {d : Nat} (hd : d ≤ n) : fA (p_take σ j k n) (10 + j) d = fA σ (10 + k) d := by
  unfold p_take
  rw [fA_sI, fA_ne _ _ (by omega), fA_same]
  unfold zcpy
  rw [if_pos ⟨by omega, by omega⟩]
theorem pt_q (σ : zSt) (j k n : Nat) {d : Nat} (hd : d ≤ n) : fA (p_take σ j k n) (14 + j) d = fA σ (14 + k) d := by
  unfold p_take
  rw [fA_sI, fA_same]
  unfold zcpy
  rw [if_pos ⟨by omega, by omega⟩]
theorem pt_I (σ : zSt) (j k n : Nat) {a b c : Nat} (h : ¬ (a = 2 ∧ b = j ∧ c = 2)) : fI (p_take σ j k n) a b c = fI σ a b c := by
  unfold p_take
  rw [fI_sI, if_neg h]
  rfl
theorem RB_pt {σ : zSt} {j k n : Nat} (hj : j < 4) (h : RB σ) : RB (p_take σ j k n) := RB_sI (by decide) (RB_sA (by omega) (RB_sA (by omega) h))
theorem RC_pt {σ : zSt} {j k n : Nat} (hj : j < 4) (h : RC σ) : RC (p_take σ j k n) := RC_sI (by decide) (RC_sA (by omega) (RC_sA (by omega) h))
theorem RA_pt {σ : zSt} {j k n : Nat} (hj : j < 4) (h : RA σ) : RA (p_take σ j k n) := RA_sI (by decide) (RA_sA (by omega) (RA_sA (by omega) h))
theorem KD_pt {σ τ : zSt} (e : ∀ f, fI τ 1 0 f = fI σ 1 0 f) (e2 : fA τ 26 = fA σ 26) (h : KD σ) : KD τ := by
  unfold KD
  rw [e, e, e, e, e, e2]
  exact h
theorem RR_keep {σ : zSt} {n k : Nat} (h : RR σ) (h1 : RD1 σ n) (hk : k < 3) : RR (m_keep (p_take σ k 3 n) k n) := by
  obtain ⟨g0, g1, g2, g3, g4, g5, g6⟩ := h1
  have eI : ∀ a b c, ¬ (a = 2 ∧ b = k ∧ c = 2) → fI (m_keep (p_take σ k 3 n) k n) a b c = fI σ a b c := fun a b c z => pt_I σ k 3 n z
  have eA : ∀ a, a ≠ 29 → a ≠ 30 → a ≠ 10 + k → a ≠ 14 + k → fA (m_keep (p_take σ k 3 n) k n) a = fA σ a := fun a z1 z2 z3 z4 => by
    unfold m_keep
    rw [fA_ne _ _ z2, fA_ne _ _ z1, pt_A _ _ _ _ z3 z4]
  have e29 : ∀ y, fA (m_keep (p_take σ k 3 n) k n) 29 y = if 451 * k ≤ y ∧ y < 451 * k + 451 then fA σ 28 (y - 451 * k) else fA σ 29 y := fun y => by
    unfold m_keep
    rw [fA_ne _ _ (by decide), fA_same, pt_A _ _ _ _ (by omega) (by omega), pt_A _ _ _ _ (by omega) (by omega)]
    unfold m_cp
    by_cases z : 451 * k ≤ y ∧ y < 451 * k + 451
    · rw [if_pos z, if_pos z, Nat.zero_add]
    · rw [if_neg z, if_neg z]
  have e30 : ∀ y, fA (m_keep (p_take σ k 3 n) k n) 30 y = if y = k then nI n else fA σ 30 y := fun y => by
    unfold m_keep
    rw [fA_same, pt_A _ _ _ _ (by omega) (by omega), upd_at]
  refine ⟨RA_sA (by decide) (RA_sA (by decide) (RA_pt (by omega) h.1)), RB_sA (by decide) (RB_sA (by decide) (RB_pt (by omega) h.2.1)), RC_sA (by decide) (RC_sA (by decide) (RC_pt (by omega) h.2.2.1)), fun f hf => ?_, Or.inr ⟨n, g0, ?_, ?_, ?_, ?_, ?_, fun i hi => ?_⟩⟩
  · rw [eI _ _ _ (by omega)]
    exact h.2.2.2.1 f hf
  · rw [eI _ _ _ (by omega)]
    exact g1
  · rw [eI _ _ _ (by omega)]
    exact g2
  · exact KD_pt (fun f => eI _ _ _ (by omega)) (eA 26 (by decide) (by decide) (by omega) (by omega)) g3
  · rw [eI _ _ _ (by omega)]
    exact g4
  · intro d hd
    rw [eI _ _ _ (by omega), eA (10 + 3) (by decide) (by decide) (by omega) (by omega), eA (14 + 3) (by decide) (by decide) (by omega) (by omega), eA 28 (by decide) (by decide) (by omega) (by omega)]
    exact g5 d hd
  · rw [e30]
    by_cases e : i = k
    · subst e
      refine Or.inr ⟨n, g0, ?_, by rw [if_pos rfl], fun d hd => ?_⟩
      · exact fI_same _ _ _ _ _
      · obtain ⟨p1, p2⟩ := g5 d hd
        have s1 : fA (m_keep (p_take σ i 3 n) i n) (10 + i) d = fA σ (10 + 3) d := by
          unfold m_keep
          rw [fA_ne _ _ (by omega), fA_ne _ _ (by omega)]
          exact pt_s σ i 3 n (by omega) hd
        have s2 : fA (m_keep (p_take σ i 3 n) i n) (14 + i) d = fA σ (14 + 3) d := by
          unfold m_keep
          rw [fA_ne _ _ (by omega), fA_ne _ _ (by omega)]
          exact pt_q σ i 3 n hd
        rw [eI _ _ _ (by omega), s1, s2]
        refine ⟨Sd_c (fun y hy => ?_) p1, ?_⟩
        · rw [e29, if_pos (by omega)]
          congr 1
          omega
        · rw [e29, if_pos (by omega), p2]
          congr 1
          omega
    · rw [if_neg e, eI _ _ _ (by omega)]
      rcases g6 i hi with g7 | ⟨m, g7, g8, g9, gH⟩
      · exact Or.inl g7
      · refine Or.inr ⟨m, g7, g8, g9, fun d hd => ?_⟩
        obtain ⟨p1, p2⟩ := gH d hd
        rw [eI _ _ _ (by omega), eA (10 + i) (by omega) (by omega) (by omega) (by omega), eA (14 + i) (by omega) (by omega) (by omega) (by omega)]
        refine ⟨Sd_c (fun y hy => ?_) p1, ?_⟩
        · rw [e29, if_neg (by omega)]
        · rw [e29, if_neg (by omega)]
          exact p2
theorem s_keep (σ : zSt) (h : RR σ) (x : Int32) : Step σ mi_X5_keep mi_X6_keep [zi x] := by
  rcases in_out x (N := 3) (by decide) with hx | ⟨k, hk, rfl⟩
  · exact step_ff (c_X5_keep_bad σ x hx) (c_X6_keep_bad σ x hx) (by decide) (by decide) rfl h
  · rcases h.2.2.2.2 with h0 | ⟨n, h1⟩
    · exact step_ff (c_X5_keep_none σ k hk (by rw [h0.1]; decide)) (c_X6_keep_none σ k hk h0.2.1) (by decide) (by decide) rfl h
    · exact step_ff (c_X5_keep_ok σ k n hk h1.2.2.2.2.1 h1.1) (c_X6_keep_ok _ k n hk ((pt_I _ _ _ _ (by omega)).trans h1.2.1) ((pt_I _ _ _ _ (by omega)).trans h1.2.2.1) h1.1) (by decide) (by decide) rfl (RR_keep h h1 hk)
theorem RR_on {σ : zSt} {n k m : Nat} (h : RR σ) (h1 : RD1 σ n) (hk : k < 3) (hm : m ≤ 40) (hH : Hd σ k (fA σ 29) (451 * k) m) : RR (m_on (p_take σ 3 k m) k m) := by
  obtain ⟨g0, g1, g2, g3, g4, g5, g6⟩ := h1
  have eI : ∀ a b c, ¬ (a = 2 ∧ b = 3 ∧ c = 2) → ¬ (a = 5 ∧ b = 0 ∧ c = 14) → fI (m_on (p_take σ 3 k m) k m) a b c = fI σ a b c := fun a b c z z2 => by
    unfold m_on
    rw [fI_sI, if_neg z2]
    exact pt_I σ 3 k m z
  have eA : ∀ a, a ≠ 28 → a ≠ 13 → a ≠ 17 → fA (m_on (p_take σ 3 k m) k m) a = fA σ a := fun a z1 z2 z3 => by
    unfold m_on
    rw [fA_sI, fA_ne _ _ z1, pt_A _ _ _ _ z2 z3]
  have e28 : ∀ y, y < 451 → fA (m_on (p_take σ 3 k m) k m) 28 y = fA σ 29 (451 * k + y) := fun y hy => by
    unfold m_on
    rw [fA_sI, fA_same, pt_A _ _ _ _ (by decide) (by decide)]
    unfold m_cp
    rw [pt_A _ _ _ _ (by decide) (by decide), if_pos (by omega), Nat.sub_zero]
  refine ⟨?_, RB_sI (by decide) (RB_sA (by decide) (RB_pt (by omega) h.2.1)), RC_sI (by decide) (RC_sA (by decide) (RC_pt (by omega) h.2.2.1)), fun f hf => ?_, Or.inr ⟨m, hm, ?_, rfl, ?_, ?_, fun d hd => ?_, fun i hi => ?_⟩⟩
  · have := RA_sA (a := 28) (g := m_cp (fA (p_take σ 3 k m) 28) (fA (p_take σ 3 k m) 29) 0 (451 * k) 451) (by decide) (RA_pt (k := k) (n := m) (j := 3) (by decide) h.1)
    exact this
  · rw [eI _ _ _ (by omega) (by omega)]
    exact h.2.2.2.1 f hf
  · rw [eI _ _ _ (by omega) (by omega)]
    exact g1
  · exact KD_pt (fun f => eI _ _ _ (by omega) (by omega)) (eA 26 (by decide) (by decide) (by decide)) g3
  · rfl
  · obtain ⟨p1, p2⟩ := hH d hd
    have s1 : fA (m_on (p_take σ 3 k m) k m) (10 + 3) d = fA σ (10 + k) d := pt_s σ 3 k m (by decide) hd
    have s2 : fA (m_on (p_take σ 3 k m) k m) (14 + 3) d = fA σ (14 + k) d := pt_q σ 3 k m hd
    rw [eI _ _ _ (by omega) (by omega), s1, s2]
    refine ⟨Sd_c (fun y hy => ?_) p1, ?_⟩
    · rw [e28 _ (by omega)]
      congr 1
      omega
    · rw [e28 _ (by omega), p2]
      congr 1
      omega
  · rw [eI _ _ _ (by omega) (by omega), eA 30 (by decide) (by decide) (by decide), eA 29 (by decide) (by decide) (by decide)]
    rcases g6 i hi with g7 | ⟨q, g7, g8, g9, gH⟩
    · exact Or.inl g7
    · refine Or.inr ⟨q, g7, g8, g9, fun d hd => ?_⟩
      rw [eI _ _ _ (by omega) (by omega), eA (10 + i) (by omega) (by omega) (by omega), eA (14 + i) (by omega) (by omega) (by omega)]
      exact gH d hd
theorem s_on (σ : zSt) (h : RR σ) (x : Int32) : Step σ mi_X5_on mi_X6_on [zi x] := by
  rcases in_out x (N := 3) (by decide) with hx | ⟨k, hk, rfl⟩
  · exact step_ff (c_X5_on_bad σ x hx) (c_X6_on_bad σ x hx) (by decide) (by decide) rfl h
  · have mis : fI σ 2 k 2 = -1 ∧ fA σ 30 k = -1 → Step σ mi_X5_on mi_X6_on [zi (nI k)] := fun z =>
      step_ff (c_X5_on_mis σ k hk (by rw [z.1]; decide)) (c_X6_on_mis _ k hk z.2) (by decide) (by decide) rfl (RR_fnd (by decide) h)
    rcases h.2.2.2.2 with h0 | ⟨n, h1⟩
    · exact mis (h0.2.2.2.2 k hk)
    · rcases h1.2.2.2.2.2.2 k hk with z | ⟨m, hm, e1, e2, eH⟩
      · exact mis z
      · exact step_ff (c_X5_on_ok σ k m hk e1 hm) (c_X6_on_ok _ k m hk (by rw [pt_A _ _ _ _ (by decide) (by decide)]; exact e2) hm) (by decide) (by decide) rfl (RR_on h h1 hk hm eH)
