/-- what kinds and next share: the refusals -/
theorem pairs_cases {σ : zSt} {n : Nat} (h : RR σ) (h1 : RD1 σ n) {j : Nat} (hj : j < 6) {P : Prop}
    (mis : fI σ 4 j 1 = -1 → fA σ 22 j = -1 → P) (size : ∀ w, w ≤ 40 → fI σ 4 j 1 = nI w → fA σ 22 j = nI w → (w % 2 ≠ 0 ∨ 16 < w) → P)
    (unl : ∀ q u, q ≤ 8 → u < q → fI σ 4 j 1 = nI (2 * q) → fA σ 22 j = nI (2 * q) → (∀ p, p < u → x_pok σ j p) → ¬ x_pok σ j u → ¬ m_allP σ j q → P)
    (ok : ∀ q, q ≤ 8 → fI σ 4 j 1 = nI (2 * q) → fA σ 22 j = nI (2 * q) → (∀ i, i < 2 * q → fA σ j i = fA σ 23 (40 * j + i)) → (∀ p, p < q → x_pok σ j p) → m_allP σ j q → P) : P := by
  obtain ⟨hw, hc⟩ := h.2.1 j hj
  rcases hc with hc | ⟨w, hn, hc, hv⟩
  · exact mis hc (hw.trans hc)
  · by_cases hb : w % 2 ≠ 0 ∨ 16 < w
    · exact size w hn hc (hw.trans hc) hb
    · obtain ⟨q, rfl⟩ : ∃ q, w = 2 * q := ⟨w / 2, by omega⟩
      by_cases hok : ∀ p, p < q → x_pok σ j p
      · exact ok q (by omega) hc (hw.trans hc) hv hok (fun p hp => (pok_iff h1 hp hv).mp (hok p hp))
      · obtain ⟨u, hu, hno, hpre⟩ := first_no q hok
        exact unl q u (by omega) hu hc (hw.trans hc) hpre hno (fun z => hno ((pok_iff h1 hu hv).mpr (z u hu)))
theorem s_kinds (σ : zSt) (h : RR σ) (i r : Int32) : Step σ mi_X5_kinds mi_X6_kinds [zi i, zi r] := by
  have bad : ¬ x_lamp σ i → ¬ m_in i 0 (fI σ 5 0 10 - 1) → Step σ mi_X5_kinds mi_X6_kinds [zi i, zi r] := fun hx hm => by
    rcases in_out r (N := 6) (by decide) with hr | ⟨j, hj, rfl⟩
    · exact step_ff (c_X5_kinds_bad1 σ i r hx hr) (c_X6_kinds_bad1 σ i r hm) (by decide) (by decide) rfl h
    · exact step_ff (c_X5_kinds_bad2 σ i j hx hj) (c_X6_kinds_bad1 σ i _ hm) (by decide) (by decide) rfl h
  rcases h.2.2.2.2 with h0 | ⟨n, h1⟩
  · exact bad (xl_no h0) (in_no0 i h0)
  · rcases in_out i (N := 9) (by decide) with hi | ⟨k, hk, rfl⟩
    · exact bad (xl_out hi) (in_no1 h1 hi)
    · have hl := xl_yes h1 hk
      have hin := lamp_in h1.2.1 hk
      rcases in_out r (N := 6) (by decide) with hr | ⟨j, hj, rfl⟩
      · exact step_ff (c_X5_kinds_bad3 σ _ r hl hr) (c_X6_kinds_bad3 σ _ r hin hr) (by decide) (by decide) rfl h
      · have hz := zlenR j hj
        refine pairs_cases h h1 hj (fun a b => ?_) (fun w hn a b c => ?_) (fun q u hq hu a b c d e => ?_) (fun q hq a b hv c d => ?_)
        · exact step_ff (c_X5_kinds_mis σ _ j hl hj (by rw [a]; decide)) (c_X6_kinds_mis _ _ j hin hj b) (by decide) (by decide) rfl (RR_fnd (by decide) h)
        · exact step_ff (c_X5_kinds_size σ _ j w hl hj a (by omega) c) (c_X6_kinds_size _ _ j w hin hj b hn c) (by decide) (by decide) rfl (RR_fnd (by decide) h)
        · exact step_ff (c_X5_kinds_unl σ _ j q u hl hj a hq (by omega) hu c d) (c_X6_kinds_unl _ _ j q hin hj b hq e) (by decide) (by decide) rfl (RR_fnd (by decide) h)
        · have hx := c_X5_kinds_ok σ _ j q hl hj a hq (by omega) c (fun c => fI σ 1 1 c)
          rw [sT_self] at hx
          refine ⟨6, _, by decide, hx, ?_⟩
          rintro r1 σ1 ⟨rfl, g, rfl⟩
          refine ⟨_, rfl, rfl, 3, _, by decide, c_X6_kinds_ok (sT σ g) n k j q h1.2.1 h1.2.2.1 h1.1 hk hj b hq d, ?_⟩
          rintro r2 σ2 ⟨rfl, rfl⟩
          rw [kinds_T, kinds_eq h1 hk hv d 6 (Nat.le_refl _)]
          exact ⟨rfl, RR_T h⟩
/-! which button to press next -/
theorem bt_kinds (σ : zSt) (n k j h : Nat) : ∀ (s i : Nat), s ≤ 9 → i < 32 → bt (m_kinds σ n k j h s) i = decide (i < s ∧ m_fits σ n k (nI i) j h)
  | 0, i, _, _ => by
    rw [m_kinds, bt_0, decide_eq_false (by omega)]
  | s + 1, i, hs, hi => by
    have ih := bt_kinds σ n k j h s i (by omega) hi
    rw [m_kinds]
    by_cases hc : m_fits σ n k (nI s) j h
    · rw [if_pos hc, bt_or, ih, bt_one (by omega) hi]
      by_cases e : i = s
      · subst e
        rw [decide_eq_true (rfl : i = i), Bool.or_true]
        exact (decide_eq_true ⟨by omega, hc⟩).symm
      · rw [decide_eq_false e, Bool.or_false]
        exact decide_eq_decide.mpr ⟨fun z => ⟨by omega, z.2⟩, fun z => ⟨by omega, z.2⟩⟩
    · rw [if_neg hc, bt_or, bt_0, Bool.or_false, ih]
      exact decide_eq_decide.mpr ⟨fun z => ⟨by omega, z.2⟩, fun z => ⟨by
        have : ¬ i = s := fun e => hc (e ▸ z.2)
        omega, z.2⟩⟩
theorem kinds_64 (σ : zSt) (n k j h : Nat) : ∃ p, p < 64 ∧ m_kinds σ n k j h 6 = nI p := by
  have e : m_kinds σ n k j h 6 = nI ((m_kinds σ n k j h 6).toBitVec.toNat % 64) := by
    apply bt_ext
    intro i hi
    rw [bt_nI _ _ hi, show (64 : Nat) = 2 ^ 6 from rfl, Nat.testBit_mod_two_pow]
    by_cases h9 : i < 6
    · rw [decide_eq_true h9, Bool.true_and]
      rfl
    · rw [decide_eq_false h9, Bool.false_and, bt_kinds σ n k j h 6 i (by decide) hi, decide_eq_false (fun z => h9 z.1)]
  exact ⟨_, Nat.mod_lt _ (by decide), e⟩
theorem bits_64 : ∀ p, p < 64 → ∃ c, c ≤ 6 ∧ m_bits (nI p) 9 = nI c := by
  have h : ∀ p, p < 64 → (m_bits (nI p) 9).toNatClampNeg ≤ 6 ∧ m_bits (nI p) 9 = nI (m_bits (nI p) 9).toNatClampNeg := by decide +kernel
  exact fun p hp => ⟨_, h p hp⟩
theorem np_le (σ : zSt) (n k : Nat) (set b : Int32) : ∀ s, ∃ c, c ≤ s ∧ m_np σ n k set b s = nI c
  | 0 => ⟨0, Nat.le_refl _, rfl⟩
  | s + 1 => by
    obtain ⟨c, hc, e⟩ := np_le σ n k set b s
    rw [m_np]
    split
    · exact ⟨c + 1, by omega, by rw [e, nI_1]⟩
    · exact ⟨c, by omega, by rw [e, Int32.add_zero]⟩
theorem np_7 : ∀ d, d < 7 → ∀ c, c < 7 → nI d - nI c < 7 ∧ nI c < 7 := by decide +kernel
theorem npart_7 {σ : zSt} {n k : Nat} {b : Int32} {p : Nat} (hp : p < 64) : m_npart σ n k (nI p) b < 7 := by
  obtain ⟨c, hc, e⟩ := np_le σ n k (nI p) b 6
  obtain ⟨d, hd, e2⟩ := bits_64 p hp
  obtain ⟨a1, a2⟩ := np_7 d (by omega) c (by omega)
  unfold m_npart
  rw [e, e2]
  split
  · exact a1
  · exact a2
theorem gp_eq {σ : zSt} {n : Nat} (h1 : RD1 σ n) {k j h b : Nat} (hk : k < 9) (hb : b < 9) : ∀ s, s ≤ 6 → x_gp σ (nI k) (m_kinds σ n k j h 6) (nI b) s = m_np σ n k (m_kinds σ n k j h 6) (nI b) s
  | 0, _ => rfl
  | s + 1, hs => by
    have ih := gp_eq h1 (j := j) (h := h) hk hb s (by omega)
    rw [x_gp, m_np, ih]
    have hbit : m_bit (m_kinds σ n k j h 6) (nI s) = 1 ↔ m_fits σ n k (nI s) j h := by
      rw [m_bit1 _ (by omega), bt_kinds σ n k j h 6 s (by decide) (by omega)]
      exact ⟨fun z => (of_decide_eq_true z).2, fun z => decide_eq_true ⟨by omega, z⟩⟩
    by_cases hf : m_fits σ n k (nI s) j h
    · have h1' : m_bit (m_kinds σ n k j h 6) (nI s) = 1 := hbit.mpr hf
      have hne : ¬ zshr (m_kinds σ n k j h 6) (nI s) &&& 1 = 0 := fun z => by
        unfold m_bit at h1'
        rw [z] at h1'
        exact absurd h1' (by decide)
      obtain ⟨t1, t2, _⟩ := (cur_S h1).1 k hk
      have t1' : fA σ 28 (11 * n + k) = nI (stp (bt (p_state σ 3) k) (bt (p_state σ 3) (9 + k))) := t1
      have hy := hf.1
      rw [t1'] at hy
      rw [if_neg hne, sa_eq h1 hk (by omega) hb ((stp_use (s := s) (by omega) t2).2 hy)]
      by_cases hw : m_would σ n k (nI s) (nI b)
      · have hc : m_bit (m_kinds σ n k j h 6) (nI s) = 1 ∧ m_would σ n k (nI s) (nI b) := ⟨h1', hw⟩
        rw [if_pos hc, b2i_t hw]
      · have hc : ¬ (m_bit (m_kinds σ n k j h 6) (nI s) = 1 ∧ m_would σ n k (nI s) (nI b)) := fun z => hw z.2
        rw [if_neg hc, b2i_f hw]
    · have hz : zshr (m_kinds σ n k j h 6) (nI s) &&& 1 = 0 := by
        rw [m_bit_bt _ (by omega), bt_kinds σ n k j h 6 s (by decide) (by omega), decide_eq_false (fun z => hf z.2)]
        rfl
      have hc : ¬ (m_bit (m_kinds σ n k j h 6) (nI s) = 1 ∧ m_would σ n k (nI s) (nI b)) := fun z => hf (hbit.mp z.1)
      rw [if_pos hz, if_neg hc, Int32.add_zero]
theorem part_eq (x y : Int32) : zmax x y = if x ≤ y then y else x := by
  unfold zmax
  by_cases h : x < y
  · rw [if_pos h, if_pos (Int32.le_of_lt h)]
  · rw [if_neg h]
    by_cases h2 : x ≤ y
    · rw [if_pos h2]
      exact Int32.le_antisymm h2 (Int32.not_lt.mp h)
    · rw [if_neg h2]
theorem gpart_eq {σ : zSt} {n : Nat} (h1 : RD1 σ n) {k j h b : Nat} (hk : k < 9) (hb : b < 9) : x_gpart σ (nI k) (m_kinds σ n k j h 6) (nI b) = m_npart σ n k (m_kinds σ n k j h 6) (nI b) := by
  obtain ⟨p, hp, e⟩ := kinds_64 σ n k j h
  have hz : zbc (m_kinds σ n k j h 6) = m_bits (m_kinds σ n k j h 6) 9 := by
    rw [e]
    exact s9_bits p (by omega)
  unfold x_gpart m_npart
  rw [gp_eq h1 hk hb 6 (Nat.le_refl _), hz, part_eq]
theorem next_eq {σ : zSt} {n : Nat} (h1 : RD1 σ n) {k j h : Nat} (hk : k < 9) : ∀ b, b < 9 → x_next σ (nI k) (m_kinds σ n k j h 6) (b + 1) = m_next σ n k (m_kinds σ n k j h 6) (b + 1) ∧ ∃ c, c < 9 ∧ (m_next σ n k (m_kinds σ n k j h 6) (b + 1)).1 = nI c
  | 0, _ => by
    obtain ⟨p, hp, e⟩ := kinds_64 σ n k j h
    have h7 : m_npart σ n k (m_kinds σ n k j h 6) (nI 0) < 7 := by
      rw [e]
      exact npart_7 hp
    rw [x_next, m_next, gpart_eq h1 hk (by decide), if_pos (show _ < (x_next σ (nI k) (m_kinds σ n k j h 6) 0).2 from h7), if_pos (show _ < (m_next σ n k (m_kinds σ n k j h 6) 0).2 from h7)]
    exact ⟨rfl, 0, by decide, rfl⟩
  | b + 1, hb => by
    obtain ⟨ih, c, hc, e⟩ := next_eq h1 (j := j) (h := h) hk b (by omega)
    rw [x_next, m_next, gpart_eq h1 hk hb, ih]
    refine ⟨rfl, ?_⟩
    split
    · exact ⟨b + 1, hb, rfl⟩
    · exact ⟨c, hc, e⟩
theorem next_T (σ : zSt) (g : Nat → Int32) (x : Int32) (n k : Nat) (set : Int32) : ∀ b, m_next (sI (sT σ g) 0 0 11 x) n k set b = m_next σ n k set b
  | 0 => rfl
  | b + 1 => by
    rw [m_next, m_next, next_T σ g x n k set b]
    have e : m_npart (sI (sT σ g) 0 0 11 x) n k set (nI b) = m_npart σ n k set (nI b) := by
      have e2 : ∀ s, m_np (sI (sT σ g) 0 0 11 x) n k set (nI b) s = m_np σ n k set (nI b) s := fun s => by
        induction s with
        | zero => rfl
        | succ s ih =>
          rw [m_np, m_np, ih]
          rfl
      unfold m_npart
      rw [e2]
    rw [e]
theorem kinds_TI (σ : zSt) (g : Nat → Int32) (x : Int32) (n k j h : Nat) : ∀ s, m_kinds (sI (sT σ g) 0 0 11 x) n k j h s = m_kinds σ n k j h s
  | 0 => rfl
  | s + 1 => by
    rw [m_kinds, m_kinds, kinds_TI σ g x n k j h s]
    rfl
theorem s_next (σ : zSt) (h : RR σ) (i r : Int32) : Step σ mi_X5_next mi_X6_next [zi i, zi r] := by
  have bad : ¬ x_lamp σ i → ¬ m_in i 0 (fI σ 5 0 10 - 1) → Step σ mi_X5_next mi_X6_next [zi i, zi r] := fun hx hm => by
    rcases in_out r (N := 6) (by decide) with hr | ⟨j, hj, rfl⟩
    · exact step_ff (c_X5_next_bad1 σ i r hx hr) (c_X6_next_bad1 σ i r hm) (by decide) (by decide) rfl h
    · exact step_ff (c_X5_next_bad2 σ i j hx hj) (c_X6_next_bad1 σ i _ hm) (by decide) (by decide) rfl h
  rcases h.2.2.2.2 with h0 | ⟨n, h1⟩
  · exact bad (xl_no h0) (in_no0 i h0)
  · rcases in_out i (N := 9) (by decide) with hi | ⟨k, hk, rfl⟩
    · exact bad (xl_out hi) (in_no1 h1 hi)
    · have hl := xl_yes h1 hk
      have hin := lamp_in h1.2.1 hk
      rcases in_out r (N := 6) (by decide) with hr | ⟨j, hj, rfl⟩
      · exact step_ff (c_X5_next_bad3 σ _ r hl hr) (c_X6_next_bad3 σ _ r hin hr) (by decide) (by decide) rfl h
      · have hz := zlenR j hj
        refine pairs_cases h h1 hj (fun a b => ?_) (fun w hn a b c => ?_) (fun q u hq hu a b c d e => ?_) (fun q hq a b hv c d => ?_)
        · exact step_ff (c_X5_next_mis σ _ j hl hj (by rw [a]; decide)) (c_X6_next_mis _ _ j hin hj b) (by decide) (by decide) rfl (RR_fnd (by decide) h)
        · exact step_ff (c_X5_next_size σ _ j w hl hj a (by omega) c) (c_X6_next_size _ _ j w hin hj b hn c) (by decide) (by decide) rfl (RR_fnd (by decide) h)
        · exact step_ff (c_X5_next_unl σ _ j q u hl hj a hq (by omega) hu c d) (c_X6_next_unl _ _ j q hin hj b hq e) (by decide) (by decide) rfl (RR_fnd (by decide) h)
        · have ek := kinds_eq h1 hk hv d 6 (Nat.le_refl _)
          by_cases hz0 : x_kinds σ (nI k) j q 6 = 0
          · have hx := c_X5_next_none σ _ j q hl hj a hq (by omega) c hz0 (fun c => fI σ 1 1 c)
            rw [sT_self] at hx
            refine ⟨6, _, by decide, hx, ?_⟩
            rintro r1 σ1 ⟨rfl, g, rfl⟩
            refine ⟨_, rfl, rfl, 3, _, by decide, c_X6_next_none (sT σ g) n k j q h1.2.1 h1.2.2.1 h1.1 hk hj b hq d (by rw [kinds_T, ← ek]; exact hz0), ?_⟩
            rintro r2 σ2 ⟨rfl, rfl⟩
            exact ⟨rfl, RR_T h⟩
          · have hx := c_X5_next_ok σ _ j q hl hj a hq (by omega) c hz0 (fun c => fI σ 1 1 c)
            rw [sT_self, ek] at hx
            obtain ⟨en, w, hw, ew⟩ := next_eq h1 (j := j) (h := q) hk 8 (by decide)
            refine ⟨6, _, by decide, hx, ?_⟩
            rintro r1 σ1 ⟨rfl, g, rfl⟩
            have hm := c_X6_next_ok (sI (sT σ g) 0 0 11 (x_next σ (nI k) (m_kinds σ n k j q 6) 9).2) n k j q h1.2.1 h1.2.2.1 h1.1 hk hj b hq d (by rw [kinds_TI, ← ek]; exact hz0) (by
              rw [kinds_TI, next_T, ew]
              intro z
              have := nI_pos' (n := w) (by omega)
              rw [z] at this
              exact absurd this (by decide))
            rw [kinds_TI, next_T] at hm
            refine ⟨_, rfl, rfl, 3, _, by decide, hm, ?_⟩
            rintro r2 σ2 ⟨rfl, rfl⟩
            rw [en]
            exact ⟨rfl, RR_ask (σ := sT σ g) rfl (RR_T h)⟩
