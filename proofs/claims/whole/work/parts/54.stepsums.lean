/-! ===== counted upwards and downwards ===== -/
def uP (P : Nat → Prop) [DecidablePred P] (a : Nat) : Nat → Int32 × Int32
  | 0 => (0, -9)
  | m + 1 => if P (a + m) then ((uP P a m).1 + 1, if (uP P a m).1 = 0 then nI (a + m) else (uP P a m).2) else uP P a m
theorem uP_n (P : Nat → Prop) [DecidablePred P] (a : Nat) : ∀ m, ∃ c, c ≤ m ∧ (uP P a m).1 = nI c
  | 0 => ⟨0, by omega, rfl⟩
  | m + 1 => by
    obtain ⟨c, hc, e⟩ := uP_n P a m
    rw [uP]
    split
    · exact ⟨c + 1, by omega, by rw [e, nI_1]⟩
    · exact ⟨c, by omega, e⟩
theorem uP_front (P : Nat → Prop) [DecidablePred P] (a : Nat) : ∀ m, m ≤ 1000 → uP P a (m + 1) = if P a then ((uP P (a + 1) m).1 + 1, nI a) else uP P (a + 1) m
  | 0, _ => by
    rw [uP, Nat.add_zero]
    rfl
  | m + 1, hm => by
    have ih := uP_front P a m (by omega)
    obtain ⟨c, hc, e⟩ := uP_n P (a + 1) m
    rw [uP, ih, uP, show a + 1 + m = a + (m + 1) by omega]
    by_cases h1 : P a
    · have hne : ¬ (uP P (a + 1) m).1 + 1 = 0 := by
        rw [e, nI_1]
        exact nI_ne0 (by omega) (by omega)
      simp only [if_pos h1]
      by_cases h2 : P (a + (m + 1))
      · simp only [if_pos h2, if_neg hne]
      · simp only [if_neg h2]
    · simp only [if_neg h1]
theorem uP_c {P Q : Nat → Prop} [DecidablePred P] [DecidablePred Q] (a : Nat) : ∀ m, (∀ i, i < m → (P (a + i) ↔ Q (a + i))) → uP P a m = uP Q a m
  | 0, _ => rfl
  | m + 1, h => by
    rw [uP, uP, uP_c a m (fun i hi => h i (by omega))]
    have := h m (by omega)
    by_cases h1 : P (a + m)
    · rw [if_pos h1, if_pos (this.mp h1)]
    · rw [if_neg h1, if_neg (fun z => h1 (this.mpr z))]
theorem xsums_u (σ : zSt) (v : Int32) : ∀ m, x_sums σ v m = uP (fun s => st_total (p_state σ 3) (nI s) = v) 0 m
  | 0 => rfl
  | m + 1 => by rw [x_sums, uP, xsums_u σ v m, Nat.zero_add]
theorem xways_u (σ : zSt) (pic : Int32) : ∀ m, x_ways σ pic m = uP (fun s => kx_show σ 0 (x_bs σ s) = pic) 0 m
  | 0 => rfl
  | m + 1 => by rw [x_ways, uP, xways_u σ pic m, Nat.zero_add]
theorem msums_u (σ : zSt) (n : Nat) (v : Int32) : ∀ m, m ≤ 512 → m_sums σ n v m = uP (fun s => m_sum σ n (nI s) 9 = v) (512 - m) m
  | 0, _ => rfl
  | m + 1, hm => by
    rw [m_sums, uP_front _ _ _ (by omega), msums_u σ n v m (by omega), Int32.add_zero, show 512 - (m + 1) + 1 = 512 - m by omega, show 512 - (m + 1) = 511 - m by omega]
theorem mways_u (σ : zSt) (n : Nat) (pic : Int32) : ∀ m, m ≤ 512 → m_ways σ n pic m = uP (fun s => m_isBy σ n (nI s) pic) (512 - m) m
  | 0, _ => rfl
  | m + 1, hm => by
    rw [m_ways, uP_front _ _ _ (by omega), mways_u σ n pic m (by omega), show 512 - (m + 1) + 1 = 512 - m by omega, show 512 - (m + 1) = 511 - m by omega]
theorem sum_step : ∀ o t b : Bool, (if b = true then nI (stp o t) else 0) = bI (o && b) + 2 * bI (t && b) := by decide +kernel
theorem msum_eq {σ : zSt} {n : Nat} (h1 : RD1 σ n) (x : Int32) : ∀ i, i ≤ 9 → m_sum σ n x i = m_bits (st_ones (p_state σ 3) &&& x) i + 2 * m_bits (st_twos (p_state σ 3) &&& x) i
  | 0, _ => by
    show (0 : Int32) = 0 + 2 * 0
    decide
  | i + 1, hi => by
    obtain ⟨e, _⟩ := (cur_S h1).1 i (by omega)
    have e2 : fA σ 28 (11 * n + i) = nI (stp (bt (p_state σ 3) i) (bt (p_state σ 3) (9 + i))) := e
    have hs := sum_step (bt (p_state σ 3) i) (bt (p_state σ 3) (9 + i)) (bt x i)
    have hl : (if m_bit x (nI i) = 1 then m_sum σ n x i + fA σ 28 (11 * n + i) else m_sum σ n x i + 0) = m_sum σ n x i + (if bt x i = true then nI (stp (bt (p_state σ 3) i) (bt (p_state σ 3) (9 + i))) else 0) := by
      rw [e2]
      by_cases hb : bt x i = true
      · rw [if_pos hb, if_pos ((m_bit1 x (by omega)).mpr hb)]
      · rw [if_neg hb, if_neg (fun z => hb ((m_bit1 x (by omega)).mp z))]
    rw [m_sum, hl, hs, msum_eq h1 x i (by omega), m_bits, m_bits]
    unfold m_bit
    rw [m_bit_bt _ (by omega), m_bit_bt _ (by omega), bt_and, bt_and, bt_ones _ (by omega), bt_twos _ (by omega), Int32.mul_add]
    ac_rfl
