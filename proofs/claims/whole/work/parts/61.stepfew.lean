/-! ===== the fewest presses, on both sides ===== -/
theorem cd_c (kd : Nat → Int32) {c r : Nat} : ∀ (m : Nat) (S : Nat → Int32), (∀ j, j < m → c / 9 ^ j % 9 = r / 9 ^ j % 9) → m_cd kd c m S = m_cd kd r m S
  | 0, _, _ => rfl
  | m + 1, S, h => by
    rw [m_cd, m_cd, h m (by omega), cd_c kd m _ (fun j hj => h j (by omega))]
theorem dig_lo (b r : Nat) {m j : Nat} (h : j < m) : (b * 9 ^ m + r) / 9 ^ j % 9 = r / 9 ^ j % 9 := by
  obtain ⟨t, rfl⟩ : ∃ t, m = j + 1 + t := ⟨m - (j + 1), by omega⟩
  have e : b * 9 ^ (j + 1 + t) + r = r + 9 ^ j * (9 * (b * 9 ^ t)) := by
    rw [Nat.pow_add, Nat.pow_succ, Nat.add_comm]
    congr 1
    ac_rfl
  rw [e, Nat.add_mul_div_left _ _ (Nat.pow_pos (by decide)), Nat.add_mul_mod_self_left]
theorem dig_hi {b r m : Nat} (hb : b < 9) (h : r < 9 ^ m) : (b * 9 ^ m + r) / 9 ^ m % 9 = b := by
  rw [Nat.mul_comm b, Nat.add_comm, Nat.add_mul_div_left _ _ (Nat.pow_pos (by decide)), Nat.div_eq_of_lt h, Nat.zero_add, Nat.mod_eq_of_lt hb]
theorem cd_up (kd S : Nat → Int32) {b r m : Nat} (hb : b < 9) (h : r < 9 ^ m) : m_cd kd (b * 9 ^ m + r) (m + 1) S = m_cd kd r m (ms kd b S) := by
  rw [m_cd, dig_hi hb h]
  exact cd_c kd m _ (fun j hj => dig_lo b r hj)
def rcO (σ : zSt) (pic : Int32) (m d : Nat) (S g : Nat → Int32) (res : Bool × (Nat → Int32)) : Prop :=
  (res.1 = true → ∃ c, c < 9 ^ m ∧ mw (fA σ 26) (m_cd (fA σ 26) c m S) = pic ∧ (∀ c', c' < c → ¬ mw (fA σ 26) (m_cd (fA σ 26) c' m S) = pic) ∧ ∀ x, res.2 x = if d ≤ x ∧ x < d + m then nI (c / 9 ^ (m - 1 - (x - d)) % 9) else g x) ∧
  (res.1 = false → (∀ c, c < 9 ^ m → ¬ mw (fA σ 26) (m_cd (fA σ 26) c m S) = pic) ∧ ∀ x, ¬ (d ≤ x ∧ x < d + m) → res.2 x = g x)
theorem split_c {b m c : Nat} (h : ¬ c < b * 9 ^ m) : ∃ r, c = b * 9 ^ m + r := ⟨c - b * 9 ^ m, by omega⟩
theorem rl_spec (σ : zSt) (pic : Int32) (m d : Nat) (S g0 : Nat → Int32) (f : Nat → (Nat → Int32) → Bool × (Nat → Int32)) (ih : ∀ b, b < 9 → ∀ g, rcO σ pic m (d + 1) (ms (fA σ 26) b S) (upd g d (nI b)) (f b g)) :
    ∀ (k b : Nat) (g : Nat → Int32), b + k = 9 → (∀ c, c < b * 9 ^ m → ¬ mw (fA σ 26) (m_cd (fA σ 26) c (m + 1) S) = pic) → (∀ x, ¬ (d ≤ x ∧ x < d + (m + 1)) → g x = g0 x) → rcO σ pic (m + 1) d S g0 (x_rl f k b g)
  | 0, b, g, hb, hno, hg => by
    obtain rfl : b = 9 := by omega
    rw [x_rl]
    refine ⟨fun z => absurd (show false = true from z) (by decide), fun _ => ⟨fun c hc => hno c ?_, hg⟩⟩
    rw [Nat.pow_succ] at hc
    omega
  | k + 1, b, g, hb, hno, hg => by
    have hb9 : b < 9 := by omega
    obtain ⟨i1, i2⟩ := ih b hb9 g
    rw [x_rl]
    by_cases hf : (f b g).1 = true
    · rw [if_pos hf]
      refine ⟨fun _ => ?_, fun z => absurd (show true = false from z) (by decide)⟩
      obtain ⟨r, hr, hp, hm, hx⟩ := i1 hf
      refine ⟨b * 9 ^ m + r, ?_, ?_, fun c' hc' => ?_, fun x => ?_⟩
      · have : (b + 1) * 9 ^ m ≤ 9 * 9 ^ m := Nat.mul_le_mul_right _ (by omega)
        rw [Nat.add_mul, Nat.one_mul] at this
        rw [Nat.pow_succ]
        omega
      · rw [cd_up _ _ hb9 hr]
        exact hp
      · by_cases hlt : c' < b * 9 ^ m
        · exact hno c' hlt
        · obtain ⟨r', rfl⟩ := split_c hlt
          rw [cd_up _ _ hb9 (by omega)]
          exact hm r' (by omega)
      · show (f b g).2 x = _
        rw [hx x]
        by_cases h1 : d + 1 ≤ x ∧ x < d + 1 + m
        · rw [if_pos h1, if_pos (by omega), show m + 1 - 1 - (x - d) = m - (x - d) by omega, show m - 1 - (x - (d + 1)) = m - (x - d) by omega, dig_lo b r (by omega)]
        · rw [if_neg h1, upd_at]
          by_cases h2 : x = d
          · rw [if_pos h2, if_pos (by omega), h2, Nat.sub_self, Nat.sub_zero, Nat.add_sub_cancel, dig_hi hb9 hr]
          · rw [if_neg h2, if_neg (by omega), hg x (by omega)]
    · rw [if_neg hf]
      obtain ⟨j1, j2⟩ := i2 (Bool.eq_false_iff.mpr hf)
      refine rl_spec σ pic m d S g0 f ih k (b + 1) _ (by omega) (fun c hc => ?_) (fun x hx => ?_)
      · by_cases hlt : c < b * 9 ^ m
        · exact hno c hlt
        · obtain ⟨r, rfl⟩ := split_c hlt
          rw [Nat.add_mul, Nat.one_mul] at hc
          rw [cd_up _ _ hb9 (by omega)]
          exact j1 r (by omega)
      · rw [j2 x (by omega), upd_at, if_neg (by omega)]
        exact hg x hx
theorem rc_spec {σ : zSt} (hK : KD σ) (pic : Int32) : ∀ (m d : Nat) (s q : Int32) (S g : Nat → Int32), Sd (fI σ 1 0 0) s S → q = S 9 → rcO σ pic m d S g (x_rc σ pic m d s q g)
  | 0, d, s, q, S, g, hS, hq => by
    rw [x_rc, shw_eq hK hS]
    refine ⟨fun z => ⟨0, by decide, of_decide_eq_true z, fun c' hc' => absurd hc' (by omega), fun x => ?_⟩, fun z => ⟨fun c hc => ?_, fun x _ => rfl⟩⟩
    · rw [if_neg (by omega)]
    · exact of_decide_eq_false z
  | m + 1, d, s, q, S, g, hS, hq => by
    rw [x_rc]
    refine rl_spec σ pic m d S g _ (fun b hb g' => ?_) 9 0 g (by decide) (fun c hc => absurd hc (by omega)) (fun _ _ => rfl)
    refine rc_spec hK pic m (d + 1) _ _ _ _ (prs_eq hK hS hq hb) ?_
    unfold ms
    rw [press_9, hq]
theorem few_spec {σ : zSt} {n : Nat} (h1 : RD1 σ n) (pic : Int32) : ∀ (k P : Nat) (g : Nat → Int32), P + k = 5 → (∀ P' c, P' < P → c < 9 ^ P' → ¬ m_hit σ n P' c = pic) →
    (∀ g', x_few σ pic k P g = (none, g') → ∀ P' c, P' ≤ 4 → c < 9 ^ P' → ¬ m_hit σ n P' c = pic) ∧
    (∀ Q g', x_few σ pic k P g = (some Q, g') → Q ≤ 4 ∧ ∃ c, c < 9 ^ Q ∧ m_hit σ n Q c = pic ∧ (∀ c', c' < c → ¬ m_hit σ n Q c' = pic) ∧ (∀ P' c', P' < Q → c' < 9 ^ P' → ¬ m_hit σ n P' c' = pic) ∧ ∀ x, x < Q → g' x = nI (c / 9 ^ (Q - 1 - x) % 9))
  | 0, P, g, hk, hno => by
    obtain rfl : P = 5 := by omega
    rw [x_few]
    exact ⟨fun g' _ P' c hP hc => hno P' c (by omega) hc, fun Q g' e => absurd (congrArg Prod.fst e) (by simp)⟩
  | k + 1, P, g, hk, hno => by
    obtain ⟨i1, i2⟩ := rc_spec h1.2.2.2.1 pic P 0 (p_state σ 3) (p_number σ 3) (m_st σ n) g (cur_S h1) (cur_q h1)
    rw [x_few]
    by_cases hf : (x_rc σ pic P 0 (p_state σ 3) (p_number σ 3) g).1 = true
    · rw [if_pos hf]
      refine ⟨fun g' e => absurd (congrArg Prod.fst e) (by simp), fun Q g' e => ?_⟩
      have e1 : P = Q := Option.some.inj (congrArg Prod.fst e)
      have e2 : (x_rc σ pic P 0 (p_state σ 3) (p_number σ 3) g).2 = g' := congrArg Prod.snd e
      subst e1
      obtain ⟨c, hc, hp, hm, hx⟩ := i1 hf
      refine ⟨by omega, c, hc, hp, hm, hno, fun x hx2 => ?_⟩
      rw [← e2, hx x, if_pos (by omega), Nat.sub_zero]
    · rw [if_neg hf]
      obtain ⟨j1, _⟩ := i2 (Bool.eq_false_iff.mpr hf)
      refine few_spec h1 pic k (P + 1) _ (by omega) (fun P' c hP hc => ?_)
      by_cases e : P' = P
      · subst e
        exact j1 c hc
      · exact hno P' c (by omega) hc
theorem RR_few {σ : zSt} (h : RR σ) {j P c : Nat} (hj : j < 6) (hP : P ≤ 4) {g' g : Nat → Int32} (hg : ∀ x, x < P → g' x = nI (c / 9 ^ (P - 1 - x) % 9)) : RR (m_fewE (sA (x_fewE σ j P g') 31 g) j P c) := by
  unfold m_fewE x_fewE
  refine ⟨RA_sA (by decide) (RA_sA (by decide) (RA_sA (by decide) (RA_sA (by omega) (RA_sA (by decide) (RA_sI (by decide) h.1))))), ?_, ?_, ?_⟩
  · refine RB_put (N := P) hj (by omega) h.2.1 ?_ ?_ ?_ ?_
    · exact fI_same _ _ _ _ _
    · rw [fA_ne _ _ (by decide), fA_same, upd_at, if_pos rfl]
    · intro i hi
      rw [fA_ne _ _ (show j ≠ 23 by omega), fA_ne _ _ (show j ≠ 22 by omega), fA_ne _ _ (show j ≠ 31 by omega), fA_same, fA_same]
      unfold zcpy m_dg
      rw [if_pos (by omega), if_pos (by omega), hg i hi, Nat.add_sub_cancel_left]
    · intro i hi hne
      refine ⟨?_, ?_, ?_, fun k hk => ?_⟩
      · show fI (sI σ 4 j 1 (nI P)) 4 i 1 = _
        rw [fI_sI, if_neg (fun z => hne z.2.1)]
      · rw [fA_ne _ _ (show (22 : Nat) ≠ 23 by decide), fA_same, upd_at, if_neg hne, fA_ne _ _ (show (22 : Nat) ≠ 31 by decide), fA_ne _ _ (show 22 ≠ j by omega), fA_ne _ _ (show (22 : Nat) ≠ 19 by decide)]
        rfl
      · rw [fA_ne _ _ (show i ≠ 23 by omega), fA_ne _ _ (show i ≠ 22 by omega), fA_ne _ _ (show i ≠ 31 by omega), fA_ne _ _ hne, fA_ne _ _ (show i ≠ 19 by omega)]
        rfl
      · rw [fA_same, fA_ne _ _ (show (23 : Nat) ≠ 31 by decide), fA_ne _ _ (show 23 ≠ j by omega), fA_ne _ _ (show (23 : Nat) ≠ 19 by decide)]
        unfold m_dg zfill
        rw [if_neg (by omega), if_neg (by omega)]
        rfl
  · exact RC_sA (by decide) (RC_sA (by decide) (RC_sA (by decide) (RC_sA (by omega) (RC_sA (by decide) (RC_sI4 hj h.2.2.1)))))
  · exact RD_sA (by decide) (RD_sA (by decide) (RD_sA (by decide) (RD_sA (by omega) (RD_sA (by decide) (RD_sI (by omega) h.2.2.2)))))
theorem hit_A {σ τ : zSt} (e1 : fA τ 26 = fA σ 26) (e2 : fA τ 28 = fA σ 28) (n P c : Nat) : m_hit τ n P c = m_hit σ n P c := by
  unfold m_hit m_st
  rw [e1, e2]
theorem s_fewest (σ : zSt) (h : RR σ) (s r : Int32) : Step σ mi_X5_fewest mi_X6_fewest [zi s, zi r] := by
  rcases h.2.2.2.2 with h0 | ⟨n, h1⟩
  · exact step_ff (c_X5_fewest_none σ s r (by rw [h0.1]; decide)) (c_X6_fewest_none σ s r h0.2.1) (by decide) (by decide) rfl h
  · by_cases hs : s < 0 ∨ ¬ s ≤ 511
    · exact step_ff (c_X5_fewest_bad1 σ s r (cur_n h1) hs) (c_X6_fewest_bad1 σ s r h1.2.1 (fun z => pic_iff.mp z hs)) (by decide) (by decide) rfl h
    · rcases in_out r (N := 6) (by decide) with hr | ⟨j, hj, rfl⟩
      · exact step_ff (c_X5_fewest_bad2 σ s r (cur_n h1) hs hr) (c_X6_fewest_bad2 σ s r h1.2.1 (pic_iff.mpr hs) hr) (by decide) (by decide) rfl h
      · have hz : 40 ≤ zlen j := by rw [zlenR j hj]; exact Nat.le_refl _
        obtain ⟨f1, f2⟩ := few_spec h1 s 5 0 (fA σ 19) (by decide) (fun P' c hP => absurd hP (by omega))
        rcases hf : x_few σ s 5 0 (fA σ 19) with ⟨_ | P, g'⟩
        · have e26 : fA (sA σ 19 g') 26 = fA σ 26 := fA_ne _ _ (by decide)
          have e28 : fA (sA σ 19 g') 28 = fA σ 28 := fA_ne _ _ (by decide)
          have hm := c_X6_fewest_no (sA σ 19 g') n s j h1.2.1 h1.2.2.1 h1.1 (pic_iff.mpr hs) hj (fun P c hP hc => by rw [hit_A e26 e28]; exact f1 g' hf P c hP hc) (fA (sA σ 19 g') 31)
          rw [sA_self] at hm
          refine step_fq (c_X5_fewest_no σ s j g' (cur_n h1) hs hj hz hf) hm (by decide) (by decide) ?_
          rintro r2 σ2 ⟨rfl, g, rfl⟩
          exact ⟨rfl, RR_31 (RR_19 h)⟩
        · obtain ⟨hP, c, hc, hh, hm1, hp, hx⟩ := f2 P g' hf
          have e26 : fA (x_fewE σ j P g') 26 = fA σ 26 := by
            unfold x_fewE
            rw [fA_ne _ _ (show 26 ≠ j by omega), fA_ne _ _ (show (26 : Nat) ≠ 19 by decide)]
            rfl
          have e28 : fA (x_fewE σ j P g') 28 = fA σ 28 := by
            unfold x_fewE
            rw [fA_ne _ _ (show 28 ≠ j by omega), fA_ne _ _ (show (28 : Nat) ≠ 19 by decide)]
            rfl
          have hm := c_X6_fewest_ok (x_fewE σ j P g') n s j h1.2.1 h1.2.2.1 h1.1 (pic_iff.mpr hs) hj P c hP hc (by rw [hit_A e26 e28]; exact hh) (fun c' z => by rw [hit_A e26 e28]; exact hm1 c' z) (fun P' c' z y => by rw [hit_A e26 e28]; exact hp P' c' z y) (fA (x_fewE σ j P g') 31)
          rw [sA_self] at hm
          refine step_fq (c_X5_fewest_ok σ s j P g' (cur_n h1) hs hj hz hf) hm (by decide) (by decide) ?_
          rintro r2 σ2 ⟨rfl, g, rfl⟩
          exact ⟨rfl, RR_few h hj hP hx⟩
