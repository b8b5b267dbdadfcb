/-! ===== sums and products of naturals, fractions ===== -/
def prN (f : Nat → Nat) : Nat → Nat
  | 0 => 1
  | l + 1 => prN f l * f l
def smN (f : Nat → Nat) : Nat → Nat
  | 0 => 0
  | s + 1 => smN f s + f s
theorem prN_c {f g : Nat → Nat} : ∀ n, (∀ i, i < n → f i = g i) → prN f n = prN g n
  | 0, _ => rfl
  | n + 1, h => by rw [prN, prN, prN_c n (fun i hi => h i (by omega)), h n (by omega)]
theorem smN_c {f g : Nat → Nat} : ∀ n, (∀ i, i < n → f i = g i) → smN f n = smN g n
  | 0, _ => rfl
  | n + 1, h => by rw [smN, smN, smN_c n (fun i hi => h i (by omega)), h n (by omega)]
theorem prN_mul (f g : Nat → Nat) : ∀ n, prN (fun l => f l * g l) n = prN f n * prN g n
  | 0 => rfl
  | n + 1 => by
    rw [prN, prN, prN, prN_mul f g n]
    ac_rfl
theorem smN_mul (f : Nat → Nat) (c : Nat) : ∀ n, smN (fun l => f l * c) n = smN f n * c
  | 0 => (Nat.zero_mul c).symm
  | n + 1 => by rw [smN, smN, smN_mul f c n, Nat.add_mul]
theorem smN_plus (f g : Nat → Nat) : ∀ n, smN (fun l => f l + g l) n = smN f n + smN g n
  | 0 => rfl
  | n + 1 => by
    rw [smN, smN, smN, smN_plus f g n]
    omega
theorem smN_add (f : Nat → Nat) (a : Nat) : ∀ b, smN f (a + b) = smN f a + smN (fun r => f (a + r)) b
  | 0 => rfl
  | b + 1 => by
    rw [← Nat.add_assoc, smN, smN, smN_add f a b]
    omega
theorem prN_0 {f : Nat → Nat} : ∀ n l, l < n → f l = 0 → prN f n = 0
  | 0, l, h, _ => absurd h (by omega)
  | n + 1, l, h, e => by
    rw [prN]
    by_cases hl : l = n
    · rw [← hl, e, Nat.mul_zero]
    · rw [prN_0 n l (by omega) e, Nat.zero_mul]
theorem prN_all {P : Nat → Prop} [DecidablePred P] : ∀ n, (∀ i, i < n → P i) → prN (fun l => if P l then 1 else 0) n = 1
  | 0, _ => rfl
  | n + 1, h => by rw [prN, prN_all n (fun i hi => h i (by omega)), if_pos (h n (by omega))]
theorem prN_le {f : Nat → Nat} {m : Nat} : ∀ n, (∀ i, i < n → f i ≤ m) → prN f n ≤ m ^ n
  | 0, _ => Nat.le_refl _
  | n + 1, h => by
    rw [prN, Nat.pow_succ]
    exact Nat.mul_le_mul (prN_le n (fun i hi => h i (by omega))) (h n (by omega))
theorem prN_pos {f : Nat → Nat} : ∀ n, (∀ i, i < n → 0 < f i) → 0 < prN f n
  | 0, _ => Nat.zero_lt_one
  | n + 1, h => by
    rw [prN]
    exact Nat.mul_pos (prN_pos n (fun i hi => h i (by omega))) (h n (by omega))
theorem smN_le {f : Nat → Nat} {m : Nat} : ∀ n, (∀ i, i < n → f i ≤ m) → smN f n ≤ n * m
  | 0, _ => Nat.zero_le _
  | n + 1, h => by
    have := smN_le n (fun i hi => h i (by omega : i < n + 1))
    have := h n (by omega)
    rw [smN, Nat.add_mul, Nat.one_mul]
    omega
/-- the halves of the numbers below 2 ^ (L + 1) -/
theorem smN_half (F : Nat → Nat) (L : Nat) : smN F (2 ^ (L + 1)) = smN F (2 ^ L) + smN (fun r => F (2 ^ L + r)) (2 ^ L) := by
  rw [Nat.pow_succ, Nat.mul_two, smN_add]
theorem tb_lo {L r l : Nat} (h : l < L) : (2 ^ L + r).testBit l = r.testBit l := Nat.testBit_two_pow_add_gt h r
theorem tb_hi {L r : Nat} (h : r < 2 ^ L) : (2 ^ L + r).testBit L = true := by
  rw [Nat.testBit_two_pow_add_eq, Nat.testBit_lt_two_pow h]
  rfl
/-- a sum over all sets of a product over the nine is a product of sums -/
theorem sum_prod (g : Nat → Bool → Nat) : ∀ L, smN (fun s => prN (fun l => g l (s.testBit l)) L) (2 ^ L) = prN (fun l => g l false + g l true) L
  | 0 => rfl
  | L + 1 => by
    rw [smN_half, prN, ← sum_prod g L, Nat.mul_add]
    congr 1
    · rw [← smN_mul]
      refine smN_c _ (fun s hs => ?_)
      rw [prN, Nat.testBit_lt_two_pow hs]
    · rw [← smN_mul]
      refine smN_c _ (fun s hs => ?_)
      rw [prN, tb_hi hs]
      congr 1
      exact prN_c L (fun l hl => by rw [tb_lo hl])
/-- the same with a sum beside the product -/
theorem sum_mid (w h : Nat → Bool → Nat) (t : Nat → Nat) (ht : ∀ l, l < 9 → 12 * (w l false * h l false + w l true * h l true) = (w l false + w l true) * t l) : ∀ L, L ≤ 9 → 12 * smN (fun s => prN (fun l => w l (s.testBit l)) L * smN (fun l => h l (s.testBit l)) L) (2 ^ L) = prN (fun l => w l false + w l true) L * smN t L
  | 0, _ => rfl
  | L + 1, hL => by
    have ih := sum_mid w h t ht L (by omega)
    have e := ht L (by omega)
    have hP := sum_prod w L
    rw [smN_half, prN, smN]
    have e0 : smN (fun s => prN (fun l => w l (s.testBit l)) (L + 1) * smN (fun l => h l (s.testBit l)) (L + 1)) (2 ^ L) = smN (fun s => prN (fun l => w l (s.testBit l)) L * smN (fun l => h l (s.testBit l)) L) (2 ^ L) * w L false + smN (fun s => prN (fun l => w l (s.testBit l)) L) (2 ^ L) * (w L false * h L false) := by
      rw [← smN_mul, ← smN_mul, ← smN_plus]
      refine smN_c _ (fun s hs => ?_)
      rw [prN, smN, Nat.testBit_lt_two_pow hs, Nat.mul_add]
      congr 1
      · ac_rfl
      · ac_rfl
    have e1 : smN (fun r => prN (fun l => w l ((2 ^ L + r).testBit l)) (L + 1) * smN (fun l => h l ((2 ^ L + r).testBit l)) (L + 1)) (2 ^ L) = smN (fun s => prN (fun l => w l (s.testBit l)) L * smN (fun l => h l (s.testBit l)) L) (2 ^ L) * w L true + smN (fun s => prN (fun l => w l (s.testBit l)) L) (2 ^ L) * (w L true * h L true) := by
      rw [← smN_mul, ← smN_mul, ← smN_plus]
      refine smN_c _ (fun s hs => ?_)
      rw [prN, smN, tb_hi hs, Nat.mul_add, prN_c (f := fun l => w l ((2 ^ L + s).testBit l)) (g := fun l => w l (s.testBit l)) L (fun l hl => by rw [tb_lo hl]), smN_c (f := fun l => h l ((2 ^ L + s).testBit l)) (g := fun l => h l (s.testBit l)) L (fun l hl => by rw [tb_lo hl])]
      congr 1
      · ac_rfl
      · ac_rfl
    rw [e0, e1, hP]
    generalize smN (fun s => prN (fun l => w l (s.testBit l)) L * smN (fun l => h l (s.testBit l)) L) (2 ^ L) = Q at ih ⊢
    generalize prN (fun l => w l false + w l true) L = P at ih ⊢
    generalize smN t L = M at ih ⊢
    calc 12 * (Q * w L false + P * (w L false * h L false) + (Q * w L true + P * (w L true * h L true)))
        = 12 * Q * (w L false + w L true) + P * (12 * (w L false * h L false + w L true * h L true)) := by
          simp only [Nat.mul_add, Nat.add_mul]
          ac_rfl
      _ = P * M * (w L false + w L true) + P * ((w L false + w L true) * t L) := by rw [ih, e]
      _ = P * (w L false + w L true) * (M + t L) := by
          generalize w L false + w L true = z
          rw [Nat.mul_add]
          congr 1
          · ac_rfl
          · ac_rfl
/-! fractions -/
theorem frac_nat {a b c d : Nat} (hb : 0 < b) (hd : 0 < d) (e : a * d = c * b) : a / Nat.gcd a b = c / Nat.gcd c d ∧ b / Nat.gcd a b = d / Nat.gcd c d := by
  have g0 : 0 < Nat.gcd a b := Nat.gcd_pos_of_pos_right _ hb
  have g1 : 0 < Nat.gcd c d := Nat.gcd_pos_of_pos_right _ hd
  have e1 : Nat.gcd a b * d = b * Nat.gcd c d := by
    rw [← Nat.gcd_mul_right, ← Nat.gcd_mul_left, e, Nat.mul_comm c b]
  have e2 : Nat.gcd a b * c = a * Nat.gcd c d := by
    rw [← Nat.gcd_mul_right, ← Nat.gcd_mul_left, e, Nat.mul_comm b c]
  have key : ∀ g g' x y : Nat, 0 < g → 0 < g' → g ∣ x → g' ∣ y → g * y = x * g' → x / g = y / g' := by
    rintro g g' x y hg hg' ⟨x', rfl⟩ ⟨y', rfl⟩ h
    rw [Nat.mul_div_cancel_left _ hg, Nat.mul_div_cancel_left _ hg']
    have h2 : g * (g' * y') = g * (g' * x') := by
      rw [h]
      ac_rfl
    exact (Nat.eq_of_mul_eq_mul_left hg' (Nat.eq_of_mul_eq_mul_left hg h2)).symm
  exact ⟨key _ _ _ _ g0 g1 (Nat.gcd_dvd_left _ _) (Nat.gcd_dvd_left _ _) e2, key _ _ _ _ g0 g1 (Nat.gcd_dvd_right _ _) (Nat.gcd_dvd_right _ _) e1⟩
theorem cd_gcd : ∀ (k f a b : Nat), 2 * k + 1 ≤ f → a < 2 ^ 63 → b < 2 ^ k → k ≤ 62 → x_cd f (lN a) (lN b) = lN (Nat.gcd a b) ∧ cd_end f (lN a) (lN b)
  | 0, f, a, b, hf, ha, hb, _ => by
    obtain rfl : b = 0 := by
      rw [Nat.pow_zero] at hb
      omega
    obtain ⟨f, rfl⟩ : ∃ f', f = f' + 1 := ⟨f - 1, by omega⟩
    rw [x_cd, cd_end, if_pos (show lN 0 = 0 from rfl), Nat.gcd_zero_right]
    exact ⟨rfl, Or.inl rfl⟩
  | k + 1, f, a, b, hf, ha, hb, hk => by
    have h63 : 2 ^ (k + 1) ≤ 2 ^ 63 := Nat.pow_le_pow_right (by decide) (by omega)
    obtain ⟨f, rfl⟩ : ∃ f', f = f' + 2 := ⟨f - 2, by omega⟩
    by_cases h0 : b = 0
    · subst h0
      rw [x_cd, cd_end, if_pos (show lN 0 = 0 from rfl), Nat.gcd_zero_right]
      exact ⟨rfl, Or.inl rfl⟩
    · have hne : ¬ lN b = 0 := fun z => h0 ((pk_lEQ (a := b) (b := 0) (by omega) (by decide)).mp z)
      have er : zlrem (lN a) (lN b) = lN (a % b) := pk_lRem ha (by omega) (by omega)
      have hr : a % b < b := Nat.mod_lt _ (by omega)
      rw [x_cd, cd_end, if_neg hne, er, Nat.gcd_comm a b, Nat.gcd_rec b a, Nat.gcd_comm (a % b) b]
      generalize a % b = r at hr ⊢
      by_cases h1 : r = 0
      · subst h1
        rw [x_cd, cd_end, if_pos (show lN 0 = 0 from rfl), Nat.gcd_zero_right]
        exact ⟨rfl, Or.inr (Or.inl rfl)⟩
      · have hne1 : ¬ lN r = 0 := fun z => h1 ((pk_lEQ (a := r) (b := 0) (by omega) (by decide)).mp z)
        have er1 : zlrem (lN b) (lN r) = lN (b % r) := pk_lRem (by omega) (by omega) (by omega)
        have hr1 : b % r < r := Nat.mod_lt _ (by omega)
        have hr2 : b % r < 2 ^ k := by
          have h2 := Nat.div_add_mod b r
          have h3 : 1 ≤ b / r := (Nat.one_le_div_iff (by omega)).mpr (by omega)
          have h4 : r * 1 ≤ r * (b / r) := Nat.mul_le_mul_left r h3
          rw [Nat.pow_succ] at hb
          omega
        obtain ⟨i1, i2⟩ := cd_gcd k f r (b % r) (by omega) (by omega) hr2 (by omega)
        rw [x_cd, cd_end, if_neg hne1, er1, Nat.gcd_comm b r, Nat.gcd_rec r b, Nat.gcd_comm (b % r) r]
        exact ⟨i1, Or.inr (Or.inr i2)⟩
theorem cd_use {a b : Nat} (ha : a < 2 ^ 40) (h0 : 0 < b) (hb : b < 2 ^ 40) : cd_end 200 (lN a) (lN b) ∧ 0 < x_cd 200 (lN a) (lN b) ∧ lN a / x_cd 200 (lN a) (lN b) = lN (a / Nat.gcd a b) ∧ lN b / x_cd 200 (lN a) (lN b) = lN (b / Nat.gcd a b) := by
  obtain ⟨e, c⟩ := cd_gcd 40 200 a b (by decide) (by omega) hb (by decide)
  have g0 : 0 < Nat.gcd a b := Nat.gcd_pos_of_pos_right _ h0
  have g1 : Nat.gcd a b ≤ b := Nat.le_of_dvd h0 (Nat.gcd_dvd_right _ _)
  rw [e]
  exact ⟨c, (pk_lLT (a := 0) (by decide) (by omega)).mpr g0, pk_lDiv (by omega) g0 (by omega), pk_lDiv (by omega) g0 (by omega)⟩
