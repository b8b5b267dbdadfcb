/-! ===== by turns, on both sides ===== -/
def stB (kd : Nat → Int32) (b : Nat) (S : Nat → Int32) : Nat → Int32 := if b < 9 then ms kd b S else S
def foB (mx : Bool) (g : Nat → Int32) : Nat → Int32
  | 0 => g 0
  | b + 1 => if mx = true then (if foB mx g b < g (b + 1) then g (b + 1) else foB mx g b) else (if g (b + 1) < foB mx g b then g (b + 1) else foB mx g b)
/-- what the turns left are worth, both doing their best -/
def tv (kd : Nat → Int32) (set : Int32) : Nat → (Nat → Int32) → Int32
  | 0, S => m_val set (mw kd S)
  | l + 1, S => foB (decide ((l + 1) % 2 = 0)) (fun b => tv kd set l (stB kd b S)) 9
theorem fold_fo (mx : Bool) (f : Nat → Int32) (c : Nat) : ∀ b, m_fold mx f c b = foB mx (fun i => f (10 * c + i)) b
  | 0 => rfl
  | b + 1 => by rw [m_fold, foB, fold_fo mx f c b]
theorem foB_c (mx : Bool) {g g' : Nat → Int32} : ∀ b, (∀ i, i ≤ b → g i = g' i) → foB mx g b = foB mx g' b
  | 0, h => h 0 (Nat.le_refl _)
  | b + 1, h => by rw [foB, foB, foB_c mx b (fun i hi => h i (by omega)), h (b + 1) (Nat.le_refl _)]
theorem wd_up (kd : Nat → Int32) (c : Nat) {b : Nat} (hb : b < 10) : ∀ (j : Nat) (S : Nat → Int32), m_wd kd (10 * c + b) (j + 1) S = stB kd b (m_wd kd c j S)
  | 0, S => by
    rw [m_wd, m_wd, m_wd, Nat.pow_zero, Nat.div_one, show (10 * c + b) % 10 = b by omega]
    rfl
  | j + 1, S => by
    have e : (10 * c + b) / 10 ^ (j + 1) = c / 10 ^ j := by
      rw [Nat.pow_succ, Nat.mul_comm (10 ^ j), ← Nat.div_div_eq_div_mul, show (10 * c + b) / 10 = c by omega]
    rw [m_wd, wd_up kd c hb j, e, m_wd]
theorem V_eq (σ : zSt) (n : Nat) (set : Int32) {P : Nat} (hP : P % 2 = 0) : ∀ k, k ≤ P → ∀ c, m_V σ n P set k c = tv (fA σ 26) set k (m_wd (fA σ 26) c (P - k) (m_st σ n))
  | 0, _, c => by
    rw [Nat.sub_zero]
    rfl
  | k + 1, hk, c => by
    show m_fold (decide ((P - 1 - k) % 2 = 0)) (m_V σ n P set k) c 9 = _
    have hd : decide ((P - 1 - k) % 2 = 0) = decide ((k + 1) % 2 = 0) := decide_eq_decide.mpr (by omega)
    rw [fold_fo, tv, hd]
    refine foB_c _ 9 (fun i hi => ?_)
    rw [V_eq σ n set hP k (by omega) (10 * c + i), show P - k = P - (k + 1) + 1 by omega, wd_up _ c (by omega)]
abbrev In9 (x : Int32) : Prop := -9 ≤ x.toInt ∧ x.toInt ≤ 9
def abS (w v lo hi : Int32) : Prop := (lo.toInt < v.toInt → v.toInt < hi.toInt → w.toInt = v.toInt) ∧ (v.toInt ≤ lo.toInt → w.toInt ≤ lo.toInt) ∧ (hi.toInt ≤ v.toInt → hi.toInt ≤ w.toInt)
theorem zmax_int (x y : Int32) : (x.toInt < y.toInt → (zmax x y).toInt = y.toInt) ∧ (¬ x.toInt < y.toInt → (zmax x y).toInt = x.toInt) := by
  unfold zmax
  refine ⟨fun h => by rw [if_pos (i32lt.mpr h)], fun h => by rw [if_neg (fun z => h (i32lt.mp z))]⟩
theorem zmin_int (x y : Int32) : (y.toInt < x.toInt → (zmin x y).toInt = y.toInt) ∧ (¬ y.toInt < x.toInt → (zmin x y).toInt = x.toInt) := by
  unfold zmin
  refine ⟨fun h => by rw [if_pos (i32lt.mpr h)], fun h => by rw [if_neg (fun z => h (i32lt.mp z))]⟩
section
variable (f : Nat → Int32 → Int32 → Int32) (v : Nat → Int32)
theorem wl_max (hf : ∀ b, b < 10 → ∀ lo hi, In9 lo → In9 hi → lo.toInt < hi.toInt → In9 (f b lo hi) ∧ abS (f b lo hi) (v b) lo hi) : ∀ (k b : Nat) (lo hi : Int32), b + k = 10 → In9 lo → In9 hi →
    In9 (x_wl true f k b lo hi) ∧ lo.toInt ≤ (x_wl true f k b lo hi).toInt ∧ (∀ i, b ≤ i → i < 10 → hi.toInt ≤ (x_wl true f k b lo hi).toInt ∨ (v i).toInt ≤ (x_wl true f k b lo hi).toInt) ∧
    ((x_wl true f k b lo hi).toInt = lo.toInt ∨ ∃ i, b ≤ i ∧ i < 10 ∧ ((x_wl true f k b lo hi).toInt = (v i).toInt ∨ (hi.toInt ≤ (x_wl true f k b lo hi).toInt ∧ hi.toInt ≤ (v i).toInt)))
  | 0, b, lo, hi, hb, h1, h2 => by
    rw [x_wl, if_pos rfl]
    exact ⟨h1, Int.le_refl _, fun i a c => absurd c (by omega), Or.inl rfl⟩
  | k + 1, b, lo, hi, hb, h1, h2 => by
    rw [x_wl]
    by_cases hlt : lo < hi
    · rw [if_pos hlt, if_pos rfl]
      obtain ⟨w1, a1, a2, a3⟩ := hf b (by omega) lo hi h1 h2 (i32lt.mp hlt)
      have hlt' := i32lt.mp hlt
      generalize f b lo hi = w at w1 a1 a2 a3 ⊢
      obtain ⟨z1, z2⟩ := zmax_int lo w
      have h9 : In9 (zmax lo w) := by
        by_cases hh : lo.toInt < w.toInt
        · unfold In9
          rw [z1 hh]
          exact w1
        · unfold In9
          rw [z2 hh]
          exact h1
      obtain ⟨r1, r2, r3, r4⟩ := wl_max hf k (b + 1) (zmax lo w) hi (by omega) h9 h2
      generalize (x_wl true f k (b + 1) (zmax lo w) hi) = r at r1 r2 r3 r4 ⊢
      refine ⟨r1, ?_, fun i hi1 hi2 => ?_, ?_⟩
      · by_cases hh : lo.toInt < w.toInt
        · rw [z1 hh] at r2
          omega
        · rw [z2 hh] at r2
          omega
      · by_cases e : i = b
        · subst e
          by_cases hh : lo.toInt < w.toInt
          · rw [z1 hh] at r2
            omega
          · rw [z2 hh] at r2
            omega
        · exact r3 i (by omega) hi2
      · rcases r4 with r4 | ⟨i, i1, i2, r4⟩
        · by_cases hh : lo.toInt < w.toInt
          · rw [z1 hh] at r4
            refine Or.inr ⟨b, Nat.le_refl _, by omega, ?_⟩
            omega
          · rw [z2 hh] at r4
            exact Or.inl r4
        · exact Or.inr ⟨i, by omega, i2, r4⟩
    · rw [if_neg hlt, if_pos rfl]
      have hlt' : ¬ lo.toInt < hi.toInt := fun z => hlt (i32lt.mpr z)
      exact ⟨h1, Int.le_refl _, fun i a c => Or.inl (by omega), Or.inl rfl⟩
theorem wl_min (hf : ∀ b, b < 10 → ∀ lo hi, In9 lo → In9 hi → lo.toInt < hi.toInt → In9 (f b lo hi) ∧ abS (f b lo hi) (v b) lo hi) : ∀ (k b : Nat) (lo hi : Int32), b + k = 10 → In9 lo → In9 hi →
    In9 (x_wl false f k b lo hi) ∧ (x_wl false f k b lo hi).toInt ≤ hi.toInt ∧ (∀ i, b ≤ i → i < 10 → (x_wl false f k b lo hi).toInt ≤ lo.toInt ∨ (x_wl false f k b lo hi).toInt ≤ (v i).toInt) ∧
    ((x_wl false f k b lo hi).toInt = hi.toInt ∨ ∃ i, b ≤ i ∧ i < 10 ∧ ((x_wl false f k b lo hi).toInt = (v i).toInt ∨ ((x_wl false f k b lo hi).toInt ≤ lo.toInt ∧ (v i).toInt ≤ lo.toInt)))
  | 0, b, lo, hi, hb, h1, h2 => by
    rw [x_wl, if_neg (by decide)]
    exact ⟨h2, Int.le_refl _, fun i a c => absurd c (by omega), Or.inl rfl⟩
  | k + 1, b, lo, hi, hb, h1, h2 => by
    rw [x_wl]
    by_cases hlt : lo < hi
    · rw [if_pos hlt, if_neg (by decide)]
      obtain ⟨w1, a1, a2, a3⟩ := hf b (by omega) lo hi h1 h2 (i32lt.mp hlt)
      have hlt' := i32lt.mp hlt
      generalize f b lo hi = w at w1 a1 a2 a3 ⊢
      obtain ⟨z1, z2⟩ := zmin_int hi w
      have h9 : In9 (zmin hi w) := by
        by_cases hh : w.toInt < hi.toInt
        · unfold In9
          rw [z1 hh]
          exact w1
        · unfold In9
          rw [z2 hh]
          exact h2
      obtain ⟨r1, r2, r3, r4⟩ := wl_min hf k (b + 1) lo (zmin hi w) (by omega) h1 h9
      generalize (x_wl false f k (b + 1) lo (zmin hi w)) = r at r1 r2 r3 r4 ⊢
      refine ⟨r1, ?_, fun i hi1 hi2 => ?_, ?_⟩
      · by_cases hh : w.toInt < hi.toInt
        · rw [z1 hh] at r2
          omega
        · rw [z2 hh] at r2
          omega
      · by_cases e : i = b
        · subst e
          by_cases hh : w.toInt < hi.toInt
          · rw [z1 hh] at r2
            omega
          · rw [z2 hh] at r2
            omega
        · exact r3 i (by omega) hi2
      · rcases r4 with r4 | ⟨i, i1, i2, r4⟩
        · by_cases hh : w.toInt < hi.toInt
          · rw [z1 hh] at r4
            refine Or.inr ⟨b, Nat.le_refl _, by omega, ?_⟩
            omega
          · rw [z2 hh] at r4
            exact Or.inl r4
        · exact Or.inr ⟨i, by omega, i2, r4⟩
    · rw [if_neg hlt, if_neg (by decide)]
      have hlt' : ¬ lo.toInt < hi.toInt := fun z => hlt (i32lt.mpr z)
      exact ⟨h2, Int.le_refl _, fun i a c => Or.inl (by omega), Or.inl rfl⟩
end
theorem fo_max (g : Nat → Int32) : ∀ b, (∀ i, i ≤ b → (g i).toInt ≤ (foB true g b).toInt) ∧ ∃ i, i ≤ b ∧ foB true g b = g i
  | 0 => ⟨fun i hi => by rw [show i = 0 by omega]; exact Int.le_refl _, 0, Nat.le_refl _, rfl⟩
  | b + 1 => by
    obtain ⟨h1, i0, hi0, h2⟩ := fo_max g b
    rw [foB, if_pos rfl]
    by_cases h : foB true g b < g (b + 1)
    · have h' := i32lt.mp h
      rw [if_pos h]
      refine ⟨fun i hi => ?_, b + 1, Nat.le_refl _, rfl⟩
      by_cases e : i = b + 1
      · rw [e]
        exact Int.le_refl _
      · have := h1 i (by omega)
        omega
    · have h' : ¬ (foB true g b).toInt < (g (b + 1)).toInt := fun z => h (i32lt.mpr z)
      rw [if_neg h]
      refine ⟨fun i hi => ?_, i0, by omega, h2⟩
      by_cases e : i = b + 1
      · rw [e]
        omega
      · exact h1 i (by omega)
theorem fo_min (g : Nat → Int32) : ∀ b, (∀ i, i ≤ b → (foB false g b).toInt ≤ (g i).toInt) ∧ ∃ i, i ≤ b ∧ foB false g b = g i
  | 0 => ⟨fun i hi => by rw [show i = 0 by omega]; exact Int.le_refl _, 0, Nat.le_refl _, rfl⟩
  | b + 1 => by
    obtain ⟨h1, i0, hi0, h2⟩ := fo_min g b
    rw [foB, if_neg (by decide)]
    by_cases h : g (b + 1) < foB false g b
    · have h' := i32lt.mp h
      rw [if_pos h]
      refine ⟨fun i hi => ?_, b + 1, Nat.le_refl _, rfl⟩
      by_cases e : i = b + 1
      · rw [e]
        exact Int.le_refl _
      · have := h1 i (by omega)
        omega
    · have h' : ¬ (g (b + 1)).toInt < (foB false g b).toInt := fun z => h (i32lt.mpr z)
      rw [if_neg h]
      refine ⟨fun i hi => ?_, i0, by omega, h2⟩
      by_cases e : i = b + 1
      · rw [e]
        omega
      · exact h1 i (by omega)
theorem val_9 (set : Int32) (kd S : Nat → Int32) : In9 (m_val set (mw kd S)) := by
  obtain ⟨a, ha, e1⟩ := bits_9 (s9_and (y := set) (s9_mw kd S))
  obtain ⟨b, hb, e2⟩ := bits_9 (s9_and (y := zcom set) (s9_mw kd S))
  unfold In9 m_val
  rw [e1, e2, pk_sub_toInt (by omega) (by omega)]
  omega
theorem tv_9 (kd : Nat → Int32) (set : Int32) : ∀ (l : Nat) (S : Nat → Int32), In9 (tv kd set l S)
  | 0, S => val_9 set kd S
  | l + 1, S => by
    rw [tv]
    cases decide ((l + 1) % 2 = 0)
    · obtain ⟨_, i, _, e⟩ := fo_min (fun b => tv kd set l (stB kd b S)) 9
      rw [e]
      exact tv_9 kd set l _
    · obtain ⟨_, i, _, e⟩ := fo_max (fun b => tv kd set l (stB kd b S)) 9
      rw [e]
      exact tv_9 kd set l _
theorem xval_eq {σ : zSt} (hK : KD σ) (set : Int32) {s : Int32} {S : Nat → Int32} (hS : Sd (fI σ 1 0 0) s S) : x_val σ set s = m_val set (mw (fA σ 26) S) := by
  unfold x_val m_val
  rw [shw_eq hK hS, zbc_bits (s9_and (s9_mw _ _)), zbc_bits (s9_and (s9_mw _ _))]
theorem wb_spec {σ : zSt} (hK : KD σ) (set : Int32) : ∀ (l : Nat) (s q lo hi : Int32) (S : Nat → Int32), Sd (fI σ 1 0 0) s S → q = S 9 → In9 lo → In9 hi → lo.toInt < hi.toInt → In9 (x_wb σ set l s q lo hi) ∧ abS (x_wb σ set l s q lo hi) (tv (fA σ 26) set l S) lo hi
  | 0, s, q, lo, hi, S, hS, hq, h1, h2, h3 => by
    rw [x_wb, tv, xval_eq hK set hS]
    exact ⟨val_9 _ _ _, fun _ _ => rfl, fun z => z, fun z => z⟩
  | l + 1, s, q, lo, hi, S, hS, hq, h1, h2, h3 => by
    have hf : ∀ b, b < 10 → ∀ lo hi, In9 lo → In9 hi → lo.toInt < hi.toInt → In9 ((fun b lo hi => if b = 9 then x_wb σ set l s q lo hi else x_wb σ set l (kx_press σ 0 s (nI b) q) (q + 1) lo hi) b lo hi) ∧ abS ((fun b lo hi => if b = 9 then x_wb σ set l s q lo hi else x_wb σ set l (kx_press σ 0 s (nI b) q) (q + 1) lo hi) b lo hi) ((fun b => tv (fA σ 26) set l (stB (fA σ 26) b S)) b) lo hi := fun b hb lo hi g1 g2 g3 => by
      dsimp only
      unfold stB
      by_cases e : b = 9
      · rw [if_pos e, if_neg (by omega)]
        exact wb_spec hK set l s q lo hi S hS hq g1 g2 g3
      · rw [if_neg e, if_pos (by omega)]
        refine wb_spec hK set l _ _ lo hi _ (prs_eq hK hS hq (by omega)) ?_ g1 g2 g3
        unfold ms
        rw [press_9, hq]
    rw [x_wb, tv]
    cases decide ((l + 1) % 2 = 0)
    · obtain ⟨r1, r2, r3, r4⟩ := wl_min _ _ hf 10 0 lo hi (by decide) h1 h2
      obtain ⟨v1, i0, hi0, v2⟩ := fo_min (fun b => tv (fA σ 26) set l (stB (fA σ 26) b S)) 9
      refine ⟨r1, ?_⟩
      have a1 := r3 i0 (Nat.zero_le _) (by omega)
      rw [v2] at v1 ⊢
      generalize (x_wl false (fun b lo hi => if b = 9 then x_wb σ set l s q lo hi else x_wb σ set l (kx_press σ 0 s (nI b) q) (q + 1) lo hi) 10 0 lo hi) = r at *
      dsimp only at *
      rcases r4 with r4 | ⟨i, i1, i2, r4⟩
      · exact ⟨fun _ _ => by omega, fun _ => by omega, fun _ => by omega⟩
      · have a2 := v1 i (by omega)
        exact ⟨fun _ _ => by omega, fun _ => by omega, fun _ => by omega⟩
    · obtain ⟨r1, r2, r3, r4⟩ := wl_max _ _ hf 10 0 lo hi (by decide) h1 h2
      obtain ⟨v1, i0, hi0, v2⟩ := fo_max (fun b => tv (fA σ 26) set l (stB (fA σ 26) b S)) 9
      refine ⟨r1, ?_⟩
      have a1 := r3 i0 (Nat.zero_le _) (by omega)
      rw [v2] at v1 ⊢
      generalize (x_wl true (fun b lo hi => if b = 9 then x_wb σ set l s q lo hi else x_wb σ set l (kx_press σ 0 s (nI b) q) (q + 1) lo hi) 10 0 lo hi) = r at *
      dsimp only at *
      rcases r4 with r4 | ⟨i, i1, i2, r4⟩
      · exact ⟨fun _ _ => by omega, fun _ => by omega, fun _ => by omega⟩
      · have a2 := v1 i (by omega)
        exact ⟨fun _ _ => by omega, fun _ => by omega, fun _ => by omega⟩
theorem won_eq {σ : zSt} {n : Nat} (h1 : RD1 σ n) (set : Int32) (N : Nat) : x_wb σ set (2 * N) (p_state σ 3) (p_number σ 3) (-9) 9 = m_V σ n (2 * N) set (2 * N) 0 := by
  obtain ⟨a, b1, b2, b3⟩ := wb_spec h1.2.2.2.1 set (2 * N) (p_state σ 3) (p_number σ 3) (-9) 9 (m_st σ n) (cur_S h1) (cur_q h1) (by decide) (by decide) (by decide)
  have c := tv_9 (fA σ 26) set (2 * N) (m_st σ n)
  rw [V_eq σ n set (P := 2 * N) (by omega) (2 * N) (Nat.le_refl _) 0, Nat.sub_self, m_wd]
  apply Int32.toInt_inj.mp
  rw [show ((-9 : Int32)).toInt = -9 by decide] at b1 b2
  rw [show ((9 : Int32)).toInt = 9 by decide] at b1 b3
  omega
theorem V_I (σ : zSt) (x : Int32) (n : Nat) (set : Int32) (N : Nat) : m_V (sI σ 0 0 11 x) n (2 * N) set (2 * N) 0 = m_V σ n (2 * N) set (2 * N) 0 := by
  rw [V_eq _ n set (P := 2 * N) (by omega) (2 * N) (Nat.le_refl _) 0, V_eq _ n set (P := 2 * N) (by omega) (2 * N) (Nat.le_refl _) 0]
  rfl
theorem s_duel (σ : zSt) (h : RR σ) (s x : Int32) : Step σ mi_X5_duel mi_X6_duel [zi s, zi x] := by
  rcases h.2.2.2.2 with h0 | ⟨n, h1⟩
  · exact step_ff (c_X5_duel_none σ s x (by rw [h0.1]; decide)) (c_X6_duel_none σ s x h0.2.1) (by decide) (by decide) rfl h
  · by_cases hs : s < 0 ∨ ¬ s ≤ 511
    · exact step_ff (c_X5_duel_bad1 σ s x (cur_n h1) hs) (c_X6_duel_bad1 σ s x h1.2.1 (fun z => pic_iff.mp z hs)) (by decide) (by decide) rfl h
    · by_cases hx : x < 0 ∨ ¬ x ≤ 2
      · exact step_ff (c_X5_duel_bad2 σ s x (cur_n h1) hs hx) (c_X6_duel_bad2 σ s x h1.2.1 (pic_iff.mpr hs) (fun z => hx.elim z.1 (fun y => z.2 (Int32.not_le.mp y)))) (by decide) (by decide) rfl h
      · obtain ⟨N, hN, rfl⟩ := nI_of2 (M := 2) (n := 2) (by decide) (fun z => hx (Or.inl z)) (Decidable.not_not.mp fun z => hx (Or.inr z))
        have hm := c_X6_duel_ok (sI σ 0 0 11 (x_wb σ s (2 * N) (p_state σ 3) (p_number σ 3) (-9) 9)) n s N h1.2.1 h1.2.2.1 h1.1 (pic_iff.mpr hs) hN (fA (sI σ 0 0 11 (x_wb σ s (2 * N) (p_state σ 3) (p_number σ 3) (-9) 9)) 31) (fA (sI σ 0 0 11 (x_wb σ s (2 * N) (p_state σ 3) (p_number σ 3) (-9) 9)) 32)
        have es : ∀ τ : zSt, sW τ (fA τ 31) (fA τ 32) = τ := fun τ => by
          unfold sW
          rw [sA_self, sA_self]
        rw [es, V_I, ← won_eq h1] at hm
        refine step_fq (c_X5_duel_ok σ s N (cur_n h1) hs hN) hm (by decide) (by decide) ?_
        rintro r2 σ2 ⟨rfl, g, w, rfl⟩
        exact ⟨rfl, RR_ask (σ := sW σ g w) rfl (RR_31 (RR_32 h))⟩
