/-! ===== of which kind a lamp is, on both sides ===== -/
theorem RR_T {σ : zSt} {g : Nat → Int32} (h : RR σ) : RR (sT σ g) := by
  obtain ⟨a, b, c, e, d⟩ := h
  refine ⟨a, b, c, e, ?_⟩
  rcases d with d | ⟨n, d⟩
  · exact Or.inl d
  · exact Or.inr ⟨n, d⟩
theorem chg_bt (x : Int32) {k : Nat} (hk : k < 9) (P : Prop) [Decidable P] : bt (k_chg x (nI k) (b2i P)) k = decide P := by
  unfold k_chg
  by_cases h : P
  · rw [b2i_t h, if_neg (by decide), bt_or, bt_one (by omega) (by omega), decide_eq_true rfl, Bool.or_true, decide_eq_true h]
  · rw [b2i_f h, if_pos rfl, bt_and, bt_com _ (by omega), bt_one (by omega) (by omega), decide_eq_true rfl, Bool.not_true, Bool.and_false, decide_eq_false h]
theorem kA_fin : ∀ s, s < 6 → decide (k_isA (nI s) 1) = (s == 1 || s == 4) ∧ decide (k_isA (nI s) 2) = (s == 2) ∧ decide (k_isA (nI s) 3) = (s == 3 || s == 5) ∧ decide (k_isA (nI s) 4) = (s == 4) ∧ decide (k_isA (nI s) 5) = (s == 5) := by decide +kernel
theorem b2i_bI (P : Prop) [Decidable P] (b : Bool) (h : P ↔ b = true) : bI b = b2i P := by
  by_cases z : P
  · rw [b2i_t z, h.mp z]
    rfl
  · rw [b2i_f z, Bool.eq_false_iff.mpr (fun y => z (h.mpr y))]
    rfl
theorem shw_b {k : Nat} (hk : k < 6) (o t : Bool) : m_shw (nI k) (nI (stp o t)) ↔ ((o || t) ^^ (k == 5)) = true := by
  rw [← shw_fin k hk o t]
  exact ⟨fun z => decide_eq_true z, fun z => of_decide_eq_true z⟩
theorem nI_own {b k : Nat} (hb : b < 9) (hk : k < 9) : (if nI b = nI k then (1 : Int32) else 0) = bI (decide (k = b)) := by
  unfold bI
  by_cases e : k = b
  · rw [if_pos (by rw [e]), if_pos (decide_eq_true e)]
  · rw [if_neg (fun z => e ((nI_eq (by omega) (by omega)).mp z).symm), if_neg (by rw [decide_eq_false e]; decide)]
theorem sa_eq {σ : zSt} {n : Nat} (h1 : RD1 σ n) {k s b : Nat} (hk : k < 9) (hs : s < 6) (hb : b < 9) (ht : bt (p_state σ 3) (9 + k) = true → (s == 1 || s == 4) = true) :
    x_sa σ (nI k) (nI s) (nI b) = b2i (m_would σ n k (nI s) (nI b)) := by
  have hS := cur_S h1
  obtain ⟨t1, t2, _⟩ := hS.1 k hk
  have t1' : fA σ 28 (11 * n + k) = nI (stp (bt (p_state σ 3) k) (bt (p_state σ 3) (9 + k))) := t1
  have e10 : fA σ 28 (11 * n + 10) = st_broken (p_state σ 3) := hS.2
  have e9 : p_number σ 3 = fA σ 28 (11 * n + 9) := cur_q h1
  obtain ⟨a1, a2, a3, a4, a5⟩ := kA_fin s hs
  have hm : ∀ shy slow : Int32, s9 (k_moved shy slow (x_tb (nI b) &&& zcom (st_broken (p_state σ 3))) (zshl 1 (nI b)) (p_number σ 3)) := fun _ _ => s9_moved (s9_and (s9_tbb hb))
  unfold x_sa
  rw [m_bit_bt _ (by omega), bt_show _ _ hk]
  refine b2i_bI _ _ ?_
  have hbr : bt (k_touch (k_chg (fI σ 1 0 0) (nI k) (b2i (k_isA (nI s) 1))) (k_chg (fI σ 1 0 1) (nI k) (b2i (k_isA (nI s) 2))) (k_chg (fI σ 1 0 2) (nI k) (b2i (k_isA (nI s) 3))) (k_chg (fI σ 1 0 3) (nI k) (b2i (k_isA (nI s) 4))) (p_state σ 3) (x_tb (nI b) &&& zcom (st_broken (p_state σ 3))) (zshl 1 (nI b)) (p_number σ 3)) (18 + k) = bt (p_state σ 3) (18 + k) := by
    rw [← bt_broken _ hk]
    unfold k_touch
    rw [touch_2 (hm _ _), bt_broken _ hk]
  rw [hbr]
  unfold k_touch
  rw [touch_0 (hm _ _) hk, touch_1 (hm _ _) hk, bt_moved _ _ _ _ _ hk, chg_bt _ hk, chg_bt _ hk, chg_bt _ hk, chg_bt _ hk, chg_bt _ hk, a1, a2, a3, a4, a5, bt_and, dt_fin b hb k hk, bt_com _ (by omega), bt_broken _ hk, bt_one (by omega) (by omega)]
  unfold m_would
  rw [e10, m_bit1 _ (by omega), bt_broken _ hk, t1', nI_own hb hk, aft_B, ← e9]
  generalize bt (p_state σ 3) k = o at *
  generalize bt (p_state σ 3) (9 + k) = t at *
  generalize decide (zrem (p_number σ 3) 2 = 0) = ev
  generalize decide (k = b) = own
  cases bt (p_state σ 3) (18 + k)
  · by_cases hd : m_dt (nI b) (nI k)
    · rw [if_pos hd, decide_eq_true hd, (aft_use hs own ev t2 ht).1, shw_b hs]
      refine ⟨fun z => ?_, fun z => ⟨by decide, ?_⟩⟩
      · rw [Bool.not_false, Bool.and_true, Bool.and_true]
        exact z.2
      · rw [Bool.not_false, Bool.and_true, Bool.and_true] at z
        exact z
    · have em : ∀ x y z w, mvB (false && !false) x y z w = false := by decide
      rw [if_neg hd, decide_eq_false hd, em, one_no, two_no, shw_b hs]
      refine ⟨fun z => ?_, fun z => ⟨by decide, ?_⟩⟩
      · rw [Bool.not_false, Bool.and_true]
        exact z.2
      · rw [Bool.not_false, Bool.and_true] at z
        exact z
  · refine ⟨fun z => absurd rfl z.1, fun z => ?_⟩
    rw [Bool.not_true, Bool.and_false] at z
    exact absurd z (by decide)
def stpB (s : Nat) (o t : Bool) : Bool := (o && t) || ((decide (nI (stp o t) ≤ k_last (nI s)) == decide (nI (stp o t) < m_steps (nI s))) && (!decide (nI (stp o t) < m_steps (nI s)) || !t || (s == 1 || s == 4)))
theorem stp_fin : ∀ s, s < 6 → ∀ o t : Bool, stpB s o t = true := by decide +kernel
theorem stp_use {s : Nat} (hs : s < 6) {o t : Bool} (h : ¬ (o = true ∧ t = true)) : (nI (stp o t) ≤ k_last (nI s) ↔ nI (stp o t) < m_steps (nI s)) ∧ (nI (stp o t) < m_steps (nI s) → t = true → (s == 1 || s == 4) = true) := by
  have z := stp_fin s hs o t
  unfold stpB at z
  have e1 : (o && t) = false := by
    cases o <;> cases t <;> first | rfl | exact absurd ⟨rfl, rfl⟩ h
  rw [e1, Bool.false_or, Bool.and_eq_true] at z
  refine ⟨decide_eq_decide.mp (eq_of_beq z.1), fun y w => ?_⟩
  have := z.2
  rw [decide_eq_true y, w] at this
  exact this
theorem v01 {v : Int32} (h : m_in v 0 1) (P : Prop) [Decidable P] : b2i P = v ↔ (P ↔ v = 1) := by
  rcases one_in h.1 h.2 with rfl | rfl
  · rw [b2i_0]
    exact ⟨fun z => ⟨fun y => absurd y z, fun y => absurd y (by decide)⟩, fun z y => absurd (z.mp y) (by decide)⟩
  · rw [b2i_1]
    exact ⟨fun z => ⟨fun _ => rfl, fun _ => z⟩, fun z => z.mpr rfl⟩
theorem btn_of {x : Int32} (h : m_in x 0 8) : ∃ b, b < 9 ∧ x = nI b := by
  obtain ⟨b, hb9, e⟩ := nI_of2 (M := 8) (n := 8) (by decide) h.1 (Int32.not_lt.mp h.2)
  exact ⟨b, by omega, e⟩
theorem fit_iff {σ : zSt} {n : Nat} (h1 : RD1 σ n) {k s j h : Nat} (hk : k < 9) (hs : s < 6) (hv : ∀ i, i < 2 * h → fA σ j i = fA σ 23 (40 * j + i)) (hok : m_allP σ j h) :
    (st_of (p_state σ 3) (nI k) ≤ k_last (nI s) ∧ x_fits σ (nI k) (nI s) j h) ↔ m_fits σ n k (nI s) j h := by
  have hS := cur_S h1
  obtain ⟨t1, t2, _⟩ := hS.1 k hk
  have t1' : fA σ 28 (11 * n + k) = nI (stp (bt (p_state σ 3) k) (bt (p_state σ 3) (9 + k))) := t1
  obtain ⟨u1, u2⟩ := stp_use hs t2
  have key : nI (stp (bt (p_state σ 3) k) (bt (p_state σ 3) (9 + k))) < m_steps (nI s) → (x_fits σ (nI k) (nI s) j h ↔ ∀ p, p < h → m_fit σ n k (nI s) j p) := fun y => by
    have hp : ∀ p, p < h → (x_sa σ (nI k) (nI s) (fA σ j (2 * p)) = fA σ j (2 * p + 1) ↔ m_fit σ n k (nI s) j p) := fun p hp => by
      obtain ⟨b, hb, e⟩ := btn_of (hok p hp).1
      rw [hv (2 * p) (by omega), hv (2 * p + 1) (by omega)]
      unfold m_fit
      rw [e, sa_eq h1 hk hs hb (u2 y)]
      exact v01 (hok p hp).2 _
    exact ⟨fun z p q => (hp p q).mp (z p q), fun z p q => (hp p q).mpr (z p q)⟩
  rw [Sd_of hS hk]
  unfold m_fits
  show m_st σ n k ≤ k_last (nI s) ∧ _ ↔ m_st σ n k < m_steps (nI s) ∧ _
  rw [show m_st σ n k = nI (stp (bt (p_state σ 3) k) (bt (p_state σ 3) (9 + k))) from t1]
  exact ⟨fun z => ⟨u1.mp z.1, (key (u1.mp z.1)).mp z.2⟩, fun z => ⟨u1.mpr z.1, (key z.1).mpr z.2⟩⟩
theorem kinds_eq {σ : zSt} {n : Nat} (h1 : RD1 σ n) {k j h : Nat} (hk : k < 9) (hv : ∀ i, i < 2 * h → fA σ j i = fA σ 23 (40 * j + i)) (hok : m_allP σ j h) : ∀ s, s ≤ 6 → x_kinds σ (nI k) j h s = m_kinds σ n k j h s
  | 0, _ => rfl
  | s + 1, hs => by
    rw [x_kinds, m_kinds, kinds_eq h1 hk hv hok s (by omega), Int32.or_zero]
    have := fit_iff h1 (s := s) hk (by omega) hv hok
    by_cases z : m_fits σ n k (nI s) j h
    · rw [if_pos z, if_pos (this.mpr z)]
    · rw [if_neg z, if_neg (fun y => z (this.mp y))]
theorem kinds_T (σ : zSt) (g : Nat → Int32) (n k j h : Nat) : ∀ s, m_kinds (sT σ g) n k j h s = m_kinds σ n k j h s
  | 0 => rfl
  | s + 1 => by
    rw [m_kinds, m_kinds, kinds_T σ g n k j h s]
    rfl
theorem pok_iff {σ : zSt} {n : Nat} (h1 : RD1 σ n) {j p h : Nat} (hp : p < h) (hv : ∀ i, i < 2 * h → fA σ j i = fA σ 23 (40 * j + i)) : x_pok σ j p ↔ m_pok σ j p := by
  unfold x_pok m_pok
  rw [hv (2 * p) (by omega), hv (2 * p + 1) (by omega), lamp_iff h1]
  unfold m_in
  rw [Int32.not_lt (a := 1)]
