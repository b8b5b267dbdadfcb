/-! ===== a call on both sides: a text is read ===== -/
theorem kb_in (c : Int32) : x_kb c = -9 ∨ ∃ k, k < 6 ∧ x_kb c = nI k := by
  unfold x_kb
  split
  · exact Or.inr ⟨0, by decide, rfl⟩
  split
  · exact Or.inr ⟨1, by decide, rfl⟩
  split
  · exact Or.inr ⟨2, by decide, rfl⟩
  split
  · exact Or.inr ⟨3, by decide, rfl⟩
  split
  · exact Or.inr ⟨4, by decide, rfl⟩
  split
  · exact Or.inr ⟨5, by decide, rfl⟩
  · exact Or.inl rfl
theorem last_fin : ∀ k, k < 6 → m_steps (nI k) - 1 = k_last (nI k) ∧ k_last (nI k) = nI (if k == 1 || k == 4 then 2 else 1) := by decide +kernel
theorem isA_fin : ∀ k, k < 6 → (decide (k_isA (nI k) 1) = (k == 1 || k == 4)) ∧ (decide (k_isA (nI k) 2) = (k == 2)) ∧ (decide (k_isA (nI k) 3) = (k == 3 || k == 5)) ∧ (decide (k_isA (nI k) 4) = (k == 4)) ∧ (decide (k_isA (nI k) 5) = (k == 5)) := by decide +kernel
theorem bt_chg (s : Int32) {l i : Nat} (p : Prop) [Decidable p] (hl : l < 9) (hi : i < 32) : bt (k_chg s (nI l) (b2i p)) i = if i = l then decide p else bt s i := by
  unfold k_chg
  by_cases h : p
  · rw [b2i_t h, if_neg (by decide), bt_or, bt_one (by omega) hi, decide_eq_true h]
    by_cases e : i = l
    · rw [if_pos e, decide_eq_true e, Bool.or_true]
    · rw [if_neg e, decide_eq_false e, Bool.or_false]
  · rw [b2i_f h, if_pos rfl, bt_and, bt_com _ hi, bt_one (by omega) hi, decide_eq_false h]
    by_cases e : i = l
    · rw [if_pos e, decide_eq_true e, Bool.not_true, Bool.and_false]
    · rw [if_neg e, decide_eq_false e, Bool.not_false, Bool.and_true]
theorem s9_chg {s : Int32} {l : Nat} (p : Prop) [Decidable p] (hl : l < 9) (h : s9 s) : s9 (k_chg s (nI l) (b2i p)) := by
  intro i hi
  by_cases h32 : i < 32
  · rw [bt_chg s p hl h32, if_neg (by omega)]
    exact h i hi
  · exact bt_hi _ (by omega)
theorem t_fin : ∀ u, u < 3 → bt (nI u &&& 1) 0 = (u == 1) ∧ bt (zshr (nI u) 1 &&& 1) 0 = (u == 2) := by decide +kernel
theorem bt_low (x : Int32) {l i : Nat} (hl : l < 9) (hi : i < 32) : bt (zshl (x &&& 1) (nI l)) i = (decide (i = l) && bt (x &&& 1) 0) := by
  rw [bt_shl _ (by omega) hi]
  by_cases e : i = l
  · subst e
    rw [decide_eq_true (Nat.le_refl i), Nat.sub_self, decide_eq_true rfl]
  · rw [decide_eq_false e, Bool.false_and]
    by_cases h : l ≤ i
    · rw [bt_and, bt_1, decide_eq_false (by omega : ¬ i - l = 0), Bool.and_false, Bool.and_false]
    · rw [decide_eq_false h, Bool.false_and]
theorem s9_low (x : Int32) {l : Nat} (hl : l < 9) : s9 (zshl (x &&& 1) (nI l)) := fun i hi => by
  by_cases h : i < 32
  · rw [bt_low x hl h, decide_eq_false (by omega), Bool.false_and]
  · exact bt_hi _ (by omega)
theorem with_0 (s t : Int32) {l i : Nat} (hl : l < 9) (hi : i < 9) : bt (st_with s (nI l) t) i = if i = l then bt (t &&& 1) 0 else bt s i := by
  unfold st_with
  rw [bt_j0 (s9_or (s9_and (s9_ones s)) (s9_low t hl)) (s9_or (s9_and (s9_twos s)) (s9_low _ hl)) (s9_broken s) hi, bt_or, bt_and, bt_ones _ hi, bt_com _ (by omega), bt_one (by omega) (by omega), bt_low t hl (by omega)]
  by_cases e : i = l
  · rw [if_pos e, decide_eq_true e, Bool.not_true, Bool.and_false, Bool.true_and, Bool.false_or]
  · rw [if_neg e, decide_eq_false e, Bool.not_false, Bool.and_true, Bool.false_and, Bool.or_false]
theorem with_1 (s t : Int32) {l i : Nat} (hl : l < 9) (hi : i < 9) : bt (st_with s (nI l) t) (9 + i) = if i = l then bt (zshr t 1 &&& 1) 0 else bt s (9 + i) := by
  unfold st_with
  rw [bt_j1 (s9_or (s9_and (s9_ones s)) (s9_low t hl)) (s9_or (s9_and (s9_twos s)) (s9_low _ hl)) (s9_broken s) hi, bt_or, bt_and, bt_twos _ hi, bt_com _ (by omega), bt_one (by omega) (by omega), bt_low _ hl (by omega)]
  by_cases e : i = l
  · rw [if_pos e, decide_eq_true e, Bool.not_true, Bool.and_false, Bool.true_and, Bool.false_or]
  · rw [if_neg e, decide_eq_false e, Bool.not_false, Bool.and_true, Bool.false_and, Bool.or_false]
theorem with_2 (s t : Int32) {l : Nat} (hl : l < 9) : st_broken (st_with s (nI l) t) = st_broken s := by
  unfold st_with
  exact j_broken (s9_or (s9_and (s9_ones s)) (s9_low t hl)) (s9_or (s9_and (s9_twos s)) (s9_low _ hl)) (s9_broken s)
