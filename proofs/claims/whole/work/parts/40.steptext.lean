theorem rdx_A (j n : Nat) : ∀ (fuel p l : Nat) (σ : zSt), (x_rd j n fuel p l σ).2.2 = σ.2
  | 0, _, _, _ => rfl
  | fuel + 1, p, l, σ => by
    unfold x_rd
    split
    · rfl
    split
    · exact rdx_A j n fuel (p + 1) l σ
    split
    · rfl
    split
    · rfl
    split
    · rfl
    · exact rdx_A j n fuel (p + 2) (l + 1) _
theorem rdx_I (j n : Nat) : ∀ (fuel p l : Nat) (σ : zSt) (k j' f : Nat), k ≠ 3 → (k ≠ 1 ∨ j' ≠ 2) → fI (x_rd j n fuel p l σ).2 k j' f = fI σ k j' f
  | 0, _, _, _, _, _, _, _, _ => rfl
  | fuel + 1, p, l, σ, k, j', f, h3, h1 => by
    unfold x_rd
    split
    · rfl
    split
    · exact rdx_I j n fuel (p + 1) l σ k j' f h3 h1
    split
    · rfl
    split
    · rfl
    split
    · rfl
    · rw [rdx_I j n fuel (p + 2) (l + 1) _ k j' f h3 h1, fI_sI, if_neg (by omega)]
      unfold k_become
      rw [fI_sI, if_neg (by omega), fI_sI, if_neg (by omega), fI_sI, if_neg (by omega), fI_sI, if_neg (by omega), fI_sI, if_neg (by omega)]
theorem rdm_I (t n : Nat) : ∀ (fuel p l : Nat) (σ : zSt), (m_rd t n fuel p l σ).2.1 = σ.1 ∧ (m_rd t n fuel p l σ).2.2.1 = σ.2.1
  | 0, _, _, _ => ⟨rfl, rfl⟩
  | fuel + 1, p, l, σ => by
    unfold m_rd
    split
    · exact ⟨rfl, rfl⟩
    split
    · exact rdm_I t n fuel (p + 1) l σ
    split
    · exact ⟨rfl, rfl⟩
    split
    · exact ⟨rfl, rfl⟩
    · exact rdm_I t n fuel (p + 2) (l + 1) _
theorem rdm_A (t n : Nat) : ∀ (fuel p l : Nat) (σ : zSt), (∀ a, a ≠ 26 → a ≠ 27 → fA (m_rd t n fuel p l σ).2 a = fA σ a) ∧ ∀ i, i < 9 → fA (m_rd t n fuel p l σ).2 26 i = fA σ 26 i
  | 0, _, _, _ => ⟨fun _ _ _ => rfl, fun _ _ => rfl⟩
  | fuel + 1, p, l, σ => by
    unfold m_rd
    split
    · exact ⟨fun _ _ _ => rfl, fun _ _ => rfl⟩
    split
    · exact rdm_A t n fuel (p + 1) l σ
    split
    · exact ⟨fun _ _ _ => rfl, fun _ _ => rfl⟩
    split
    · exact ⟨fun _ _ _ => rfl, fun _ _ => rfl⟩
    · obtain ⟨h1, h2⟩ := rdm_A t n fuel (p + 2) (l + 1) (sA (sA σ 26 (upd (fA σ 26) (9 + l) (x_kb (fA σ 33 (60 * t + p))))) 27 (upd (fA σ 27) (9 + l) (fA σ 33 (60 * t + (p + 1)) - 48)))
      refine ⟨fun a ha hb => ?_, fun i hi => ?_⟩
      · rw [h1 a ha hb, fA_ne _ _ hb, fA_ne _ _ ha]
      · rw [h2 i hi, fA_ne _ _ (by decide), fA_same, upd_at, if_neg (by omega)]
def Iv (l : Nat) (σ τ : zSt) : Prop := RE σ ∧ st_broken (fI σ 3 0 1) = 0 ∧ ∀ i, i < l → ∃ k, k < 6 ∧ fA τ 26 (9 + i) = nI k ∧ bt (fI σ 1 2 0) i = (k == 1 || k == 4) ∧ bt (fI σ 1 2 1) i = (k == 2) ∧ bt (fI σ 1 2 2) i = (k == 3 || k == 5) ∧ bt (fI σ 1 2 3) i = (k == 4) ∧ bt (fI σ 1 2 4) i = (k == 5) ∧ fA τ 27 (9 + i) = nI (stp (bt (fI σ 3 0 1) i) (bt (fI σ 3 0 1) (9 + i))) ∧ ¬ (bt (fI σ 3 0 1) i = true ∧ bt (fI σ 3 0 1) (9 + i) = true) ∧ (bt (fI σ 3 0 1) (9 + i) = true → (k == 1 || k == 4) = true)
theorem Iv_up {σ τ : zSt} {l k u : Nat} (h : Iv l σ τ) (hl : l < 9) (hk : k < 6) (hu : u ≤ (if (k == 1 || k == 4) = true then 2 else 1)) :
    Iv (l + 1) (sI (k_become σ 2 (nI l) (nI k)) 3 0 1 (st_with (fI σ 3 0 1) (nI l) (nI u))) (sA (sA τ 26 (upd (fA τ 26) (9 + l) (nI k))) 27 (upd (fA τ 27) (9 + l) (nI u))) := by
  obtain ⟨hE, hB, hI⟩ := h
  have hu3 : u < 3 := by split at hu <;> omega
  obtain ⟨f1, f2, f3, f4, f5⟩ := isA_fin k hk
  obtain ⟨t1, t2⟩ := t_fin u hu3
  refine ⟨fun f hf => ?_, (with_2 _ _ hl).trans hB, fun i hi => ?_⟩
  · rcases f with _ | _ | _ | _ | _ | f
    · exact s9_chg _ hl (hE 0 (by decide))
    · exact s9_chg _ hl (hE 1 (by decide))
    · exact s9_chg _ hl (hE 2 (by decide))
    · exact s9_chg _ hl (hE 3 (by decide))
    · exact s9_chg _ hl (hE 4 (by decide))
    · omega
  · have e26 : fA (sA (sA τ 26 (upd (fA τ 26) (9 + l) (nI k))) 27 (upd (fA τ 27) (9 + l) (nI u))) 26 (9 + i) = if i = l then nI k else fA τ 26 (9 + i) := by
      rw [fA_ne _ _ (by decide), fA_same, upd_at]
      by_cases e : i = l
      · rw [if_pos e, if_pos (by omega)]
      · rw [if_neg e, if_neg (by omega)]
    have e27 : fA (sA (sA τ 26 (upd (fA τ 26) (9 + l) (nI k))) 27 (upd (fA τ 27) (9 + l) (nI u))) 27 (9 + i) = if i = l then nI u else fA τ 27 (9 + i) := by
      rw [fA_same, upd_at]
      by_cases e : i = l
      · rw [if_pos e, if_pos (by omega)]
      · rw [if_neg e, if_neg (by omega)]
    have g0 : bt (fI (sI (k_become σ 2 (nI l) (nI k)) 3 0 1 (st_with (fI σ 3 0 1) (nI l) (nI u))) 1 2 0) i = if i = l then decide (k_isA (nI k) 1) else bt (fI σ 1 2 0) i := bt_chg _ _ hl (by omega)
    have g1 : bt (fI (sI (k_become σ 2 (nI l) (nI k)) 3 0 1 (st_with (fI σ 3 0 1) (nI l) (nI u))) 1 2 1) i = if i = l then decide (k_isA (nI k) 2) else bt (fI σ 1 2 1) i := bt_chg _ _ hl (by omega)
    have g2 : bt (fI (sI (k_become σ 2 (nI l) (nI k)) 3 0 1 (st_with (fI σ 3 0 1) (nI l) (nI u))) 1 2 2) i = if i = l then decide (k_isA (nI k) 3) else bt (fI σ 1 2 2) i := bt_chg _ _ hl (by omega)
    have g3 : bt (fI (sI (k_become σ 2 (nI l) (nI k)) 3 0 1 (st_with (fI σ 3 0 1) (nI l) (nI u))) 1 2 3) i = if i = l then decide (k_isA (nI k) 4) else bt (fI σ 1 2 3) i := bt_chg _ _ hl (by omega)
    have g4 : bt (fI (sI (k_become σ 2 (nI l) (nI k)) 3 0 1 (st_with (fI σ 3 0 1) (nI l) (nI u))) 1 2 4) i = if i = l then decide (k_isA (nI k) 5) else bt (fI σ 1 2 4) i := bt_chg _ _ hl (by omega)
    have w0 : bt (fI (sI (k_become σ 2 (nI l) (nI k)) 3 0 1 (st_with (fI σ 3 0 1) (nI l) (nI u))) 3 0 1) i = if i = l then bt (nI u &&& 1) 0 else bt (fI σ 3 0 1) i := with_0 _ _ hl (by omega)
    have w1 : bt (fI (sI (k_become σ 2 (nI l) (nI k)) 3 0 1 (st_with (fI σ 3 0 1) (nI l) (nI u))) 3 0 1) (9 + i) = if i = l then bt (zshr (nI u) 1 &&& 1) 0 else bt (fI σ 3 0 1) (9 + i) := with_1 _ _ hl (by omega)
    rw [g0, g1, g2, g3, g4, w0, w1, e26, e27]
    by_cases e : i = l
    · simp only [if_pos e]
      refine ⟨k, hk, rfl, f1, f2, f3, f4, f5, ?_, ?_, ?_⟩
      · rw [t1, t2]
        rcases u with _ | _ | _ | u
        · rfl
        · rfl
        · rfl
        · omega
      · rw [t1, t2]
        rcases u with _ | _ | _ | u
        · decide
        · decide
        · decide
        · omega
      · rw [t2]
        intro z
        have z2 : u = 2 := by simpa using z
        subst z2
        by_cases hh : (k == 1 || k == 4) = true
        · exact hh
        · rw [if_neg hh] at hu
          omega
    · simp only [if_neg e]
      exact hI i (by omega)
theorem rd_eq (t n : Nat) (hn : n ≤ 60) : ∀ (fuel p l : Nat) (σ τ : zSt), l ≤ 9 → p ≤ n → (∀ q, q < n → fA σ (6 + t) q = fA τ 33 (60 * t + q)) → Iv l σ τ → (x_rd (6 + t) n fuel p l σ).1 = (m_rd t n fuel p l τ).1 ∧ ((x_rd (6 + t) n fuel p l σ).1 = -9 → Iv 9 (x_rd (6 + t) n fuel p l σ).2 (m_rd t n fuel p l τ).2) ∧ RE (x_rd (6 + t) n fuel p l σ).2
  | 0, _, _, _, _, _, _, _, hI => ⟨rfl, fun z => absurd (show (0 : Int32) = -9 from z) (by decide), hI.1⟩
  | fuel + 1, p, l, σ, τ, hl, hp, hc, hI => by
    have hne : ∀ x, x ≤ 61 → ¬ nI x = -9 := fun x hx z => absurd (nI_pos' (n := x) (by omega)) (by rw [z]; decide)
    unfold x_rd m_rd
    by_cases h1 : n ≤ p
    · obtain rfl : p = n := by omega
      rw [if_pos h1, if_pos h1]
      refine ⟨rfl, fun z => ?_, hI.1⟩
      by_cases h9 : l < 9
      · exact absurd z (by show ¬ (if l < 9 then nI p else -9) = -9; rw [if_pos h9]; exact hne p (by omega))
      · obtain rfl : l = 9 := by omega
        exact hI
    · rw [if_neg h1, if_neg h1, hc p (by omega)]
      by_cases h2 : fA τ 33 (60 * t + p) = 32
      · rw [if_pos h2, if_pos h2]
        exact rd_eq t n hn fuel (p + 1) l σ τ hl (by omega) hc hI
      · rw [if_neg h2, if_neg h2]
        by_cases h3 : x_kb (fA τ 33 (60 * t + p)) = -9 ∨ 9 ≤ l
        · have h3' : x_kb (fA τ 33 (60 * t + p)) = -9 ∨ l = 9 := h3.imp id (fun z => by omega)
          rw [if_pos h3, if_pos h3']
          exact ⟨rfl, fun z => absurd z (hne p (by omega)), hI.1⟩
        · have h3' : ¬ (x_kb (fA τ 33 (60 * t + p)) = -9 ∨ l = 9) := fun z => h3 (z.imp id (fun w => by omega))
          rw [if_neg h3, if_neg h3']
          by_cases h4 : n ≤ p + 1
          · rw [if_pos h4, if_pos (Or.inl (by omega))]
            exact ⟨by show nI n = nI (p + 1); congr 1; omega, fun z => absurd z (hne n (by omega)), hI.1⟩
          · rw [if_neg h4, hc (p + 1) (by omega)]
            obtain ⟨k, hk, ek⟩ := (kb_in (fA τ 33 (60 * t + p))).resolve_left (fun z => h3 (Or.inl z))
            obtain ⟨l1, l2⟩ := last_fin k hk
            rw [ek, l1]
            by_cases h5 : fA τ 33 (60 * t + (p + 1)) - 48 < 0 ∨ k_last (nI k) < fA τ 33 (60 * t + (p + 1)) - 48
            · rw [if_pos h5, if_pos (Or.inr (fun z => h5.elim z.1 z.2))]
              exact ⟨rfl, fun z => absurd z (hne (p + 1) (by omega)), hI.1⟩
            · have h6 : ¬ (p + 1 = n ∨ ¬ m_in (fA τ 33 (60 * t + (p + 1)) - 48) 0 (k_last (nI k))) := by
                rintro (z | z)
                · omega
                · exact z ⟨fun w => h5 (Or.inl w), fun w => h5 (Or.inr w)⟩
              rw [if_neg h5, if_neg h6]
              obtain ⟨u, hu, eu⟩ := nI_of (fun w => h5 (Or.inl w))
              have hu2 : u ≤ (if (k == 1 || k == 4) = true then 2 else 1) := by
                refine Nat.le_of_not_lt fun z => h5 (Or.inr ?_)
                rw [eu, l2]
                exact nI_lt z hu
              rw [eu]
              exact rd_eq t n hn fuel (p + 2) (l + 1) _ _ (by omega) (by omega) hc (Iv_up hI (by omega) hk hu2)
