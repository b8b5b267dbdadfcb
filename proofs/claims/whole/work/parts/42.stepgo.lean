/-! ===== one deed on both sides ===== -/
theorem Sd_c {th s : Int32} {S S' : Nat → Int32} (e : ∀ k, k < 11 → S' k = S k) (h : Sd th s S) : Sd th s S' := by
  refine ⟨fun i hi => ?_, ?_⟩
  · rw [e i (by omega)]
    exact h.1 i hi
  · rw [e 10 (by decide)]
    exact h.2
theorem cur_n {σ : zSt} {n : Nat} (h : RD1 σ n) : 0 ≤ fI σ 2 3 2 := by
  rw [h.2.2.2.2.1]
  have := h.1
  exact nI_pos' (by omega)
theorem cur_st {σ : zSt} {n : Nat} (h : RD1 σ n) : p_state σ 3 = fA σ 13 n ∧ p_number σ 3 = fA σ 17 n := by
  have hn := h.1
  have e := h.2.2.2.2.1
  have hc : ¬ (fI σ 2 3 2 < 0 ∨ nI 41 ≤ fI σ 2 3 2) := by
    rw [e]
    rintro (z | z)
    · exact nI_pos (by omega) z
    · exact nI_ge (by omega) (by omega) z
  unfold p_state p_number
  rw [if_neg hc, if_neg hc, e, nI_clamp (by omega)]
  exact ⟨rfl, rfl⟩
theorem m_st_z (σ : zSt) (n : Nat) : (fun x => fA σ 28 (0 + 11 * n + x)) = m_st σ n := by
  funext x
  rw [Nat.zero_add]
  rfl
theorem cur_S {σ : zSt} {n : Nat} (h : RD1 σ n) : Sd (fI σ 1 0 0) (p_state σ 3) (m_st σ n) := by
  have := (h.2.2.2.2.2.1 n (Nat.le_refl _)).1
  rw [m_st_z] at this
  rw [(cur_st h).1]
  exact this
theorem cur_q {σ : zSt} {n : Nat} (h : RD1 σ n) : p_number σ 3 = m_st σ n 9 := by
  have := (h.2.2.2.2.2.1 n (Nat.le_refl _)).2
  rw [Nat.zero_add] at this
  rw [(cur_st h).2]
  exact this
theorem RR_go {σ : zSt} {n : Nat} {s x : Int32} {F : Nat → Int32} (h : RR σ) (h1 : RD1 σ n) (hn : n < 40) (hS : Sd (fI σ 1 0 0) s (fun y => F (11 * (n + 1) + y))) (hx : x = F (11 * (n + 1) + 9)) (hF : ∀ y, y < 11 * (n + 1) → F y = fA σ 28 y) :
    RR (sA (m_begin (p_go σ 3 n s x) n) 28 F) ∧ RD1 (sA (m_begin (p_go σ 3 n s x) n) 28 F) (n + 1) := by
  have hD : RD1 (sA (m_begin (p_go σ 3 n s x) n) 28 F) (n + 1) := by
    obtain ⟨g0, g1, g2, g3, g4, g5, g6⟩ := h1
    refine ⟨by omega, g1, rfl, g3, rfl, fun d hd => ?_, fun k hk => ?_⟩
    · have e13 : fA (sA (m_begin (p_go σ 3 n s x) n) 28 F) (10 + 3) d = if d = n + 1 then s else fA σ 13 d := by
        show upd (fA σ 13) (n + 1) s d = _
        rw [upd_at]
      have e17 : fA (sA (m_begin (p_go σ 3 n s x) n) 28 F) (14 + 3) d = if d = n + 1 then x else fA σ 17 d := by
        show upd (fA σ 17) (n + 1) x d = _
        rw [upd_at]
      rw [e13, e17, fA_same]
      by_cases e : d = n + 1
      · subst e
        rw [if_pos rfl, if_pos rfl]
        refine ⟨?_, by rw [Nat.zero_add]; exact hx⟩
        refine Sd_c (fun k hk => ?_) hS
        rw [Nat.zero_add]
      · rw [if_neg e, if_neg e]
        obtain ⟨p1, p2⟩ := g5 d (by omega)
        refine ⟨Sd_c (fun k hk => ?_) p1, ?_⟩
        · rw [hF _ (by omega)]
        · rw [hF _ (by omega)]
          exact p2
    · have ek : fI (sA (m_begin (p_go σ 3 n s x) n) 28 F) 2 k 2 = fI σ 2 k 2 := by
        show fI (sI (sA (sA σ 13 (upd (fA σ 13) (n + 1) s)) 17 (upd (fA σ 17) (n + 1) x)) 2 3 2 (nI (n + 1))) 2 k 2 = _
        rw [fI_sI, if_neg (by omega)]
        rfl
      have eA : ∀ a, a ≠ 28 → a ≠ 13 → a ≠ 17 → fA (sA (m_begin (p_go σ 3 n s x) n) 28 F) a = fA σ a := fun a z1 z2 z3 => by
        rw [fA_ne _ _ z1]
        unfold m_begin p_go
        rw [fA_sI, fA_ne _ _ z1, fA_sI, fA_ne _ _ z3, fA_ne _ _ z2]
      rw [ek, eA 30 (by decide) (by decide) (by decide), eA 29 (by decide) (by decide) (by decide)]
      rcases g6 k hk with g7 | ⟨m, g7, g8, g9, gH⟩
      · exact Or.inl g7
      · refine Or.inr ⟨m, g7, g8, g9, fun d hd => ?_⟩
        rw [eA (10 + k) (by omega) (by omega) (by omega), eA (14 + k) (by omega) (by omega) (by omega)]
        exact gH d hd
  refine ⟨⟨h.1, ?_, ?_, h.2.2.2.1, Or.inr ⟨n + 1, hD⟩⟩, hD⟩
  · exact RB_sA (by decide) (RB_sI (by decide) (RB_sA (by decide) (RB_sI (by decide) (RB_sA (by decide) (RB_sA (by decide) h.2.1)))))
  · exact RC_sA (by decide) (RC_sI (by decide) (RC_sA (by decide) (RC_sI (by decide) (RC_sA (by decide) (RC_sA (by decide) h.2.2.1)))))
theorem mv_new (f : Nat → Int32) (n : Nat) {y : Nat} (hy : y < 11) : m_mv f n 11 (11 * (n + 1) + y) = f (11 * n + y) := by
  unfold m_mv
  rw [if_pos ⟨by omega, by omega⟩]
  congr 1
  omega
theorem mv_old (f : Nat → Int32) (n : Nat) {y : Nat} (hy : y < 11 * (n + 1)) : m_mv f n 11 y = f y := by
  unfold m_mv
  rw [if_neg (by omega)]
theorem press_sh (kd : Nat → Int32) (b : Nat) (but : Int32) (g : Nat → Int32) (a : Nat) {y : Nat} (hy : y < 11) : m_press kd b but g a (a + y) = m_press kd b but (fun z => g (a + z)) 0 y := by
  unfold m_press m_pg
  rw [upd_at, upd_at]
  by_cases e : y = 9
  · rw [if_pos (by omega), if_pos (by omega)]
  · rw [if_neg (show ¬ a + y = a + 9 by omega), if_neg (show ¬ y = 0 + 9 by omega)]
    by_cases e2 : y < 9
    · rw [if_pos (show a ≤ a + y ∧ a + y < a + 9 by omega), if_pos (show 0 ≤ y ∧ y < 0 + 9 by omega)]
      unfold m_pc
      rw [Nat.add_sub_cancel_left]
      simp only [Nat.zero_add, Nat.sub_zero]
    · rw [if_neg (show ¬ (a ≤ a + y ∧ a + y < a + 9) by omega), if_neg (show ¬ (0 ≤ y ∧ y < 0 + 9) by omega)]
theorem press_old (kd : Nat → Int32) (b : Nat) (but : Int32) (g : Nat → Int32) (a : Nat) {y : Nat} (hy : y < a) : m_press kd b but g a y = g y := by
  unfold m_press m_pg
  rw [upd_at, if_neg (by omega), if_neg (by omega)]
theorem RR_press {σ : zSt} {n b : Nat} (h : RR σ) (h1 : RD1 σ n) (hn : n < 40) (hb : b < 9) : RR (m_press1 (x_press1 σ n (nI b)) n b) ∧ RD1 (m_press1 (x_press1 σ n (nI b)) n b) (n + 1) := by
  have hF : ∀ y, y < 11 → m_press (fA σ 26) b 0 (m_mv (fA σ 28) n 11) (11 * (n + 1)) (11 * (n + 1) + y) = ms (fA σ 26) b (m_st σ n) y := fun y hy => by
    rw [press_sh _ _ _ _ _ hy]
    exact m_press_ag (fun k hk => mv_new _ _ hk) y hy
  have hs : p_number σ 3 = m_st σ n 9 := cur_q h1
  refine RR_go (F := m_press (fA σ 26) b 0 (m_mv (fA σ 28) n 11) (11 * (n + 1))) h h1 hn ?_ ?_ ?_
  · refine Sd_c (S := ms (fA σ 26) b (m_st σ n)) hF ?_
    unfold kx_press kx_touch
    rw [hs]
    exact press_eq0 h1.2.2.2.1 (cur_S h1) hb
  · rw [hF 9 (by decide), hs]
    exact (press_9 _ _ _ _).symm
  · intro y hy
    rw [press_old _ _ _ _ _ hy, mv_old _ _ hy]
