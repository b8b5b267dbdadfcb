theorem and_one (x : Int32) {i : Nat} (hi : i < 9) : x &&& zshl 1 (nI i) = 0 ↔ bt x i = false := by
  constructor
  · intro e
    have e2 : bt (x &&& zshl 1 (nI i)) i = bt 0 i := by rw [e]
    rw [bt_and, bt_one (by omega) (by omega), decide_eq_true rfl, Bool.and_true, bt_0] at e2
    exact e2
  · intro e
    apply bt_ext
    intro j hj
    rw [bt_and, bt_0, bt_one (by omega) hj]
    by_cases h : j = i
    · rw [h, e, Bool.false_and]
    · rw [decide_eq_false h, Bool.and_false]
theorem kind_eq {σ : zSt} (hK : KD σ) {i : Nat} (hi : i < 9) : kx_kind σ 0 (nI i) = fA σ 26 i := by
  obtain ⟨k, hk, ek, e1, e2, e3, e4, e5⟩ := hK.2 i hi
  unfold kx_kind k_kind
  simp only [and_one _ hi, e1, e2, e3, e4, e5]
  rw [ek]
  rcases k with _ | _ | _ | _ | _ | _ | k
  · rfl
  · rfl
  · rfl
  · rfl
  · rfl
  · rfl
  · omega
theorem hst_iff {σ : zSt} (hK : KD σ) {i : Nat} (hi : i < 9) (t : Int32) : x_hst σ (nI i) t ↔ m_in t 0 (m_steps (fA σ 26 i) - 1) := by
  obtain ⟨k, hk, ek, _⟩ := hK.2 i hi
  unfold x_hst m_in
  rw [kind_eq hK hi, ek, (last_fin k hk).1]
theorem hst_u {σ : zSt} (hK : KD σ) {i : Nat} (hi : i < 9) {t : Int32} (h : x_hst σ (nI i) t) : ∃ u, u ≤ (if bt (fI σ 1 0 0) i = true then 2 else 1) ∧ t = nI u := by
  obtain ⟨k, hk, ek, e1, _⟩ := hK.2 i hi
  obtain ⟨h1, h2⟩ := h
  obtain ⟨u, hu, rfl⟩ := nI_of h1
  refine ⟨u, ?_, rfl⟩
  rw [e1]
  rw [kind_eq hK hi, ek, (last_fin k hk).2] at h2
  exact Nat.le_of_not_lt fun z => h2 (nI_lt z hu)
theorem s_set (σ : zSt) (h : RR σ) (i t : Int32) : Step σ mi_X5_set mi_X6_set [zi i, zi t] := by
  rcases h.2.2.2.2 with h0 | ⟨n, h1⟩
  · exact step_ff (c_X5_set_bad σ i t (fun z => xl_no h0 z.1)) (c_X6_set_bad1 σ i t (in_no0 i h0)) (by decide) (by decide) rfl h
  · rcases in_out i (N := 9) (by decide) with hi | ⟨k, hk, rfl⟩
    · exact step_ff (c_X5_set_bad σ i t (fun z => xl_out hi z.1)) (c_X6_set_bad1 σ i t (in_no1 h1 hi)) (by decide) (by decide) rfl h
    · have hK := h1.2.2.2.1
      have hst := Sd_of (cur_S h1) hk
      by_cases ht : x_hst σ (nI k) t
      · have hm := (hst_iff hK hk t).mp ht
        by_cases he : st_of (p_state σ 3) (nI k) = t
        · exact step_ff (c_X5_set_is σ _ t ⟨xl_yes h1 hk, ht⟩ he) (c_X6_set_is σ n k t h1.2.1 h1.2.2.1 h1.1 hk hm (hst.symm.trans he)) (by decide) (by decide) rfl h
        · have he2 : ¬ fA σ 28 (11 * n + k) = t := fun z => he (hst.trans z)
          by_cases hn : n < 40
          · obtain ⟨u, hu, rfl⟩ := hst_u hK hk ht
            exact step_ff (c_X5_set_ok σ n _ _ ⟨xl_yes h1 hk, ht⟩ he h1.2.2.2.2.1 hn) (c_X6_set_ok _ n k _ h1.2.1 h1.2.2.1 hn hk hm he2) (by decide) (by decide) (congrArg zi hst.symm) (RR_set h h1 hn hk hu).1
          · obtain rfl : n = 40 := by
              have := h1.1
              omega
            exact step_ff (c_X5_set_full σ _ t ⟨xl_yes h1 hk, ht⟩ he h1.2.2.2.2.1) (c_X6_set_full σ k t h1.2.1 h1.2.2.1 hk hm he2) (by decide) (by decide) rfl h
      · exact step_ff (c_X5_set_bad σ _ t (fun z => ht z.2)) (c_X6_set_bad2 σ k t h1.2.1 hk (fun z => ht ((hst_iff hK hk t).mpr z))) (by decide) (by decide) rfl h
/-! back to an earlier stand -/
theorem RR_undo {σ : zSt} {n m : Nat} (h : RR σ) (h1 : RD1 σ n) (hm : m ≤ n) : RR (sI (sI σ 2 3 2 (nI m)) 5 0 14 (nI m)) := by
  obtain ⟨g0, g1, g2, g3, g4, g5, g6⟩ := h1
  refine ⟨h.1, RB_sI (by decide) (RB_sI (by decide) h.2.1), RC_sI (by decide) (RC_sI (by decide) h.2.2.1), h.2.2.2.1, Or.inr ⟨m, by omega, g1, rfl, g3, rfl, fun d hd => g5 d (by omega), fun k hk => ?_⟩⟩
  have ek : fI (sI (sI σ 2 3 2 (nI m)) 5 0 14 (nI m)) 2 k 2 = fI σ 2 k 2 := by
    rw [fI_sI, if_neg (by omega), fI_sI, if_neg (by omega)]
  rw [ek]
  exact g6 k hk
theorem s_undo (σ : zSt) (h : RR σ) (x : Int32) : Step σ mi_X5_undo mi_X6_undo [zi x] := by
  rcases h.2.2.2.2 with h0 | ⟨n, h1⟩
  · have ez : zmax (fI σ 2 3 2) 0 = 0 := by
      rw [h0.1]
      decide
    by_cases hx : x = 0
    · subst hx
      refine step_ff (c_X5_undo_no σ 0 (by decide) (by rw [ez]; decide) (by rw [h0.1]; decide)) (c_X6_undo_ok σ 0 (by rw [h0.2.2.1]; decide)) (by decide) (by decide) (by rw [ez, h0.2.2.1]) ?_
      have e : sI σ 5 0 14 0 = σ := by
        refine Prod.ext ?_ rfl
        funext k j f
        show (if k = 5 ∧ j = 0 ∧ f = 14 then 0 else σ.1 k j f) = σ.1 k j f
        by_cases hh : k = 5 ∧ j = 0 ∧ f = 14
        · rw [if_pos hh, hh.1, hh.2.1, hh.2.2]
          exact h0.2.2.1.symm
        · rw [if_neg hh]
      rw [e]
      exact h
    · refine step_ff (c_X5_undo_bad σ x ?_) (c_X6_undo_bad σ x ?_) (by decide) (by decide) rfl h
      · by_cases hn : x < 0
        · exact Or.inl hn
        · obtain ⟨k, hk, rfl⟩ := nI_of hn
          refine Or.inr ?_
          rw [ez]
          have hk0 : 0 < k := Nat.pos_of_ne_zero fun z => hx (by rw [z]; rfl)
          intro z
          have z2 : ¬ (nI 0 - nI k < nI 0) := Int32.not_lt.mpr z
          rw [sub_lt (by decide) hk (by decide)] at z2
          omega
      · rw [h0.2.2.1]
        intro z
        exact hx (Int32.le_antisymm (Int32.not_lt.mp z.2) (Int32.not_lt.mp z.1))
  · have hn := h1.1
    have ez : zmax (fI σ 2 3 2) 0 = nI n := by
      rw [h1.2.2.2.2.1]
      unfold zmax
      rw [if_neg (nI_pos (by omega))]
    by_cases hx : m_in x 0 (fI σ 5 0 14)
    · have hx2 := hx
      rw [h1.2.2.1] at hx2
      obtain ⟨m, hm, rfl⟩ := nI_of hx2.1
      have hmn : m ≤ n := Nat.le_of_not_lt fun z => hx2.2 (nI_lt z hm)
      exact step_ff (c_X5_undo_ok σ _ (nI_pos hm) (by rw [ez, pk_sub hmn]; exact nI_pos' (by omega)) (by rw [h1.2.2.2.2.1]; exact nI_nlt hmn (by omega))) (c_X6_undo_ok _ _ hx) (by decide) (by decide) (by rw [ez]; show zi (fI σ 5 0 14 - nI m) = _; rw [h1.2.2.1]) (RR_undo h h1 hmn)
    · refine step_ff (c_X5_undo_bad σ x ?_) (c_X6_undo_bad σ x hx) (by decide) (by decide) rfl h
      by_cases hn0 : x < 0
      · exact Or.inl hn0
      · obtain ⟨k, hk, rfl⟩ := nI_of hn0
        refine Or.inr ?_
        rw [ez]
        intro z
        have z2 : ¬ (nI n - nI k < nI 0) := Int32.not_lt.mpr z
        rw [sub_lt hn hk (by decide)] at z2
        refine hx ⟨hn0, ?_⟩
        rw [h1.2.2.1]
        exact nI_nlt (by omega) (by omega)
