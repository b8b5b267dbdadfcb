theorem Kd_c {th stk shy slow fal : Int32} {kd kd' : Nat → Int32} (e : ∀ i, i < 9 → kd' i = kd i) (h : Kd th stk shy slow fal kd) : Kd th stk shy slow fal kd' := by
  refine ⟨h.1, fun i hi => ?_⟩
  rw [e i hi]
  exact h.2 i hi
theorem RR_x {σ τ : zSt} (hA : τ.2 = σ.2) (hI : ∀ k j f, k ≠ 3 → (k ≠ 1 ∨ j ≠ 2) → fI τ k j f = fI σ k j f) (hE : RE τ) (h : RR σ) : RR τ := by
  have eA : ∀ a, fA τ a = fA σ a := fun a => by
    unfold fA
    rw [hA]
  have eL : ∀ k j f, fL τ k j f = fL σ k j f := fun k j f => by
    unfold fL
    rw [hA]
  have e0 : ∀ f, fI τ 0 0 f = fI σ 0 0 f := fun f => hI _ _ _ (by decide) (by decide)
  have e5 : ∀ f, fI τ 5 0 f = fI σ 5 0 f := fun f => hI _ _ _ (by decide) (by decide)
  have e4 : ∀ j, fI τ 4 j 1 = fI σ 4 j 1 := fun j => hI _ _ _ (by decide) (by omega)
  have e2 : ∀ j, fI τ 2 j 2 = fI σ 2 j 2 := fun j => hI _ _ _ (by decide) (by omega)
  have e1 : ∀ f, fI τ 1 0 f = fI σ 1 0 f := fun f => hI _ _ _ (by decide) (by omega)
  obtain ⟨a, b, c, _, d⟩ := h
  refine ⟨?_, ?_, ?_, hE, ?_⟩
  · unfold RA
    simp only [e0, e5, eA, eL]
    exact a
  · unfold RB
    simp only [e4, eA]
    exact b
  · unfold RC
    simp only [e4, eA]
    exact c
  · unfold RD0 RD1 KD Hd
    simp only [e1, e2, e5, eA]
    exact d
theorem RR_m {σ τ : zSt} (hI : τ.1 = σ.1) (hL : τ.2.1 = σ.2.1) (hA : ∀ a, a ≠ 26 → a ≠ 27 → fA τ a = fA σ a) (hK : ∀ i, i < 9 → fA τ 26 i = fA σ 26 i) (h : RR σ) : RR τ := by
  have eI : ∀ k j f, fI τ k j f = fI σ k j f := fun k j f => by
    unfold fI
    rw [hI]
  have eL : ∀ k j f, fL τ k j f = fL σ k j f := fun k j f => by
    unfold fL
    rw [hL]
  obtain ⟨a, b, c, e, d⟩ := h
  refine ⟨?_, ?_, ?_, ?_, ?_⟩
  · unfold RA
    simp only [eI, eL, hA 20 (by decide) (by decide), hA 21 (by decide) (by decide)]
    exact a
  · intro j hj
    rw [eI, hA 22 (by decide) (by decide), hA 23 (by decide) (by decide), hA j (by omega) (by omega)]
    exact b j hj
  · intro j hj
    rw [eI, hA 24 (by decide) (by decide), hA 33 (by decide) (by decide), hA (6 + j) (by omega) (by omega)]
    exact c j hj
  · unfold RE
    simp only [eI]
    exact e
  · have eH : ∀ j G base n, j < 4 → Hd σ j G base n → Hd τ j G base n := fun j G base n hj hh d hd => by
      rw [eI, hA (10 + j) (by omega) (by omega), hA (14 + j) (by omega) (by omega)]
      exact hh d hd
    rcases d with h0 | ⟨n, h0, h1, h2, h3, h4, h5, h6⟩
    · refine Or.inl ?_
      unfold RD0
      simp only [eI, hA 28 (by decide) (by decide), hA 30 (by decide) (by decide)]
      exact h0
    · refine Or.inr ⟨n, h0, by rw [eI]; exact h1, by rw [eI]; exact h2, ?_, by rw [eI]; exact h4, ?_, fun k hk => ?_⟩
      · unfold KD
        simp only [eI]
        exact Kd_c hK h3
      · rw [hA 28 (by decide) (by decide)]
        exact eH 3 _ _ _ (by decide) h5
      · rw [eI, hA 29 (by decide) (by decide), hA 30 (by decide) (by decide)]
        rcases h6 k hk with h7 | ⟨m, h7, h8, h9, hH⟩
        · exact Or.inl h7
        · exact Or.inr ⟨m, h7, h8, h9, eH k _ _ _ (by omega) hH⟩
theorem Iv_0 {σ τ : zSt} (h : RE σ) : Iv 0 (sI σ 3 0 1 0) τ := by
  refine ⟨fun f hf => h f hf, ?_, fun i hi => absurd hi (by omega)⟩
  show st_broken 0 = 0
  decide
theorem fault_x (σ : zSt) (j n : Nat) : (x_fault σ j n).2.2 = σ.2 := rdx_A j n (n + 1) 0 0 _
theorem fault_I (σ : zSt) (j n k j' f : Nat) (h3 : k ≠ 3) (h1 : k ≠ 1 ∨ j' ≠ 2) : fI (x_fault σ j n).2 k j' f = fI σ k j' f := by
  unfold x_fault
  rw [rdx_I _ _ _ _ _ _ _ _ _ h3 h1, fI_sI, if_neg (fun z => h3 z.1)]
theorem fA_of {σ τ : zSt} (h : τ.2 = σ.2) (a : Nat) : fA τ a = fA σ a := by
  unfold fA
  rw [h]
/-- a new wall on both sides; ρ: behind the class's reading, τ: behind the reference's -/
theorem RR_wall {ρ τ : zSt} (h : RR ρ) (hI : Iv 9 ρ τ) (i1 : τ.1 = (x_wall ρ).1) (i2 : τ.2.1 = (x_wall ρ).2.1) (a1 : ∀ a, a ≠ 26 → a ≠ 27 → fA τ a = fA (x_wall ρ) a) : RR (m_wall τ) := by
  have eI : ∀ k j f, fI τ k j f = fI (x_wall ρ) k j f := fun k j f => by
    unfold fI
    rw [i1]
  have eL : ∀ k j f, fL τ k j f = fL (x_wall ρ) k j f := fun k j f => by
    unfold fL
    rw [i2]
  have m26 : fA (m_wall τ) 26 = m_cp (fA τ 26) (fA τ 26) 0 9 9 := rfl
  have m28 : fA (m_wall τ) 28 = upd (upd (m_cp (fA τ 28) (fA τ 27) 0 9 9) 9 0) 10 0 := rfl
  have m30 : fA (m_wall τ) 30 = zfill (fA τ 30) 0 3 (-1) := rfl
  have mA : ∀ a, a ≠ 26 → a ≠ 28 → a ≠ 30 → a ≠ 27 → a < 10 ∨ 18 ≤ a → fA (m_wall τ) a = fA ρ a := fun a h1 h2 h3 h4 h5 => by
    unfold m_wall m_w2 m_w1
    rw [fA_ne _ _ h3, fA_ne _ _ h2, fA_ne _ _ h2, fA_ne _ _ h1]
    show fA τ a = _
    rw [a1 a h1 h4]
    unfold x_wall p_begin
    show fA (sA (sA (k_take ρ 0 2) 13 _) 17 _) a = _
    rw [fA_ne _ _ (by omega), fA_ne _ _ (by omega)]
    rfl
  have mI : ∀ k j f, (k = 0 ∨ k = 4 ∨ (k = 5 ∧ f ≠ 10 ∧ f ≠ 14) ∨ (k = 1 ∧ j = 2)) → fI (m_wall τ) k j f = fI ρ k j f := fun k j f hk => by
    have e : fI (m_wall τ) k j f = fI (sI (sI τ 5 0 10 9) 5 0 14 0) k j f := rfl
    rw [e, fI_sI, if_neg (by omega), fI_sI, if_neg (by omega), eI]
    unfold x_wall p_begin k_take
    simp only [fI_sI, fI_sA]
    repeat rw [if_neg (by omega)]
  have mL : ∀ k j f, fL (m_wall τ) k j f = fL ρ k j f := fun k j f => eL k j f
  have x13 : fA (m_wall τ) 13 0 = fI ρ 3 0 1 := by
    show fA τ 13 0 = _
    rw [a1 13 (by decide) (by decide)]
    rfl
  have x17 : fA (m_wall τ) 17 0 = 0 := by
    show fA τ 17 0 = _
    rw [a1 17 (by decide) (by decide)]
    rfl
  have k1 : ∀ f, f < 5 → fI (m_wall τ) 1 0 f = fI ρ 1 2 f := fun f hf => by
    have e : fI (m_wall τ) 1 0 f = fI τ 1 0 f := rfl
    rw [e, eI]
    rcases f with _ | _ | _ | _ | _ | f
    · rfl
    · rfl
    · rfl
    · rfl
    · rfl
    · omega
  have s28 : ∀ i, i < 9 → fA (m_wall τ) 28 i = fA τ 27 (9 + i) := fun i hi => by
    rw [m28, upd_at, if_neg (by omega), upd_at, if_neg (by omega)]
    unfold m_cp
    rw [if_pos ⟨by omega, by omega⟩, Nat.sub_zero]
  obtain ⟨iE, iB, iI⟩ := hI
  refine ⟨?_, ?_, ?_, ?_, Or.inr ⟨0, by decide, rfl, rfl, ?_, ?_, ?_, fun k hk => Or.inl ?_⟩⟩
  · unfold RA
    rw [mI 0 0 10 (by decide), mI 5 0 0 (by decide), mI 0 0 11 (by decide), mI 5 0 2 (by decide), mL, mL, mL, mL, mA 20 (by decide) (by decide) (by decide) (by decide) (by decide), mA 21 (by decide) (by decide) (by decide) (by decide) (by decide)]
    exact h.1
  · intro i hi
    rw [mI 4 i 1 (by omega), mA 22 (by decide) (by decide) (by decide) (by decide) (by decide), mA 23 (by decide) (by decide) (by decide) (by decide) (by decide), mA i (by omega) (by omega) (by omega) (by omega) (by omega)]
    exact h.2.1 i hi
  · intro i hi
    rw [mI 4 (6 + i) 1 (by omega), mA 24 (by decide) (by decide) (by decide) (by decide) (by decide), mA 33 (by decide) (by decide) (by decide) (by decide) (by decide), mA (6 + i) (by omega) (by omega) (by omega) (by omega) (by omega)]
    exact h.2.2.1 i hi
  · intro f hf
    rw [mI 1 2 f (by omega)]
    exact iE f hf
  · unfold KD
    rw [k1 0 (by decide), k1 1 (by decide), k1 2 (by decide), k1 3 (by decide), k1 4 (by decide)]
    refine ⟨⟨iE 0 (by decide), iE 1 (by decide), iE 2 (by decide), iE 3 (by decide), iE 4 (by decide)⟩, fun i hi => ?_⟩
    obtain ⟨k, hk, e1, e2, e3, e4, e5, e6, _⟩ := iI i hi
    refine ⟨k, hk, ?_, e2, e3, e4, e5, e6⟩
    rw [m26]
    unfold m_cp
    rw [if_pos ⟨by omega, by omega⟩, Nat.sub_zero]
    exact e1
  · have e : fI (m_wall τ) 2 3 2 = fI τ 2 3 2 := rfl
    rw [e, eI]
    rfl
  · intro d hd
    obtain rfl : d = 0 := by omega
    refine ⟨⟨fun i hi => ?_, ?_⟩, ?_⟩
    · obtain ⟨k, hk, e1, e2, e3, e4, e5, e6, e7, e8, e9⟩ := iI i hi
      rw [x13, k1 0 (by decide)]
      show fA (m_wall τ) 28 (0 + 11 * 0 + i) = _ ∧ _
      rw [show 0 + 11 * 0 + i = i by omega, s28 i hi]
      exact ⟨e7, e8, fun z => e2.trans (e9 z)⟩
    · rw [x13, iB]
      rfl
    · rw [x17]
      rfl
  · have e : fI (m_wall τ) 2 k 2 = fI τ 2 k 2 := rfl
    rw [e, eI, m30]
    constructor
    · rcases k with _ | _ | _ | k
      · rfl
      · rfl
      · rfl
      · omega
    · unfold zfill
      rw [if_pos ⟨by omega, hk⟩]
theorem s_fault (σ : zSt) (h : RR σ) (r : Int32) : Step σ mi_X5_fault mi_X6_fault [zi r] := by
  rcases in_out r (N := 4) (by decide) with hr | ⟨j, hj, rfl⟩
  · exact step_ff (c_X5_fault_bad σ r hr) (c_X6_fault_bad σ r hr) (by decide) (by decide) rfl h
  · obtain ⟨hw, hc⟩ := h.2.2.1 j hj
    have hz := zlenT j hj
    rcases hc with hc | ⟨n, hn, hc, hv⟩
    · exact step_ff (c_X5_fault_mis σ j hj (by rw [hc]; decide)) (c_X6_fault_mis _ j hj (hw.trans hc)) (by decide) (by decide) rfl (RR_fnd (by decide) h)
    · have hx := fault_x σ (6 + j) n
      obtain ⟨r1, _, r3⟩ := rd_eq j n hn (n + 1) 0 0 (sI σ 3 0 1 0) (x_fault σ (6 + j) n).2 (by decide) (by omega) (fun q hq => by rw [fA_of hx]; exact hv q hq) (Iv_0 h.2.2.2.1)
      refine step_ff (c_X5_fault_ok σ j n hj hc (by omega)) (c_X6_fault_ok _ j n hj (by rw [fA_of hx]; exact hw.trans hc) hn) (by decide) (by decide) (congrArg zi r1.symm) ?_
      obtain ⟨i1, i2⟩ := rdm_I j n (n + 1) 0 0 (x_fault σ (6 + j) n).2
      obtain ⟨a1, a2⟩ := rdm_A j n (n + 1) 0 0 (x_fault σ (6 + j) n).2
      exact RR_m i1 i2 a1 a2 (RR_x hx (fault_I σ (6 + j) n) r3 h)
theorem s_wall (σ : zSt) (h : RR σ) (r : Int32) : Step σ mi_X5_wall mi_X6_wall [zi r] := by
  rcases in_out r (N := 4) (by decide) with hr | ⟨j, hj, rfl⟩
  · exact step_ff (c_X5_wall_bad σ r hr) (c_X6_wall_bad σ r hr) (by decide) (by decide) rfl h
  · obtain ⟨hw, hc⟩ := h.2.2.1 j hj
    have hz := zlenT j hj
    rcases hc with hc | ⟨n, hn, hc, hv⟩
    · exact step_ff (c_X5_wall_mis σ j hj (by rw [hc]; decide)) (c_X6_wall_mis _ j hj (hw.trans hc)) (by decide) (by decide) rfl (RR_fnd (by decide) h)
    · have hx := fault_x σ (6 + j) n
      by_cases hf : (x_fault σ (6 + j) n).1 = -9
      · obtain ⟨r1, r2, r3⟩ := rd_eq j n hn (n + 1) 0 0 (sI σ 3 0 1 0) (x_wall (x_fault σ (6 + j) n).2) (by decide) (by omega) (fun q hq => by
          show fA σ (6 + j) q = fA (x_fault σ (6 + j) n).2 33 (60 * j + q)
          rw [fA_of hx]
          exact hv q hq) (Iv_0 h.2.2.2.1)
        refine step_ff (c_X5_wall_ok σ j n hj hc (by omega) hf) (c_X6_wall_ok _ j n hj (by
          show fA (x_fault σ (6 + j) n).2 24 j = nI n
          rw [fA_of hx]
          exact hw.trans hc) hn (r1.symm.trans hf)) (by decide) (by decide) rfl ?_
        obtain ⟨iE, iB, iI⟩ := r2 hf
        obtain ⟨i1, i2⟩ := rdm_I j n (n + 1) 0 0 (x_wall (x_fault σ (6 + j) n).2)
        obtain ⟨a1, a2⟩ := rdm_A j n (n + 1) 0 0 (x_wall (x_fault σ (6 + j) n).2)
        have hR := RR_x hx (fault_I σ (6 + j) n) r3 h
        exact RR_wall hR ⟨iE, iB, iI⟩ i1 i2 a1
      · obtain ⟨r1, _, r3⟩ := rd_eq j n hn (n + 1) 0 0 (sI σ 3 0 1 0) (x_fault σ (6 + j) n).2 (by decide) (by omega) (fun q hq => by rw [fA_of hx]; exact hv q hq) (Iv_0 h.2.2.2.1)
        refine step_ff (c_X5_wall_flt σ j n hj hc (by omega) hf) (c_X6_wall_flt _ j n hj (by rw [fA_of hx]; exact hw.trans hc) hn (fun z => hf (r1.trans z))) (by decide) (by decide) rfl ?_
        obtain ⟨i1, i2⟩ := rdm_I j n (n + 1) 0 0 (x_fault σ (6 + j) n).2
        obtain ⟨a1, a2⟩ := rdm_A j n (n + 1) 0 0 (x_fault σ (6 + j) n).2
        exact RR_m i1 i2 a1 a2 (RR_x hx (fault_I σ (6 + j) n) r3 h)
