/-! ===== what the two sides have in common ===== -/
def RA (σ : zSt) : Prop := (fI σ 0 0 10 = fI σ 5 0 0 ∧ ∀ f, f < 6 → fA σ 20 f = fA σ 21 f) ∧ fI σ 0 0 11 = fI σ 5 0 2 ∧ fL σ 0 0 12 = fL σ 5 0 3 ∧ fL σ 0 0 13 = fL σ 5 0 4
def RB (σ : zSt) : Prop := ∀ j, j < 6 → fA σ 22 j = fI σ 4 j 1 ∧ (fI σ 4 j 1 = -1 ∨ ∃ n, n ≤ 40 ∧ fI σ 4 j 1 = nI n ∧ ∀ i, i < n → fA σ j i = fA σ 23 (40 * j + i))
def RC (σ : zSt) : Prop := ∀ j, j < 4 → fA σ 24 j = fI σ 4 (6 + j) 1 ∧ (fI σ 4 (6 + j) 1 = -1 ∨ ∃ n, n ≤ 60 ∧ fI σ 4 (6 + j) 1 = nI n ∧ ∀ i, i < n → fA σ (6 + j) i = fA σ 33 (60 * j + i))
def Hd (σ : zSt) (j : Nat) (G : Nat → Int32) (base n : Nat) : Prop := ∀ d, d ≤ n → Sd (fI σ 1 0 0) (fA σ (10 + j) d) (fun x => G (base + 11 * d + x)) ∧ fA σ (14 + j) d = G (base + 11 * d + 9)
def KD (σ : zSt) : Prop := Kd (fI σ 1 0 0) (fI σ 1 0 1) (fI σ 1 0 2) (fI σ 1 0 3) (fI σ 1 0 4) (fA σ 26)
def RD0 (σ : zSt) : Prop := fI σ 2 3 2 = -1 ∧ fI σ 5 0 10 = 0 ∧ fI σ 5 0 14 = 0 ∧ (∀ k, k < 11 → fA σ 28 k = 0) ∧ ∀ k, k < 3 → fI σ 2 k 2 = -1 ∧ fA σ 30 k = -1
def RD1 (σ : zSt) (n : Nat) : Prop := n ≤ 40 ∧ fI σ 5 0 10 = 9 ∧ fI σ 5 0 14 = nI n ∧ KD σ ∧ fI σ 2 3 2 = nI n ∧ Hd σ 3 (fA σ 28) 0 n ∧ ∀ k, k < 3 → (fI σ 2 k 2 = -1 ∧ fA σ 30 k = -1) ∨ ∃ m, m ≤ 40 ∧ fI σ 2 k 2 = nI m ∧ fA σ 30 k = nI m ∧ Hd σ k (fA σ 29) (451 * k) m
def RE (σ : zSt) : Prop := ∀ f, f < 5 → s9 (fI σ 1 2 f)
def RD (σ : zSt) : Prop := RE σ ∧ (RD0 σ ∨ ∃ n, RD1 σ n)
def RR (σ : zSt) : Prop := RA σ ∧ RB σ ∧ RC σ ∧ RD σ
/-- an answer of the kind that the method has -/
def zkind (ret : Option FieldType) (a : zV) : Bool := match ret, a with
  | some .int, .inl (.int _) => true
  | some .long, .inl (.long _) => true
  | _, _ => false
/-- a call on the class, and the same call on the reference -/
def Step (σ : zSt) (Mx Mm : zM) (as : List zV) : Prop := ∃ (dx : Nat) (Qx : zQ), dx ≤ 8 ∧ Mt dx Mx (zr 0 0 :: as) σ Qx ∧ ∀ r σ1, Qx r σ1 → ∃ a, r = some a ∧ zkind Mx.2.2.2 a = true ∧ ∃ (dm : Nat) (Qm : zQ), dm ≤ 8 ∧ Mt dm Mm (zr 5 0 :: as) σ1 Qm ∧ ∀ r2 σ2, Qm r2 σ2 → r2 = some a ∧ RR σ2
theorem step_ff {σ σ1 σ2 : zSt} {Mx Mm : zM} {as : List zV} {dx dm : Nat} {a b : zV} (h1 : Mf dx Mx (zr 0 0 :: as) σ (some a) σ1) (h2 : Mf dm Mm (zr 5 0 :: as) σ1 (some b) σ2) (hx : dx ≤ 8) (hm : dm ≤ 8) (e : b = a) (hR : RR σ2) (hk : zkind Mx.2.2.2 a = true := by exact rfl) : Step σ Mx Mm as := by
  refine ⟨dx, _, hx, h1, fun r τ hq => ?_⟩
  obtain ⟨rfl, rfl⟩ := hq
  refine ⟨a, rfl, hk, dm, _, hm, h2, fun r2 τ2 hq2 => ?_⟩
  obtain ⟨rfl, rfl⟩ := hq2
  exact ⟨by rw [e], hR⟩
theorem step_fq {σ σ1 : zSt} {Mx Mm : zM} {as : List zV} {dx dm : Nat} {a : zV} {Qm : zQ} (h1 : Mf dx Mx (zr 0 0 :: as) σ (some a) σ1) (h2 : Mt dm Mm (zr 5 0 :: as) σ1 Qm) (hx : dx ≤ 8) (hm : dm ≤ 8) (hR : ∀ r2 σ2, Qm r2 σ2 → r2 = some a ∧ RR σ2) (hk : zkind Mx.2.2.2 a = true := by exact rfl) : Step σ Mx Mm as := by
  refine ⟨dx, _, hx, h1, fun r τ hq => ?_⟩
  obtain ⟨rfl, rfl⟩ := hq
  exact ⟨a, rfl, hk, dm, _, hm, h2, hR⟩
/-! what leaves it -/
theorem RB_sA {σ : zSt} {a : Nat} {g : Nat → Int32} (ha : 6 ≤ a ∧ a ≠ 22 ∧ a ≠ 23) (h : RB σ) : RB (sA σ a g) := by
  intro j hj
  have h0 := h j hj
  rw [fA_ne _ _ (Ne.symm ha.2.1), fA_ne _ _ (Ne.symm ha.2.2), fA_ne _ _ (by omega), fI_sA]
  exact h0
theorem RB_sI {σ : zSt} {k j f : Nat} {x : Int32} (hk : k ≠ 4) (h : RB σ) : RB (sI σ k j f x) := by
  intro i hi
  have h0 := h i hi
  rw [fI_sI, if_neg (fun z => hk z.1.symm)]
  exact h0
theorem RB_sL {σ : zSt} {k j f : Nat} {x : Int64} (h : RB σ) : RB (sL σ k j f x) := h
theorem RC_sA {σ : zSt} {a : Nat} {g : Nat → Int32} (ha : (a < 6 ∨ 10 ≤ a) ∧ a ≠ 24 ∧ a ≠ 33) (h : RC σ) : RC (sA σ a g) := by
  intro j hj
  have h0 := h j hj
  rw [fA_ne _ _ (Ne.symm ha.2.1), fA_ne _ _ (Ne.symm ha.2.2), fA_ne _ _ (by omega), fI_sA]
  exact h0
theorem RC_sI {σ : zSt} {k j f : Nat} {x : Int32} (hk : k ≠ 4) (h : RC σ) : RC (sI σ k j f x) := by
  intro i hi
  have h0 := h i hi
  rw [fI_sI, if_neg (fun z => hk z.1.symm)]
  exact h0
theorem RC_sI4 {σ : zSt} {j : Nat} {x : Int32} (hj : j < 6) (h : RC σ) : RC (sI σ 4 j 1 x) := by
  intro i hi
  have h0 := h i hi
  rw [fI_sI, if_neg (by omega)]
  exact h0
theorem RB_sI4 {σ : zSt} {j : Nat} {x : Int32} (hj : 6 ≤ j) (h : RB σ) : RB (sI σ 4 j 1 x) := by
  intro i hi
  have h0 := h i hi
  rw [fI_sI, if_neg (by omega)]
  exact h0
theorem RC_sL {σ : zSt} {k j f : Nat} {x : Int64} (h : RC σ) : RC (sL σ k j f x) := h
theorem RD_sA {σ : zSt} {a : Nat} {g : Nat → Int32} (ha : (a < 10 ∨ 18 ≤ a) ∧ a ≠ 26 ∧ a ≠ 28 ∧ a ≠ 29 ∧ a ≠ 30) (h : RD σ) : RD (sA σ a g) := by
  have e26 : fA (sA σ a g) 26 = fA σ 26 := fA_ne _ _ (by omega)
  have e28 : fA (sA σ a g) 28 = fA σ 28 := fA_ne _ _ (by omega)
  have e29 : fA (sA σ a g) 29 = fA σ 29 := fA_ne _ _ (by omega)
  have e30 : fA (sA σ a g) 30 = fA σ 30 := fA_ne _ _ (by omega)
  have eH : ∀ j G base n, j < 4 → Hd σ j G base n → Hd (sA σ a g) j G base n := fun j G base n hj hh d hd => by
    rw [fA_ne _ _ (by omega : 10 + j ≠ a), fA_ne _ _ (by omega : 14 + j ≠ a)]
    exact hh d hd
  obtain ⟨hE, h⟩ := h
  refine ⟨hE, ?_⟩
  rcases h with h | ⟨n, h0, h1, h2, h3, h4, h5, h6⟩
  · refine Or.inl ?_
    unfold RD0
    rw [e28, e30]
    exact h
  · refine Or.inr ⟨n, h0, h1, h2, ?_, h4, ?_, fun k hk => ?_⟩
    · unfold KD
      rw [e26]
      exact h3
    · rw [e28]
      exact eH 3 _ _ _ (by decide) h5
    · rw [e29, e30]
      rcases h6 k hk with h7 | ⟨m, h7, h8, h9, hA⟩
      · exact Or.inl h7
      · exact Or.inr ⟨m, h7, h8, h9, eH k _ _ _ (by omega) hA⟩
theorem RD_sL {σ : zSt} {k j f : Nat} {x : Int64} (h : RD σ) : RD (sL σ k j f x) := h
theorem RD_sI {σ : zSt} {k j f : Nat} {x : Int32} (hk : k ≠ 1 ∧ k ≠ 2 ∧ (k ≠ 5 ∨ (f ≠ 10 ∧ f ≠ 14))) (h : RD σ) : RD (sI σ k j f x) := by
  have e1 : ∀ f', fI (sI σ k j f x) 1 0 f' = fI σ 1 0 f' := fun f' => by rw [fI_sI, if_neg (by omega)]
  have e2 : ∀ j', fI (sI σ k j f x) 2 j' 2 = fI σ 2 j' 2 := fun j' => by rw [fI_sI, if_neg (by omega)]
  have e5 : fI (sI σ k j f x) 5 0 10 = fI σ 5 0 10 := by rw [fI_sI, if_neg (by omega)]
  have e6 : fI (sI σ k j f x) 5 0 14 = fI σ 5 0 14 := by rw [fI_sI, if_neg (by omega)]
  have eH : ∀ j' G base n, Hd σ j' G base n → Hd (sI σ k j f x) j' G base n := fun j' G base n hh d hd => by
    rw [e1]
    exact hh d hd
  obtain ⟨hE, h⟩ := h
  refine ⟨fun f' hf' => by rw [fI_sI, if_neg (by omega)]; exact hE f' hf', ?_⟩
  rcases h with h | ⟨n, h0, h1, h2, h3, h4, h5, h6⟩
  · refine Or.inl ?_
    unfold RD0
    simp only [e2, e5, e6]
    exact h
  · refine Or.inr ⟨n, h0, by rw [e5]; exact h1, by rw [e6]; exact h2, ?_, by rw [e2]; exact h4, eH _ _ _ _ h5, fun k' hk' => ?_⟩
    · unfold KD
      simp only [e1]
      exact h3
    · rw [e2]
      rcases h6 k' hk' with h7 | ⟨m, h7, h8, h9, hA⟩
      · exact Or.inl h7
      · exact Or.inr ⟨m, h7, h8, h9, eH _ _ _ _ hA⟩
theorem RR_31 {σ : zSt} {g : Nat → Int32} (h : RR σ) : RR (sA σ 31 g) := ⟨h.1, RB_sA (by decide) h.2.1, RC_sA (by decide) h.2.2.1, RD_sA (by decide) h.2.2.2⟩
theorem RR_32 {σ : zSt} {g : Nat → Int32} (h : RR σ) : RR (sA σ 32 g) := ⟨h.1, RB_sA (by decide) h.2.1, RC_sA (by decide) h.2.2.1, RD_sA (by decide) h.2.2.2⟩
theorem RR_19 {σ : zSt} {g : Nat → Int32} (h : RR σ) : RR (sA σ 19 g) := ⟨h.1, RB_sA (by decide) h.2.1, RC_sA (by decide) h.2.2.1, RD_sA (by decide) h.2.2.2⟩
theorem RR_18 {σ : zSt} {g : Nat → Int32} (h : RR σ) : RR (sA σ 18 g) := ⟨h.1, RB_sA (by decide) h.2.1, RC_sA (by decide) h.2.2.1, RD_sA (by decide) h.2.2.2⟩
/-- a finding on both sides -/
theorem RR_fnd {σ : zSt} {f : Nat} (hf : f < 6) (h : RR σ) : RR (m_fnd (x_fnd σ f) f) := by
  refine ⟨⟨⟨rfl, fun i hi => ?_⟩, h.1.2⟩, RB_sA (by decide) (RB_sI (by decide) (RB_sA (by decide) (RB_sI (by decide) h.2.1))), RC_sA (by decide) (RC_sI (by decide) (RC_sA (by decide) (RC_sI (by decide) h.2.2.1))), RD_sA (by decide) (RD_sI (by decide) (RD_sA (by decide) (RD_sI (by decide) h.2.2.2)))⟩
  have e := h.1.1.2
  show upd (fA σ 20) f (fA σ 20 f + 1) i = upd (fA σ 21) f (fA σ 21 f + 1) i
  rw [upd_at, upd_at, e i hi, e f hf]
/-- a value told on both sides -/
theorem RR_ask {σ : zSt} {x y : Int32} (e : x = y) (h : RR σ) : RR (sI (sI σ 0 0 11 x) 5 0 2 y) := by
  subst e
  exact ⟨⟨h.1.1, rfl, h.1.2.2⟩, RB_sI (by decide) (RB_sI (by decide) h.2.1), RC_sI (by decide) (RC_sI (by decide) h.2.2.1), RD_sI (by decide) (RD_sI (by decide) h.2.2.2)⟩
/-- two parts told on both sides -/
theorem RR_parts {σ : zSt} {a b : Int64} (h : RR σ) : RR (sL (sL (sL (sL σ 0 0 12 a) 0 0 13 b) 5 0 3 a) 5 0 4 b) := ⟨⟨h.1.1, h.1.2.1, rfl, rfl⟩, h.2.1, h.2.2.1, h.2.2.2⟩
