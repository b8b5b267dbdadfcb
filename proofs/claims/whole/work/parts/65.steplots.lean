/-! ===== evenings by lots, on both sides: what each side writes is its own ===== -/
def agX (σ τ : zSt) : Prop := (∀ k j f, k ≠ 5 → fI σ k j f = fI τ k j f) ∧ (∀ k j f, k ≠ 5 → fL σ k j f = fL τ k j f) ∧ ∀ a, a < 21 → fA σ a = fA τ a
def agM (σ τ : zSt) : Prop := (∀ j f, fI σ 5 j f = fI τ 5 j f) ∧ (∀ j f, fL σ 5 j f = fL τ 5 j f) ∧ ∀ a, 21 ≤ a → fA σ a = fA τ a
theorem ag_eq {σ τ : zSt} (h : agX σ τ) (h2 : agM σ τ) : σ = τ := by
  refine Prod.ext ?_ (Prod.ext ?_ ?_)
  · funext k j f
    by_cases e : k = 5
    · subst e
      exact h2.1 j f
    · exact h.1 k j f e
  · funext k j f
    by_cases e : k = 5
    · subst e
      exact h2.2.1 j f
    · exact h.2.1 k j f e
  · funext a
    by_cases e : a < 21
    · exact h.2.2 a e
    · exact h2.2.2 a (by omega)
theorem agX_rf (σ : zSt) : agX σ σ := ⟨fun _ _ _ _ => rfl, fun _ _ _ _ => rfl, fun _ _ => rfl⟩
theorem agM_rf (σ : zSt) : agM σ σ := ⟨fun _ _ => rfl, fun _ _ => rfl, fun _ _ => rfl⟩
theorem agX_tr {a b c : zSt} (h : agX a b) (g : agX b c) : agX a c := ⟨fun k j f e => (h.1 k j f e).trans (g.1 k j f e), fun k j f e => (h.2.1 k j f e).trans (g.2.1 k j f e), fun x e => (h.2.2 x e).trans (g.2.2 x e)⟩
theorem agM_tr {a b c : zSt} (h : agM a b) (g : agM b c) : agM a c := ⟨fun j f => (h.1 j f).trans (g.1 j f), fun j f => (h.2.1 j f).trans (g.2.1 j f), fun x e => (h.2.2 x e).trans (g.2.2 x e)⟩
theorem agX_sy {a b : zSt} (h : agX a b) : agX b a := ⟨fun k j f e => (h.1 k j f e).symm, fun k j f e => (h.2.1 k j f e).symm, fun x e => (h.2.2 x e).symm⟩
theorem agM_sy {a b : zSt} (h : agM a b) : agM b a := ⟨fun j f => (h.1 j f).symm, fun j f => (h.2.1 j f).symm, fun x e => (h.2.2 x e).symm⟩
theorem agX_sI {a c : zSt} (h : agX a c) (k j f : Nat) (x : Int32) : agX (sI a k j f x) (sI c k j f x) := by
  refine ⟨fun k' j' f' e => ?_, h.2.1, h.2.2⟩
  rw [fI_sI, fI_sI, h.1 k' j' f' e]
theorem agX_sA {a c : zSt} (h : agX a c) (b : Nat) (g : Nat → Int32) : agX (sA a b g) (sA c b g) := by
  refine ⟨h.1, h.2.1, fun x e => ?_⟩
  rw [fA_sA, fA_sA, h.2.2 x e]
theorem agM_sI {a c : zSt} (h : agM a c) (k j f : Nat) (x : Int32) : agM (sI a k j f x) (sI c k j f x) := by
  refine ⟨fun j' f' => ?_, h.2.1, h.2.2⟩
  rw [fI_sI, fI_sI, h.1 j' f']
theorem agM_sA {a c : zSt} (h : agM a c) (b : Nat) (g : Nat → Int32) : agM (sA a b g) (sA c b g) := by
  refine ⟨h.1, h.2.1, fun x e => ?_⟩
  rw [fA_sA, fA_sA, h.2.2 x e]
theorem agX_mI (a : zSt) (j f : Nat) (x : Int32) : agX (sI a 5 j f x) a := by
  refine ⟨fun k' j' f' e => ?_, fun _ _ _ _ => rfl, fun _ _ => rfl⟩
  rw [fI_sI, if_neg (fun z => e z.1)]
theorem agX_mA (a : zSt) {b : Nat} (hb : 21 ≤ b) (g : Nat → Int32) : agX (sA a b g) a := ⟨fun _ _ _ _ => rfl, fun _ _ _ _ => rfl, fun x e => fA_ne _ _ (by omega)⟩
theorem agM_xI (a : zSt) {k : Nat} (hk : k ≠ 5) (j f : Nat) (x : Int32) : agM (sI a k j f x) a := by
  refine ⟨fun j' f' => ?_, fun _ _ => rfl, fun _ _ => rfl⟩
  rw [fI_sI, if_neg (fun z => hk z.1.symm)]
theorem agM_xA (a : zSt) {b : Nat} (hb : b < 21) (g : Nat → Int32) : agM (sA a b g) a := ⟨fun _ _ => rfl, fun _ _ => rfl, fun x e => fA_ne _ _ (by omega)⟩
/-! the class's deeds -/
theorem agX_st {a c : zSt} (h : agX a c) : p_state a 3 = p_state c 3 ∧ p_number a 3 = p_number c 3 := by
  unfold p_state p_number
  rw [h.1 2 3 2 (by decide), h.2.2 (10 + 3) (by decide), h.2.2 (14 + 3) (by decide)]
  exact ⟨rfl, rfl⟩
theorem agX_k {a c : zSt} (h : agX a c) (f : Nat) : fI a 1 0 f = fI c 1 0 f := h.1 1 0 f (by decide)
theorem agX_go {a c : zSt} (h : agX a c) (n : Nat) {s s' x x' : Int32} (e1 : s = s') (e2 : x = x') : agX (p_go a 3 n s x) (p_go c 3 n s' x') := by
  subst e1
  subst e2
  unfold p_go
  rw [h.2.2 (10 + 3) (by decide), h.2.2 (14 + 3) (by decide)]
  exact agX_sI (agX_sA (agX_sA h _ _) _ _) _ _ _ _
theorem agX_lot {a c : zSt} (h : agX a c) (n : Nat) (i b : Int32) : agX (x_lot1 a n i b) (x_lot1 c n i b) := by
  obtain ⟨e1, e2⟩ := agX_st h
  have ep : ∀ s q, kx_press a 0 s i q = kx_press c 0 s i q := fun s q => by
    unfold kx_press kx_touch
    rw [agX_k h 0, agX_k h 1, agX_k h 2, agX_k h 3]
  have ek : kx_kind a 0 i = kx_kind c 0 i := by
    unfold kx_kind
    rw [agX_k h 0, agX_k h 1, agX_k h 2, agX_k h 3, agX_k h 4]
  unfold x_lot1
  by_cases h6 : b < 6
  · rw [if_pos h6, if_pos h6]
    unfold x_press1
    exact agX_go h n (by rw [e1, e2, ep]) (by rw [e2])
  · rw [if_neg h6, if_neg h6]
    by_cases h7 : b = 6
    · rw [if_pos h7, if_pos h7]
      unfold x_set1
      have eh : ∀ t, x_hst a i t ↔ x_hst c i t := fun t => by
        unfold x_hst
        rw [ek]
      refine agX_go h n ?_ (by rw [e2])
      rw [e1]
      by_cases hh : x_hst c i (st_of (p_state c 3) i + 1)
      · rw [if_pos hh, if_pos ((eh _).mpr hh)]
      · rw [if_neg hh, if_neg (fun z => hh ((eh _).mp z))]
    · rw [if_neg h7, if_neg h7]
      unfold x_crack1
      exact agX_go h n (by rw [e1]) (by rw [e2])
theorem agM_go (a : zSt) (n : Nat) (s x : Int32) : agM (p_go a 3 n s x) a := agM_tr (agM_xI _ (by decide) _ _ _) (agM_tr (agM_xA _ (by decide) _) (agM_xA _ (by decide) _))
theorem agM_lot (a : zSt) (n : Nat) (i b : Int32) : agM (x_lot1 a n i b) a := by
  unfold x_lot1
  split
  · exact agM_go _ _ _ _
  · split
    · exact agM_go _ _ _ _
    · exact agM_go _ _ _ _
/-! the reference's deeds -/
def m_step1 (σ : zSt) (n v k : Nat) : zSt := m_lot1 (m_begin σ n) (n + 1) v k
theorem agX_begin (a : zSt) (n : Nat) : agX (m_begin a n) a := agX_tr (agX_mI _ _ _ _) (agX_mA _ (by decide) _)
theorem agX_lotm (a : zSt) (n v k : Nat) : agX (m_lot1 a n v k) a := by
  unfold m_lot1
  split
  · exact agX_mA _ (by decide) _
  · split
    · exact agX_mA _ (by decide) _
    · exact agX_mA _ (by decide) _
theorem agX_step (a : zSt) (n v k : Nat) : agX (m_step1 a n v k) a := agX_tr (agX_lotm _ _ _ _) (agX_begin _ _)
theorem agM_begin {a c : zSt} (h : agM a c) (n : Nat) : agM (m_begin a n) (m_begin c n) := by
  unfold m_begin
  rw [h.2.2 28 (by decide)]
  exact agM_sI (agM_sA h _ _) _ _ _ _
theorem agM_lotm {a c : zSt} (h : agM a c) (n v k : Nat) : agM (m_lot1 a n v k) (m_lot1 c n v k) := by
  unfold m_lot1
  rw [h.2.2 28 (by decide), h.2.2 26 (by decide)]
  split
  · exact agM_sA h _ _
  · split
    · exact agM_sA h _ _
    · exact agM_sA h _ _
theorem agM_step {a c : zSt} (h : agM a c) (n v k : Nat) : agM (m_step1 a n v k) (m_step1 c n v k) := agM_lotm (agM_begin h n) _ _ _
/-- the deeds of both sides by turns -/
def il (σ : zSt) (n : Nat) (seed : Int32) (s : Nat) : Nat → zSt
  | 0 => σ
  | k + 1 => m_step1 (x_lot1 (il σ n seed s k) (n + k) (zlrem (x_lotL seed (k + 1)) 9).toInt32 (zlrem (x_lotL seed (k + 1) / 16) 8).toInt32) (n + k) (lotV s (k + 1) / 16 % 8) (lotV s (k + 1) % 9)
theorem il_X (σ : zSt) (n : Nat) (seed : Int32) (s : Nat) : ∀ k, agX (x_lots σ n seed k) (il σ n seed s k)
  | 0 => agX_rf σ
  | k + 1 => agX_tr (agX_lot (il_X σ n seed s k) _ _ _) (agX_sy (agX_step _ _ _ _))
theorem il_M {σ τ : zSt} (h : agM τ σ) (n : Nat) (seed : Int32) (s : Nat) : ∀ k, agM (m_lots τ n s k) (il σ n seed s k)
  | 0 => h
  | k + 1 => agM_step (agM_tr (il_M h n seed s k) (agM_sy (agM_lot _ _ _ _))) _ _ _
theorem lots_M (σ : zSt) (n : Nat) (seed : Int32) : ∀ k, agM (x_lots σ n seed k) σ
  | 0 => agM_rf σ
  | k + 1 => agM_tr (agM_lot _ _ _ _) (lots_M σ n seed k)
theorem lots_X (τ : zSt) (n s : Nat) : ∀ k, agX (m_lots τ n s k) τ
  | 0 => agX_rf τ
  | k + 1 => agX_tr (agX_step _ _ _ _) (lots_X τ n s k)
theorem il_eq (σ : zSt) (n : Nat) (seed : Int32) (s N : Nat) : m_lots (x_lots σ n seed N) n s N = il σ n seed s N := ag_eq (agX_tr (lots_X _ n s N) (il_X σ n seed s N)) (il_M (lots_M σ n seed N) n seed s N)
theorem lotL_eq {s : Nat} (h : s < 2147483647) : ∀ k, x_lotL (nI s) k = lN (lotV s k)
  | 0 => nI_l (by omega)
  | k + 1 => by rw [x_lotL, lotL_eq h k, lotV_up h k]
def lotB (k : Nat) (o t : Bool) : Bool := (o && t) || (t && !(k == 1 || k == 4)) || (decide ((if m_in (nI (stp o t) + 1) 0 (m_steps (nI k) - 1) then nI (stp o t) + 1 else 0) = nI ((stp o t + 1) % (if k == 1 || k == 4 then 3 else 2))) && decide (zrem (nI (stp o t) + 1) (m_steps (nI k)) = nI ((stp o t + 1) % (if k == 1 || k == 4 then 3 else 2))))
theorem lot_fin : ∀ k, k < 6 → ∀ o t : Bool, lotB k o t = true := by decide +kernel
theorem lot_use {k : Nat} (hk : k < 6) {o t : Bool} (h1 : ¬ (o = true ∧ t = true)) (h2 : t = true → (k == 1 || k == 4) = true) : (if m_in (nI (stp o t) + 1) 0 (m_steps (nI k) - 1) then nI (stp o t) + 1 else 0) = nI ((stp o t + 1) % (if k == 1 || k == 4 then 3 else 2)) ∧ zrem (nI (stp o t) + 1) (m_steps (nI k)) = nI ((stp o t + 1) % (if k == 1 || k == 4 then 3 else 2)) := by
  have h := lot_fin k hk o t
  unfold lotB at h
  have e1 : (o && t) = false := by
    cases o <;> cases t <;> first | rfl | exact absurd ⟨rfl, rfl⟩ h1
  have e2 : (t && !(k == 1 || k == 4)) = false := by
    cases t
    · rfl
    · rw [h2 rfl]
      rfl
  rw [e1, e2, Bool.false_or, Bool.false_or, Bool.and_eq_true] at h
  exact ⟨of_decide_eq_true h.1, of_decide_eq_true h.2⟩
/-- one deed by lot on both sides -/
theorem RR_lot {σ : zSt} {m v i : Nat} (h : RR σ) (h1 : RD1 σ m) (hm : m < 40) (hv : v < 8) (hi : i < 9) : RR (m_step1 (x_lot1 σ m (nI i) (nI v)) m v i) ∧ RD1 (m_step1 (x_lot1 σ m (nI i) (nI v)) m v i) (m + 1) := by
  unfold m_step1 x_lot1 m_lot1
  by_cases h6 : v < 6
  · rw [if_pos h6, if_pos (show nI v < 6 from nI_lt (b := 6) h6 (by decide))]
    exact RR_press h h1 hm hi
  · rw [if_neg h6, if_neg (show ¬ nI v < 6 from nI_nlt (b := 6) (by omega) (by omega))]
    by_cases h7 : v = 6
    · subst h7
      rw [if_pos rfl, if_pos (show nI 6 = 6 from rfl)]
      have hK := h1.2.2.2.1
      have hS := cur_S h1
      obtain ⟨k, hk, ek, a1, _⟩ := hK.2 i hi
      obtain ⟨t1, t2, t3⟩ := hS.1 i hi
      rw [a1] at t3
      obtain ⟨u1, u2⟩ := lot_use hk t2 t3
      have hu : (stp (bt (p_state σ 3) i) (bt (p_state σ 3) (9 + i)) + 1) % (if k == 1 || k == 4 then 3 else 2) ≤ (if bt (fI σ 1 0 0) i = true then 2 else 1) := by
        rw [a1]
        cases (k == 1 || k == 4)
        · have := Nat.mod_lt (stp (bt (p_state σ 3) i) (bt (p_state σ 3) (9 + i)) + 1) (y := 2) (by decide)
          exact Nat.le_of_lt_succ this
        · have := Nat.mod_lt (stp (bt (p_state σ 3) i) (bt (p_state σ 3) (9 + i)) + 1) (y := 3) (by decide)
          exact Nat.le_of_lt_succ this
      have ex : (if x_hst σ (nI i) (st_of (p_state σ 3) (nI i) + 1) then st_of (p_state σ 3) (nI i) + 1 else 0) = nI ((stp (bt (p_state σ 3) i) (bt (p_state σ 3) (9 + i)) + 1) % (if k == 1 || k == 4 then 3 else 2)) := by
        rw [← u1, st_of_bt _ hi]
        have e := hst_iff hK hi (nI (stp (bt (p_state σ 3) i) (bt (p_state σ 3) (9 + i))) + 1)
        rw [ek] at e
        by_cases hh : m_in (nI (stp (bt (p_state σ 3) i) (bt (p_state σ 3) (9 + i))) + 1) 0 (m_steps (nI k) - 1)
        · rw [if_pos hh, if_pos (e.mpr hh)]
        · rw [if_neg hh, if_neg (fun z => hh (e.mp z))]
      rw [ex]
      obtain ⟨r1, r2⟩ := RR_set h h1 hm hi hu
      have em : m_set1 (x_set1 σ m (nI i) (nI ((stp (bt (p_state σ 3) i) (bt (p_state σ 3) (9 + i)) + 1) % (if k == 1 || k == 4 then 3 else 2)))) m i (nI ((stp (bt (p_state σ 3) i) (bt (p_state σ 3) (9 + i)) + 1) % (if k == 1 || k == 4 then 3 else 2))) = sA (m_begin (x_set1 σ m (nI i) (nI ((stp (bt (p_state σ 3) i) (bt (p_state σ 3) (9 + i)) + 1) % (if k == 1 || k == 4 then 3 else 2)))) m) 28 (upd (fA (m_begin (x_set1 σ m (nI i) (nI ((stp (bt (p_state σ 3) i) (bt (p_state σ 3) (9 + i)) + 1) % (if k == 1 || k == 4 then 3 else 2)))) m) 28) (11 * (m + 1) + i) (zrem (fA (m_begin (x_set1 σ m (nI i) (nI ((stp (bt (p_state σ 3) i) (bt (p_state σ 3) (9 + i)) + 1) % (if k == 1 || k == 4 then 3 else 2)))) m) 28 (11 * (m + 1) + i) + 1) (m_steps (fA (m_begin (x_set1 σ m (nI i) (nI ((stp (bt (p_state σ 3) i) (bt (p_state σ 3) (9 + i)) + 1) % (if k == 1 || k == 4 then 3 else 2)))) m) 26 i)))) := by
        have e1 : fA (m_begin (x_set1 σ m (nI i) (nI ((stp (bt (p_state σ 3) i) (bt (p_state σ 3) (9 + i)) + 1) % (if k == 1 || k == 4 then 3 else 2)))) m) 28 (11 * (m + 1) + i) = nI (stp (bt (p_state σ 3) i) (bt (p_state σ 3) (9 + i))) := (mv_new (fA σ 28) m (y := i) (by omega)).trans t1
        have e2 : fA (m_begin (x_set1 σ m (nI i) (nI ((stp (bt (p_state σ 3) i) (bt (p_state σ 3) (9 + i)) + 1) % (if k == 1 || k == 4 then 3 else 2)))) m) 26 i = nI k := ek
        rw [e1, e2, u2]
        rfl
      rw [em] at r1 r2
      exact ⟨r1, r2⟩
    · rw [if_neg h7, if_neg (show ¬ nI v = 6 from fun z => h7 ((nI_eq (b := 6) (by omega) (by decide)).mp z))]
      exact RR_crack h h1 hm hi
theorem RR_il {σ : zSt} {n s : Nat} (h : RR σ) (h1 : RD1 σ n) (hs : s < 2147483647) : ∀ k, n + k ≤ 40 → RR (il σ n (nI s) s k) ∧ RD1 (il σ n (nI s) s k) (n + k)
  | 0, _ => ⟨h, h1⟩
  | k + 1, hk => by
    obtain ⟨g, g1⟩ := RR_il h h1 hs k (by omega)
    have hb := lotV_lt hs (k + 1)
    rw [il, lotL_eq hs (k + 1), lotV_a hb, lotV_b hb]
    exact RR_lot g g1 (by omega) (Nat.mod_lt _ (by decide)) (Nat.mod_lt _ (by decide))
theorem zcmp_lt {x y : Int64} : lg_cmp x y < 0 ↔ x < y := by
  unfold lg_cmp
  by_cases h1 : x > y
  · rw [if_pos h1]
    constructor
    · intro h; exact absurd h (by decide)
    · intro h; exact absurd (Int64.lt_trans h h1) Int64.lt_irrefl
  · rw [if_neg h1]
    by_cases h2 : x = y
    · rw [if_pos h2]
      constructor
      · intro h; exact absurd h (by decide)
      · intro h; rw [h2] at h; exact absurd h Int64.lt_irrefl
    · rw [if_neg h2]
      constructor
      · intro _
        rcases Int64.lt_or_lt_of_ne h2 with h | h
        · exact h
        · exact absurd h h1
      · intro _; decide
theorem seed_iff (x : Int32) : ¬ lg_cmp x.toInt64 2147483647 < 0 ↔ 2147483646 < x := by
  rw [zcmp_lt, Int64.lt_iff_toInt_lt, Int32.toInt_toInt64, i32lt, show (2147483647 : Int64).toInt = 2147483647 by decide, show (2147483646 : Int32).toInt = 2147483646 by decide]
  omega
theorem s_lots (σ : zSt) (h : RR σ) (x y : Int32) : Step σ mi_X5_lots mi_X6_lots [zi x, zi y] := by
  rcases h.2.2.2.2 with h0 | ⟨n, h1⟩
  · exact step_ff (c_X5_lots_none σ x y (by rw [h0.1]; decide)) (c_X6_lots_none σ x y h0.2.1) (by decide) (by decide) rfl h
  · by_cases hb : x < 1 ∨ 20 < x ∨ y < 1 ∨ ¬ lg_cmp y.toInt64 2147483647 < 0
    · refine step_ff (c_X5_lots_bad σ x y (cur_n h1) hb) (c_X6_lots_bad σ x y h1.2.1 ?_) (by decide) (by decide) rfl h
      rintro ⟨z1, z2⟩
      rcases hb with z | z | z | z
      · exact z1.1 z
      · exact z1.2 z
      · exact z2.1 z
      · exact z2.2 ((seed_iff y).mp z)
    · have hm : m_in x 1 20 ∧ m_in y 1 2147483646 := ⟨⟨fun z => hb (Or.inl z), fun z => hb (Or.inr (Or.inl z))⟩, ⟨fun z => hb (Or.inr (Or.inr (Or.inl z))), fun z => hb (Or.inr (Or.inr (Or.inr ((seed_iff y).mpr z))))⟩⟩
      have hn := h1.1
      have hx0 : ¬ x < 0 := fun z => hm.1.1 (Int32.lt_trans z (by decide))
      have hy0 : ¬ y < 0 := fun z => hm.2.1 (Int32.lt_trans z (by decide))
      obtain ⟨N, hN, rfl⟩ := nI_of2 (M := 20) (n := 20) (by decide) hx0 (Int32.not_lt.mp hm.1.2)
      obtain ⟨s, hs, rfl⟩ := nI_of2 (M := 2147483646) (n := 2147483646) (by decide) hy0 (Int32.not_lt.mp hm.2.2)
      have er : p_room σ 3 = nI (40 - n) := by
        unfold p_room
        rw [h1.2.2.2.2.1, if_neg (nI_pos (by omega))]
        exact pk_sub (a := 40) hn
      by_cases hf : n + N ≤ 40
      · have hL : fI (x_lots σ n (nI s) N) 5 0 10 = 9 := ((lots_M σ n (nI s) N).1 0 10).trans h1.2.1
        have hD : fI (x_lots σ n (nI s) N) 5 0 14 = nI n := ((lots_M σ n (nI s) N).1 0 14).trans h1.2.2.1
        obtain ⟨r1, r2⟩ := RR_il (s := s) h h1 (by omega) N hf
        rw [← il_eq] at r1 r2
        refine step_ff (c_X5_lots_ok σ n N (nI s) h1.2.2.2.2.1 hf hb) (c_X6_lots_ok _ n N s hL hD hf (by omega) hm) (by decide) (by decide) (congrArg zi ?_) r1
        rw [← cur_show r2]
        have ag := lots_X (x_lots σ n (nI s) N) n s N
        unfold kx_show
        rw [(agX_st ag).1, agX_k ag 4]
      · refine step_ff (c_X5_lots_full σ _ _ (cur_n h1) hb ?_) (c_X6_lots_full σ _ _ h1.2.1 hm ?_) (by decide) (by decide) rfl h
        · rw [er]
          exact nI_ge (by omega) (by omega)
        · rw [h1.2.2.1, nI_add]
          exact nI_ge (a := 40) (by omega) (by omega)
