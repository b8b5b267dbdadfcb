/-! ===== means, on both sides ===== -/
def hN (c t u x : Bool) : Nat := if shB c t u x = true then 1 else 0
def tM (t u : Bool) (p : Nat) : Nat := (if t = true then 12 - p else 0) + (if u = true then p else 0)
theorem mi_N {σ : zSt} {n : Nat} (h1 : RD1 σ n) {b p : Nat} (hb : b < 9) (hp : p ≤ 12) : ∀ s, s ≤ 512 → m_mi σ n b (m_can σ n (nI b)) (nI p) s = lN (smN (fun x => prN (fun l => wN (bt (m_can σ n (nI b)) l) p (x.testBit l)) 9 * smN (fun l => hN (bt (m_can σ n (nI b)) l) (bt (x_sb σ (nI b)) l) (bt (kx_show σ 0 (p_state σ 3)) l) (x.testBit l)) 9) s)
  | 0, _ => rfl
  | s + 1, hs => by
    have ec : cnN (fun l => bt (mw (fA σ 26) (m_press (fA σ 26) b (nI s) (m_st σ n) 0)) l) 9 = smN (fun l => hN (bt (m_can σ n (nI b)) l) (bt (x_sb σ (nI b)) l) (bt (kx_show σ 0 (p_state σ 3)) l) (s.testBit l)) 9 := by
      unfold cnN
      refine smN_c 9 (fun l hl => ?_)
      unfold hN shB
      exact congrArg (fun z : Bool => if z = true then 1 else 0) (but_bt h1 hb hl)
    have h9 := cnN_9 (fun l => bt (mw (fA σ 26) (m_press (fA σ 26) b (nI s) (m_st σ n) 0)) l)
    rw [m_mi, mi_N h1 hb hp s (by omega), wo_N (by omega) hp, bits_N _ 9 (Nat.le_refl _), nI_l (by omega), ec,
      pos_if (wo_lt (fun l => bt (m_can σ n (nI b)) l) (fun l => s.testBit l) hp) (fun k => k * lN (smN (fun l => hN (bt (m_can σ n (nI b)) l) (bt (x_sb σ (nI b)) l) (bt (kx_show σ 0 (p_state σ 3)) l) (s.testBit l)) 9)) (Int64.zero_mul), lN_mul, lN_add]
    rfl
theorem miP_N (X Y : Int32) {p : Nat} (hp : p ≤ 12) : ∀ l, l ≤ 9 → x_miP X Y (nI p) l = lN (smN (fun l => tM (bt X l) (bt Y l) p) l)
  | 0, _ => rfl
  | l + 1, hl => by
    rw [x_miP, miP_N X Y hp l (by omega), tw_N _ _ (by omega) hp, lN_add, smN]
    rfl
theorem h_sum {c t u : Bool} {p : Nat} (hp : p ≤ 12) (h : c = false → t = u) : 12 * (wN c p false * hN c t u false + wN c p true * hN c t u true) = (wN c p false + wN c p true) * tM t u p := by
  unfold tM hN wN shB
  cases c
  · rw [h rfl]
    cases u <;> simp <;> omega
  · have e : 12 - p + p = 12 := by omega
    cases t <;> cases u <;> simp [e]
theorem w_sum {c : Bool} {p : Nat} (hp : p ≤ 12) : wN c p false + wN c p true = if c = true then 12 else 1 := by
  unfold wN
  cases c
  · rfl
  · show 12 - p + p = 12
    omega
theorem tM_12 (t u : Bool) {p : Nat} (hp : p ≤ 12) : tM t u p ≤ 12 := by
  unfold tM
  split <;> split <;> omega
theorem mid_eq {σ : zSt} {n : Nat} (h1 : RD1 σ n) {b p : Nat} (hb : b < 9) (hp : p ≤ 12) :
    ∃ A C X : Nat, A < 2 ^ 40 ∧ 0 < C ∧ C < 2 ^ 40 ∧ X < 2 ^ 40 ∧ A * 12 = X * C ∧ m_mi σ n b (m_can σ n (nI b)) (nI p) 512 = lN A ∧ x_odW (cnN (fun l => bt (m_can σ n (nI b)) l) 9) = lN C ∧ x_miP (x_sb σ (nI b)) (kx_show σ 0 (p_state σ 3)) (nI p) 9 = lN X := by
  have hc9 := cnN_9 (fun l => bt (m_can σ n (nI b)) l)
  have e1 := mi_N h1 hb hp 512 (Nat.le_refl _)
  have e2 := sum_mid (fun l => wN (bt (m_can σ n (nI b)) l) p) (fun l => hN (bt (m_can σ n (nI b)) l) (bt (x_sb σ (nI b)) l) (bt (kx_show σ 0 (p_state σ 3)) l)) (fun l => tM (bt (x_sb σ (nI b)) l) (bt (kx_show σ 0 (p_state σ 3)) l) p) (fun l hl => h_sum hp (fun z => spare_bt h1 hb hl z)) 9 (Nat.le_refl _)
  rw [show (2 : Nat) ^ 9 = 512 from rfl, prN_c (g := fun l => if bt (m_can σ n (nI b)) l = true then 12 else 1) 9 (fun l _ => w_sum hp), ← pow_N] at e2
  have hX : smN (fun l => tM (bt (x_sb σ (nI b)) l) (bt (kx_show σ 0 (p_state σ 3)) l) p) 9 ≤ 9 * 12 := smN_le (m := 12) 9 (fun i _ => tM_12 _ _ hp)
  have hC : 12 ^ cnN (fun l => bt (m_can σ n (nI b)) l) 9 ≤ 12 ^ 9 := Nat.pow_le_pow_right (by decide) hc9
  refine ⟨_, _, _, ?_, Nat.pow_pos (by decide), Nat.lt_of_le_of_lt hC (by decide), Nat.lt_of_le_of_lt hX (by decide), ?_, e1, odW_N _, miP_N _ _ hp 9 (Nat.le_refl _)⟩
  · have := Nat.mul_le_mul hC hX
    rw [← e2] at this
    have h3 : (12 : Nat) ^ 9 * (9 * 12) < 2 ^ 40 := by decide
    omega
  · rw [Nat.mul_comm, e2, Nat.mul_comm]
theorem mi_A (σ : zSt) (a b : Int64) (n k : Nat) (can p : Int32) : ∀ s, m_mi (x_parts σ a b) n k can p s = m_mi σ n k can p s
  | 0 => rfl
  | s + 1 => by
    rw [m_mi, m_mi, mi_A σ a b n k can p s]
    rfl
theorem s_mid (σ : zSt) (h : RR σ) (i p : Int32) : Step σ mi_X5_mid mi_X6_mid [zi i, zi p] := by
  rcases h.2.2.2.2 with h0 | ⟨n, h1⟩
  · exact step_ff (c_X5_mid_none σ i p (by rw [h0.1]; decide)) (c_X6_mid_none σ i p h0.2.1) (by decide) (by decide) rfl h
  · by_cases hb : x_lamp σ i ∧ ¬ (p < 0 ∨ ¬ p ≤ 12)
    · obtain ⟨hl, hq⟩ := hb
      obtain ⟨b, hb9, rfl⟩ := btn_of ((lamp_iff h1 i).mp hl)
      obtain ⟨k, hk, rfl⟩ := in_12 hq
      obtain ⟨A, C, X, a1, a2, a3, a4, a5, e1, e2, e3⟩ := mid_eq h1 hb9 hk
      obtain ⟨_, d2, d3, d4⟩ := cd_use (a := X) (b := 12) a4 (by decide) (by decide)
      obtain ⟨c1, c2, c3, c4⟩ := cd_use (a := A) (b := C) a1 a2 a3
      obtain ⟨f1, f2⟩ := frac_nat a2 (show 0 < 12 by decide) a5
      have eW : (12 : Int64) = lN 12 := rfl
      have hx := c_X5_mid_ok σ (nI b) (nI k) hl hq (by rw [e3, eW]; exact d2)
      have hm := c_X6_mid_ok (x_parts σ (x_miP (x_sb σ (nI b)) (kx_show σ 0 (p_state σ 3)) (nI k) 9) 12) n b (cnN (fun l => bt (m_can σ n (nI b)) l) 9) (nI k) h1.2.1 h1.2.2.1 h1.1 hb9 (in_12m.mpr hq) (bits_N _ 9 (Nat.le_refl _)) (cnN_9 _)
        (by rw [mi_A]; show cd_end 200 (m_mi σ n b (m_can σ n (nI b)) (nI k) 512) _; rw [e1, e2]; exact c1)
        (by rw [mi_A]; show 0 < x_cd 200 (m_mi σ n b (m_can σ n (nI b)) (nI k) 512) _; rw [e1, e2]; exact c2)
      refine step_fq hx hm (by decide) (by decide) ?_
      rintro r2 σ2 ⟨rfl, g, rfl⟩
      refine ⟨rfl, ?_⟩
      rw [mi_A]
      show RR (m_parts (sA (x_parts σ (x_miP (x_sb σ (nI b)) (kx_show σ 0 (p_state σ 3)) (nI k) 9) 12) 31 g) (m_mi σ n b (m_can σ n (nI b)) (nI k) 512) (x_odW (cnN (fun l => bt (m_can σ n (nI b)) l) 9)))
      rw [e1, e2, e3, eW]
      unfold m_parts x_parts
      rw [c3, c4, d3, d4, f1, f2]
      exact RR_parts (RR_31 h)
    · refine step_ff (c_X5_mid_bad σ i p (cur_n h1) hb) (c_X6_mid_bad σ i p h1.2.1 (fun z => hb ⟨(lamp_iff h1 i).mpr z.1, in_12m.mp z.2⟩)) (by decide) (by decide) rfl h
