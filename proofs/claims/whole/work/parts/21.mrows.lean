/-! ===== the reference: what its calls share ===== -/
theorem ix40 (j k : Nat) : (40 : Int32) * nI j + nI k = nI (40 * j + k) := by rw [show (40 : Int32) * nI j = nI (40 * j) from pk_mul 40 j, nI_add]
theorem ix60 (j k : Nat) : (60 : Int32) * nI j + nI k = nI (60 * j + k) := by rw [show (60 : Int32) * nI j = nI (60 * j) from pk_mul 60 j, nI_add]
abbrev m_in (v a b : Int32) : Prop := ¬ v < a ∧ ¬ b < v
def m_bit (s k : Int32) : Int32 := zshr s k &&& 1
def m_bits (s : Int32) : Nat → Int32
  | 0 => 0
  | k + 1 => m_bits s k + m_bit s (nI k)
def m_fnd (σ : zSt) (f : Nat) : zSt := sA (sI σ 5 0 0 (nI f)) 21 (upd (fA σ 21) f (fA σ 21 f + 1))
theorem c_X6_in (σ : zSt) (v a b : Int32) : Mf 0 mi_X6_in [zi v, zi a, zi b] σ (some (zi (b2i (m_in v a b)))) σ := by
  refine Mt_of (ls := [some (zi v), some (zi a), some (zi b)]) (by decide +kernel) rfl rfl ?_
  refine y_iload_n (q := 1) dX6_in_0 rfl rfl rfl ?_
  refine y_iload_n (q := 2) dX6_in_1 rfl rfl rfl ?_
  refine y_icmp_lt (q := 5) 14 dX6_in_2 rfl rfl (fun h2 => ?_) (fun h2 => ?_)
  · refine y_iconst (q := 15) dX6_in_14 ic_0 rfl ?_
    exact y_zret (by first | exact Or.inl rfl | exact Or.inr rfl | assumption) dX6_in_15 rfl (by refine ⟨?_, rfl⟩; simp [b2i, m_in, *])
  · refine y_iload_n (q := 6) dX6_in_5 rfl rfl rfl ?_
    refine y_iload_n (q := 7) dX6_in_6 rfl rfl rfl ?_
    refine y_icmp_gt (q := 10) 14 dX6_in_7 rfl rfl (fun h7 => ?_) (fun h7 => ?_)
    · refine y_iconst (q := 15) dX6_in_14 ic_0 rfl ?_
      exact y_zret (by first | exact Or.inl rfl | exact Or.inr rfl | assumption) dX6_in_15 rfl (by refine ⟨?_, rfl⟩; simp [b2i, m_in, *])
    · refine y_iconst (q := 11) dX6_in_10 ic_1 rfl ?_
      refine y_goto 15 dX6_in_11 rfl ?_
      exact y_zret (by first | exact Or.inl rfl | exact Or.inr rfl | assumption) dX6_in_15 rfl (by refine ⟨?_, rfl⟩; simp [b2i, m_in, *])
theorem c_X6_in_1 (σ : zSt) (v a b : Int32) (hv : m_in v a b) : Mf 0 mi_X6_in [zi v, zi a, zi b] σ (some (zi 1)) σ := by
  refine Mt_of (ls := [some (zi v), some (zi a), some (zi b)]) (by decide +kernel) rfl rfl ?_
  refine y_iload_n (q := 1) dX6_in_0 rfl rfl rfl ?_
  refine y_iload_n (q := 2) dX6_in_1 rfl rfl rfl ?_
  refine y_icmp_lt (q := 5) 14 dX6_in_2 rfl rfl (fun h2 => ?_) (fun h2 => ?_)
  · exact absurd h2 hv.1
  · refine y_iload_n (q := 6) dX6_in_5 rfl rfl rfl ?_
    refine y_iload_n (q := 7) dX6_in_6 rfl rfl rfl ?_
    refine y_icmp_gt (q := 10) 14 dX6_in_7 rfl rfl (fun h7 => ?_) (fun h7 => ?_)
    · exact absurd h7 hv.2
    · refine y_iconst (q := 11) dX6_in_10 ic_1 rfl ?_
      refine y_goto 15 dX6_in_11 rfl ?_
      exact y_zret (by first | exact Or.inl rfl | exact Or.inr rfl | assumption) dX6_in_15 rfl (by exact ⟨rfl, rfl⟩)
theorem c_X6_in_0 (σ : zSt) (v a b : Int32) (hv : ¬ m_in v a b) : Mf 0 mi_X6_in [zi v, zi a, zi b] σ (some (zi 0)) σ := by
  refine Mt_of (ls := [some (zi v), some (zi a), some (zi b)]) (by decide +kernel) rfl rfl ?_
  refine y_iload_n (q := 1) dX6_in_0 rfl rfl rfl ?_
  refine y_iload_n (q := 2) dX6_in_1 rfl rfl rfl ?_
  refine y_icmp_lt (q := 5) 14 dX6_in_2 rfl rfl (fun h2 => ?_) (fun h2 => ?_)
  · refine y_iconst (q := 15) dX6_in_14 ic_0 rfl ?_
    exact y_zret (by first | exact Or.inl rfl | exact Or.inr rfl | assumption) dX6_in_15 rfl (by exact ⟨rfl, rfl⟩)
  · refine y_iload_n (q := 6) dX6_in_5 rfl rfl rfl ?_
    refine y_iload_n (q := 7) dX6_in_6 rfl rfl rfl ?_
    refine y_icmp_gt (q := 10) 14 dX6_in_7 rfl rfl (fun h7 => ?_) (fun h7 => ?_)
    · refine y_iconst (q := 15) dX6_in_14 ic_0 rfl ?_
      exact y_zret (by first | exact Or.inl rfl | exact Or.inr rfl | assumption) dX6_in_15 rfl (by exact ⟨rfl, rfl⟩)
    · exact absurd ⟨h2, h7⟩ hv
theorem c_X6_has (σ : zSt) (s k : Int32) : Mf 0 mi_X6_has [zi s, zi k] σ (some (zi (b2i (m_bit s k = 1)))) σ := by
  refine Mt_of (ls := [some (zi s), some (zi k)]) (by decide +kernel) rfl rfl ?_
  refine y_iload_n (q := 1) dX6_has_0 rfl rfl rfl ?_
  refine y_iload_n (q := 2) dX6_has_1 rfl rfl rfl ?_
  refine y_ishr (q := 3) dX6_has_2 rfl ?_
  refine y_iconst (q := 4) dX6_has_3 ic_1 rfl ?_
  refine y_iand (q := 5) dX6_has_4 rfl ?_
  refine y_iconst (q := 6) dX6_has_5 ic_1 rfl ?_
  refine y_icmp_ne (q := 9) 13 dX6_has_6 rfl rfl (fun h6 => ?_) (fun h6 => ?_)
  · refine y_iconst (q := 14) dX6_has_13 ic_0 rfl ?_
    exact y_zret (by first | exact Or.inl rfl | exact Or.inr rfl | assumption) dX6_has_14 rfl (by refine ⟨?_, rfl⟩; first | (rw [b2i_t (show m_bit s k = 1 from h6)]; done) | (rw [b2i_f (show ¬ m_bit s k = 1 from h6)]; done))
  · refine y_iconst (q := 10) dX6_has_9 ic_1 rfl ?_
    refine y_goto 14 dX6_has_10 rfl ?_
    exact y_zret (by first | exact Or.inl rfl | exact Or.inr rfl | assumption) dX6_has_14 rfl (by refine ⟨?_, rfl⟩; first | (rw [b2i_t (show m_bit s k = 1 from h6)]; done) | (rw [b2i_f (show ¬ m_bit s k = 1 from h6)]; done))
theorem lp_X6_bitsOf {Q : zQ} (σ : zSt) (s : Int32) (hE : zY mi_X6_bitsOf 0 Q 24 [some (zi s), some (zi (m_bits s (9))), some (zi (nI (9)))] [] σ) : ∀ (m i : Nat) (x1 : Int32) (x2 : Int32), i + m = 9 → x1 = m_bits s i → x2 = nI i → zY mi_X6_bitsOf 0 Q 4 [some (zi s), some (zi x1), some (zi x2)] [] σ := by
  intro m
  induction m with
  | zero =>
    intro i x1 x2 hi e_x1 e_x2
    obtain rfl : i = 9 := by omega
    subst e_x1
    subst e_x2
    refine y_iload_n (q := 5) dX6_bitsOf_4 rfl rfl rfl ?_
    refine y_bipush (q := 7) dX6_bitsOf_5 bp_9 rfl ?_
    refine y_icmp_ge (q := 10) 24 dX6_bitsOf_7 rfl rfl (fun h7 => ?_) (fun h7 => ?_)
    · exact hE
    · exact absurd (nI_le (a := 9) (b := 9) (Nat.le_refl _) (by omega)) h7
  | succ m ih =>
    intro i x1 x2 hi e_x1 e_x2
    refine y_iload_n (q := 5) dX6_bitsOf_4 rfl rfl rfl ?_
    refine y_bipush (q := 7) dX6_bitsOf_5 bp_9 rfl ?_
    refine y_icmp_ge (q := 10) 24 dX6_bitsOf_7 rfl rfl (fun h7 => ?_) (fun h7 => ?_)
    · exact absurd h7 (by rw [e_x2]; exact nI_ge (b := 9) (by omega) (by omega))
    · refine y_iload_n (q := 11) dX6_bitsOf_10 rfl rfl rfl ?_
      refine y_iload_n (q := 12) dX6_bitsOf_11 rfl rfl rfl ?_
      refine y_iload_n (q := 13) dX6_bitsOf_12 rfl rfl rfl ?_
      refine y_ishr (q := 14) dX6_bitsOf_13 rfl ?_
      refine y_iconst (q := 15) dX6_bitsOf_14 ic_1 rfl ?_
      refine y_iand (q := 16) dX6_bitsOf_15 rfl ?_
      refine y_iadd (q := 17) dX6_bitsOf_16 rfl ?_
      refine y_istore_n1 (q := 18) dX6_bitsOf_17 rfl rfl rfl ?_
      refine y_iinc_2 (q := 21) dX6_bitsOf_18 rfl ic_1 rfl rfl ?_
      refine y_goto 4 dX6_bitsOf_21 rfl ?_
      exact ih (i + 1) _ _ (by omega) (by rw [e_x1, e_x2]; rfl) (by first | rw [e_x2, nI_1] | rw [nI_1])
theorem c_X6_bitsOf (σ : zSt) (s : Int32) : Mf 0 mi_X6_bitsOf [zi s] σ (some (zi (m_bits s 9))) σ := by
  refine Mt_of (ls := [some (zi s), none, none]) (by decide +kernel) rfl rfl ?_
  refine y_iconst (q := 1) dX6_bitsOf_0 ic_0 rfl ?_
  refine y_istore_n1 (q := 2) dX6_bitsOf_1 rfl rfl rfl ?_
  refine y_iconst (q := 3) dX6_bitsOf_2 ic_0 rfl ?_
  refine y_istore_n2 (q := 4) dX6_bitsOf_3 rfl rfl rfl ?_
  refine lp_X6_bitsOf σ s ?_ 9 0 _ _ (by omega) rfl rfl
  refine y_iload_n (q := 25) dX6_bitsOf_24 rfl rfl rfl ?_
  exact y_iret dX6_bitsOf_25 rfl (by exact ⟨rfl, rfl⟩)
theorem c_X6_find (σ : zSt) (f : Nat) (hf : f ≤ 5) : Mf 0 mi_X6_find [zr 5 0, zi (nI f)] σ (some (zi (-3))) (m_fnd σ f) := by
  refine Mt_of (ls := [some (zr 5 0), some (zi (nI f))]) (by decide +kernel) rfl rfl ?_
  refine y_aload_n (q := 1) dX6_find_0 rfl rfl rfl ?_
  refine y_iload_n (q := 2) dX6_find_1 rfl rfl rfl ?_
  refine y_putI (q := 5) fk_X6_54 (by decide) zok5 dX6_find_2 rfl ?_
  refine y_aload_n (q := 6) dX6_find_5 rfl rfl rfl ?_
  refine y_get (q := 9) fk_X6_7 zok5 (gv_5_1 _ _) dX6_find_6 rfl ?_
  refine y_iload_n (q := 10) dX6_find_9 rfl rfl rfl ?_
  refine y_dup2 (q := 11) dX6_find_10 rfl ?_
  refine y_iald (q := 12) (by first | decide | assumption | omega) (zvinN (n := 6) (by omega) (by decide)) dX6_find_11 rfl ?_
  refine y_iconst (q := 13) dX6_find_12 ic_1 rfl ?_
  refine y_iadd (q := 14) dX6_find_13 rfl ?_
  refine y_iast (q := 15) (by first | decide | assumption | omega) (zvinN (n := 6) (by omega) (by decide)) dX6_find_14 rfl ?_
  refine y_bipush (q := 17) dX6_find_15 bp_m3 rfl ?_
  exact y_iret dX6_find_17 rfl (by exact ⟨rfl, by rw [nI_clamp (by omega)]; rfl⟩)
theorem c_X6_told (σ : zSt) (x : Int32) : Mf 0 mi_X6_told [zr 5 0, zi x] σ (some (zi 1)) (sI σ 5 0 2 x) := by
  refine Mt_of (ls := [some (zr 5 0), some (zi x)]) (by decide +kernel) rfl rfl ?_
  refine y_aload_n (q := 1) dX6_told_0 rfl rfl rfl ?_
  refine y_iload_n (q := 2) dX6_told_1 rfl rfl rfl ?_
  refine y_putI (q := 5) fk_X6_58 (by decide) zok5 dX6_told_2 rfl ?_
  refine y_iconst (q := 6) dX6_told_5 ic_1 rfl ?_
  exact y_iret dX6_told_6 rfl (by exact ⟨rfl, rfl⟩)
theorem c_X6_isRow_1 (σ : zSt) (r : Int32) (hr : m_in r 0 5) : Mf 1 mi_X6_isRow [zi r] σ (some (zi 1)) σ := by
  refine Mt_of (ls := [some (zi r)]) (by decide +kernel) rfl rfl ?_
  refine y_iload_n (q := 1) dX6_isRow_0 rfl rfl rfl ?_
  refine y_iconst (q := 2) dX6_isRow_1 ic_0 rfl ?_
  refine y_iconst (q := 3) dX6_isRow_2 ic_5 rfl ?_
  refine y_cS (q := 6) (c_X6_in_1 _ _ _ _ hr) lk_X6_64 rfl rfl rfl rfl dX6_isRow_3 rfl ?_
  exact y_zret (by first | exact Or.inl rfl | exact Or.inr rfl | assumption) dX6_isRow_6 rfl (by exact ⟨rfl, rfl⟩)
theorem c_X6_isRow_0 (σ : zSt) (r : Int32) (hr : ¬ m_in r 0 5) : Mf 1 mi_X6_isRow [zi r] σ (some (zi 0)) σ := by
  refine Mt_of (ls := [some (zi r)]) (by decide +kernel) rfl rfl ?_
  refine y_iload_n (q := 1) dX6_isRow_0 rfl rfl rfl ?_
  refine y_iconst (q := 2) dX6_isRow_1 ic_0 rfl ?_
  refine y_iconst (q := 3) dX6_isRow_2 ic_5 rfl ?_
  refine y_cS (q := 6) (c_X6_in_0 _ _ _ _ hr) lk_X6_64 rfl rfl rfl rfl dX6_isRow_3 rfl ?_
  exact y_zret (by first | exact Or.inl rfl | exact Or.inr rfl | assumption) dX6_isRow_6 rfl (by exact ⟨rfl, rfl⟩)
theorem c_X6_isRow (σ : zSt) (r : Int32) : Mf 1 mi_X6_isRow [zi r] σ (some (zi (b2i (m_in r 0 5)))) σ := by
  refine Mt_of (ls := [some (zi r)]) (by decide +kernel) rfl rfl ?_
  refine y_iload_n (q := 1) dX6_isRow_0 rfl rfl rfl ?_
  refine y_iconst (q := 2) dX6_isRow_1 ic_0 rfl ?_
  refine y_iconst (q := 3) dX6_isRow_2 ic_5 rfl ?_
  refine y_cS (q := 6) (c_X6_in _ _ _ _) lk_X6_64 rfl rfl rfl rfl dX6_isRow_3 rfl ?_
  exact y_zretB dX6_isRow_6 rfl (by exact ⟨rfl, rfl⟩)
theorem c_X6_isText_1 (σ : zSt) (r : Int32) (hr : m_in r 0 3) : Mf 1 mi_X6_isText [zi r] σ (some (zi 1)) σ := by
  refine Mt_of (ls := [some (zi r)]) (by decide +kernel) rfl rfl ?_
  refine y_iload_n (q := 1) dX6_isText_0 rfl rfl rfl ?_
  refine y_iconst (q := 2) dX6_isText_1 ic_0 rfl ?_
  refine y_iconst (q := 3) dX6_isText_2 ic_3 rfl ?_
  refine y_cS (q := 6) (c_X6_in_1 _ _ _ _ hr) lk_X6_64 rfl rfl rfl rfl dX6_isText_3 rfl ?_
  exact y_zret (by first | exact Or.inl rfl | exact Or.inr rfl | assumption) dX6_isText_6 rfl (by exact ⟨rfl, rfl⟩)
theorem c_X6_isText_0 (σ : zSt) (r : Int32) (hr : ¬ m_in r 0 3) : Mf 1 mi_X6_isText [zi r] σ (some (zi 0)) σ := by
  refine Mt_of (ls := [some (zi r)]) (by decide +kernel) rfl rfl ?_
  refine y_iload_n (q := 1) dX6_isText_0 rfl rfl rfl ?_
  refine y_iconst (q := 2) dX6_isText_1 ic_0 rfl ?_
  refine y_iconst (q := 3) dX6_isText_2 ic_3 rfl ?_
  refine y_cS (q := 6) (c_X6_in_0 _ _ _ _ hr) lk_X6_64 rfl rfl rfl rfl dX6_isText_3 rfl ?_
  exact y_zret (by first | exact Or.inl rfl | exact Or.inr rfl | assumption) dX6_isText_6 rfl (by exact ⟨rfl, rfl⟩)
theorem c_X6_isText (σ : zSt) (r : Int32) : Mf 1 mi_X6_isText [zi r] σ (some (zi (b2i (m_in r 0 3)))) σ := by
  refine Mt_of (ls := [some (zi r)]) (by decide +kernel) rfl rfl ?_
  refine y_iload_n (q := 1) dX6_isText_0 rfl rfl rfl ?_
  refine y_iconst (q := 2) dX6_isText_1 ic_0 rfl ?_
  refine y_iconst (q := 3) dX6_isText_2 ic_3 rfl ?_
  refine y_cS (q := 6) (c_X6_in _ _ _ _) lk_X6_64 rfl rfl rfl rfl dX6_isText_3 rfl ?_
  exact y_zretB dX6_isText_6 rfl (by exact ⟨rfl, rfl⟩)
theorem c_X6_isButton_1 (σ : zSt) (r : Int32) (hr : m_in r 0 8) : Mf 1 mi_X6_isButton [zi r] σ (some (zi 1)) σ := by
  refine Mt_of (ls := [some (zi r)]) (by decide +kernel) rfl rfl ?_
  refine y_iload_n (q := 1) dX6_isButton_0 rfl rfl rfl ?_
  refine y_iconst (q := 2) dX6_isButton_1 ic_0 rfl ?_
  refine y_bipush (q := 4) dX6_isButton_2 bp_8 rfl ?_
  refine y_cS (q := 7) (c_X6_in_1 _ _ _ _ hr) lk_X6_64 rfl rfl rfl rfl dX6_isButton_4 rfl ?_
  exact y_zret (by first | exact Or.inl rfl | exact Or.inr rfl | assumption) dX6_isButton_7 rfl (by exact ⟨rfl, rfl⟩)
theorem c_X6_isButton_0 (σ : zSt) (r : Int32) (hr : ¬ m_in r 0 8) : Mf 1 mi_X6_isButton [zi r] σ (some (zi 0)) σ := by
  refine Mt_of (ls := [some (zi r)]) (by decide +kernel) rfl rfl ?_
  refine y_iload_n (q := 1) dX6_isButton_0 rfl rfl rfl ?_
  refine y_iconst (q := 2) dX6_isButton_1 ic_0 rfl ?_
  refine y_bipush (q := 4) dX6_isButton_2 bp_8 rfl ?_
  refine y_cS (q := 7) (c_X6_in_0 _ _ _ _ hr) lk_X6_64 rfl rfl rfl rfl dX6_isButton_4 rfl ?_
  exact y_zret (by first | exact Or.inl rfl | exact Or.inr rfl | assumption) dX6_isButton_7 rfl (by exact ⟨rfl, rfl⟩)
theorem c_X6_isButton (σ : zSt) (r : Int32) : Mf 1 mi_X6_isButton [zi r] σ (some (zi (b2i (m_in r 0 8)))) σ := by
  refine Mt_of (ls := [some (zi r)]) (by decide +kernel) rfl rfl ?_
  refine y_iload_n (q := 1) dX6_isButton_0 rfl rfl rfl ?_
  refine y_iconst (q := 2) dX6_isButton_1 ic_0 rfl ?_
  refine y_bipush (q := 4) dX6_isButton_2 bp_8 rfl ?_
  refine y_cS (q := 7) (c_X6_in _ _ _ _) lk_X6_64 rfl rfl rfl rfl dX6_isButton_4 rfl ?_
  exact y_zretB dX6_isButton_7 rfl (by exact ⟨rfl, rfl⟩)
theorem c_X6_isPicture_1 (σ : zSt) (r : Int32) (hr : m_in r 0 511) : Mf 1 mi_X6_isPicture [zi r] σ (some (zi 1)) σ := by
  refine Mt_of (ls := [some (zi r)]) (by decide +kernel) rfl rfl ?_
  refine y_iload_n (q := 1) dX6_isPicture_0 rfl rfl rfl ?_
  refine y_iconst (q := 2) dX6_isPicture_1 ic_0 rfl ?_
  refine y_sipush (q := 5) dX6_isPicture_2 sp_511 rfl ?_
  refine y_cS (q := 8) (c_X6_in_1 _ _ _ _ hr) lk_X6_64 rfl rfl rfl rfl dX6_isPicture_5 rfl ?_
  exact y_zret (by first | exact Or.inl rfl | exact Or.inr rfl | assumption) dX6_isPicture_8 rfl (by exact ⟨rfl, rfl⟩)
theorem c_X6_isPicture_0 (σ : zSt) (r : Int32) (hr : ¬ m_in r 0 511) : Mf 1 mi_X6_isPicture [zi r] σ (some (zi 0)) σ := by
  refine Mt_of (ls := [some (zi r)]) (by decide +kernel) rfl rfl ?_
  refine y_iload_n (q := 1) dX6_isPicture_0 rfl rfl rfl ?_
  refine y_iconst (q := 2) dX6_isPicture_1 ic_0 rfl ?_
  refine y_sipush (q := 5) dX6_isPicture_2 sp_511 rfl ?_
  refine y_cS (q := 8) (c_X6_in_0 _ _ _ _ hr) lk_X6_64 rfl rfl rfl rfl dX6_isPicture_5 rfl ?_
  exact y_zret (by first | exact Or.inl rfl | exact Or.inr rfl | assumption) dX6_isPicture_8 rfl (by exact ⟨rfl, rfl⟩)
theorem c_X6_isPicture (σ : zSt) (r : Int32) : Mf 1 mi_X6_isPicture [zi r] σ (some (zi (b2i (m_in r 0 511)))) σ := by
  refine Mt_of (ls := [some (zi r)]) (by decide +kernel) rfl rfl ?_
  refine y_iload_n (q := 1) dX6_isPicture_0 rfl rfl rfl ?_
  refine y_iconst (q := 2) dX6_isPicture_1 ic_0 rfl ?_
  refine y_sipush (q := 5) dX6_isPicture_2 sp_511 rfl ?_
  refine y_cS (q := 8) (c_X6_in _ _ _ _) lk_X6_64 rfl rfl rfl rfl dX6_isPicture_5 rfl ?_
  exact y_zretB dX6_isPicture_8 rfl (by exact ⟨rfl, rfl⟩)
theorem m_inN {k n : Nat} (h : k ≤ n) (hn : n < 2 ^ 31) : m_in (nI k) 0 (nI n) := ⟨nI_pos (by omega), nI_nlt h hn⟩
theorem m_outN {r : Int32} {n : Nat} (h : r < 0 ∨ nI (n + 1) ≤ r) (hn : n + 1 < 2 ^ 31) : ¬ m_in r 0 (nI n) := by
  rintro ⟨h1, h2⟩
  rcases h with h | h
  · exact h1 h
  · apply h2
    rw [i32lt, nI_toInt (by omega)]
    rw [i32le, nI_toInt (by omega)] at h
    omega
theorem zfill_grow {f : Nat → Int32} {a b : Nat} {v : Int32} (h : a ≤ b) : upd (zfill f a b v) b v = zfill f a (b + 1) v := by
  funext k
  unfold zfill
  rw [upd_at]
  by_cases h1 : k = b
  · subst h1
    rw [if_pos rfl, if_pos ⟨h, Nat.lt_succ_self _⟩]
  · rw [if_neg h1]
    by_cases h2 : a ≤ k ∧ k < b
    · rw [if_pos h2, if_pos (by omega)]
    · rw [if_neg h2, if_neg (by omega)]
theorem m_inI {k n : Nat} (h : k < n) (hn : n ≤ 60) : m_in (nI k) 0 (nI n - 1) := by
  obtain ⟨m, rfl⟩ : ∃ m, n = m + 1 := ⟨n - 1, by omega⟩
  rw [nI_pred]
  exact m_inN (by omega) (by omega)
theorem i8_twice (x : Int32) : x.toInt8.toInt32.toInt8.toInt32 = x.toInt8.toInt32 := (vp_nar_byte x.toInt8.toInt32).symm.trans (pk_vb x)
/-! ===== the reference: rows, texts ===== -/
theorem c_X6_row_bad (σ : zSt) (r n : Int32) (hr : r < 0 ∨ 6 ≤ r) : Mf 2 mi_X6_row [zr 5 0, zi r, zi n] σ (some (zi (-1))) σ := by
  refine Mt_of (ls := [some (zr 5 0), some (zi r), some (zi n), none]) (by decide +kernel) rfl rfl ?_
  refine y_iload_n (q := 1) dX6_row_0 rfl rfl rfl ?_
  refine y_cS (q := 4) (c_X6_isRow_0 _ _ (m_outN (n := 5) hr (by decide))) lk_X6_68 rfl rfl rfl rfl dX6_row_1 rfl ?_
  refine y_if_eq (q := 7) 13 dX6_row_4 rfl rfl (fun h4 => ?_) (fun h => absurd (by decide) h)
  refine y_iconst (q := 14) dX6_row_13 ic_m1 rfl ?_
  exact y_iret dX6_row_14 rfl (by exact ⟨rfl, rfl⟩)
theorem c_X6_row_big (σ : zSt) (j : Nat) (n : Int32) (hj : j < 6) (hn : ¬ n ≤ 40) : Mf 2 mi_X6_row [zr 5 0, zi (nI j), zi n] σ (some (zi (-1))) σ := by
  refine Mt_of (ls := [some (zr 5 0), some (zi (nI j)), some (zi n), none]) (by decide +kernel) rfl rfl ?_
  refine y_iload_n (q := 1) dX6_row_0 rfl rfl rfl ?_
  refine y_cS (q := 4) (c_X6_isRow_1 _ _ (m_inN (n := 5) (by omega) (by decide))) lk_X6_68 rfl rfl rfl rfl dX6_row_1 rfl ?_
  refine y_if_eq (q := 7) 13 dX6_row_4 rfl rfl (fun h => absurd h (by decide)) (fun h4 => ?_)
  refine y_iload_n (q := 8) dX6_row_7 rfl rfl rfl ?_
  refine y_bipush (q := 10) dX6_row_8 bp_40 rfl ?_
  refine y_icmp_le (q := 13) 15 dX6_row_10 rfl rfl (fun h10 => ?_) (fun h10 => ?_)
  · exact absurd h10 hn
  · refine y_iconst (q := 14) dX6_row_13 ic_m1 rfl ?_
    exact y_iret dX6_row_14 rfl (by exact ⟨rfl, rfl⟩)
theorem c_X6_row_neg (σ : zSt) (j : Nat) (n : Int32) (hj : j < 6) (hn : n ≤ 40) (hm : ¬ 0 ≤ n) : Mf 2 mi_X6_row [zr 5 0, zi (nI j), zi n] σ (some (zi (-3))) (m_fnd σ 5) := by
  refine Mt_of (ls := [some (zr 5 0), some (zi (nI j)), some (zi n), none]) (by decide +kernel) rfl rfl ?_
  refine y_iload_n (q := 1) dX6_row_0 rfl rfl rfl ?_
  refine y_cS (q := 4) (c_X6_isRow_1 _ _ (m_inN (n := 5) (by omega) (by decide))) lk_X6_68 rfl rfl rfl rfl dX6_row_1 rfl ?_
  refine y_if_eq (q := 7) 13 dX6_row_4 rfl rfl (fun h => absurd h (by decide)) (fun h4 => ?_)
  refine y_iload_n (q := 8) dX6_row_7 rfl rfl rfl ?_
  refine y_bipush (q := 10) dX6_row_8 bp_40 rfl ?_
  refine y_icmp_le (q := 13) 15 dX6_row_10 rfl rfl (fun h10 => ?_) (fun h10 => ?_)
  · refine y_iload_n (q := 16) dX6_row_15 rfl rfl rfl ?_
    refine y_if_ge (q := 19) 25 dX6_row_16 rfl rfl (fun h16 => ?_) (fun h16 => ?_)
    · exact absurd h16 hm
    · refine y_aload_n (q := 20) dX6_row_19 rfl rfl rfl ?_
      refine y_iconst (q := 21) dX6_row_20 ic_5 rfl ?_
      refine y_cV (q := 24) (c_X6_find _ 5 (by decide)) lk_X6_72 zok5 (by decide) rfl rfl rfl rfl rfl dX6_row_21 rfl ?_
      exact y_iret dX6_row_24 rfl (by exact ⟨rfl, rfl⟩)
  · exact absurd hn h10
theorem lp_X6_row {Q : zQ} (σ : zSt) (j : Nat) (n : Int32) (hj : j < 6) (hE : zY mi_X6_row 2 Q 58 [some (zr 5 0), some (zi (nI j)), some (zi n), some (zi (nI (40)))] [] (sA σ 23 (zfill (fA σ 23) (40 * j) (40 * j + (40)) 0))) : ∀ (m i : Nat) (x3 : Int32) (τ : zSt), i + m = 40 → x3 = nI i → τ = sA σ 23 (zfill (fA σ 23) (40 * j) (40 * j + i) 0) → zY mi_X6_row 2 Q 34 [some (zr 5 0), some (zi (nI j)), some (zi n), some (zi x3)] [] τ := by
  intro m
  induction m with
  | zero =>
    intro i x3 τ hi e_x3 e_τ
    obtain rfl : i = 40 := by omega
    subst e_x3
    subst e_τ
    refine y_iload_n (q := 35) dX6_row_34 rfl rfl rfl ?_
    refine y_bipush (q := 37) dX6_row_35 bp_40 rfl ?_
    refine y_icmp_ge (q := 40) 58 dX6_row_37 rfl rfl (fun h37 => ?_) (fun h37 => ?_)
    · exact hE
    · exact absurd (nI_le (a := 40) (b := 40) (Nat.le_refl _) (by omega)) h37
  | succ m ih =>
    intro i x3 τ hi e_x3 e_τ
    refine y_iload_n (q := 35) dX6_row_34 rfl rfl rfl ?_
    refine y_bipush (q := 37) dX6_row_35 bp_40 rfl ?_
    refine y_icmp_ge (q := 40) 58 dX6_row_37 rfl rfl (fun h37 => ?_) (fun h37 => ?_)
    · exact absurd h37 (by rw [e_x3]; exact nI_ge (b := 40) (by omega) (by omega))
    · refine y_aload_n (q := 41) dX6_row_40 rfl rfl rfl ?_
      refine y_get (q := 44) fk_X6_20 zok5 (gv_5_6 _ _) dX6_row_41 rfl ?_
      refine y_bipush (q := 46) dX6_row_44 bp_40 rfl ?_
      refine y_iload_n (q := 47) dX6_row_46 rfl rfl rfl ?_
      refine y_imul (q := 48) dX6_row_47 rfl ?_
      refine y_iload_n (q := 49) dX6_row_48 rfl rfl rfl ?_
      refine y_iadd (q := 50) dX6_row_49 rfl ?_
      refine y_iconst (q := 51) dX6_row_50 ic_0 rfl ?_
      refine y_iast (q := 52) (by first | decide | assumption | omega) (by rw [e_x3, ix40]; exact zvinN (n := 240) (by omega) (by decide)) dX6_row_51 rfl ?_
      refine y_iinc_3 (q := 55) dX6_row_52 rfl ic_1 rfl rfl ?_
      refine y_goto 34 dX6_row_55 rfl ?_
      exact ih (i + 1) _ _ (by omega) (by first | rw [e_x3, nI_1] | rw [nI_1]) (by rw [e_τ, e_x3, ix40, nI_clamp (by omega), fA_same, sA_sA, zfill_grow (by omega)]; rfl)
theorem c_X6_row_ok (σ : zSt) (j N : Nat) (hj : j < 6) (hN : N ≤ 40) : Mf 2 mi_X6_row [zr 5 0, zi (nI j), zi (nI N)] σ (some (zi (nI N))) (sA (sA σ 22 (upd (fA σ 22) j (nI N))) 23 (zfill (fA σ 23) (40 * j) (40 * j + 40) 0)) := by
  refine Mt_of (ls := [some (zr 5 0), some (zi (nI j)), some (zi (nI N)), none]) (by decide +kernel) rfl rfl ?_
  refine y_iload_n (q := 1) dX6_row_0 rfl rfl rfl ?_
  refine y_cS (q := 4) (c_X6_isRow_1 _ _ (m_inN (n := 5) (by omega) (by decide))) lk_X6_68 rfl rfl rfl rfl dX6_row_1 rfl ?_
  refine y_if_eq (q := 7) 13 dX6_row_4 rfl rfl (fun h => absurd h (by decide)) (fun h4 => ?_)
  refine y_iload_n (q := 8) dX6_row_7 rfl rfl rfl ?_
  refine y_bipush (q := 10) dX6_row_8 bp_40 rfl ?_
  refine y_icmp_le (q := 13) 15 dX6_row_10 rfl rfl (fun h10 => ?_) (fun h10 => ?_)
  · refine y_iload_n (q := 16) dX6_row_15 rfl rfl rfl ?_
    refine y_if_ge (q := 19) 25 dX6_row_16 rfl rfl (fun h16 => ?_) (fun h16 => ?_)
    · refine y_aload_n (q := 26) dX6_row_25 rfl rfl rfl ?_
      refine y_get (q := 29) fk_X6_17 zok5 (gv_5_5 _ _) dX6_row_26 rfl ?_
      refine y_iload_n (q := 30) dX6_row_29 rfl rfl rfl ?_
      refine y_iload_n (q := 31) dX6_row_30 rfl rfl rfl ?_
      refine y_iast (q := 32) (by first | decide | assumption | omega) (zvinN (n := 6) (by omega) (by decide)) dX6_row_31 rfl ?_
      refine y_iconst (q := 33) dX6_row_32 ic_0 rfl ?_
      refine y_istore_n3 (q := 34) dX6_row_33 rfl rfl rfl ?_
      rw [nI_clamp (by omega)]
      refine lp_X6_row (sA σ 22 (upd (fA σ 22) j (nI N))) j (nI N) hj ?_ 40 0 _ _ (by omega) rfl (by rw [Nat.add_zero, zfill_end, sA_self])
      refine y_iload_n (q := 59) dX6_row_58 rfl rfl rfl ?_
      exact y_iret dX6_row_59 rfl (by exact ⟨rfl, by rw [fA_ne _ _ (by decide)]⟩)
    · exact absurd (nI_pos' (by omega)) h16
  · exact absurd (nI_le (b := 40) hN (by decide)) h10
theorem c_X6_text_bad (σ : zSt) (r n : Int32) (hr : r < 0 ∨ 4 ≤ r) : Mf 2 mi_X6_text [zr 5 0, zi r, zi n] σ (some (zi (-1))) σ := by
  refine Mt_of (ls := [some (zr 5 0), some (zi r), some (zi n), none]) (by decide +kernel) rfl rfl ?_
  refine y_iload_n (q := 1) dX6_text_0 rfl rfl rfl ?_
  refine y_cS (q := 4) (c_X6_isText_0 _ _ (m_outN (n := 3) hr (by decide))) lk_X6_79 rfl rfl rfl rfl dX6_text_1 rfl ?_
  refine y_if_eq (q := 7) 13 dX6_text_4 rfl rfl (fun h4 => ?_) (fun h => absurd (by decide) h)
  refine y_iconst (q := 14) dX6_text_13 ic_m1 rfl ?_
  exact y_iret dX6_text_14 rfl (by exact ⟨rfl, rfl⟩)
theorem c_X6_text_big (σ : zSt) (j : Nat) (n : Int32) (hj : j < 4) (hn : ¬ n ≤ 60) : Mf 2 mi_X6_text [zr 5 0, zi (nI j), zi n] σ (some (zi (-1))) σ := by
  refine Mt_of (ls := [some (zr 5 0), some (zi (nI j)), some (zi n), none]) (by decide +kernel) rfl rfl ?_
  refine y_iload_n (q := 1) dX6_text_0 rfl rfl rfl ?_
  refine y_cS (q := 4) (c_X6_isText_1 _ _ (m_inN (n := 3) (by omega) (by decide))) lk_X6_79 rfl rfl rfl rfl dX6_text_1 rfl ?_
  refine y_if_eq (q := 7) 13 dX6_text_4 rfl rfl (fun h => absurd h (by decide)) (fun h4 => ?_)
  refine y_iload_n (q := 8) dX6_text_7 rfl rfl rfl ?_
  refine y_bipush (q := 10) dX6_text_8 bp_60 rfl ?_
  refine y_icmp_le (q := 13) 15 dX6_text_10 rfl rfl (fun h10 => ?_) (fun h10 => ?_)
  · exact absurd h10 hn
  · refine y_iconst (q := 14) dX6_text_13 ic_m1 rfl ?_
    exact y_iret dX6_text_14 rfl (by exact ⟨rfl, rfl⟩)
theorem c_X6_text_neg (σ : zSt) (j : Nat) (n : Int32) (hj : j < 4) (hn : n ≤ 60) (hm : ¬ 0 ≤ n) : Mf 2 mi_X6_text [zr 5 0, zi (nI j), zi n] σ (some (zi (-3))) (m_fnd σ 5) := by
  refine Mt_of (ls := [some (zr 5 0), some (zi (nI j)), some (zi n), none]) (by decide +kernel) rfl rfl ?_
  refine y_iload_n (q := 1) dX6_text_0 rfl rfl rfl ?_
  refine y_cS (q := 4) (c_X6_isText_1 _ _ (m_inN (n := 3) (by omega) (by decide))) lk_X6_79 rfl rfl rfl rfl dX6_text_1 rfl ?_
  refine y_if_eq (q := 7) 13 dX6_text_4 rfl rfl (fun h => absurd h (by decide)) (fun h4 => ?_)
  refine y_iload_n (q := 8) dX6_text_7 rfl rfl rfl ?_
  refine y_bipush (q := 10) dX6_text_8 bp_60 rfl ?_
  refine y_icmp_le (q := 13) 15 dX6_text_10 rfl rfl (fun h10 => ?_) (fun h10 => ?_)
  · refine y_iload_n (q := 16) dX6_text_15 rfl rfl rfl ?_
    refine y_if_ge (q := 19) 25 dX6_text_16 rfl rfl (fun h16 => ?_) (fun h16 => ?_)
    · exact absurd h16 hm
    · refine y_aload_n (q := 20) dX6_text_19 rfl rfl rfl ?_
      refine y_iconst (q := 21) dX6_text_20 ic_5 rfl ?_
      refine y_cV (q := 24) (c_X6_find _ 5 (by decide)) lk_X6_72 zok5 (by decide) rfl rfl rfl rfl rfl dX6_text_21 rfl ?_
      exact y_iret dX6_text_24 rfl (by exact ⟨rfl, rfl⟩)
  · exact absurd hn h10
theorem lp_X6_text {Q : zQ} (σ : zSt) (j : Nat) (n : Int32) (hj : j < 4) (hE : zY mi_X6_text 2 Q 59 [some (zr 5 0), some (zi (nI j)), some (zi n), some (zi (nI (60)))] [] (sA σ 33 (zfill (fA σ 33) (60 * j) (60 * j + (60)) 32))) : ∀ (m i : Nat) (x3 : Int32) (τ : zSt), i + m = 60 → x3 = nI i → τ = sA σ 33 (zfill (fA σ 33) (60 * j) (60 * j + i) 32) → zY mi_X6_text 2 Q 34 [some (zr 5 0), some (zi (nI j)), some (zi n), some (zi x3)] [] τ := by
  intro m
  induction m with
  | zero =>
    intro i x3 τ hi e_x3 e_τ
    obtain rfl : i = 60 := by omega
    subst e_x3
    subst e_τ
    refine y_iload_n (q := 35) dX6_text_34 rfl rfl rfl ?_
    refine y_bipush (q := 37) dX6_text_35 bp_60 rfl ?_
    refine y_icmp_ge (q := 40) 59 dX6_text_37 rfl rfl (fun h37 => ?_) (fun h37 => ?_)
    · exact hE
    · exact absurd (nI_le (a := 60) (b := 60) (Nat.le_refl _) (by omega)) h37
  | succ m ih =>
    intro i x3 τ hi e_x3 e_τ
    refine y_iload_n (q := 35) dX6_text_34 rfl rfl rfl ?_
    refine y_bipush (q := 37) dX6_text_35 bp_60 rfl ?_
    refine y_icmp_ge (q := 40) 59 dX6_text_37 rfl rfl (fun h37 => ?_) (fun h37 => ?_)
    · exact absurd h37 (by rw [e_x3]; exact nI_ge (b := 60) (by omega) (by omega))
    · refine y_aload_n (q := 41) dX6_text_40 rfl rfl rfl ?_
      refine y_get (q := 44) fk_X6_26 zok5 (gv_5_8 _ _) dX6_text_41 rfl ?_
      refine y_bipush (q := 46) dX6_text_44 bp_60 rfl ?_
      refine y_iload_n (q := 47) dX6_text_46 rfl rfl rfl ?_
      refine y_imul (q := 48) dX6_text_47 rfl ?_
      refine y_iload_n (q := 49) dX6_text_48 rfl rfl rfl ?_
      refine y_iadd (q := 50) dX6_text_49 rfl ?_
      refine y_bipush (q := 52) dX6_text_50 bp_32 rfl ?_
      refine y_bast (q := 53) (by rw [e_x3, ix60]; exact zvinN (n := 240) (by omega) (by decide)) dX6_text_52 rfl ?_
      refine y_iinc_3 (q := 56) dX6_text_53 rfl ic_1 rfl rfl ?_
      refine y_goto 34 dX6_text_56 rfl ?_
      exact ih (i + 1) _ _ (by omega) (by first | rw [e_x3, nI_1] | rw [nI_1]) (by rw [e_τ, e_x3, ix60, nI_clamp (by omega), fA_same, sA_sA, show (32 : Int32).toInt8.toInt32 = 32 from by decide, zfill_grow (by omega)]; rfl)
theorem c_X6_text_ok (σ : zSt) (j N : Nat) (hj : j < 4) (hN : N ≤ 60) : Mf 2 mi_X6_text [zr 5 0, zi (nI j), zi (nI N)] σ (some (zi (nI N))) (sA (sA σ 24 (upd (fA σ 24) j (nI N))) 33 (zfill (fA σ 33) (60 * j) (60 * j + 60) 32)) := by
  refine Mt_of (ls := [some (zr 5 0), some (zi (nI j)), some (zi (nI N)), none]) (by decide +kernel) rfl rfl ?_
  refine y_iload_n (q := 1) dX6_text_0 rfl rfl rfl ?_
  refine y_cS (q := 4) (c_X6_isText_1 _ _ (m_inN (n := 3) (by omega) (by decide))) lk_X6_79 rfl rfl rfl rfl dX6_text_1 rfl ?_
  refine y_if_eq (q := 7) 13 dX6_text_4 rfl rfl (fun h => absurd h (by decide)) (fun h4 => ?_)
  refine y_iload_n (q := 8) dX6_text_7 rfl rfl rfl ?_
  refine y_bipush (q := 10) dX6_text_8 bp_60 rfl ?_
  refine y_icmp_le (q := 13) 15 dX6_text_10 rfl rfl (fun h10 => ?_) (fun h10 => ?_)
  · refine y_iload_n (q := 16) dX6_text_15 rfl rfl rfl ?_
    refine y_if_ge (q := 19) 25 dX6_text_16 rfl rfl (fun h16 => ?_) (fun h16 => ?_)
    · refine y_aload_n (q := 26) dX6_text_25 rfl rfl rfl ?_
      refine y_get (q := 29) fk_X6_23 zok5 (gv_5_7 _ _) dX6_text_26 rfl ?_
      refine y_iload_n (q := 30) dX6_text_29 rfl rfl rfl ?_
      refine y_iload_n (q := 31) dX6_text_30 rfl rfl rfl ?_
      refine y_iast (q := 32) (by first | decide | assumption | omega) (zvinN (n := 4) (by omega) (by decide)) dX6_text_31 rfl ?_
      refine y_iconst (q := 33) dX6_text_32 ic_0 rfl ?_
      refine y_istore_n3 (q := 34) dX6_text_33 rfl rfl rfl ?_
      rw [nI_clamp (by omega)]
      refine lp_X6_text (sA σ 24 (upd (fA σ 24) j (nI N))) j (nI N) hj ?_ 60 0 _ _ (by omega) rfl (by rw [Nat.add_zero, zfill_end, sA_self])
      refine y_iload_n (q := 60) dX6_text_59 rfl rfl rfl ?_
      exact y_iret dX6_text_60 rfl (by exact ⟨rfl, by rw [fA_ne _ _ (by decide)]⟩)
    · exact absurd (nI_pos' (by omega)) h16
  · exact absurd (nI_le (b := 60) hN (by decide)) h10
theorem c_X6_lay_bad (σ : zSt) (r : Int32) (i : Int32) (v : Int32) (hr : r < 0 ∨ 6 ≤ r) : Mf 2 mi_X6_lay [zr 5 0, zi r, zi i, zi v] σ (some (zi (-1))) σ := by
  refine Mt_of (ls := [some (zr 5 0), some (zi r), some (zi i), some (zi v), none]) (by decide +kernel) rfl rfl ?_
  refine y_iload_n (q := 1) dX6_lay_0 rfl rfl rfl ?_
  refine y_cS (q := 4) (c_X6_isRow_0 _ _ (m_outN (n := 5) hr (by decide))) lk_X6_68 rfl rfl rfl rfl dX6_lay_1 rfl ?_
  refine y_if_ne (q := 7) 9 dX6_lay_4 rfl rfl (fun h => absurd h (by decide)) (fun h4 => ?_)
  refine y_iconst (q := 8) dX6_lay_7 ic_m1 rfl ?_
  exact y_iret dX6_lay_8 rfl (by exact ⟨rfl, rfl⟩)
theorem c_X6_lay_mis (σ : zSt) (j : Nat) (i : Int32) (v : Int32) (hj : j < 6) (hw : fA σ 22 j = -1) : Mf 2 mi_X6_lay [zr 5 0, zi (nI j), zi i, zi v] σ (some (zi (-3))) (m_fnd σ 1) := by
  refine Mt_of (ls := [some (zr 5 0), some (zi (nI j)), some (zi i), some (zi v), none]) (by decide +kernel) rfl rfl ?_
  refine y_iload_n (q := 1) dX6_lay_0 rfl rfl rfl ?_
  refine y_cS (q := 4) (c_X6_isRow_1 _ _ (m_inN (n := 5) (by omega) (by decide))) lk_X6_68 rfl rfl rfl rfl dX6_lay_1 rfl ?_
  refine y_if_ne (q := 7) 9 dX6_lay_4 rfl rfl (fun h4 => ?_) (fun h => absurd h (by decide))
  refine y_aload_n (q := 10) dX6_lay_9 rfl rfl rfl ?_
  refine y_get (q := 13) fk_X6_17 zok5 (gv_5_5 _ _) dX6_lay_10 rfl ?_
  refine y_iload_n (q := 14) dX6_lay_13 rfl rfl rfl ?_
  refine y_iald (q := 15) (by first | decide | assumption | omega) (zvinN (n := 6) (by omega) (by decide)) dX6_lay_14 rfl ?_
  rw [nI_clamp (by omega), hw]
  refine y_if_ge (q := 18) 24 dX6_lay_15 rfl rfl (fun h15 => ?_) (fun h15 => ?_)
  · exact absurd h15 (by decide)
  · refine y_aload_n (q := 19) dX6_lay_18 rfl rfl rfl ?_
    refine y_iconst (q := 20) dX6_lay_19 ic_1 rfl ?_
    refine y_cV (q := 23) (c_X6_find _ 1 (by decide)) lk_X6_72 zok5 (by decide) rfl rfl rfl rfl rfl dX6_lay_20 rfl ?_
    exact y_iret dX6_lay_23 rfl (by exact ⟨rfl, rfl⟩)
theorem c_X6_lay_bey (σ : zSt) (j n : Nat) (i : Int32) (v : Int32) (hj : j < 6) (hw : fA σ 22 j = nI n) (hn : n ≤ 60) (hi : ¬ m_in i 0 (nI n - 1)) : Mf 2 mi_X6_lay [zr 5 0, zi (nI j), zi i, zi v] σ (some (zi (-3))) (m_fnd σ 2) := by
  refine Mt_of (ls := [some (zr 5 0), some (zi (nI j)), some (zi i), some (zi v), none]) (by decide +kernel) rfl rfl ?_
  refine y_iload_n (q := 1) dX6_lay_0 rfl rfl rfl ?_
  refine y_cS (q := 4) (c_X6_isRow_1 _ _ (m_inN (n := 5) (by omega) (by decide))) lk_X6_68 rfl rfl rfl rfl dX6_lay_1 rfl ?_
  refine y_if_ne (q := 7) 9 dX6_lay_4 rfl rfl (fun h4 => ?_) (fun h => absurd h (by decide))
  refine y_aload_n (q := 10) dX6_lay_9 rfl rfl rfl ?_
  refine y_get (q := 13) fk_X6_17 zok5 (gv_5_5 _ _) dX6_lay_10 rfl ?_
  refine y_iload_n (q := 14) dX6_lay_13 rfl rfl rfl ?_
  refine y_iald (q := 15) (by first | decide | assumption | omega) (zvinN (n := 6) (by omega) (by decide)) dX6_lay_14 rfl ?_
  rw [nI_clamp (by omega), hw]
  refine y_if_ge (q := 18) 24 dX6_lay_15 rfl rfl (fun h15 => ?_) (fun h15 => ?_)
  · refine y_iload_n (q := 25) dX6_lay_24 rfl rfl rfl ?_
    refine y_iconst (q := 26) dX6_lay_25 ic_0 rfl ?_
    refine y_aload_n (q := 27) dX6_lay_26 rfl rfl rfl ?_
    refine y_get (q := 30) fk_X6_17 zok5 (gv_5_5 _ _) dX6_lay_27 rfl ?_
    refine y_iload_n (q := 31) dX6_lay_30 rfl rfl rfl ?_
    refine y_iald (q := 32) (by first | decide | assumption | omega) (zvinN (n := 6) (by omega) (by decide)) dX6_lay_31 rfl ?_
    rw [nI_clamp (by omega), hw]
    refine y_iconst (q := 33) dX6_lay_32 ic_1 rfl ?_
    refine y_isub (q := 34) dX6_lay_33 rfl ?_
    refine y_cS (q := 37) (c_X6_in_0 _ _ _ _ hi) lk_X6_64 rfl rfl rfl rfl dX6_lay_34 rfl ?_
    refine y_if_ne (q := 40) 46 dX6_lay_37 rfl rfl (fun h => absurd h (by decide)) (fun h37 => ?_)
    refine y_aload_n (q := 41) dX6_lay_40 rfl rfl rfl ?_
    refine y_iconst (q := 42) dX6_lay_41 ic_2 rfl ?_
    refine y_cV (q := 45) (c_X6_find _ 2 (by decide)) lk_X6_72 zok5 (by decide) rfl rfl rfl rfl rfl dX6_lay_42 rfl ?_
    exact y_iret dX6_lay_45 rfl (by exact ⟨rfl, rfl⟩)
  · exact absurd (nI_pos' (by omega)) h15
theorem c_X6_lay_ok (σ : zSt) (j n k : Nat) (v : Int32) (hj : j < 6) (hw : fA σ 22 j = nI n) (hn : n ≤ 40) (hk : k < n) : Mf 2 mi_X6_lay [zr 5 0, zi (nI j), zi (nI k), zi v] σ (some (zi 1)) (sI (sA σ 23 (upd (fA σ 23) (40 * j + k) v)) 5 0 2 (fA σ 23 (40 * j + k))) := by
  refine Mt_of (ls := [some (zr 5 0), some (zi (nI j)), some (zi (nI k)), some (zi v), none]) (by decide +kernel) rfl rfl ?_
  refine y_iload_n (q := 1) dX6_lay_0 rfl rfl rfl ?_
  refine y_cS (q := 4) (c_X6_isRow_1 _ _ (m_inN (n := 5) (by omega) (by decide))) lk_X6_68 rfl rfl rfl rfl dX6_lay_1 rfl ?_
  refine y_if_ne (q := 7) 9 dX6_lay_4 rfl rfl (fun h4 => ?_) (fun h => absurd h (by decide))
  refine y_aload_n (q := 10) dX6_lay_9 rfl rfl rfl ?_
  refine y_get (q := 13) fk_X6_17 zok5 (gv_5_5 _ _) dX6_lay_10 rfl ?_
  refine y_iload_n (q := 14) dX6_lay_13 rfl rfl rfl ?_
  refine y_iald (q := 15) (by first | decide | assumption | omega) (zvinN (n := 6) (by omega) (by decide)) dX6_lay_14 rfl ?_
  rw [nI_clamp (by omega), hw]
  refine y_if_ge (q := 18) 24 dX6_lay_15 rfl rfl (fun h15 => ?_) (fun h15 => ?_)
  · refine y_iload_n (q := 25) dX6_lay_24 rfl rfl rfl ?_
    refine y_iconst (q := 26) dX6_lay_25 ic_0 rfl ?_
    refine y_aload_n (q := 27) dX6_lay_26 rfl rfl rfl ?_
    refine y_get (q := 30) fk_X6_17 zok5 (gv_5_5 _ _) dX6_lay_27 rfl ?_
    refine y_iload_n (q := 31) dX6_lay_30 rfl rfl rfl ?_
    refine y_iald (q := 32) (by first | decide | assumption | omega) (zvinN (n := 6) (by omega) (by decide)) dX6_lay_31 rfl ?_
    rw [nI_clamp (by omega), hw]
    refine y_iconst (q := 33) dX6_lay_32 ic_1 rfl ?_
    refine y_isub (q := 34) dX6_lay_33 rfl ?_
    refine y_cS (q := 37) (c_X6_in_1 _ _ _ _ (m_inI hk (by omega))) lk_X6_64 rfl rfl rfl rfl dX6_lay_34 rfl ?_
    refine y_if_ne (q := 40) 46 dX6_lay_37 rfl rfl (fun h37 => ?_) (fun h => absurd h (by decide))
    refine y_aload_n (q := 47) dX6_lay_46 rfl rfl rfl ?_
    refine y_get (q := 50) fk_X6_20 zok5 (gv_5_6 _ _) dX6_lay_47 rfl ?_
    refine y_bipush (q := 52) dX6_lay_50 bp_40 rfl ?_
    refine y_iload_n (q := 53) dX6_lay_52 rfl rfl rfl ?_
    refine y_imul (q := 54) dX6_lay_53 rfl ?_
    refine y_iload_n (q := 55) dX6_lay_54 rfl rfl rfl ?_
    refine y_iadd (q := 56) dX6_lay_55 rfl ?_
    refine y_iald (q := 57) (by first | decide | assumption | omega) (by rw [ix40]; exact zvinN (n := 240) (by omega) (by decide)) dX6_lay_56 rfl ?_
    refine y_istore_4 (q := 59) dX6_lay_57 rfl rfl rfl ?_
    refine y_aload_n (q := 60) dX6_lay_59 rfl rfl rfl ?_
    refine y_get (q := 63) fk_X6_20 zok5 (gv_5_6 _ _) dX6_lay_60 rfl ?_
    refine y_bipush (q := 65) dX6_lay_63 bp_40 rfl ?_
    refine y_iload_n (q := 66) dX6_lay_65 rfl rfl rfl ?_
    refine y_imul (q := 67) dX6_lay_66 rfl ?_
    refine y_iload_n (q := 68) dX6_lay_67 rfl rfl rfl ?_
    refine y_iadd (q := 69) dX6_lay_68 rfl ?_
    refine y_iload_n (q := 70) dX6_lay_69 rfl rfl rfl ?_
    refine y_iast (q := 71) (by first | decide | assumption | omega) (by rw [ix40]; exact zvinN (n := 240) (by omega) (by decide)) dX6_lay_70 rfl ?_
    refine y_aload_n (q := 72) dX6_lay_71 rfl rfl rfl ?_
    refine y_iload (q := 74) dX6_lay_72 rfl rfl ?_
    refine y_cV (q := 77) (c_X6_told _ _) lk_X6_76 zok5 (by decide) rfl rfl rfl rfl rfl dX6_lay_74 rfl ?_
    exact y_iret dX6_lay_77 rfl (by exact ⟨rfl, by rw [ix40, nI_clamp (by omega)]⟩)
  · exact absurd (nI_pos' (by omega)) h15
theorem c_X6_at_bad (σ : zSt) (r : Int32) (i : Int32) (hr : r < 0 ∨ 6 ≤ r) : Mf 2 mi_X6_at [zr 5 0, zi r, zi i] σ (some (zi (-1))) σ := by
  refine Mt_of (ls := [some (zr 5 0), some (zi r), some (zi i)]) (by decide +kernel) rfl rfl ?_
  refine y_iload_n (q := 1) dX6_at_0 rfl rfl rfl ?_
  refine y_cS (q := 4) (c_X6_isRow_0 _ _ (m_outN (n := 5) hr (by decide))) lk_X6_68 rfl rfl rfl rfl dX6_at_1 rfl ?_
  refine y_if_ne (q := 7) 9 dX6_at_4 rfl rfl (fun h => absurd h (by decide)) (fun h4 => ?_)
  refine y_iconst (q := 8) dX6_at_7 ic_m1 rfl ?_
  exact y_iret dX6_at_8 rfl (by exact ⟨rfl, rfl⟩)
theorem c_X6_at_mis (σ : zSt) (j : Nat) (i : Int32) (hj : j < 6) (hw : fA σ 22 j = -1) : Mf 2 mi_X6_at [zr 5 0, zi (nI j), zi i] σ (some (zi (-3))) (m_fnd σ 1) := by
  refine Mt_of (ls := [some (zr 5 0), some (zi (nI j)), some (zi i)]) (by decide +kernel) rfl rfl ?_
  refine y_iload_n (q := 1) dX6_at_0 rfl rfl rfl ?_
  refine y_cS (q := 4) (c_X6_isRow_1 _ _ (m_inN (n := 5) (by omega) (by decide))) lk_X6_68 rfl rfl rfl rfl dX6_at_1 rfl ?_
  refine y_if_ne (q := 7) 9 dX6_at_4 rfl rfl (fun h4 => ?_) (fun h => absurd h (by decide))
  refine y_aload_n (q := 10) dX6_at_9 rfl rfl rfl ?_
  refine y_get (q := 13) fk_X6_17 zok5 (gv_5_5 _ _) dX6_at_10 rfl ?_
  refine y_iload_n (q := 14) dX6_at_13 rfl rfl rfl ?_
  refine y_iald (q := 15) (by first | decide | assumption | omega) (zvinN (n := 6) (by omega) (by decide)) dX6_at_14 rfl ?_
  rw [nI_clamp (by omega), hw]
  refine y_if_ge (q := 18) 24 dX6_at_15 rfl rfl (fun h15 => ?_) (fun h15 => ?_)
  · exact absurd h15 (by decide)
  · refine y_aload_n (q := 19) dX6_at_18 rfl rfl rfl ?_
    refine y_iconst (q := 20) dX6_at_19 ic_1 rfl ?_
    refine y_cV (q := 23) (c_X6_find _ 1 (by decide)) lk_X6_72 zok5 (by decide) rfl rfl rfl rfl rfl dX6_at_20 rfl ?_
    exact y_iret dX6_at_23 rfl (by exact ⟨rfl, rfl⟩)
theorem c_X6_at_bey (σ : zSt) (j n : Nat) (i : Int32) (hj : j < 6) (hw : fA σ 22 j = nI n) (hn : n ≤ 60) (hi : ¬ m_in i 0 (nI n - 1)) : Mf 2 mi_X6_at [zr 5 0, zi (nI j), zi i] σ (some (zi (-3))) (m_fnd σ 2) := by
  refine Mt_of (ls := [some (zr 5 0), some (zi (nI j)), some (zi i)]) (by decide +kernel) rfl rfl ?_
  refine y_iload_n (q := 1) dX6_at_0 rfl rfl rfl ?_
  refine y_cS (q := 4) (c_X6_isRow_1 _ _ (m_inN (n := 5) (by omega) (by decide))) lk_X6_68 rfl rfl rfl rfl dX6_at_1 rfl ?_
  refine y_if_ne (q := 7) 9 dX6_at_4 rfl rfl (fun h4 => ?_) (fun h => absurd h (by decide))
  refine y_aload_n (q := 10) dX6_at_9 rfl rfl rfl ?_
  refine y_get (q := 13) fk_X6_17 zok5 (gv_5_5 _ _) dX6_at_10 rfl ?_
  refine y_iload_n (q := 14) dX6_at_13 rfl rfl rfl ?_
  refine y_iald (q := 15) (by first | decide | assumption | omega) (zvinN (n := 6) (by omega) (by decide)) dX6_at_14 rfl ?_
  rw [nI_clamp (by omega), hw]
  refine y_if_ge (q := 18) 24 dX6_at_15 rfl rfl (fun h15 => ?_) (fun h15 => ?_)
  · refine y_iload_n (q := 25) dX6_at_24 rfl rfl rfl ?_
    refine y_iconst (q := 26) dX6_at_25 ic_0 rfl ?_
    refine y_aload_n (q := 27) dX6_at_26 rfl rfl rfl ?_
    refine y_get (q := 30) fk_X6_17 zok5 (gv_5_5 _ _) dX6_at_27 rfl ?_
    refine y_iload_n (q := 31) dX6_at_30 rfl rfl rfl ?_
    refine y_iald (q := 32) (by first | decide | assumption | omega) (zvinN (n := 6) (by omega) (by decide)) dX6_at_31 rfl ?_
    rw [nI_clamp (by omega), hw]
    refine y_iconst (q := 33) dX6_at_32 ic_1 rfl ?_
    refine y_isub (q := 34) dX6_at_33 rfl ?_
    refine y_cS (q := 37) (c_X6_in_0 _ _ _ _ hi) lk_X6_64 rfl rfl rfl rfl dX6_at_34 rfl ?_
    refine y_if_eq (q := 40) 58 dX6_at_37 rfl rfl (fun h37 => ?_) (fun h => absurd (by decide) h)
    refine y_aload_n (q := 59) dX6_at_58 rfl rfl rfl ?_
    refine y_iconst (q := 60) dX6_at_59 ic_2 rfl ?_
    refine y_cV (q := 63) (c_X6_find _ 2 (by decide)) lk_X6_72 zok5 (by decide) rfl rfl rfl rfl rfl dX6_at_60 rfl ?_
    exact y_iret dX6_at_63 rfl (by exact ⟨rfl, rfl⟩)
  · exact absurd (nI_pos' (by omega)) h15
theorem c_X6_at_ok (σ : zSt) (j n k : Nat) (hj : j < 6) (hw : fA σ 22 j = nI n) (hn : n ≤ 40) (hk : k < n) : Mf 2 mi_X6_at [zr 5 0, zi (nI j), zi (nI k)] σ (some (zi 1)) (sI σ 5 0 2 (fA σ 23 (40 * j + k))) := by
  refine Mt_of (ls := [some (zr 5 0), some (zi (nI j)), some (zi (nI k))]) (by decide +kernel) rfl rfl ?_
  refine y_iload_n (q := 1) dX6_at_0 rfl rfl rfl ?_
  refine y_cS (q := 4) (c_X6_isRow_1 _ _ (m_inN (n := 5) (by omega) (by decide))) lk_X6_68 rfl rfl rfl rfl dX6_at_1 rfl ?_
  refine y_if_ne (q := 7) 9 dX6_at_4 rfl rfl (fun h4 => ?_) (fun h => absurd h (by decide))
  refine y_aload_n (q := 10) dX6_at_9 rfl rfl rfl ?_
  refine y_get (q := 13) fk_X6_17 zok5 (gv_5_5 _ _) dX6_at_10 rfl ?_
  refine y_iload_n (q := 14) dX6_at_13 rfl rfl rfl ?_
  refine y_iald (q := 15) (by first | decide | assumption | omega) (zvinN (n := 6) (by omega) (by decide)) dX6_at_14 rfl ?_
  rw [nI_clamp (by omega), hw]
  refine y_if_ge (q := 18) 24 dX6_at_15 rfl rfl (fun h15 => ?_) (fun h15 => ?_)
  · refine y_iload_n (q := 25) dX6_at_24 rfl rfl rfl ?_
    refine y_iconst (q := 26) dX6_at_25 ic_0 rfl ?_
    refine y_aload_n (q := 27) dX6_at_26 rfl rfl rfl ?_
    refine y_get (q := 30) fk_X6_17 zok5 (gv_5_5 _ _) dX6_at_27 rfl ?_
    refine y_iload_n (q := 31) dX6_at_30 rfl rfl rfl ?_
    refine y_iald (q := 32) (by first | decide | assumption | omega) (zvinN (n := 6) (by omega) (by decide)) dX6_at_31 rfl ?_
    rw [nI_clamp (by omega), hw]
    refine y_iconst (q := 33) dX6_at_32 ic_1 rfl ?_
    refine y_isub (q := 34) dX6_at_33 rfl ?_
    refine y_cS (q := 37) (c_X6_in_1 _ _ _ _ (m_inI hk (by omega))) lk_X6_64 rfl rfl rfl rfl dX6_at_34 rfl ?_
    refine y_if_eq (q := 40) 58 dX6_at_37 rfl rfl (fun h => absurd h (by decide)) (fun h37 => ?_)
    refine y_aload_n (q := 41) dX6_at_40 rfl rfl rfl ?_
    refine y_aload_n (q := 42) dX6_at_41 rfl rfl rfl ?_
    refine y_get (q := 45) fk_X6_20 zok5 (gv_5_6 _ _) dX6_at_42 rfl ?_
    refine y_bipush (q := 47) dX6_at_45 bp_40 rfl ?_
    refine y_iload_n (q := 48) dX6_at_47 rfl rfl rfl ?_
    refine y_imul (q := 49) dX6_at_48 rfl ?_
    refine y_iload_n (q := 50) dX6_at_49 rfl rfl rfl ?_
    refine y_iadd (q := 51) dX6_at_50 rfl ?_
    refine y_iald (q := 52) (by first | decide | assumption | omega) (by rw [ix40]; exact zvinN (n := 240) (by omega) (by decide)) dX6_at_51 rfl ?_
    refine y_cV (q := 55) (c_X6_told _ _) lk_X6_76 zok5 (by decide) rfl rfl rfl rfl rfl dX6_at_52 rfl ?_
    refine y_goto 63 dX6_at_55 rfl ?_
    exact y_iret dX6_at_63 rfl (by exact ⟨rfl, by rw [ix40, nI_clamp (by omega)]⟩)
  · exact absurd (nI_pos' (by omega)) h15
theorem c_X6_put_bad (σ : zSt) (r : Int32) (i : Int32) (v : Int32) (hr : r < 0 ∨ 4 ≤ r) : Mf 2 mi_X6_put [zr 5 0, zi r, zi i, zi v] σ (some (zi (-1))) σ := by
  refine Mt_of (ls := [some (zr 5 0), some (zi r), some (zi i), some (zi v), none]) (by decide +kernel) rfl rfl ?_
  refine y_iload_n (q := 1) dX6_put_0 rfl rfl rfl ?_
  refine y_cS (q := 4) (c_X6_isText_0 _ _ (m_outN (n := 3) hr (by decide))) lk_X6_79 rfl rfl rfl rfl dX6_put_1 rfl ?_
  refine y_if_ne (q := 7) 9 dX6_put_4 rfl rfl (fun h => absurd h (by decide)) (fun h4 => ?_)
  refine y_iconst (q := 8) dX6_put_7 ic_m1 rfl ?_
  exact y_iret dX6_put_8 rfl (by exact ⟨rfl, rfl⟩)
theorem c_X6_put_mis (σ : zSt) (j : Nat) (i : Int32) (v : Int32) (hj : j < 4) (hw : fA σ 24 j = -1) : Mf 2 mi_X6_put [zr 5 0, zi (nI j), zi i, zi v] σ (some (zi (-3))) (m_fnd σ 1) := by
  refine Mt_of (ls := [some (zr 5 0), some (zi (nI j)), some (zi i), some (zi v), none]) (by decide +kernel) rfl rfl ?_
  refine y_iload_n (q := 1) dX6_put_0 rfl rfl rfl ?_
  refine y_cS (q := 4) (c_X6_isText_1 _ _ (m_inN (n := 3) (by omega) (by decide))) lk_X6_79 rfl rfl rfl rfl dX6_put_1 rfl ?_
  refine y_if_ne (q := 7) 9 dX6_put_4 rfl rfl (fun h4 => ?_) (fun h => absurd h (by decide))
  refine y_aload_n (q := 10) dX6_put_9 rfl rfl rfl ?_
  refine y_get (q := 13) fk_X6_23 zok5 (gv_5_7 _ _) dX6_put_10 rfl ?_
  refine y_iload_n (q := 14) dX6_put_13 rfl rfl rfl ?_
  refine y_iald (q := 15) (by first | decide | assumption | omega) (zvinN (n := 4) (by omega) (by decide)) dX6_put_14 rfl ?_
  rw [nI_clamp (by omega), hw]
  refine y_if_ge (q := 18) 24 dX6_put_15 rfl rfl (fun h15 => ?_) (fun h15 => ?_)
  · exact absurd h15 (by decide)
  · refine y_aload_n (q := 19) dX6_put_18 rfl rfl rfl ?_
    refine y_iconst (q := 20) dX6_put_19 ic_1 rfl ?_
    refine y_cV (q := 23) (c_X6_find _ 1 (by decide)) lk_X6_72 zok5 (by decide) rfl rfl rfl rfl rfl dX6_put_20 rfl ?_
    exact y_iret dX6_put_23 rfl (by exact ⟨rfl, rfl⟩)
theorem c_X6_put_bey (σ : zSt) (j n : Nat) (i : Int32) (v : Int32) (hj : j < 4) (hw : fA σ 24 j = nI n) (hn : n ≤ 60) (hi : ¬ m_in i 0 (nI n - 1)) : Mf 2 mi_X6_put [zr 5 0, zi (nI j), zi i, zi v] σ (some (zi (-3))) (m_fnd σ 2) := by
  refine Mt_of (ls := [some (zr 5 0), some (zi (nI j)), some (zi i), some (zi v), none]) (by decide +kernel) rfl rfl ?_
  refine y_iload_n (q := 1) dX6_put_0 rfl rfl rfl ?_
  refine y_cS (q := 4) (c_X6_isText_1 _ _ (m_inN (n := 3) (by omega) (by decide))) lk_X6_79 rfl rfl rfl rfl dX6_put_1 rfl ?_
  refine y_if_ne (q := 7) 9 dX6_put_4 rfl rfl (fun h4 => ?_) (fun h => absurd h (by decide))
  refine y_aload_n (q := 10) dX6_put_9 rfl rfl rfl ?_
  refine y_get (q := 13) fk_X6_23 zok5 (gv_5_7 _ _) dX6_put_10 rfl ?_
  refine y_iload_n (q := 14) dX6_put_13 rfl rfl rfl ?_
  refine y_iald (q := 15) (by first | decide | assumption | omega) (zvinN (n := 4) (by omega) (by decide)) dX6_put_14 rfl ?_
  rw [nI_clamp (by omega), hw]
  refine y_if_ge (q := 18) 24 dX6_put_15 rfl rfl (fun h15 => ?_) (fun h15 => ?_)
  · refine y_iload_n (q := 25) dX6_put_24 rfl rfl rfl ?_
    refine y_iconst (q := 26) dX6_put_25 ic_0 rfl ?_
    refine y_aload_n (q := 27) dX6_put_26 rfl rfl rfl ?_
    refine y_get (q := 30) fk_X6_23 zok5 (gv_5_7 _ _) dX6_put_27 rfl ?_
    refine y_iload_n (q := 31) dX6_put_30 rfl rfl rfl ?_
    refine y_iald (q := 32) (by first | decide | assumption | omega) (zvinN (n := 4) (by omega) (by decide)) dX6_put_31 rfl ?_
    rw [nI_clamp (by omega), hw]
    refine y_iconst (q := 33) dX6_put_32 ic_1 rfl ?_
    refine y_isub (q := 34) dX6_put_33 rfl ?_
    refine y_cS (q := 37) (c_X6_in_0 _ _ _ _ hi) lk_X6_64 rfl rfl rfl rfl dX6_put_34 rfl ?_
    refine y_if_ne (q := 40) 46 dX6_put_37 rfl rfl (fun h => absurd h (by decide)) (fun h37 => ?_)
    refine y_aload_n (q := 41) dX6_put_40 rfl rfl rfl ?_
    refine y_iconst (q := 42) dX6_put_41 ic_2 rfl ?_
    refine y_cV (q := 45) (c_X6_find _ 2 (by decide)) lk_X6_72 zok5 (by decide) rfl rfl rfl rfl rfl dX6_put_42 rfl ?_
    exact y_iret dX6_put_45 rfl (by exact ⟨rfl, rfl⟩)
  · exact absurd (nI_pos' (by omega)) h15
theorem c_X6_put_ok (σ : zSt) (j n k : Nat) (v : Int32) (hj : j < 4) (hw : fA σ 24 j = nI n) (hn : n ≤ 60) (hk : k < n) : Mf 2 mi_X6_put [zr 5 0, zi (nI j), zi (nI k), zi v] σ (some (zi (fA σ 33 (60 * j + k) + 1000))) (sA σ 33 (upd (fA σ 33) (60 * j + k) v.toInt8.toInt32)) := by
  refine Mt_of (ls := [some (zr 5 0), some (zi (nI j)), some (zi (nI k)), some (zi v), none]) (by decide +kernel) rfl rfl ?_
  refine y_iload_n (q := 1) dX6_put_0 rfl rfl rfl ?_
  refine y_cS (q := 4) (c_X6_isText_1 _ _ (m_inN (n := 3) (by omega) (by decide))) lk_X6_79 rfl rfl rfl rfl dX6_put_1 rfl ?_
  refine y_if_ne (q := 7) 9 dX6_put_4 rfl rfl (fun h4 => ?_) (fun h => absurd h (by decide))
  refine y_aload_n (q := 10) dX6_put_9 rfl rfl rfl ?_
  refine y_get (q := 13) fk_X6_23 zok5 (gv_5_7 _ _) dX6_put_10 rfl ?_
  refine y_iload_n (q := 14) dX6_put_13 rfl rfl rfl ?_
  refine y_iald (q := 15) (by first | decide | assumption | omega) (zvinN (n := 4) (by omega) (by decide)) dX6_put_14 rfl ?_
  rw [nI_clamp (by omega), hw]
  refine y_if_ge (q := 18) 24 dX6_put_15 rfl rfl (fun h15 => ?_) (fun h15 => ?_)
  · refine y_iload_n (q := 25) dX6_put_24 rfl rfl rfl ?_
    refine y_iconst (q := 26) dX6_put_25 ic_0 rfl ?_
    refine y_aload_n (q := 27) dX6_put_26 rfl rfl rfl ?_
    refine y_get (q := 30) fk_X6_23 zok5 (gv_5_7 _ _) dX6_put_27 rfl ?_
    refine y_iload_n (q := 31) dX6_put_30 rfl rfl rfl ?_
    refine y_iald (q := 32) (by first | decide | assumption | omega) (zvinN (n := 4) (by omega) (by decide)) dX6_put_31 rfl ?_
    rw [nI_clamp (by omega), hw]
    refine y_iconst (q := 33) dX6_put_32 ic_1 rfl ?_
    refine y_isub (q := 34) dX6_put_33 rfl ?_
    refine y_cS (q := 37) (c_X6_in_1 _ _ _ _ (m_inI hk hn)) lk_X6_64 rfl rfl rfl rfl dX6_put_34 rfl ?_
    refine y_if_ne (q := 40) 46 dX6_put_37 rfl rfl (fun h37 => ?_) (fun h => absurd h (by decide))
    refine y_aload_n (q := 47) dX6_put_46 rfl rfl rfl ?_
    refine y_get (q := 50) fk_X6_26 zok5 (gv_5_8 _ _) dX6_put_47 rfl ?_
    refine y_bipush (q := 52) dX6_put_50 bp_60 rfl ?_
    refine y_iload_n (q := 53) dX6_put_52 rfl rfl rfl ?_
    refine y_imul (q := 54) dX6_put_53 rfl ?_
    refine y_iload_n (q := 55) dX6_put_54 rfl rfl rfl ?_
    refine y_iadd (q := 56) dX6_put_55 rfl ?_
    refine y_bald (q := 57) (by rw [ix60]; exact zvinN (n := 240) (by omega) (by decide)) dX6_put_56 rfl ?_
    refine y_istore_4 (q := 59) dX6_put_57 rfl rfl rfl ?_
    refine y_aload_n (q := 60) dX6_put_59 rfl rfl rfl ?_
    refine y_get (q := 63) fk_X6_26 zok5 (gv_5_8 _ _) dX6_put_60 rfl ?_
    refine y_bipush (q := 65) dX6_put_63 bp_60 rfl ?_
    refine y_iload_n (q := 66) dX6_put_65 rfl rfl rfl ?_
    refine y_imul (q := 67) dX6_put_66 rfl ?_
    refine y_iload_n (q := 68) dX6_put_67 rfl rfl rfl ?_
    refine y_iadd (q := 69) dX6_put_68 rfl ?_
    refine y_iload_n (q := 70) dX6_put_69 rfl rfl rfl ?_
    refine y_i2b (q := 71) dX6_put_70 rfl ?_
    refine y_bast (q := 72) (by rw [ix60]; exact zvinN (n := 240) (by omega) (by decide)) dX6_put_71 rfl ?_
    refine y_iload (q := 74) dX6_put_72 rfl rfl ?_
    refine y_sipush (q := 77) dX6_put_74 sp_1000 rfl ?_
    refine y_iadd (q := 78) dX6_put_77 rfl ?_
    exact y_iret dX6_put_78 rfl (by exact ⟨by rw [ix60, nI_clamp (by omega)], by rw [ix60, nI_clamp (by omega), i8_twice]⟩)
  · exact absurd (nI_pos' (by omega)) h15
theorem c_X6_tear_bad (σ : zSt) (r : Int32) (hr : r < 0 ∨ 6 ≤ r) : Mf 2 mi_X6_tear [zr 5 0, zi r] σ (some (zi (-1))) σ := by
  refine Mt_of (ls := [some (zr 5 0), some (zi r)]) (by decide +kernel) rfl rfl ?_
  refine y_iload_n (q := 1) dX6_tear_0 rfl rfl rfl ?_
  refine y_cS (q := 4) (c_X6_isRow_0 _ _ (m_outN (n := 5) hr (by decide))) lk_X6_68 rfl rfl rfl rfl dX6_tear_1 rfl ?_
  refine y_if_ne (q := 7) 9 dX6_tear_4 rfl rfl (fun h => absurd h (by decide)) (fun h4 => ?_)
  refine y_iconst (q := 8) dX6_tear_7 ic_m1 rfl ?_
  exact y_iret dX6_tear_8 rfl (by exact ⟨rfl, rfl⟩)
theorem c_X6_tear_mis (σ : zSt) (j : Nat) (hj : j < 6) (hw : fA σ 22 j = -1) : Mf 2 mi_X6_tear [zr 5 0, zi (nI j)] σ (some (zi (-3))) (m_fnd σ 1) := by
  refine Mt_of (ls := [some (zr 5 0), some (zi (nI j))]) (by decide +kernel) rfl rfl ?_
  refine y_iload_n (q := 1) dX6_tear_0 rfl rfl rfl ?_
  refine y_cS (q := 4) (c_X6_isRow_1 _ _ (m_inN (n := 5) (by omega) (by decide))) lk_X6_68 rfl rfl rfl rfl dX6_tear_1 rfl ?_
  refine y_if_ne (q := 7) 9 dX6_tear_4 rfl rfl (fun h4 => ?_) (fun h => absurd h (by decide))
  refine y_aload_n (q := 10) dX6_tear_9 rfl rfl rfl ?_
  refine y_get (q := 13) fk_X6_17 zok5 (gv_5_5 _ _) dX6_tear_10 rfl ?_
  refine y_iload_n (q := 14) dX6_tear_13 rfl rfl rfl ?_
  refine y_iald (q := 15) (by first | decide | assumption | omega) (zvinN (n := 6) (by omega) (by decide)) dX6_tear_14 rfl ?_
  rw [nI_clamp (by omega), hw]
  refine y_if_ge (q := 18) 24 dX6_tear_15 rfl rfl (fun h15 => ?_) (fun h15 => ?_)
  · exact absurd h15 (by decide)
  · refine y_aload_n (q := 19) dX6_tear_18 rfl rfl rfl ?_
    refine y_iconst (q := 20) dX6_tear_19 ic_1 rfl ?_
    refine y_cV (q := 23) (c_X6_find _ 1 (by decide)) lk_X6_72 zok5 (by decide) rfl rfl rfl rfl rfl dX6_tear_20 rfl ?_
    exact y_iret dX6_tear_23 rfl (by exact ⟨rfl, rfl⟩)
theorem c_X6_tear_ok (σ : zSt) (j n : Nat) (hj : j < 6) (hw : fA σ 22 j = nI n) (hn : n ≤ 40) : Mf 2 mi_X6_tear [zr 5 0, zi (nI j)] σ (some (zi 1)) (sA σ 22 (upd (fA σ 22) j (-1))) := by
  refine Mt_of (ls := [some (zr 5 0), some (zi (nI j))]) (by decide +kernel) rfl rfl ?_
  refine y_iload_n (q := 1) dX6_tear_0 rfl rfl rfl ?_
  refine y_cS (q := 4) (c_X6_isRow_1 _ _ (m_inN (n := 5) (by omega) (by decide))) lk_X6_68 rfl rfl rfl rfl dX6_tear_1 rfl ?_
  refine y_if_ne (q := 7) 9 dX6_tear_4 rfl rfl (fun h4 => ?_) (fun h => absurd h (by decide))
  refine y_aload_n (q := 10) dX6_tear_9 rfl rfl rfl ?_
  refine y_get (q := 13) fk_X6_17 zok5 (gv_5_5 _ _) dX6_tear_10 rfl ?_
  refine y_iload_n (q := 14) dX6_tear_13 rfl rfl rfl ?_
  refine y_iald (q := 15) (by first | decide | assumption | omega) (zvinN (n := 6) (by omega) (by decide)) dX6_tear_14 rfl ?_
  rw [nI_clamp (by omega), hw]
  refine y_if_ge (q := 18) 24 dX6_tear_15 rfl rfl (fun h15 => ?_) (fun h15 => ?_)
  · refine y_aload_n (q := 25) dX6_tear_24 rfl rfl rfl ?_
    refine y_get (q := 28) fk_X6_17 zok5 (gv_5_5 _ _) dX6_tear_25 rfl ?_
    refine y_iload_n (q := 29) dX6_tear_28 rfl rfl rfl ?_
    refine y_iconst (q := 30) dX6_tear_29 ic_m1 rfl ?_
    refine y_iast (q := 31) (by first | decide | assumption | omega) (zvinN (n := 6) (by omega) (by decide)) dX6_tear_30 rfl ?_
    refine y_iconst (q := 32) dX6_tear_31 ic_1 rfl ?_
    exact y_iret dX6_tear_32 rfl (by exact ⟨rfl, by rw [nI_clamp (by omega)]⟩)
  · exact absurd (nI_pos' (by omega)) h15
theorem c_X6_mean_bad (σ : zSt) (r : Int32) (hr : r < 0 ∨ 6 ≤ r) : Mf 2 mi_X6_mean [zr 5 0, zi r] σ (some (zi (-1))) σ := by
  refine Mt_of (ls := [some (zr 5 0), some (zi r), none, none, none]) (by decide +kernel) rfl rfl ?_
  refine y_iload_n (q := 1) dX6_mean_0 rfl rfl rfl ?_
  refine y_cS (q := 4) (c_X6_isRow_0 _ _ (m_outN (n := 5) hr (by decide))) lk_X6_68 rfl rfl rfl rfl dX6_mean_1 rfl ?_
  refine y_if_ne (q := 7) 9 dX6_mean_4 rfl rfl (fun h => absurd h (by decide)) (fun h4 => ?_)
  refine y_iconst (q := 8) dX6_mean_7 ic_m1 rfl ?_
  exact y_iret dX6_mean_8 rfl (by exact ⟨rfl, rfl⟩)
theorem c_X6_mean_mis (σ : zSt) (j : Nat) (hj : j < 6) (hw : fA σ 22 j = -1) : Mf 2 mi_X6_mean [zr 5 0, zi (nI j)] σ (some (zi (-3))) (m_fnd σ 1) := by
  refine Mt_of (ls := [some (zr 5 0), some (zi (nI j)), none, none, none]) (by decide +kernel) rfl rfl ?_
  refine y_iload_n (q := 1) dX6_mean_0 rfl rfl rfl ?_
  refine y_cS (q := 4) (c_X6_isRow_1 _ _ (m_inN (n := 5) (by omega) (by decide))) lk_X6_68 rfl rfl rfl rfl dX6_mean_1 rfl ?_
  refine y_if_ne (q := 7) 9 dX6_mean_4 rfl rfl (fun h4 => ?_) (fun h => absurd h (by decide))
  refine y_aload_n (q := 10) dX6_mean_9 rfl rfl rfl ?_
  refine y_get (q := 13) fk_X6_17 zok5 (gv_5_5 _ _) dX6_mean_10 rfl ?_
  refine y_iload_n (q := 14) dX6_mean_13 rfl rfl rfl ?_
  refine y_iald (q := 15) (by first | decide | assumption | omega) (zvinN (n := 6) (by omega) (by decide)) dX6_mean_14 rfl ?_
  rw [nI_clamp (by omega), hw]
  refine y_if_ge (q := 18) 24 dX6_mean_15 rfl rfl (fun h15 => ?_) (fun h15 => ?_)
  · exact absurd h15 (by decide)
  · refine y_aload_n (q := 19) dX6_mean_18 rfl rfl rfl ?_
    refine y_iconst (q := 20) dX6_mean_19 ic_1 rfl ?_
    refine y_cV (q := 23) (c_X6_find _ 1 (by decide)) lk_X6_72 zok5 (by decide) rfl rfl rfl rfl rfl dX6_mean_20 rfl ?_
    exact y_iret dX6_mean_23 rfl (by exact ⟨rfl, rfl⟩)
theorem c_X6_mean_nou (σ : zSt) (j : Nat) (hj : j < 6) (hw : fA σ 22 j = 0) : Mf 2 mi_X6_mean [zr 5 0, zi (nI j)] σ (some (zi (-3))) (m_fnd σ 4) := by
  refine Mt_of (ls := [some (zr 5 0), some (zi (nI j)), none, none, none]) (by decide +kernel) rfl rfl ?_
  refine y_iload_n (q := 1) dX6_mean_0 rfl rfl rfl ?_
  refine y_cS (q := 4) (c_X6_isRow_1 _ _ (m_inN (n := 5) (by omega) (by decide))) lk_X6_68 rfl rfl rfl rfl dX6_mean_1 rfl ?_
  refine y_if_ne (q := 7) 9 dX6_mean_4 rfl rfl (fun h4 => ?_) (fun h => absurd h (by decide))
  refine y_aload_n (q := 10) dX6_mean_9 rfl rfl rfl ?_
  refine y_get (q := 13) fk_X6_17 zok5 (gv_5_5 _ _) dX6_mean_10 rfl ?_
  refine y_iload_n (q := 14) dX6_mean_13 rfl rfl rfl ?_
  refine y_iald (q := 15) (by first | decide | assumption | omega) (zvinN (n := 6) (by omega) (by decide)) dX6_mean_14 rfl ?_
  rw [nI_clamp (by omega), hw]
  refine y_if_ge (q := 18) 24 dX6_mean_15 rfl rfl (fun h15 => ?_) (fun h15 => ?_)
  · refine y_aload_n (q := 25) dX6_mean_24 rfl rfl rfl ?_
    refine y_get (q := 28) fk_X6_17 zok5 (gv_5_5 _ _) dX6_mean_25 rfl ?_
    refine y_iload_n (q := 29) dX6_mean_28 rfl rfl rfl ?_
    refine y_iald (q := 30) (by first | decide | assumption | omega) (zvinN (n := 6) (by omega) (by decide)) dX6_mean_29 rfl ?_
    rw [nI_clamp (by omega), hw]
    refine y_if_ne (q := 33) 39 dX6_mean_30 rfl rfl (fun h30 => ?_) (fun h30 => ?_)
    · exact absurd rfl h30
    · refine y_aload_n (q := 34) dX6_mean_33 rfl rfl rfl ?_
      refine y_iconst (q := 35) dX6_mean_34 ic_4 rfl ?_
      refine y_cV (q := 38) (c_X6_find _ 4 (by decide)) lk_X6_72 zok5 (by decide) rfl rfl rfl rfl rfl dX6_mean_35 rfl ?_
      exact y_iret dX6_mean_38 rfl (by exact ⟨rfl, rfl⟩)
  · exact absurd (by decide) h15
theorem lp_X6_mean {Q : zQ} (σ : zSt) (j n : Nat) (hj : j < 6) (hw : fA σ 22 j = nI n) (hn : n ≤ 40) (hE : zY mi_X6_mean 2 Q 77 [some (zr 5 0), some (zi (nI j)), some (zl (r_lsum (fun k => fA σ 23 (40 * j + k)) (n))), none, some (zi (nI (n)))] [] σ) : ∀ (m i : Nat) (x2 : Int64) (x4 : Int32), i + m = n → x2 = r_lsum (fun k => fA σ 23 (40 * j + k)) i → x4 = nI i → zY mi_X6_mean 2 Q 44 [some (zr 5 0), some (zi (nI j)), some (zl x2), none, some (zi x4)] [] σ := by
  intro m
  induction m with
  | zero =>
    intro i x2 x4 hi e_x2 e_x4
    obtain rfl : i = n := by omega
    subst e_x2
    subst e_x4
    refine y_iload (q := 46) dX6_mean_44 rfl rfl ?_
    refine y_aload_n (q := 47) dX6_mean_46 rfl rfl rfl ?_
    refine y_get (q := 50) fk_X6_17 zok5 (gv_5_5 _ _) dX6_mean_47 rfl ?_
    refine y_iload_n (q := 51) dX6_mean_50 rfl rfl rfl ?_
    refine y_iald (q := 52) (by first | decide | assumption | omega) (zvinN (n := 6) (by omega) (by decide)) dX6_mean_51 rfl ?_
    rw [nI_clamp (by omega), hw]
    refine y_icmp_ge (q := 55) 77 dX6_mean_52 rfl rfl (fun h52 => ?_) (fun h52 => ?_)
    · exact hE
    · exact absurd (nI_le (Nat.le_refl _) (by omega)) h52
  | succ m ih =>
    intro i x2 x4 hi e_x2 e_x4
    refine y_iload (q := 46) dX6_mean_44 rfl rfl ?_
    refine y_aload_n (q := 47) dX6_mean_46 rfl rfl rfl ?_
    refine y_get (q := 50) fk_X6_17 zok5 (gv_5_5 _ _) dX6_mean_47 rfl ?_
    refine y_iload_n (q := 51) dX6_mean_50 rfl rfl rfl ?_
    refine y_iald (q := 52) (by first | decide | assumption | omega) (zvinN (n := 6) (by omega) (by decide)) dX6_mean_51 rfl ?_
    rw [nI_clamp (by omega), hw]
    refine y_icmp_ge (q := 55) 77 dX6_mean_52 rfl rfl (fun h52 => ?_) (fun h52 => ?_)
    · exact absurd h52 (by rw [e_x4]; exact nI_ge (b := n) (by omega) (by omega))
    · refine y_lload_n (q := 56) dX6_mean_55 rfl rfl rfl ?_
      refine y_aload_n (q := 57) dX6_mean_56 rfl rfl rfl ?_
      refine y_get (q := 60) fk_X6_20 zok5 (gv_5_6 _ _) dX6_mean_57 rfl ?_
      refine y_bipush (q := 62) dX6_mean_60 bp_40 rfl ?_
      refine y_iload_n (q := 63) dX6_mean_62 rfl rfl rfl ?_
      refine y_imul (q := 64) dX6_mean_63 rfl ?_
      refine y_iload (q := 66) dX6_mean_64 rfl rfl ?_
      refine y_iadd (q := 67) dX6_mean_66 rfl ?_
      refine y_iald (q := 68) (by first | decide | assumption | omega) (by rw [e_x4, ix40]; exact zvinN (n := 240) (by omega) (by decide)) dX6_mean_67 rfl ?_
      refine y_i2l (q := 69) dX6_mean_68 rfl ?_
      refine y_ladd (q := 70) dX6_mean_69 rfl ?_
      refine y_lstore_n2 (q := 71) dX6_mean_70 rfl rfl rfl ?_
      refine y_iinc_4 (q := 74) dX6_mean_71 rfl ic_1 rfl rfl ?_
      refine y_goto 44 dX6_mean_74 rfl ?_
      exact ih (i + 1) _ _ (by omega) (by rw [e_x2, e_x4, ix40, nI_clamp (by omega)]; rfl) (by first | rw [e_x4, nI_1] | rw [nI_1])
theorem c_X6_mean_ok (σ : zSt) (j n : Nat) (hj : j < 6) (hw : fA σ 22 j = nI n) (hn : n ≤ 40) (h0 : 0 < n) : Mf 2 mi_X6_mean [zr 5 0, zi (nI j)] σ (some (zi 1)) (sI σ 5 0 2 (r_lsum (fun k => fA σ 23 (40 * j + k)) n / (nI n).toInt64).toInt32) := by
  have hnn : ¬ (nI n).toInt64 = 0 := by
    rw [nI_l (by omega)]
    intro h
    have := (lN_eq (a := n) (b := 0) (by omega) (by omega)).mp h
    omega
  refine Mt_of (ls := [some (zr 5 0), some (zi (nI j)), none, none, none]) (by decide +kernel) rfl rfl ?_
  refine y_iload_n (q := 1) dX6_mean_0 rfl rfl rfl ?_
  refine y_cS (q := 4) (c_X6_isRow_1 _ _ (m_inN (n := 5) (by omega) (by decide))) lk_X6_68 rfl rfl rfl rfl dX6_mean_1 rfl ?_
  refine y_if_ne (q := 7) 9 dX6_mean_4 rfl rfl (fun h4 => ?_) (fun h => absurd h (by decide))
  refine y_aload_n (q := 10) dX6_mean_9 rfl rfl rfl ?_
  refine y_get (q := 13) fk_X6_17 zok5 (gv_5_5 _ _) dX6_mean_10 rfl ?_
  refine y_iload_n (q := 14) dX6_mean_13 rfl rfl rfl ?_
  refine y_iald (q := 15) (by first | decide | assumption | omega) (zvinN (n := 6) (by omega) (by decide)) dX6_mean_14 rfl ?_
  rw [nI_clamp (by omega), hw]
  refine y_if_ge (q := 18) 24 dX6_mean_15 rfl rfl (fun h15 => ?_) (fun h15 => ?_)
  · refine y_aload_n (q := 25) dX6_mean_24 rfl rfl rfl ?_
    refine y_get (q := 28) fk_X6_17 zok5 (gv_5_5 _ _) dX6_mean_25 rfl ?_
    refine y_iload_n (q := 29) dX6_mean_28 rfl rfl rfl ?_
    refine y_iald (q := 30) (by first | decide | assumption | omega) (zvinN (n := 6) (by omega) (by decide)) dX6_mean_29 rfl ?_
    rw [nI_clamp (by omega), hw]
    refine y_if_ne (q := 33) 39 dX6_mean_30 rfl rfl (fun h30 => ?_) (fun h30 => ?_)
    · refine y_lconst (q := 40) dX6_mean_39 lc_0 rfl ?_
      refine y_lstore_n2 (q := 41) dX6_mean_40 rfl rfl rfl ?_
      refine y_iconst (q := 42) dX6_mean_41 ic_0 rfl ?_
      refine y_istore_4 (q := 44) dX6_mean_42 rfl rfl rfl ?_
      refine lp_X6_mean σ j n hj hw hn ?_ n 0 _ _ (by omega) rfl rfl
      refine y_aload_n (q := 78) dX6_mean_77 rfl rfl rfl ?_
      refine y_lload_n (q := 79) dX6_mean_78 rfl rfl rfl ?_
      refine y_aload_n (q := 80) dX6_mean_79 rfl rfl rfl ?_
      refine y_get (q := 83) fk_X6_17 zok5 (gv_5_5 _ _) dX6_mean_80 rfl ?_
      refine y_iload_n (q := 84) dX6_mean_83 rfl rfl rfl ?_
      refine y_iald (q := 85) (by first | decide | assumption | omega) (zvinN (n := 6) (by omega) (by decide)) dX6_mean_84 rfl ?_
      rw [nI_clamp (by omega), hw]
      refine y_i2l (q := 86) dX6_mean_85 rfl ?_
      refine y_ldiv (q := 87) dX6_mean_86 hnn rfl ?_
      refine y_l2i (q := 88) dX6_mean_87 rfl ?_
      refine y_cV (q := 91) (c_X6_told _ _) lk_X6_76 zok5 (by decide) rfl rfl rfl rfl rfl dX6_mean_88 rfl ?_
      exact y_iret dX6_mean_91 rfl (by exact ⟨rfl, rfl⟩)
    · exact absurd h30 (nI_ne0 h0 (by omega))
  · exact absurd (nI_pos' (by omega)) h15
