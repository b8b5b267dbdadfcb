/-! ===== the reference: copy ===== -/
/-- part of an array from another, at places of its own -/
def m_cp (f g : Nat → Int32) (d s n : Nat) : Nat → Int32 := fun x => if d ≤ x ∧ x < d + n then g (s + (x - d)) else f x
theorem m_cp_0 (f g : Nat → Int32) (d s : Nat) : m_cp f g d s 0 = f := by
  funext x
  unfold m_cp
  rw [if_neg (by omega)]
theorem m_cp_up (f g : Nat → Int32) (d s i : Nat) : upd (m_cp f g d s i) (d + i) (g (s + i)) = m_cp f g d s (i + 1) := by
  funext x
  unfold m_cp
  rw [upd_at]
  by_cases h : x = d + i
  · rw [if_pos h, if_pos (by omega), h, Nat.add_sub_cancel_left]
  · rw [if_neg h]
    by_cases h2 : d ≤ x ∧ x < d + i
    · rw [if_pos h2, if_pos (by omega)]
    · rw [if_neg h2, if_neg (by omega)]
theorem ix40b (j i k : Nat) : (40 : Int32) * nI j + nI i + nI k = nI (40 * j + i + k) := by rw [ix40, nI_add]
theorem c_X6_copy_bad1 (σ : zSt) (r i t m n : Int32) (hr : r < 0 ∨ 6 ≤ r) : Mf 2 mi_X6_copy [zr 5 0, zi r, zi i, zi t, zi m, zi n] σ (some (zi (-1))) σ := by
  refine Mt_of (ls := [some (zr 5 0), some (zi r), some (zi i), some (zi t), some (zi m), some (zi n), none]) (by decide +kernel) rfl rfl ?_
  refine y_iload_n (q := 1) dX6_copy_0 rfl rfl rfl ?_
  refine y_cS (q := 4) (c_X6_isRow_0 _ _ (m_outN (n := 5) hr (by decide))) lk_X6_68 rfl rfl rfl rfl dX6_copy_1 rfl ?_
  refine y_if_eq (q := 7) 14 dX6_copy_4 rfl rfl (fun h4 => ?_) (fun h => absurd (by decide) h)
  refine y_iconst (q := 15) dX6_copy_14 ic_m1 rfl ?_
  exact y_iret dX6_copy_15 rfl (by exact ⟨rfl, rfl⟩)
theorem c_X6_copy_bad3 (σ : zSt) (j : Nat) (i t m n : Int32) (hj : j < 6) (hr : t < 0 ∨ 6 ≤ t) : Mf 2 mi_X6_copy [zr 5 0, zi (nI j), zi i, zi t, zi m, zi n] σ (some (zi (-1))) σ := by
  refine Mt_of (ls := [some (zr 5 0), some (zi (nI j)), some (zi i), some (zi t), some (zi m), some (zi n), none]) (by decide +kernel) rfl rfl ?_
  refine y_iload_n (q := 1) dX6_copy_0 rfl rfl rfl ?_
  refine y_cS (q := 4) (c_X6_isRow_1 _ _ (m_inN (n := 5) (by omega) (by decide))) lk_X6_68 rfl rfl rfl rfl dX6_copy_1 rfl ?_
  refine y_if_eq (q := 7) 14 dX6_copy_4 rfl rfl (fun h => absurd h (by decide)) (fun h4 => ?_)
  refine y_iload_n (q := 8) dX6_copy_7 rfl rfl rfl ?_
  refine y_cS (q := 11) (c_X6_isRow_0 _ _ (m_outN (n := 5) hr (by decide))) lk_X6_68 rfl rfl rfl rfl dX6_copy_8 rfl ?_
  refine y_if_ne (q := 14) 16 dX6_copy_11 rfl rfl (fun h => absurd h (by decide)) (fun h11 => ?_)
  refine y_iconst (q := 15) dX6_copy_14 ic_m1 rfl ?_
  exact y_iret dX6_copy_15 rfl (by exact ⟨rfl, rfl⟩)
theorem c_X6_copy_neg (σ : zSt) (j k : Nat) (i m n : Int32) (hj : j < 6) (hk : k < 6) (hn : ¬ 0 ≤ n) : Mf 2 mi_X6_copy [zr 5 0, zi (nI j), zi i, zi (nI k), zi m, zi n] σ (some (zi (-3))) (m_fnd σ 5) := by
  refine Mt_of (ls := [some (zr 5 0), some (zi (nI j)), some (zi i), some (zi (nI k)), some (zi m), some (zi n), none]) (by decide +kernel) rfl rfl ?_
  refine y_iload_n (q := 1) dX6_copy_0 rfl rfl rfl ?_
  refine y_cS (q := 4) (c_X6_isRow_1 _ _ (m_inN (n := 5) (by omega) (by decide))) lk_X6_68 rfl rfl rfl rfl dX6_copy_1 rfl ?_
  refine y_if_eq (q := 7) 14 dX6_copy_4 rfl rfl (fun h => absurd h (by decide)) (fun h4 => ?_)
  refine y_iload_n (q := 8) dX6_copy_7 rfl rfl rfl ?_
  refine y_cS (q := 11) (c_X6_isRow_1 _ _ (m_inN (n := 5) (by omega) (by decide))) lk_X6_68 rfl rfl rfl rfl dX6_copy_8 rfl ?_
  refine y_if_ne (q := 14) 16 dX6_copy_11 rfl rfl (fun h11 => ?_) (fun h => absurd h (by decide))
  refine y_iload (q := 18) dX6_copy_16 rfl rfl ?_
  refine y_if_ge (q := 21) 27 dX6_copy_18 rfl rfl (fun h18 => ?_) (fun h18 => ?_)
  · exact absurd h18 hn
  · refine y_aload_n (q := 22) dX6_copy_21 rfl rfl rfl ?_
    refine y_iconst (q := 23) dX6_copy_22 ic_5 rfl ?_
    refine y_cV (q := 26) (c_X6_find _ 5 (by decide)) lk_X6_72 zok5 (by decide) rfl rfl rfl rfl rfl dX6_copy_23 rfl ?_
    exact y_iret dX6_copy_26 rfl (by exact ⟨rfl, rfl⟩)
theorem c_X6_copy_mis (σ : zSt) (j k : Nat) (i m n : Int32) (hj : j < 6) (hk : k < 6) (hn : 0 ≤ n) (hm : fA σ 22 j < 0 ∨ fA σ 22 k < 0) : Mf 2 mi_X6_copy [zr 5 0, zi (nI j), zi i, zi (nI k), zi m, zi n] σ (some (zi (-3))) (m_fnd σ 1) := by
  refine Mt_of (ls := [some (zr 5 0), some (zi (nI j)), some (zi i), some (zi (nI k)), some (zi m), some (zi n), none]) (by decide +kernel) rfl rfl ?_
  refine y_iload_n (q := 1) dX6_copy_0 rfl rfl rfl ?_
  refine y_cS (q := 4) (c_X6_isRow_1 _ _ (m_inN (n := 5) (by omega) (by decide))) lk_X6_68 rfl rfl rfl rfl dX6_copy_1 rfl ?_
  refine y_if_eq (q := 7) 14 dX6_copy_4 rfl rfl (fun h => absurd h (by decide)) (fun h4 => ?_)
  refine y_iload_n (q := 8) dX6_copy_7 rfl rfl rfl ?_
  refine y_cS (q := 11) (c_X6_isRow_1 _ _ (m_inN (n := 5) (by omega) (by decide))) lk_X6_68 rfl rfl rfl rfl dX6_copy_8 rfl ?_
  refine y_if_ne (q := 14) 16 dX6_copy_11 rfl rfl (fun h11 => ?_) (fun h => absurd h (by decide))
  refine y_iload (q := 18) dX6_copy_16 rfl rfl ?_
  refine y_if_ge (q := 21) 27 dX6_copy_18 rfl rfl (fun h18 => ?_) (fun h18 => ?_)
  · refine y_aload_n (q := 28) dX6_copy_27 rfl rfl rfl ?_
    refine y_get (q := 31) fk_X6_17 zok5 (gv_5_5 _ _) dX6_copy_28 rfl ?_
    refine y_iload_n (q := 32) dX6_copy_31 rfl rfl rfl ?_
    refine y_iald (q := 33) (by first | decide | assumption | omega) (zvinN (n := 6) (by omega) (by decide)) dX6_copy_32 rfl ?_
    rw [nI_clamp (by omega)]
    refine y_if_lt (q := 36) 45 dX6_copy_33 rfl rfl (fun h33 => ?_) (fun h33 => ?_)
    · refine y_aload_n (q := 46) dX6_copy_45 rfl rfl rfl ?_
      refine y_iconst (q := 47) dX6_copy_46 ic_1 rfl ?_
      refine y_cV (q := 50) (c_X6_find _ 1 (by decide)) lk_X6_72 zok5 (by decide) rfl rfl rfl rfl rfl dX6_copy_47 rfl ?_
      exact y_iret dX6_copy_50 rfl (by exact ⟨rfl, rfl⟩)
    · refine y_aload_n (q := 37) dX6_copy_36 rfl rfl rfl ?_
      refine y_get (q := 40) fk_X6_17 zok5 (gv_5_5 _ _) dX6_copy_37 rfl ?_
      refine y_iload_n (q := 41) dX6_copy_40 rfl rfl rfl ?_
      refine y_iald (q := 42) (by first | decide | assumption | omega) (zvinN (n := 6) (by omega) (by decide)) dX6_copy_41 rfl ?_
      rw [nI_clamp (by omega)]
      refine y_if_ge (q := 45) 51 dX6_copy_42 rfl rfl (fun h42 => ?_) (fun h42 => ?_)
      · exact absurd hm (by rintro (h | h); exact h33 h; exact absurd h42 (Int32.not_le.mpr h))
      · refine y_aload_n (q := 46) dX6_copy_45 rfl rfl rfl ?_
        refine y_iconst (q := 47) dX6_copy_46 ic_1 rfl ?_
        refine y_cV (q := 50) (c_X6_find _ 1 (by decide)) lk_X6_72 zok5 (by decide) rfl rfl rfl rfl rfl dX6_copy_47 rfl ?_
        exact y_iret dX6_copy_50 rfl (by exact ⟨rfl, rfl⟩)
  · exact absurd hn h18
theorem c_X6_copy_bey (σ : zSt) (j k a b : Nat) (i m n : Int32) (hj : j < 6) (hk : k < 6) (hn : 0 ≤ n) (hw : fA σ 22 j = nI a) (hw2 : fA σ 22 k = nI b) (ha : a ≤ 40) (hb : b ≤ 40) (hx : i < 0 ∨ nI a - n < i ∨ m < 0 ∨ ¬ m ≤ nI b - n) : Mf 2 mi_X6_copy [zr 5 0, zi (nI j), zi i, zi (nI k), zi m, zi n] σ (some (zi (-3))) (m_fnd σ 2) := by
  refine Mt_of (ls := [some (zr 5 0), some (zi (nI j)), some (zi i), some (zi (nI k)), some (zi m), some (zi n), none]) (by decide +kernel) rfl rfl ?_
  refine y_iload_n (q := 1) dX6_copy_0 rfl rfl rfl ?_
  refine y_cS (q := 4) (c_X6_isRow_1 _ _ (m_inN (n := 5) (by omega) (by decide))) lk_X6_68 rfl rfl rfl rfl dX6_copy_1 rfl ?_
  refine y_if_eq (q := 7) 14 dX6_copy_4 rfl rfl (fun h => absurd h (by decide)) (fun h4 => ?_)
  refine y_iload_n (q := 8) dX6_copy_7 rfl rfl rfl ?_
  refine y_cS (q := 11) (c_X6_isRow_1 _ _ (m_inN (n := 5) (by omega) (by decide))) lk_X6_68 rfl rfl rfl rfl dX6_copy_8 rfl ?_
  refine y_if_ne (q := 14) 16 dX6_copy_11 rfl rfl (fun h11 => ?_) (fun h => absurd h (by decide))
  refine y_iload (q := 18) dX6_copy_16 rfl rfl ?_
  refine y_if_ge (q := 21) 27 dX6_copy_18 rfl rfl (fun h18 => ?_) (fun h18 => ?_)
  · refine y_aload_n (q := 28) dX6_copy_27 rfl rfl rfl ?_
    refine y_get (q := 31) fk_X6_17 zok5 (gv_5_5 _ _) dX6_copy_28 rfl ?_
    refine y_iload_n (q := 32) dX6_copy_31 rfl rfl rfl ?_
    refine y_iald (q := 33) (by first | decide | assumption | omega) (zvinN (n := 6) (by omega) (by decide)) dX6_copy_32 rfl ?_
    rw [nI_clamp (by omega), hw]
    refine y_if_lt (q := 36) 45 dX6_copy_33 rfl rfl (fun h33 => ?_) (fun h33 => ?_)
    · exact absurd h33 (nI_pos (by omega))
    · refine y_aload_n (q := 37) dX6_copy_36 rfl rfl rfl ?_
      refine y_get (q := 40) fk_X6_17 zok5 (gv_5_5 _ _) dX6_copy_37 rfl ?_
      refine y_iload_n (q := 41) dX6_copy_40 rfl rfl rfl ?_
      refine y_iald (q := 42) (by first | decide | assumption | omega) (zvinN (n := 6) (by omega) (by decide)) dX6_copy_41 rfl ?_
      rw [nI_clamp (by omega), hw2]
      refine y_if_ge (q := 45) 51 dX6_copy_42 rfl rfl (fun h42 => ?_) (fun h42 => ?_)
      · refine y_iload_n (q := 52) dX6_copy_51 rfl rfl rfl ?_
        refine y_if_lt (q := 55) 87 dX6_copy_52 rfl rfl (fun h52 => ?_) (fun h52 => ?_)
        · refine y_aload_n (q := 88) dX6_copy_87 rfl rfl rfl ?_
          refine y_iconst (q := 89) dX6_copy_88 ic_2 rfl ?_
          refine y_cV (q := 92) (c_X6_find _ 2 (by decide)) lk_X6_72 zok5 (by decide) rfl rfl rfl rfl rfl dX6_copy_89 rfl ?_
          exact y_iret dX6_copy_92 rfl (by exact ⟨rfl, rfl⟩)
        · refine y_iload_n (q := 56) dX6_copy_55 rfl rfl rfl ?_
          refine y_aload_n (q := 57) dX6_copy_56 rfl rfl rfl ?_
          refine y_get (q := 60) fk_X6_17 zok5 (gv_5_5 _ _) dX6_copy_57 rfl ?_
          refine y_iload_n (q := 61) dX6_copy_60 rfl rfl rfl ?_
          refine y_iald (q := 62) (by first | decide | assumption | omega) (zvinN (n := 6) (by omega) (by decide)) dX6_copy_61 rfl ?_
          rw [nI_clamp (by omega), hw]
          refine y_iload (q := 64) dX6_copy_62 rfl rfl ?_
          refine y_isub (q := 65) dX6_copy_64 rfl ?_
          refine y_icmp_gt (q := 68) 87 dX6_copy_65 rfl rfl (fun h65 => ?_) (fun h65 => ?_)
          · refine y_aload_n (q := 88) dX6_copy_87 rfl rfl rfl ?_
            refine y_iconst (q := 89) dX6_copy_88 ic_2 rfl ?_
            refine y_cV (q := 92) (c_X6_find _ 2 (by decide)) lk_X6_72 zok5 (by decide) rfl rfl rfl rfl rfl dX6_copy_89 rfl ?_
            exact y_iret dX6_copy_92 rfl (by exact ⟨rfl, rfl⟩)
          · refine y_iload (q := 70) dX6_copy_68 rfl rfl ?_
            refine y_if_lt (q := 73) 87 dX6_copy_70 rfl rfl (fun h70 => ?_) (fun h70 => ?_)
            · refine y_aload_n (q := 88) dX6_copy_87 rfl rfl rfl ?_
              refine y_iconst (q := 89) dX6_copy_88 ic_2 rfl ?_
              refine y_cV (q := 92) (c_X6_find _ 2 (by decide)) lk_X6_72 zok5 (by decide) rfl rfl rfl rfl rfl dX6_copy_89 rfl ?_
              exact y_iret dX6_copy_92 rfl (by exact ⟨rfl, rfl⟩)
            · refine y_iload (q := 75) dX6_copy_73 rfl rfl ?_
              refine y_aload_n (q := 76) dX6_copy_75 rfl rfl rfl ?_
              refine y_get (q := 79) fk_X6_17 zok5 (gv_5_5 _ _) dX6_copy_76 rfl ?_
              refine y_iload_n (q := 80) dX6_copy_79 rfl rfl rfl ?_
              refine y_iald (q := 81) (by first | decide | assumption | omega) (zvinN (n := 6) (by omega) (by decide)) dX6_copy_80 rfl ?_
              rw [nI_clamp (by omega), hw2]
              refine y_iload (q := 83) dX6_copy_81 rfl rfl ?_
              refine y_isub (q := 84) dX6_copy_83 rfl ?_
              refine y_icmp_le (q := 87) 93 dX6_copy_84 rfl rfl (fun h84 => ?_) (fun h84 => ?_)
              · exact absurd hx (by rintro (h | h | h | h); exact h52 h; exact h65 h; exact h70 h; exact h h84)
              · refine y_aload_n (q := 88) dX6_copy_87 rfl rfl rfl ?_
                refine y_iconst (q := 89) dX6_copy_88 ic_2 rfl ?_
                refine y_cV (q := 92) (c_X6_find _ 2 (by decide)) lk_X6_72 zok5 (by decide) rfl rfl rfl rfl rfl dX6_copy_89 rfl ?_
                exact y_iret dX6_copy_92 rfl (by exact ⟨rfl, rfl⟩)
      · exact absurd (nI_pos' (by omega)) h42
  · exact absurd hn h18
theorem lp_X6_copy1 {Q : zQ} (σ : zSt) (j k i0 m0 n : Nat) (hj : j < 6) (hk : k < 6) (hi0 : i0 + n ≤ 40) (hm : m0 + n ≤ 40) (hE : zY mi_X6_copy 2 Q 130 [some (zr 5 0), some (zi (nI j)), some (zi (nI i0)), some (zi (nI k)), some (zi (nI m0)), some (zi (nI n)), some (zi (nI (n)))] [] (sA σ 25 (m_cp (fA σ 25) (fA σ 23) 0 (40 * j + i0) (n)))) : ∀ (m i : Nat) (x6 : Int32) (τ : zSt), i + m = n → x6 = nI i → τ = sA σ 25 (m_cp (fA σ 25) (fA σ 23) 0 (40 * j + i0) i) → zY mi_X6_copy 2 Q 96 [some (zr 5 0), some (zi (nI j)), some (zi (nI i0)), some (zi (nI k)), some (zi (nI m0)), some (zi (nI n)), some (zi x6)] [] τ := by
  intro m
  induction m with
  | zero =>
    intro i x6 τ hi e_x6 e_τ
    obtain rfl : i = n := by omega
    subst e_x6
    subst e_τ
    refine y_iload (q := 98) dX6_copy_96 rfl rfl ?_
    refine y_iload (q := 100) dX6_copy_98 rfl rfl ?_
    refine y_icmp_ge (q := 103) 130 dX6_copy_100 rfl rfl (fun h100 => ?_) (fun h100 => ?_)
    · exact hE
    · exact absurd (nI_le (Nat.le_refl _) (by omega)) h100
  | succ m ih =>
    intro i x6 τ hi e_x6 e_τ
    refine y_iload (q := 98) dX6_copy_96 rfl rfl ?_
    refine y_iload (q := 100) dX6_copy_98 rfl rfl ?_
    refine y_icmp_ge (q := 103) 130 dX6_copy_100 rfl rfl (fun h100 => ?_) (fun h100 => ?_)
    · exact absurd h100 (by rw [e_x6]; exact nI_ge (b := n) (by omega) (by omega))
    · subst e_x6
      subst e_τ
      refine y_aload_n (q := 104) dX6_copy_103 rfl rfl rfl ?_
      refine y_get (q := 107) fk_X6_30 zok5 (gv_5_9 _ _) dX6_copy_104 rfl ?_
      refine y_iload (q := 109) dX6_copy_107 rfl rfl ?_
      refine y_aload_n (q := 110) dX6_copy_109 rfl rfl rfl ?_
      refine y_get (q := 113) fk_X6_20 zok5 (gv_5_6 _ _) dX6_copy_110 rfl ?_
      refine y_bipush (q := 115) dX6_copy_113 bp_40 rfl ?_
      refine y_iload_n (q := 116) dX6_copy_115 rfl rfl rfl ?_
      refine y_imul (q := 117) dX6_copy_116 rfl ?_
      refine y_iload_n (q := 118) dX6_copy_117 rfl rfl rfl ?_
      refine y_iadd (q := 119) dX6_copy_118 rfl ?_
      refine y_iload (q := 121) dX6_copy_119 rfl rfl ?_
      refine y_iadd (q := 122) dX6_copy_121 rfl ?_
      rw [ix40b]
      refine y_iald (q := 123) (by first | decide | assumption | omega) (zvinN (n := 240) (by omega) (by decide)) dX6_copy_122 rfl ?_
      rw [nI_clamp (by omega), fA_ne _ _ (by decide)]
      refine y_iast (q := 124) (by first | decide | assumption | omega) (zvinN (n := 40) (by omega) (by decide)) dX6_copy_123 rfl ?_
      rw [nI_clamp (by omega), fA_same, sA_sA]
      refine y_iinc_6 (q := 127) dX6_copy_124 rfl ic_1 rfl rfl ?_
      refine y_goto 96 dX6_copy_127 rfl ?_
      exact ih (i + 1) _ _ (by omega) (by rw [nI_1]) (by rw [← m_cp_up, Nat.zero_add])
theorem lp_X6_copy2 {Q : zQ} (σ : zSt) (j k i0 m0 n : Nat) (hj : j < 6) (hk : k < 6) (hi0 : i0 + n ≤ 40) (hm : m0 + n ≤ 40) (hE : zY mi_X6_copy 2 Q 168 [some (zr 5 0), some (zi (nI j)), some (zi (nI i0)), some (zi (nI k)), some (zi (nI m0)), some (zi (nI n)), some (zi (nI (n)))] [] (sA σ 23 (m_cp (fA σ 23) (fA σ 25) (40 * k + m0) 0 (n)))) : ∀ (m i : Nat) (x6 : Int32) (τ : zSt), i + m = n → x6 = nI i → τ = sA σ 23 (m_cp (fA σ 23) (fA σ 25) (40 * k + m0) 0 i) → zY mi_X6_copy 2 Q 133 [some (zr 5 0), some (zi (nI j)), some (zi (nI i0)), some (zi (nI k)), some (zi (nI m0)), some (zi (nI n)), some (zi x6)] [] τ := by
  intro m
  induction m with
  | zero =>
    intro i x6 τ hi e_x6 e_τ
    obtain rfl : i = n := by omega
    subst e_x6
    subst e_τ
    refine y_iload (q := 135) dX6_copy_133 rfl rfl ?_
    refine y_iload (q := 137) dX6_copy_135 rfl rfl ?_
    refine y_icmp_ge (q := 140) 168 dX6_copy_137 rfl rfl (fun h137 => ?_) (fun h137 => ?_)
    · exact hE
    · exact absurd (nI_le (Nat.le_refl _) (by omega)) h137
  | succ m ih =>
    intro i x6 τ hi e_x6 e_τ
    refine y_iload (q := 135) dX6_copy_133 rfl rfl ?_
    refine y_iload (q := 137) dX6_copy_135 rfl rfl ?_
    refine y_icmp_ge (q := 140) 168 dX6_copy_137 rfl rfl (fun h137 => ?_) (fun h137 => ?_)
    · exact absurd h137 (by rw [e_x6]; exact nI_ge (b := n) (by omega) (by omega))
    · subst e_x6
      subst e_τ
      refine y_aload_n (q := 141) dX6_copy_140 rfl rfl rfl ?_
      refine y_get (q := 144) fk_X6_20 zok5 (gv_5_6 _ _) dX6_copy_141 rfl ?_
      refine y_bipush (q := 146) dX6_copy_144 bp_40 rfl ?_
      refine y_iload_n (q := 147) dX6_copy_146 rfl rfl rfl ?_
      refine y_imul (q := 148) dX6_copy_147 rfl ?_
      refine y_iload (q := 150) dX6_copy_148 rfl rfl ?_
      refine y_iadd (q := 151) dX6_copy_150 rfl ?_
      refine y_iload (q := 153) dX6_copy_151 rfl rfl ?_
      refine y_iadd (q := 154) dX6_copy_153 rfl ?_
      rw [ix40b]
      refine y_aload_n (q := 155) dX6_copy_154 rfl rfl rfl ?_
      refine y_get (q := 158) fk_X6_30 zok5 (gv_5_9 _ _) dX6_copy_155 rfl ?_
      refine y_iload (q := 160) dX6_copy_158 rfl rfl ?_
      refine y_iald (q := 161) (by first | decide | assumption | omega) (zvinN (n := 40) (by omega) (by decide)) dX6_copy_160 rfl ?_
      rw [nI_clamp (by omega), fA_ne _ _ (by decide)]
      refine y_iast (q := 162) (by first | decide | assumption | omega) (zvinN (n := 240) (by omega) (by decide)) dX6_copy_161 rfl ?_
      rw [nI_clamp (by omega), fA_same, sA_sA]
      refine y_iinc_6 (q := 165) dX6_copy_162 rfl ic_1 rfl rfl ?_
      refine y_goto 133 dX6_copy_165 rfl ?_
      exact ih (i + 1) _ _ (by omega) (by rw [nI_1]) (by rw [← m_cp_up, Nat.zero_add])
def m_copy (σ : zSt) (j k i m n : Nat) : zSt := sA (sA σ 25 (m_cp (fA σ 25) (fA σ 23) 0 (40 * j + i) n)) 23 (m_cp (fA σ 23) (m_cp (fA σ 25) (fA σ 23) 0 (40 * j + i) n) (40 * k + m) 0 n)
theorem c_X6_copy_ok (σ : zSt) (j k i m n a b : Nat) (hj : j < 6) (hk : k < 6) (hi : i + n ≤ 40) (hm : m + n ≤ 40) (hw : fA σ 22 j = nI a) (hw2 : fA σ 22 k = nI b) (ha : a ≤ 40) (hb : b ≤ 40) (hia : i + n ≤ a) (hmb : m + n ≤ b) : Mf 2 mi_X6_copy [zr 5 0, zi (nI j), zi (nI i), zi (nI k), zi (nI m), zi (nI n)] σ (some (zi 1)) (m_copy σ j k i m n) := by
  refine Mt_of (ls := [some (zr 5 0), some (zi (nI j)), some (zi (nI i)), some (zi (nI k)), some (zi (nI m)), some (zi (nI n)), none]) (by decide +kernel) rfl rfl ?_
  refine y_iload_n (q := 1) dX6_copy_0 rfl rfl rfl ?_
  refine y_cS (q := 4) (c_X6_isRow_1 _ _ (m_inN (n := 5) (by omega) (by decide))) lk_X6_68 rfl rfl rfl rfl dX6_copy_1 rfl ?_
  refine y_if_eq (q := 7) 14 dX6_copy_4 rfl rfl (fun h => absurd h (by decide)) (fun h4 => ?_)
  refine y_iload_n (q := 8) dX6_copy_7 rfl rfl rfl ?_
  refine y_cS (q := 11) (c_X6_isRow_1 _ _ (m_inN (n := 5) (by omega) (by decide))) lk_X6_68 rfl rfl rfl rfl dX6_copy_8 rfl ?_
  refine y_if_ne (q := 14) 16 dX6_copy_11 rfl rfl (fun h11 => ?_) (fun h => absurd h (by decide))
  refine y_iload (q := 18) dX6_copy_16 rfl rfl ?_
  refine y_if_ge (q := 21) 27 dX6_copy_18 rfl rfl (fun h18 => ?_) (fun h18 => ?_)
  · refine y_aload_n (q := 28) dX6_copy_27 rfl rfl rfl ?_
    refine y_get (q := 31) fk_X6_17 zok5 (gv_5_5 _ _) dX6_copy_28 rfl ?_
    refine y_iload_n (q := 32) dX6_copy_31 rfl rfl rfl ?_
    refine y_iald (q := 33) (by first | decide | assumption | omega) (zvinN (n := 6) (by omega) (by decide)) dX6_copy_32 rfl ?_
    rw [nI_clamp (by omega), hw]
    refine y_if_lt (q := 36) 45 dX6_copy_33 rfl rfl (fun h33 => ?_) (fun h33 => ?_)
    · exact absurd h33 (nI_pos (by omega))
    · refine y_aload_n (q := 37) dX6_copy_36 rfl rfl rfl ?_
      refine y_get (q := 40) fk_X6_17 zok5 (gv_5_5 _ _) dX6_copy_37 rfl ?_
      refine y_iload_n (q := 41) dX6_copy_40 rfl rfl rfl ?_
      refine y_iald (q := 42) (by first | decide | assumption | omega) (zvinN (n := 6) (by omega) (by decide)) dX6_copy_41 rfl ?_
      rw [nI_clamp (by omega), hw2]
      refine y_if_ge (q := 45) 51 dX6_copy_42 rfl rfl (fun h42 => ?_) (fun h42 => ?_)
      · refine y_iload_n (q := 52) dX6_copy_51 rfl rfl rfl ?_
        refine y_if_lt (q := 55) 87 dX6_copy_52 rfl rfl (fun h52 => ?_) (fun h52 => ?_)
        · exact absurd h52 (nI_pos (by omega))
        · refine y_iload_n (q := 56) dX6_copy_55 rfl rfl rfl ?_
          refine y_aload_n (q := 57) dX6_copy_56 rfl rfl rfl ?_
          refine y_get (q := 60) fk_X6_17 zok5 (gv_5_5 _ _) dX6_copy_57 rfl ?_
          refine y_iload_n (q := 61) dX6_copy_60 rfl rfl rfl ?_
          refine y_iald (q := 62) (by first | decide | assumption | omega) (zvinN (n := 6) (by omega) (by decide)) dX6_copy_61 rfl ?_
          rw [nI_clamp (by omega), hw]
          refine y_iload (q := 64) dX6_copy_62 rfl rfl ?_
          refine y_isub (q := 65) dX6_copy_64 rfl ?_
          refine y_icmp_gt (q := 68) 87 dX6_copy_65 rfl rfl (fun h65 => ?_) (fun h65 => ?_)
          · exact absurd h65 (by rw [pk_sub (by omega)]; exact nI_nlt (by omega) (by omega))
          · refine y_iload (q := 70) dX6_copy_68 rfl rfl ?_
            refine y_if_lt (q := 73) 87 dX6_copy_70 rfl rfl (fun h70 => ?_) (fun h70 => ?_)
            · exact absurd h70 (nI_pos (by omega))
            · refine y_iload (q := 75) dX6_copy_73 rfl rfl ?_
              refine y_aload_n (q := 76) dX6_copy_75 rfl rfl rfl ?_
              refine y_get (q := 79) fk_X6_17 zok5 (gv_5_5 _ _) dX6_copy_76 rfl ?_
              refine y_iload_n (q := 80) dX6_copy_79 rfl rfl rfl ?_
              refine y_iald (q := 81) (by first | decide | assumption | omega) (zvinN (n := 6) (by omega) (by decide)) dX6_copy_80 rfl ?_
              rw [nI_clamp (by omega), hw2]
              refine y_iload (q := 83) dX6_copy_81 rfl rfl ?_
              refine y_isub (q := 84) dX6_copy_83 rfl ?_
              refine y_icmp_le (q := 87) 93 dX6_copy_84 rfl rfl (fun h84 => ?_) (fun h84 => ?_)
              · refine y_iconst (q := 94) dX6_copy_93 ic_0 rfl ?_
                refine y_istore_6 (q := 96) dX6_copy_94 rfl rfl rfl ?_
                refine lp_X6_copy1 σ j k i m n hj hk hi hm ?_ n 0 _ _ (by omega) rfl (by rw [m_cp_0, sA_self])
                refine y_iconst (q := 131) dX6_copy_130 ic_0 rfl ?_
                refine y_istore_6 (q := 133) dX6_copy_131 rfl rfl rfl ?_
                refine lp_X6_copy2 _ j k i m n hj hk hi hm ?_ n 0 _ _ (by omega) rfl (by rw [m_cp_0, sA_self])
                refine y_iconst (q := 169) dX6_copy_168 ic_1 rfl ?_
                exact y_iret dX6_copy_169 rfl (by exact ⟨rfl, by rw [fA_ne _ _ (by decide), fA_same]; rfl⟩)
              · exact absurd (by rw [pk_sub (by omega)]; exact nI_le (by omega) (by omega)) h84
      · exact absurd (nI_pos' (by omega)) h42
  · exact absurd (nI_pos' (by omega)) h18
/-! ===== the reference: reading ===== -/
def m_rd (t n : Nat) : Nat → Nat → Nat → zSt → Int32 × zSt
  | 0, _, _, σ => (0, σ)
  | fuel + 1, p, l, σ =>
    if n ≤ p then ((if l < 9 then nI p else -9), σ)
    else if fA σ 33 (60 * t + p) = 32 then m_rd t n fuel (p + 1) l σ
    else if x_kb (fA σ 33 (60 * t + p)) = -9 ∨ l = 9 then (nI p, σ)
    else if p + 1 = n ∨ ¬ m_in (fA σ 33 (60 * t + (p + 1)) - 48) 0 (m_steps (x_kb (fA σ 33 (60 * t + p))) - 1) then (nI (p + 1), σ)
    else m_rd t n fuel (p + 2) (l + 1) (sA (sA σ 26 (upd (fA σ 26) (9 + l) (x_kb (fA σ 33 (60 * t + p))))) 27 (upd (fA σ 27) (9 + l) (fA σ 33 (60 * t + (p + 1)) - 48)))
theorem nI9 (l : Nat) : (9 : Int32) + nI l = nI (9 + l) := nI_add 9 l
theorem ix60b (t p : Nat) : (60 : Int32) * nI t + nI p + 1 = nI (60 * t + (p + 1)) := by rw [ix60, nI_1]; rfl
theorem lp_X6_read {Q : zQ} (t n : Nat) (ht : t < 4) (hn : n ≤ 60) : ∀ (fuel p l : Nat) (σ : zSt) (a4 : Option zV), n + 1 ≤ fuel + p → p ≤ n → l ≤ 9 → fA σ 24 t = nI n → Q (some (zi (m_rd t n fuel p l σ).1)) (m_rd t n fuel p l σ).2 →
    zY mi_X6_read 2 Q 4 [some (zr 5 0), some (zi (nI t)), some (zi (nI l)), some (zi (nI p)), a4] [] σ := by
  intro fuel
  induction fuel with
  | zero =>
    intro p l σ a4 hf hp
    exact absurd hf (by omega)
  | succ fuel ih =>
    intro p l σ a4 hf hp hl hw hQ
    rw [m_rd] at hQ
    rcases Nat.lt_or_ge p n with hpn | hpn
    · rw [if_neg (by omega : ¬ n ≤ p)] at hQ
      refine y_iload_n (q := 5) dX6_read_4 rfl rfl rfl ?_
      refine y_aload_n (q := 6) dX6_read_5 rfl rfl rfl ?_
      refine y_get (q := 9) fk_X6_23 zok5 (gv_5_7 _ _) dX6_read_6 rfl ?_
      refine y_iload_n (q := 10) dX6_read_9 rfl rfl rfl ?_
      refine y_iald (q := 11) (by first | decide | assumption | omega) (zvinN (n := 4) (by omega) (by decide)) dX6_read_10 rfl ?_
      rw [nI_clamp (by omega), hw]
      refine y_icmp_ge (q := 14) 36 dX6_read_11 rfl rfl (fun h11 => ?_) (fun h11 => ?_)
      · exact absurd h11 (nI_ge hpn (by omega))
      · refine y_aload_n (q := 15) dX6_read_14 rfl rfl rfl ?_
        refine y_get (q := 18) fk_X6_26 zok5 (gv_5_8 _ _) dX6_read_15 rfl ?_
        refine y_bipush (q := 20) dX6_read_18 bp_60 rfl ?_
        refine y_iload_n (q := 21) dX6_read_20 rfl rfl rfl ?_
        refine y_imul (q := 22) dX6_read_21 rfl ?_
        refine y_iload_n (q := 23) dX6_read_22 rfl rfl rfl ?_
        refine y_iadd (q := 24) dX6_read_23 rfl ?_
        rw [ix60]
        refine y_bald (q := 25) (zvinN (n := 240) (by omega) (by decide)) dX6_read_24 rfl ?_
        rw [nI_clamp (by omega)]
        refine y_bipush (q := 27) dX6_read_25 bp_32 rfl ?_
        refine y_icmp_ne (q := 30) 36 dX6_read_27 rfl rfl (fun h27 => ?_) (fun h27 => ?_)
        · refine y_iload_n (q := 37) dX6_read_36 rfl rfl rfl ?_
          refine y_aload_n (q := 38) dX6_read_37 rfl rfl rfl ?_
          refine y_get (q := 41) fk_X6_23 zok5 (gv_5_7 _ _) dX6_read_38 rfl ?_
          refine y_iload_n (q := 42) dX6_read_41 rfl rfl rfl ?_
          refine y_iald (q := 43) (by first | decide | assumption | omega) (zvinN (n := 4) (by omega) (by decide)) dX6_read_42 rfl ?_
          rw [nI_clamp (by omega), hw]
          refine y_icmp_ne (q := 46) 59 dX6_read_43 rfl rfl (fun h43 => ?_) (fun h43 => ?_)
          · rw [if_neg h27] at hQ
            refine y_aload_n (q := 60) dX6_read_59 rfl rfl rfl ?_
            refine y_get (q := 63) fk_X6_26 zok5 (gv_5_8 _ _) dX6_read_60 rfl ?_
            refine y_bipush (q := 65) dX6_read_63 bp_60 rfl ?_
            refine y_iload_n (q := 66) dX6_read_65 rfl rfl rfl ?_
            refine y_imul (q := 67) dX6_read_66 rfl ?_
            refine y_iload_n (q := 68) dX6_read_67 rfl rfl rfl ?_
            refine y_iadd (q := 69) dX6_read_68 rfl ?_
            rw [ix60]
            refine y_bald (q := 70) (zvinN (n := 240) (by omega) (by decide)) dX6_read_69 rfl ?_
            rw [nI_clamp (by omega)]
            refine y_cS (q := 73) (c_X6_kindOf _ _) lk_X6_85 rfl rfl rfl rfl dX6_read_70 rfl ?_
            refine y_istore_4 (q := 75) dX6_read_73 rfl rfl rfl ?_
            refine y_iload (q := 77) dX6_read_75 rfl rfl ?_
            refine y_bipush (q := 79) dX6_read_77 bp_m9 rfl ?_
            refine y_icmp_eq (q := 82) 88 dX6_read_79 rfl rfl (fun h79 => ?_) (fun h79 => ?_)
            · rw [if_pos (by first | exact Or.inl h79 | exact Or.inr ((nI_eq (b := 9) (by omega) (by omega)).mp h85))] at hQ
              refine y_iload_n (q := 89) dX6_read_88 rfl rfl rfl ?_
              exact y_iret dX6_read_89 rfl (by exact hQ)
            · refine y_iload_n (q := 83) dX6_read_82 rfl rfl rfl ?_
              refine y_bipush (q := 85) dX6_read_83 bp_9 rfl ?_
              refine y_icmp_ne (q := 88) 90 dX6_read_85 rfl rfl (fun h85 => ?_) (fun h85 => ?_)
              · have hl9 : ¬ l = 9 := fun e => h85 (by rw [e]; rfl)
                rw [if_neg (by rintro (h | h); exact h79 h; exact hl9 h)] at hQ
                refine y_iload_n (q := 91) dX6_read_90 rfl rfl rfl ?_
                refine y_iconst (q := 92) dX6_read_91 ic_1 rfl ?_
                refine y_iadd (q := 93) dX6_read_92 rfl ?_
                rw [nI_1]
                refine y_aload_n (q := 94) dX6_read_93 rfl rfl rfl ?_
                refine y_get (q := 97) fk_X6_23 zok5 (gv_5_7 _ _) dX6_read_94 rfl ?_
                refine y_iload_n (q := 98) dX6_read_97 rfl rfl rfl ?_
                refine y_iald (q := 99) (by first | decide | assumption | omega) (zvinN (n := 4) (by omega) (by decide)) dX6_read_98 rfl ?_
                rw [nI_clamp (by omega), hw]
                refine y_icmp_eq (q := 102) 132 dX6_read_99 rfl rfl (fun h99 => ?_) (fun h99 => ?_)
                · rw [if_pos (by first | exact Or.inl ((nI_eq (by omega) (by omega)).mp h99) | exact Or.inr h129)] at hQ
                  refine y_iload_n (q := 133) dX6_read_132 rfl rfl rfl ?_
                  refine y_iconst (q := 134) dX6_read_133 ic_1 rfl ?_
                  refine y_iadd (q := 135) dX6_read_134 rfl ?_
                  rw [nI_1]
                  exact y_iret dX6_read_135 rfl (by exact hQ)
                · have hp1 : ¬ p + 1 = n := fun e => h99 (by rw [e])
                  refine y_aload_n (q := 103) dX6_read_102 rfl rfl rfl ?_
                  refine y_get (q := 106) fk_X6_26 zok5 (gv_5_8 _ _) dX6_read_103 rfl ?_
                  refine y_bipush (q := 108) dX6_read_106 bp_60 rfl ?_
                  refine y_iload_n (q := 109) dX6_read_108 rfl rfl rfl ?_
                  refine y_imul (q := 110) dX6_read_109 rfl ?_
                  refine y_iload_n (q := 111) dX6_read_110 rfl rfl rfl ?_
                  refine y_iadd (q := 112) dX6_read_111 rfl ?_
                  refine y_iconst (q := 113) dX6_read_112 ic_1 rfl ?_
                  refine y_iadd (q := 114) dX6_read_113 rfl ?_
                  rw [ix60b]
                  refine y_bald (q := 115) (zvinN (n := 240) (by omega) (by decide)) dX6_read_114 rfl ?_
                  rw [nI_clamp (by omega)]
                  refine y_bipush (q := 117) dX6_read_115 bp_48 rfl ?_
                  refine y_isub (q := 118) dX6_read_117 rfl ?_
                  refine y_iconst (q := 119) dX6_read_118 ic_0 rfl ?_
                  refine y_iload (q := 121) dX6_read_119 rfl rfl ?_
                  refine y_cS (q := 124) (c_X6_stepsOf _ _) lk_X6_88 rfl rfl rfl rfl dX6_read_121 rfl ?_
                  refine y_iconst (q := 125) dX6_read_124 ic_1 rfl ?_
                  refine y_isub (q := 126) dX6_read_125 rfl ?_
                  refine y_cS (q := 129) (c_X6_in _ _ _ _) lk_X6_64 rfl rfl rfl rfl dX6_read_126 rfl ?_
                  refine y_if_neB (q := 132) 136 dX6_read_129 rfl rfl (fun h129 => ?_) (fun h129 => ?_)
                  · rw [if_neg (by rintro (h | h); exact hp1 h; exact h h129)] at hQ
                    refine y_aload_n (q := 137) dX6_read_136 rfl rfl rfl ?_
                    refine y_get (q := 140) fk_X6_33 zok5 (gv_5_11 _ _) dX6_read_137 rfl ?_
                    refine y_bipush (q := 142) dX6_read_140 bp_9 rfl ?_
                    refine y_iload_n (q := 143) dX6_read_142 rfl rfl rfl ?_
                    refine y_iadd (q := 144) dX6_read_143 rfl ?_
                    rw [nI9]
                    refine y_iload (q := 146) dX6_read_144 rfl rfl ?_
                    refine y_iast (q := 147) (by first | decide | assumption | omega) (zvinN (n := 18) (by omega) (by decide)) dX6_read_146 rfl ?_
                    rw [nI_clamp (by omega)]
                    refine y_aload_n (q := 148) dX6_read_147 rfl rfl rfl ?_
                    refine y_get (q := 151) fk_X6_36 zok5 (gv_5_12 _ _) dX6_read_148 rfl ?_
                    refine y_bipush (q := 153) dX6_read_151 bp_9 rfl ?_
                    refine y_iload_n (q := 154) dX6_read_153 rfl rfl rfl ?_
                    refine y_iadd (q := 155) dX6_read_154 rfl ?_
                    rw [nI9]
                    refine y_aload_n (q := 156) dX6_read_155 rfl rfl rfl ?_
                    refine y_get (q := 159) fk_X6_26 zok5 (gv_5_8 _ _) dX6_read_156 rfl ?_
                    refine y_bipush (q := 161) dX6_read_159 bp_60 rfl ?_
                    refine y_iload_n (q := 162) dX6_read_161 rfl rfl rfl ?_
                    refine y_imul (q := 163) dX6_read_162 rfl ?_
                    refine y_iload_n (q := 164) dX6_read_163 rfl rfl rfl ?_
                    refine y_iadd (q := 165) dX6_read_164 rfl ?_
                    refine y_iconst (q := 166) dX6_read_165 ic_1 rfl ?_
                    refine y_iadd (q := 167) dX6_read_166 rfl ?_
                    rw [ix60b]
                    refine y_bald (q := 168) (zvinN (n := 240) (by omega) (by decide)) dX6_read_167 rfl ?_
                    rw [nI_clamp (by omega), fA_ne _ _ (by decide)]
                    refine y_bipush (q := 170) dX6_read_168 bp_48 rfl ?_
                    refine y_isub (q := 171) dX6_read_170 rfl ?_
                    refine y_iast (q := 172) (by first | decide | assumption | omega) (zvinN (n := 18) (by omega) (by decide)) dX6_read_171 rfl ?_
                    rw [nI_clamp (by omega), fA_ne _ _ (by decide)]
                    refine y_iinc_2 (q := 175) dX6_read_172 rfl ic_1 rfl rfl ?_
                    refine y_iinc_3 (q := 178) dX6_read_175 rfl ic_2 rfl rfl ?_
                    refine y_goto 4 dX6_read_178 rfl ?_
                    first
                      | (rw [nI_1]; exact ih (p + 1) l σ _ (by omega) (by omega) hl hw hQ)
                      | (rw [nI_1, nI_2]; exact ih (p + 2) (l + 1) _ _ (by omega) (by omega) (by omega) (by rw [fA_ne _ _ (by decide), fA_ne _ _ (by decide)]; exact hw) hQ)
                  · rw [if_pos (by first | exact Or.inl ((nI_eq (by omega) (by omega)).mp h99) | exact Or.inr h129)] at hQ
                    refine y_iload_n (q := 133) dX6_read_132 rfl rfl rfl ?_
                    refine y_iconst (q := 134) dX6_read_133 ic_1 rfl ?_
                    refine y_iadd (q := 135) dX6_read_134 rfl ?_
                    rw [nI_1]
                    exact y_iret dX6_read_135 rfl (by exact hQ)
              · rw [if_pos (by first | exact Or.inl h79 | exact Or.inr ((nI_eq (b := 9) (by omega) (by omega)).mp h85))] at hQ
                refine y_iload_n (q := 89) dX6_read_88 rfl rfl rfl ?_
                exact y_iret dX6_read_89 rfl (by exact hQ)
          · exact absurd ((nI_eq (by omega) (by omega)).mp h43) (by omega)
        · rw [if_pos h27] at hQ
          refine y_iinc_3 (q := 33) dX6_read_30 rfl ic_1 rfl rfl ?_
          refine y_goto 4 dX6_read_33 rfl ?_
          first
            | (rw [nI_1]; exact ih (p + 1) l σ _ (by omega) (by omega) hl hw hQ)
            | (rw [nI_1, nI_2]; exact ih (p + 2) (l + 1) _ _ (by omega) (by omega) (by omega) (by rw [fA_ne _ _ (by decide), fA_ne _ _ (by decide)]; exact hw) hQ)
    · rw [if_pos hpn] at hQ
      obtain rfl : p = n := by omega
      refine y_iload_n (q := 5) dX6_read_4 rfl rfl rfl ?_
      refine y_aload_n (q := 6) dX6_read_5 rfl rfl rfl ?_
      refine y_get (q := 9) fk_X6_23 zok5 (gv_5_7 _ _) dX6_read_6 rfl ?_
      refine y_iload_n (q := 10) dX6_read_9 rfl rfl rfl ?_
      refine y_iald (q := 11) (by first | decide | assumption | omega) (zvinN (n := 4) (by omega) (by decide)) dX6_read_10 rfl ?_
      rw [nI_clamp (by omega), hw]
      refine y_icmp_ge (q := 14) 36 dX6_read_11 rfl rfl (fun h11 => ?_) (fun h11 => ?_)
      · refine y_iload_n (q := 37) dX6_read_36 rfl rfl rfl ?_
        refine y_aload_n (q := 38) dX6_read_37 rfl rfl rfl ?_
        refine y_get (q := 41) fk_X6_23 zok5 (gv_5_7 _ _) dX6_read_38 rfl ?_
        refine y_iload_n (q := 42) dX6_read_41 rfl rfl rfl ?_
        refine y_iald (q := 43) (by first | decide | assumption | omega) (zvinN (n := 4) (by omega) (by decide)) dX6_read_42 rfl ?_
        rw [nI_clamp (by omega), hw]
        refine y_icmp_ne (q := 46) 59 dX6_read_43 rfl rfl (fun h43 => ?_) (fun h43 => ?_)
        · exact absurd rfl h43
        · refine y_iload_n (q := 47) dX6_read_46 rfl rfl rfl ?_
          refine y_bipush (q := 49) dX6_read_47 bp_9 rfl ?_
          refine y_icmp_ge (q := 52) 56 dX6_read_49 rfl rfl (fun h49 => ?_) (fun h49 => ?_)
          · rw [if_neg (Nat.not_lt.mpr ((nI_leI (a := 9) (by omega) (by omega)).mp h49))] at hQ
            refine y_bipush (q := 58) dX6_read_56 bp_m9 rfl ?_
            exact y_iret dX6_read_58 rfl (by exact hQ)
          · rw [if_pos (Nat.lt_of_not_le fun h => h49 (nI_le (a := 9) h (by omega)))] at hQ
            refine y_iload_n (q := 53) dX6_read_52 rfl rfl rfl ?_
            refine y_goto 58 dX6_read_53 rfl ?_
            exact y_iret dX6_read_58 rfl (by exact hQ)
      · exact absurd (nI_le (Nat.le_refl _) (by omega)) h11
theorem c_X6_read (σ : zSt) (t n : Nat) (ht : t < 4) (hw : fA σ 24 t = nI n) (hn : n ≤ 60) : Mf 2 mi_X6_read [zr 5 0, zi (nI t)] σ (some (zi (m_rd t n (n + 1) 0 0 σ).1)) (m_rd t n (n + 1) 0 0 σ).2 := by
  refine Mt_of (ls := [some (zr 5 0), some (zi (nI t)), none, none, none]) (by decide +kernel) rfl rfl ?_
  refine y_iconst (q := 1) dX6_read_0 ic_0 rfl ?_
  refine y_istore_n2 (q := 2) dX6_read_1 rfl rfl rfl ?_
  refine y_iconst (q := 3) dX6_read_2 ic_0 rfl ?_
  refine y_istore_n3 (q := 4) dX6_read_3 rfl rfl rfl ?_
  exact lp_X6_read t n ht hn (n + 1) 0 0 σ _ (by omega) (by omega) (by omega) hw ⟨rfl, rfl⟩
