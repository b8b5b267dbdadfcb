/-! ===== TouchedLamps: by turns ===== -/
def x_val (σ : zSt) (set s : Int32) : Int32 := zbc (kx_show σ 0 s &&& set) - zbc (kx_show σ 0 s &&& zcom set)
def x_wl (first : Bool) (f : Nat → Int32 → Int32 → Int32) : Nat → Nat → Int32 → Int32 → Int32
  | 0, _, lo, hi => if first = true then lo else hi
  | k + 1, b, lo, hi => if lo < hi then (if first = true then x_wl first f k (b + 1) (zmax lo (f b lo hi)) hi else x_wl first f k (b + 1) lo (zmin hi (f b lo hi))) else (if first = true then lo else hi)
def x_wb (σ : zSt) (set : Int32) : Nat → Int32 → Int32 → Int32 → Int32 → Int32
  | 0, s, _, _, _ => x_val σ set s
  | l + 1, s, q, lo, hi => x_wl (decide ((l + 1) % 2 = 0)) (fun b lo hi => if b = 9 then x_wb σ set l s q lo hi else x_wb σ set l (kx_press σ 0 s (nI b) q) (q + 1) lo hi) 10 0 lo hi
theorem lp_X5_won1 {Q : zQ} (σ : zSt) (set s q lo0 hi0 : Int32) (l : Nat) (hl : l < 4) (c_ih : ∀ (s q lo hi : Int32), Mf (3 + l) mi_X5_wonBy [zr 1 0, zi s, zi q, zi (nI l), zi set, zi lo, zi hi] σ (some (zi (x_wb σ set l s q lo hi))) σ) :
    ∀ (k b : Nat) (lo hi : Int32) (a11 a12 a13 : Option zV), b + k = 10 → Q (some (zi (x_wl true (fun b lo hi => if b = 9 then x_wb σ set l s q lo hi else x_wb σ set l (kx_press σ 0 s (nI b) q) (q + 1) lo hi) k b lo hi))) σ → zY mi_X5_wonBy (3 + l + 1) Q 55 [some (zr 1 0), some (zi s), some (zi q), some (zi (nI (l + 1))), some (zi set), some (zi lo0), some (zi hi0), some (zi 1), some (zi lo), some (zi hi), some (zi (nI b)), a11, a12, a13] [] σ := by
  intro k
  induction k with
  | zero =>
    intro b lo hi a11 a12 a13 hb hQ
    obtain rfl : b = 10 := by omega
    rw [x_wl, if_pos rfl] at hQ
    refine y_iload (q := 57) dX5_wonBy_55 rfl rfl ?_
    refine y_bipush (q := 59) dX5_wonBy_57 bp_9 rfl ?_
    refine y_icmp_gt (q := 62) 163 dX5_wonBy_59 rfl rfl (fun h59 => ?_) (fun h59 => ?_)
    · refine y_iload (q := 165) dX5_wonBy_163 rfl rfl ?_
      refine y_if_eq (q := 168) 173 dX5_wonBy_165 rfl rfl (fun h => absurd h (by decide)) (fun h165 => ?_)
      refine y_iload (q := 170) dX5_wonBy_168 rfl rfl ?_
      refine y_goto 175 dX5_wonBy_170 rfl ?_
      exact y_iret dX5_wonBy_175 rfl (by exact hQ)
    · exact absurd (by decide) h59
  | succ k ih =>
    intro b lo hi a11 a12 a13 hb hQ
    rw [x_wl] at hQ
    refine y_iload (q := 57) dX5_wonBy_55 rfl rfl ?_
    refine y_bipush (q := 59) dX5_wonBy_57 bp_9 rfl ?_
    refine y_icmp_gt (q := 62) 163 dX5_wonBy_59 rfl rfl (fun h59 => ?_) (fun h59 => ?_)
    · exact absurd h59 (nI_nlt (a := 9) (by omega) (by omega))
    · refine y_iload (q := 64) dX5_wonBy_62 rfl rfl ?_
      refine y_iload (q := 66) dX5_wonBy_64 rfl rfl ?_
      refine y_icmp_ge (q := 69) 163 dX5_wonBy_66 rfl rfl (fun h66 => ?_) (fun h66 => ?_)
      · rw [if_neg (Int32.not_lt.mpr h66)] at hQ
        rw [if_pos rfl] at hQ
        refine y_iload (q := 165) dX5_wonBy_163 rfl rfl ?_
        refine y_if_eq (q := 168) 173 dX5_wonBy_165 rfl rfl (fun h => absurd h (by decide)) (fun h165 => ?_)
        refine y_iload (q := 170) dX5_wonBy_168 rfl rfl ?_
        refine y_goto 175 dX5_wonBy_170 rfl ?_
        exact y_iret dX5_wonBy_175 rfl (by exact hQ)
      · rw [if_pos (Int32.not_le.mp h66)] at hQ
        rw [if_pos rfl] at hQ
        refine y_iload (q := 71) dX5_wonBy_69 rfl rfl ?_
        refine y_bipush (q := 73) dX5_wonBy_71 bp_9 rfl ?_
        refine y_icmp_ne (q := 76) 80 dX5_wonBy_73 rfl rfl (fun h73 => ?_) (fun h73 => ?_)
        · refine y_iconst (q := 81) dX5_wonBy_80 ic_0 rfl ?_
          refine y_istore_11 (q := 83) dX5_wonBy_81 rfl rfl rfl ?_
          refine y_iload (q := 85) dX5_wonBy_83 rfl rfl ?_
          refine y_if_eq (q := 88) 92 dX5_wonBy_85 rfl rfl (fun h85 => ?_) (fun h => absurd (by decide) h)
          refine y_aload_n (q := 93) dX5_wonBy_92 rfl rfl rfl ?_
          refine y_iload_n (q := 94) dX5_wonBy_93 rfl rfl rfl ?_
          refine y_iload (q := 96) dX5_wonBy_94 rfl rfl ?_
          refine y_iload_n (q := 97) dX5_wonBy_96 rfl rfl rfl ?_
          refine y_cV (q := 100) (c_X0_behindPress _ _ _ _ _ (by decide)) lk_X5_227 (by decide) (by decide) rfl (Nat.ble_eq_true_of_le (by omega)) rfl rfl rfl dX5_wonBy_97 rfl ?_
          refine y_istore_12 (q := 102) dX5_wonBy_100 rfl rfl rfl ?_
          refine y_aload_n (q := 103) dX5_wonBy_102 rfl rfl rfl ?_
          refine y_iload (q := 105) dX5_wonBy_103 rfl rfl ?_
          refine y_iload (q := 107) dX5_wonBy_105 rfl rfl ?_
          refine y_if_eq (q := 110) 114 dX5_wonBy_107 rfl rfl (fun h107 => ?_) (fun h => absurd (by decide) h)
          refine y_iload_n (q := 115) dX5_wonBy_114 rfl rfl rfl ?_
          refine y_iconst (q := 116) dX5_wonBy_115 ic_1 rfl ?_
          refine y_iadd (q := 117) dX5_wonBy_116 rfl ?_
          refine y_iload_n (q := 118) dX5_wonBy_117 rfl rfl rfl ?_
          refine y_iconst (q := 119) dX5_wonBy_118 ic_1 rfl ?_
          refine y_isub (q := 120) dX5_wonBy_119 rfl ?_
          rw [nI_pred]
          refine y_iload (q := 122) dX5_wonBy_120 rfl rfl ?_
          refine y_iload (q := 124) dX5_wonBy_122 rfl rfl ?_
          refine y_iload (q := 126) dX5_wonBy_124 rfl rfl ?_
          refine y_cS (q := 129) (c_ih _ _ _ _) lk_X5_262 (Nat.ble_eq_true_of_le (by omega)) rfl rfl rfl dX5_wonBy_126 rfl ?_
          refine y_istore_13 (q := 131) dX5_wonBy_129 rfl rfl rfl ?_
          refine y_iload (q := 133) dX5_wonBy_131 rfl rfl ?_
          refine y_if_eq (q := 136) 148 dX5_wonBy_133 rfl rfl (fun h => absurd h (by decide)) (fun h133 => ?_)
          refine y_iload (q := 138) dX5_wonBy_136 rfl rfl ?_
          refine y_iload (q := 140) dX5_wonBy_138 rfl rfl ?_
          refine y_mmax (q := 143) lk_X5_340 (Nat.ble_eq_true_of_le (by omega)) rfl dX5_wonBy_140 rfl ?_
          refine y_istore_8 (q := 145) dX5_wonBy_143 rfl rfl rfl ?_
          refine y_goto 157 dX5_wonBy_145 rfl ?_
          refine y_iinc_10 (q := 160) dX5_wonBy_157 rfl ic_1 rfl rfl ?_
          refine y_goto 55 dX5_wonBy_160 rfl ?_
          rw [nI_1]
          first
            | (rw [if_pos ((nI_eq (b := 9) (by omega) (by omega)).mp h73)] at hQ; exact ih (b + 1) _ _ _ _ _ (by omega) hQ)
            | (rw [if_neg (fun z => h73 (by rw [z]; rfl))] at hQ; exact ih (b + 1) _ _ _ _ _ (by omega) hQ)
        · refine y_iconst (q := 77) dX5_wonBy_76 ic_1 rfl ?_
          refine y_goto 81 dX5_wonBy_77 rfl ?_
          refine y_istore_11 (q := 83) dX5_wonBy_81 rfl rfl rfl ?_
          refine y_iload (q := 85) dX5_wonBy_83 rfl rfl ?_
          refine y_if_eq (q := 88) 92 dX5_wonBy_85 rfl rfl (fun h => absurd h (by decide)) (fun h85 => ?_)
          refine y_iload_n (q := 89) dX5_wonBy_88 rfl rfl rfl ?_
          refine y_goto 100 dX5_wonBy_89 rfl ?_
          refine y_istore_12 (q := 102) dX5_wonBy_100 rfl rfl rfl ?_
          refine y_aload_n (q := 103) dX5_wonBy_102 rfl rfl rfl ?_
          refine y_iload (q := 105) dX5_wonBy_103 rfl rfl ?_
          refine y_iload (q := 107) dX5_wonBy_105 rfl rfl ?_
          refine y_if_eq (q := 110) 114 dX5_wonBy_107 rfl rfl (fun h => absurd h (by decide)) (fun h107 => ?_)
          refine y_iload_n (q := 111) dX5_wonBy_110 rfl rfl rfl ?_
          refine y_goto 117 dX5_wonBy_111 rfl ?_
          refine y_iload_n (q := 118) dX5_wonBy_117 rfl rfl rfl ?_
          refine y_iconst (q := 119) dX5_wonBy_118 ic_1 rfl ?_
          refine y_isub (q := 120) dX5_wonBy_119 rfl ?_
          rw [nI_pred]
          refine y_iload (q := 122) dX5_wonBy_120 rfl rfl ?_
          refine y_iload (q := 124) dX5_wonBy_122 rfl rfl ?_
          refine y_iload (q := 126) dX5_wonBy_124 rfl rfl ?_
          refine y_cS (q := 129) (c_ih _ _ _ _) lk_X5_262 (Nat.ble_eq_true_of_le (by omega)) rfl rfl rfl dX5_wonBy_126 rfl ?_
          refine y_istore_13 (q := 131) dX5_wonBy_129 rfl rfl rfl ?_
          refine y_iload (q := 133) dX5_wonBy_131 rfl rfl ?_
          refine y_if_eq (q := 136) 148 dX5_wonBy_133 rfl rfl (fun h => absurd h (by decide)) (fun h133 => ?_)
          refine y_iload (q := 138) dX5_wonBy_136 rfl rfl ?_
          refine y_iload (q := 140) dX5_wonBy_138 rfl rfl ?_
          refine y_mmax (q := 143) lk_X5_340 (Nat.ble_eq_true_of_le (by omega)) rfl dX5_wonBy_140 rfl ?_
          refine y_istore_8 (q := 145) dX5_wonBy_143 rfl rfl rfl ?_
          refine y_goto 157 dX5_wonBy_145 rfl ?_
          refine y_iinc_10 (q := 160) dX5_wonBy_157 rfl ic_1 rfl rfl ?_
          refine y_goto 55 dX5_wonBy_160 rfl ?_
          rw [nI_1]
          first
            | (rw [if_pos ((nI_eq (b := 9) (by omega) (by omega)).mp h73)] at hQ; exact ih (b + 1) _ _ _ _ _ (by omega) hQ)
            | (rw [if_neg (fun z => h73 (by rw [z]; rfl))] at hQ; exact ih (b + 1) _ _ _ _ _ (by omega) hQ)
theorem lp_X5_won0 {Q : zQ} (σ : zSt) (set s q lo0 hi0 : Int32) (l : Nat) (hl : l < 4) (c_ih : ∀ (s q lo hi : Int32), Mf (3 + l) mi_X5_wonBy [zr 1 0, zi s, zi q, zi (nI l), zi set, zi lo, zi hi] σ (some (zi (x_wb σ set l s q lo hi))) σ) :
    ∀ (k b : Nat) (lo hi : Int32) (a11 a12 a13 : Option zV), b + k = 10 → Q (some (zi (x_wl false (fun b lo hi => if b = 9 then x_wb σ set l s q lo hi else x_wb σ set l (kx_press σ 0 s (nI b) q) (q + 1) lo hi) k b lo hi))) σ → zY mi_X5_wonBy (3 + l + 1) Q 55 [some (zr 1 0), some (zi s), some (zi q), some (zi (nI (l + 1))), some (zi set), some (zi lo0), some (zi hi0), some (zi 0), some (zi lo), some (zi hi), some (zi (nI b)), a11, a12, a13] [] σ := by
  intro k
  induction k with
  | zero =>
    intro b lo hi a11 a12 a13 hb hQ
    obtain rfl : b = 10 := by omega
    rw [x_wl, if_neg (by decide)] at hQ
    refine y_iload (q := 57) dX5_wonBy_55 rfl rfl ?_
    refine y_bipush (q := 59) dX5_wonBy_57 bp_9 rfl ?_
    refine y_icmp_gt (q := 62) 163 dX5_wonBy_59 rfl rfl (fun h59 => ?_) (fun h59 => ?_)
    · refine y_iload (q := 165) dX5_wonBy_163 rfl rfl ?_
      refine y_if_eq (q := 168) 173 dX5_wonBy_165 rfl rfl (fun h165 => ?_) (fun h => absurd (by decide) h)
      refine y_iload (q := 175) dX5_wonBy_173 rfl rfl ?_
      exact y_iret dX5_wonBy_175 rfl (by exact hQ)
    · exact absurd (by decide) h59
  | succ k ih =>
    intro b lo hi a11 a12 a13 hb hQ
    rw [x_wl] at hQ
    refine y_iload (q := 57) dX5_wonBy_55 rfl rfl ?_
    refine y_bipush (q := 59) dX5_wonBy_57 bp_9 rfl ?_
    refine y_icmp_gt (q := 62) 163 dX5_wonBy_59 rfl rfl (fun h59 => ?_) (fun h59 => ?_)
    · exact absurd h59 (nI_nlt (a := 9) (by omega) (by omega))
    · refine y_iload (q := 64) dX5_wonBy_62 rfl rfl ?_
      refine y_iload (q := 66) dX5_wonBy_64 rfl rfl ?_
      refine y_icmp_ge (q := 69) 163 dX5_wonBy_66 rfl rfl (fun h66 => ?_) (fun h66 => ?_)
      · rw [if_neg (Int32.not_lt.mpr h66)] at hQ
        rw [if_neg (by decide)] at hQ
        refine y_iload (q := 165) dX5_wonBy_163 rfl rfl ?_
        refine y_if_eq (q := 168) 173 dX5_wonBy_165 rfl rfl (fun h165 => ?_) (fun h => absurd (by decide) h)
        refine y_iload (q := 175) dX5_wonBy_173 rfl rfl ?_
        exact y_iret dX5_wonBy_175 rfl (by exact hQ)
      · rw [if_pos (Int32.not_le.mp h66)] at hQ
        rw [if_neg (by decide)] at hQ
        refine y_iload (q := 71) dX5_wonBy_69 rfl rfl ?_
        refine y_bipush (q := 73) dX5_wonBy_71 bp_9 rfl ?_
        refine y_icmp_ne (q := 76) 80 dX5_wonBy_73 rfl rfl (fun h73 => ?_) (fun h73 => ?_)
        · refine y_iconst (q := 81) dX5_wonBy_80 ic_0 rfl ?_
          refine y_istore_11 (q := 83) dX5_wonBy_81 rfl rfl rfl ?_
          refine y_iload (q := 85) dX5_wonBy_83 rfl rfl ?_
          refine y_if_eq (q := 88) 92 dX5_wonBy_85 rfl rfl (fun h85 => ?_) (fun h => absurd (by decide) h)
          refine y_aload_n (q := 93) dX5_wonBy_92 rfl rfl rfl ?_
          refine y_iload_n (q := 94) dX5_wonBy_93 rfl rfl rfl ?_
          refine y_iload (q := 96) dX5_wonBy_94 rfl rfl ?_
          refine y_iload_n (q := 97) dX5_wonBy_96 rfl rfl rfl ?_
          refine y_cV (q := 100) (c_X0_behindPress _ _ _ _ _ (by decide)) lk_X5_227 (by decide) (by decide) rfl (Nat.ble_eq_true_of_le (by omega)) rfl rfl rfl dX5_wonBy_97 rfl ?_
          refine y_istore_12 (q := 102) dX5_wonBy_100 rfl rfl rfl ?_
          refine y_aload_n (q := 103) dX5_wonBy_102 rfl rfl rfl ?_
          refine y_iload (q := 105) dX5_wonBy_103 rfl rfl ?_
          refine y_iload (q := 107) dX5_wonBy_105 rfl rfl ?_
          refine y_if_eq (q := 110) 114 dX5_wonBy_107 rfl rfl (fun h107 => ?_) (fun h => absurd (by decide) h)
          refine y_iload_n (q := 115) dX5_wonBy_114 rfl rfl rfl ?_
          refine y_iconst (q := 116) dX5_wonBy_115 ic_1 rfl ?_
          refine y_iadd (q := 117) dX5_wonBy_116 rfl ?_
          refine y_iload_n (q := 118) dX5_wonBy_117 rfl rfl rfl ?_
          refine y_iconst (q := 119) dX5_wonBy_118 ic_1 rfl ?_
          refine y_isub (q := 120) dX5_wonBy_119 rfl ?_
          rw [nI_pred]
          refine y_iload (q := 122) dX5_wonBy_120 rfl rfl ?_
          refine y_iload (q := 124) dX5_wonBy_122 rfl rfl ?_
          refine y_iload (q := 126) dX5_wonBy_124 rfl rfl ?_
          refine y_cS (q := 129) (c_ih _ _ _ _) lk_X5_262 (Nat.ble_eq_true_of_le (by omega)) rfl rfl rfl dX5_wonBy_126 rfl ?_
          refine y_istore_13 (q := 131) dX5_wonBy_129 rfl rfl rfl ?_
          refine y_iload (q := 133) dX5_wonBy_131 rfl rfl ?_
          refine y_if_eq (q := 136) 148 dX5_wonBy_133 rfl rfl (fun h133 => ?_) (fun h => absurd (by decide) h)
          refine y_iload (q := 150) dX5_wonBy_148 rfl rfl ?_
          refine y_iload (q := 152) dX5_wonBy_150 rfl rfl ?_
          refine y_mmin (q := 155) lk_X5_345 (Nat.ble_eq_true_of_le (by omega)) rfl dX5_wonBy_152 rfl ?_
          refine y_istore_9 (q := 157) dX5_wonBy_155 rfl rfl rfl ?_
          refine y_iinc_10 (q := 160) dX5_wonBy_157 rfl ic_1 rfl rfl ?_
          refine y_goto 55 dX5_wonBy_160 rfl ?_
          rw [nI_1]
          first
            | (rw [if_pos ((nI_eq (b := 9) (by omega) (by omega)).mp h73)] at hQ; exact ih (b + 1) _ _ _ _ _ (by omega) hQ)
            | (rw [if_neg (fun z => h73 (by rw [z]; rfl))] at hQ; exact ih (b + 1) _ _ _ _ _ (by omega) hQ)
        · refine y_iconst (q := 77) dX5_wonBy_76 ic_1 rfl ?_
          refine y_goto 81 dX5_wonBy_77 rfl ?_
          refine y_istore_11 (q := 83) dX5_wonBy_81 rfl rfl rfl ?_
          refine y_iload (q := 85) dX5_wonBy_83 rfl rfl ?_
          refine y_if_eq (q := 88) 92 dX5_wonBy_85 rfl rfl (fun h => absurd h (by decide)) (fun h85 => ?_)
          refine y_iload_n (q := 89) dX5_wonBy_88 rfl rfl rfl ?_
          refine y_goto 100 dX5_wonBy_89 rfl ?_
          refine y_istore_12 (q := 102) dX5_wonBy_100 rfl rfl rfl ?_
          refine y_aload_n (q := 103) dX5_wonBy_102 rfl rfl rfl ?_
          refine y_iload (q := 105) dX5_wonBy_103 rfl rfl ?_
          refine y_iload (q := 107) dX5_wonBy_105 rfl rfl ?_
          refine y_if_eq (q := 110) 114 dX5_wonBy_107 rfl rfl (fun h => absurd h (by decide)) (fun h107 => ?_)
          refine y_iload_n (q := 111) dX5_wonBy_110 rfl rfl rfl ?_
          refine y_goto 117 dX5_wonBy_111 rfl ?_
          refine y_iload_n (q := 118) dX5_wonBy_117 rfl rfl rfl ?_
          refine y_iconst (q := 119) dX5_wonBy_118 ic_1 rfl ?_
          refine y_isub (q := 120) dX5_wonBy_119 rfl ?_
          rw [nI_pred]
          refine y_iload (q := 122) dX5_wonBy_120 rfl rfl ?_
          refine y_iload (q := 124) dX5_wonBy_122 rfl rfl ?_
          refine y_iload (q := 126) dX5_wonBy_124 rfl rfl ?_
          refine y_cS (q := 129) (c_ih _ _ _ _) lk_X5_262 (Nat.ble_eq_true_of_le (by omega)) rfl rfl rfl dX5_wonBy_126 rfl ?_
          refine y_istore_13 (q := 131) dX5_wonBy_129 rfl rfl rfl ?_
          refine y_iload (q := 133) dX5_wonBy_131 rfl rfl ?_
          refine y_if_eq (q := 136) 148 dX5_wonBy_133 rfl rfl (fun h133 => ?_) (fun h => absurd (by decide) h)
          refine y_iload (q := 150) dX5_wonBy_148 rfl rfl ?_
          refine y_iload (q := 152) dX5_wonBy_150 rfl rfl ?_
          refine y_mmin (q := 155) lk_X5_345 (Nat.ble_eq_true_of_le (by omega)) rfl dX5_wonBy_152 rfl ?_
          refine y_istore_9 (q := 157) dX5_wonBy_155 rfl rfl rfl ?_
          refine y_iinc_10 (q := 160) dX5_wonBy_157 rfl ic_1 rfl rfl ?_
          refine y_goto 55 dX5_wonBy_160 rfl ?_
          rw [nI_1]
          first
            | (rw [if_pos ((nI_eq (b := 9) (by omega) (by omega)).mp h73)] at hQ; exact ih (b + 1) _ _ _ _ _ (by omega) hQ)
            | (rw [if_neg (fun z => h73 (by rw [z]; rfl))] at hQ; exact ih (b + 1) _ _ _ _ _ (by omega) hQ)
theorem c_X5_wonBy (σ : zSt) (set : Int32) : ∀ (l : Nat), l ≤ 4 → ∀ (s q lo hi : Int32), Mf (3 + l) mi_X5_wonBy [zr 1 0, zi s, zi q, zi (nI l), zi set, zi lo, zi hi] σ (some (zi (x_wb σ set l s q lo hi))) σ := by
  intro l
  induction l with
  | zero =>
    intro hl s q lo hi
    refine Mt_of (ls := [some (zr 1 0), some (zi s), some (zi q), some (zi (nI 0)), some (zi set), some (zi lo), some (zi hi), none, none, none, none, none, none, none]) (by decide +kernel) rfl rfl ?_
    refine y_iload_n (q := 1) dX5_wonBy_0 rfl rfl rfl ?_
    refine y_if_gt (q := 4) 31 dX5_wonBy_1 rfl rfl (fun h1 => ?_) (fun h1 => ?_)
    · exact absurd h1 (by decide)
    · refine y_aload_n (q := 5) dX5_wonBy_4 rfl rfl rfl ?_
      refine y_iload_n (q := 6) dX5_wonBy_5 rfl rfl rfl ?_
      refine y_cV (q := 9) (c_X0_showing _ _ _ (by decide)) lk_X5_184 (by decide) (by decide) rfl rfl rfl rfl rfl dX5_wonBy_6 rfl ?_
      refine y_istore_7 (q := 11) dX5_wonBy_9 rfl rfl rfl ?_
      refine y_iload (q := 13) dX5_wonBy_11 rfl rfl ?_
      refine y_iload (q := 15) dX5_wonBy_13 rfl rfl ?_
      refine y_iand (q := 16) dX5_wonBy_15 rfl ?_
      refine y_cS (q := 19) (c_J6_bitCount_0f7a4 _ _) lk_X5_173 rfl rfl rfl rfl dX5_wonBy_16 rfl ?_
      refine y_iload (q := 21) dX5_wonBy_19 rfl rfl ?_
      refine y_iload (q := 23) dX5_wonBy_21 rfl rfl ?_
      refine y_iconst (q := 24) dX5_wonBy_23 ic_m1 rfl ?_
      refine y_ixor (q := 25) dX5_wonBy_24 rfl ?_
      refine y_iand (q := 26) dX5_wonBy_25 rfl ?_
      refine y_cS (q := 29) (c_J6_bitCount_0f7a4 _ _) lk_X5_173 rfl rfl rfl rfl dX5_wonBy_26 rfl ?_
      refine y_isub (q := 30) dX5_wonBy_29 rfl ?_
      exact y_iret dX5_wonBy_30 rfl (by exact ⟨rfl, rfl⟩)
  | succ l ih =>
    intro hl s q lo hi
    refine Mt_of (ls := [some (zr 1 0), some (zi s), some (zi q), some (zi (nI (l + 1))), some (zi set), some (zi lo), some (zi hi), none, none, none, none, none, none, none]) (by decide +kernel) rfl rfl ?_
    refine y_iload_n (q := 1) dX5_wonBy_0 rfl rfl rfl ?_
    refine y_if_gt (q := 4) 31 dX5_wonBy_1 rfl rfl (fun h1 => ?_) (fun h1 => ?_)
    · refine y_iload_n (q := 32) dX5_wonBy_31 rfl rfl rfl ?_
      refine y_iconst (q := 33) dX5_wonBy_32 ic_2 rfl ?_
      refine y_irem (q := 34) dX5_wonBy_33 (by decide) rfl ?_
      rw [zrem2 (by omega)]
      refine y_if_ne (q := 37) 41 dX5_wonBy_34 rfl rfl (fun h34 => ?_) (fun h34 => ?_)
      · refine y_iconst (q := 42) dX5_wonBy_41 ic_0 rfl ?_
        refine y_istore_7 (q := 44) dX5_wonBy_42 rfl rfl rfl ?_
        refine y_iload (q := 46) dX5_wonBy_44 rfl rfl ?_
        refine y_istore_8 (q := 48) dX5_wonBy_46 rfl rfl rfl ?_
        refine y_iload (q := 50) dX5_wonBy_48 rfl rfl ?_
        refine y_istore_9 (q := 52) dX5_wonBy_50 rfl rfl rfl ?_
        refine y_iconst (q := 53) dX5_wonBy_52 ic_0 rfl ?_
        refine y_istore_10 (q := 55) dX5_wonBy_53 rfl rfl rfl ?_
        first
          | (have e : decide ((l + 1) % 2 = 0) = true := decide_eq_true ((nI_eq (b := 0) (by omega) (by omega)).mp h34)
             exact lp_X5_won1 σ set s q _ _ l (by omega) (ih (by omega)) 10 0 lo hi _ _ _ (by omega) ⟨by rw [x_wb, e], rfl⟩)
          | (have e : decide ((l + 1) % 2 = 0) = false := decide_eq_false (fun z => h34 (by rw [z]; rfl))
             exact lp_X5_won0 σ set s q _ _ l (by omega) (ih (by omega)) 10 0 lo hi _ _ _ (by omega) ⟨by rw [x_wb, e], rfl⟩)
      · refine y_iconst (q := 38) dX5_wonBy_37 ic_1 rfl ?_
        refine y_goto 42 dX5_wonBy_38 rfl ?_
        refine y_istore_7 (q := 44) dX5_wonBy_42 rfl rfl rfl ?_
        refine y_iload (q := 46) dX5_wonBy_44 rfl rfl ?_
        refine y_istore_8 (q := 48) dX5_wonBy_46 rfl rfl rfl ?_
        refine y_iload (q := 50) dX5_wonBy_48 rfl rfl ?_
        refine y_istore_9 (q := 52) dX5_wonBy_50 rfl rfl rfl ?_
        refine y_iconst (q := 53) dX5_wonBy_52 ic_0 rfl ?_
        refine y_istore_10 (q := 55) dX5_wonBy_53 rfl rfl rfl ?_
        first
          | (have e : decide ((l + 1) % 2 = 0) = true := decide_eq_true ((nI_eq (b := 0) (by omega) (by omega)).mp h34)
             exact lp_X5_won1 σ set s q _ _ l (by omega) (ih (by omega)) 10 0 lo hi _ _ _ (by omega) ⟨by rw [x_wb, e], rfl⟩)
          | (have e : decide ((l + 1) % 2 = 0) = false := decide_eq_false (fun z => h34 (by rw [z]; rfl))
             exact lp_X5_won0 σ set s q _ _ l (by omega) (ih (by omega)) 10 0 lo hi _ _ _ (by omega) ⟨by rw [x_wb, e], rfl⟩)
    · exact absurd (nI_lt (a := 0) (by omega) (by omega)) h1
theorem c_X5_duel_none (σ : zSt) (s n : Int32) (hp : ¬ 0 ≤ fI σ 2 3 2) : Mf 8 mi_X5_duel [zr 0 0, zi s, zi n] σ (some (zi (-4))) σ := by
  refine Mt_of (ls := [some (zr 0 0), some (zi s), some (zi n), none]) (by decide +kernel) rfl rfl ?_
  refine y_aload_n (q := 1) dX5_duel_0 rfl rfl rfl ?_
  refine y_iload_n (q := 2) dX5_duel_1 rfl rfl rfl ?_
  refine y_cV (q := 5) (c_X5_refusalOfSet_none _ _ (by first | assumption | decide | omega)) lk_X5_233 zok0 (by decide) rfl rfl rfl rfl rfl dX5_duel_2 rfl ?_
  refine y_istore_n3 (q := 6) dX5_duel_5 rfl rfl rfl ?_
  refine y_iload_n (q := 7) dX5_duel_6 rfl rfl rfl ?_
  refine y_if_eq (q := 10) 12 dX5_duel_7 rfl rfl (fun h7 => ?_) (fun h7 => ?_)
  · exact absurd h7 (by decide)
  · refine y_iload_n (q := 11) dX5_duel_10 rfl rfl rfl ?_
    exact y_iret dX5_duel_11 rfl (by exact ⟨rfl, rfl⟩)
theorem c_X5_duel_bad1 (σ : zSt) (s n : Int32) (hp : 0 ≤ fI σ 2 3 2) (hs : s < 0 ∨ ¬ s ≤ 511) : Mf 8 mi_X5_duel [zr 0 0, zi s, zi n] σ (some (zi (-1))) σ := by
  refine Mt_of (ls := [some (zr 0 0), some (zi s), some (zi n), none]) (by decide +kernel) rfl rfl ?_
  refine y_aload_n (q := 1) dX5_duel_0 rfl rfl rfl ?_
  refine y_iload_n (q := 2) dX5_duel_1 rfl rfl rfl ?_
  refine y_cV (q := 5) (c_X5_refusalOfSet_bad _ _ (by first | assumption | decide | omega) (by first | assumption | decide | omega)) lk_X5_233 zok0 (by decide) rfl rfl rfl rfl rfl dX5_duel_2 rfl ?_
  refine y_istore_n3 (q := 6) dX5_duel_5 rfl rfl rfl ?_
  refine y_iload_n (q := 7) dX5_duel_6 rfl rfl rfl ?_
  refine y_if_eq (q := 10) 12 dX5_duel_7 rfl rfl (fun h7 => ?_) (fun h7 => ?_)
  · exact absurd h7 (by decide)
  · refine y_iload_n (q := 11) dX5_duel_10 rfl rfl rfl ?_
    exact y_iret dX5_duel_11 rfl (by exact ⟨rfl, rfl⟩)
theorem c_X5_duel_bad2 (σ : zSt) (s n : Int32) (hp : 0 ≤ fI σ 2 3 2) (hs : ¬ (s < 0 ∨ ¬ s ≤ 511)) (hn : n < 0 ∨ ¬ n ≤ 2) : Mf 8 mi_X5_duel [zr 0 0, zi s, zi n] σ (some (zi (-1))) σ := by
  refine Mt_of (ls := [some (zr 0 0), some (zi s), some (zi n), none]) (by decide +kernel) rfl rfl ?_
  refine y_aload_n (q := 1) dX5_duel_0 rfl rfl rfl ?_
  refine y_iload_n (q := 2) dX5_duel_1 rfl rfl rfl ?_
  refine y_cV (q := 5) (c_X5_refusalOfSet_ok _ _ (by first | assumption | decide | omega) (by first | assumption | decide | omega)) lk_X5_233 zok0 (by decide) rfl rfl rfl rfl rfl dX5_duel_2 rfl ?_
  refine y_istore_n3 (q := 6) dX5_duel_5 rfl rfl rfl ?_
  refine y_iload_n (q := 7) dX5_duel_6 rfl rfl rfl ?_
  refine y_if_eq (q := 10) 12 dX5_duel_7 rfl rfl (fun h7 => ?_) (fun h7 => ?_)
  · refine y_iload_n (q := 13) dX5_duel_12 rfl rfl rfl ?_
    refine y_if_lt (q := 16) 21 dX5_duel_13 rfl rfl (fun h13 => ?_) (fun h13 => ?_)
    · refine y_iconst (q := 22) dX5_duel_21 ic_m1 rfl ?_
      exact y_iret dX5_duel_22 rfl (by exact ⟨rfl, rfl⟩)
    · refine y_iload_n (q := 17) dX5_duel_16 rfl rfl rfl ?_
      refine y_iconst (q := 18) dX5_duel_17 ic_2 rfl ?_
      refine y_icmp_le (q := 21) 23 dX5_duel_18 rfl rfl (fun h18 => ?_) (fun h18 => ?_)
      · exact absurd hn (by rintro (h | h); exact h13 h; exact h h18)
      · refine y_iconst (q := 22) dX5_duel_21 ic_m1 rfl ?_
        exact y_iret dX5_duel_22 rfl (by exact ⟨rfl, rfl⟩)
  · exact absurd rfl h7
theorem c_X5_duel_ok (σ : zSt) (s : Int32) (n : Nat) (hp : 0 ≤ fI σ 2 3 2) (hs : ¬ (s < 0 ∨ ¬ s ≤ 511)) (hn : n ≤ 2) : Mf 8 mi_X5_duel [zr 0 0, zi s, zi (nI n)] σ (some (zi 1)) (sI σ 0 0 11 (x_wb σ s (2 * n) (p_state σ 3) (p_number σ 3) (-9) 9)) := by
  refine Mt_of (ls := [some (zr 0 0), some (zi s), some (zi (nI n)), none]) (by decide +kernel) rfl rfl ?_
  refine y_aload_n (q := 1) dX5_duel_0 rfl rfl rfl ?_
  refine y_iload_n (q := 2) dX5_duel_1 rfl rfl rfl ?_
  refine y_cV (q := 5) (c_X5_refusalOfSet_ok _ _ (by first | assumption | decide | omega) (by first | assumption | decide | omega)) lk_X5_233 zok0 (by decide) rfl rfl rfl rfl rfl dX5_duel_2 rfl ?_
  refine y_istore_n3 (q := 6) dX5_duel_5 rfl rfl rfl ?_
  refine y_iload_n (q := 7) dX5_duel_6 rfl rfl rfl ?_
  refine y_if_eq (q := 10) 12 dX5_duel_7 rfl rfl (fun h7 => ?_) (fun h7 => ?_)
  · refine y_iload_n (q := 13) dX5_duel_12 rfl rfl rfl ?_
    refine y_if_lt (q := 16) 21 dX5_duel_13 rfl rfl (fun h13 => ?_) (fun h13 => ?_)
    · exact absurd h13 (nI_pos (by omega))
    · refine y_iload_n (q := 17) dX5_duel_16 rfl rfl rfl ?_
      refine y_iconst (q := 18) dX5_duel_17 ic_2 rfl ?_
      refine y_icmp_le (q := 21) 23 dX5_duel_18 rfl rfl (fun h18 => ?_) (fun h18 => ?_)
      · refine y_aload_n (q := 24) dX5_duel_23 rfl rfl rfl ?_
        refine y_aload_n (q := 25) dX5_duel_24 rfl rfl rfl ?_
        refine y_get (q := 28) fk_X5_32 zok0 (gv_0_4 _ _) dX5_duel_25 rfl ?_
        refine y_aload_n (q := 29) dX5_duel_28 rfl rfl rfl ?_
        refine y_get (q := 32) fk_X5_25 zok0 (gv_0_3 _ _) dX5_duel_29 rfl ?_
        refine y_cV (q := 35) (c_X1_state _ _ (by first | assumption | decide | omega)) lk_X5_160 (by decide) (by decide) rfl rfl rfl rfl rfl dX5_duel_32 rfl ?_
        refine y_aload_n (q := 36) dX5_duel_35 rfl rfl rfl ?_
        refine y_get (q := 39) fk_X5_25 zok0 (gv_0_3 _ _) dX5_duel_36 rfl ?_
        refine y_cV (q := 42) (c_X1_number _ _ (by first | assumption | decide | omega)) lk_X5_181 (by decide) (by decide) rfl rfl rfl rfl rfl dX5_duel_39 rfl ?_
        refine y_iconst (q := 43) dX5_duel_42 ic_2 rfl ?_
        refine y_iload_n (q := 44) dX5_duel_43 rfl rfl rfl ?_
        refine y_imul (q := 45) dX5_duel_44 rfl ?_
        rw [show (2 : Int32) * nI n = nI (2 * n) from pk_mul 2 n]
        refine y_iload_n (q := 46) dX5_duel_45 rfl rfl rfl ?_
        refine y_bipush (q := 48) dX5_duel_46 bp_m9 rfl ?_
        refine y_bipush (q := 50) dX5_duel_48 bp_9 rfl ?_
        refine y_cS (q := 53) (c_X5_wonBy σ s (2 * n) (by omega) _ _ _ _) lk_X5_262 (Nat.ble_eq_true_of_le (by omega)) rfl rfl rfl dX5_duel_50 rfl ?_
        refine y_cV (q := 56) (c_X5_tellAsked _ _) lk_X5_93 zok0 (by decide) rfl rfl rfl rfl rfl dX5_duel_53 rfl ?_
        exact y_iret dX5_duel_56 rfl (by exact ⟨rfl, rfl⟩)
      · exact absurd (nI_le (b := 2) hn (by decide)) h18
  · exact absurd rfl h7
/-! ===== TouchedLamps: chances, lots ===== -/
def x_tw (a b l p : Int32) : Int32 := (zshr a l &&& 1) * (12 - p) + (zshr b l &&& 1) * p
def x_odP (a b p : Int32) : Nat → Int64
  | 0 => 1
  | l + 1 => x_odP a b p l * (x_tw a b (nI l) p).toInt64
def x_odW : Nat → Int64
  | 0 => 1
  | l + 1 => x_odW l * 12
def x_miP (a b p : Int32) : Nat → Int64
  | 0 => 0
  | l + 1 => x_miP a b p l + (x_tw a b (nI l) p).toInt64
def x_parts (σ : zSt) (a b : Int64) : zSt := sL (sL σ 0 0 12 (a / x_cd 200 a b)) 0 0 13 (b / x_cd 200 a b)
theorem c_X5_twelfths (σ : zSt) (a b l p : Int32) : Mf 0 mi_X5_twelfths [zi a, zi b, zi l, zi p] σ (some (zi (x_tw a b l p))) σ := by
  refine Mt_of (ls := [some (zi a), some (zi b), some (zi l), some (zi p)]) (by decide +kernel) rfl rfl ?_
  refine y_iload_n (q := 1) dX5_twelfths_0 rfl rfl rfl ?_
  refine y_iload_n (q := 2) dX5_twelfths_1 rfl rfl rfl ?_
  refine y_ishr (q := 3) dX5_twelfths_2 rfl ?_
  refine y_iconst (q := 4) dX5_twelfths_3 ic_1 rfl ?_
  refine y_iand (q := 5) dX5_twelfths_4 rfl ?_
  refine y_bipush (q := 7) dX5_twelfths_5 bp_12 rfl ?_
  refine y_iload_n (q := 8) dX5_twelfths_7 rfl rfl rfl ?_
  refine y_isub (q := 9) dX5_twelfths_8 rfl ?_
  refine y_imul (q := 10) dX5_twelfths_9 rfl ?_
  refine y_iload_n (q := 11) dX5_twelfths_10 rfl rfl rfl ?_
  refine y_iload_n (q := 12) dX5_twelfths_11 rfl rfl rfl ?_
  refine y_ishr (q := 13) dX5_twelfths_12 rfl ?_
  refine y_iconst (q := 14) dX5_twelfths_13 ic_1 rfl ?_
  refine y_iand (q := 15) dX5_twelfths_14 rfl ?_
  refine y_iload_n (q := 16) dX5_twelfths_15 rfl rfl rfl ?_
  refine y_imul (q := 17) dX5_twelfths_16 rfl ?_
  refine y_iadd (q := 18) dX5_twelfths_17 rfl ?_
  exact y_iret dX5_twelfths_18 rfl (by exact ⟨rfl, rfl⟩)
theorem lp_X5_odds {Q : zQ} (σ : zSt) (ii pic p r4 u v : Int32) (hE : zY mi_X5_odds 4 Q 112 [some (zr 0 0), some (zi ii), some (zi pic), some (zi p), some (zi r4), some (zi u), some (zi v), some (zl (x_odP (zcom u) (zcom v) p (9))), none, some (zl (x_odW (9))), none, some (zi (nI (9)))] [] σ) : ∀ (m i : Nat) (x7 : Int64) (x9 : Int64) (x11 : Int32), i + m = 9 → x7 = x_odP (zcom u) (zcom v) p i → x9 = x_odW i → x11 = nI i → zY mi_X5_odds 4 Q 71 [some (zr 0 0), some (zi ii), some (zi pic), some (zi p), some (zi r4), some (zi u), some (zi v), some (zl x7), none, some (zl x9), none, some (zi x11)] [] σ := by
  intro m
  induction m with
  | zero =>
    intro i x7 x9 x11 hi e_x7 e_x9 e_x11
    obtain rfl : i = 9 := by omega
    subst e_x7
    subst e_x9
    subst e_x11
    refine y_iload (q := 73) dX5_odds_71 rfl rfl ?_
    refine y_bipush (q := 75) dX5_odds_73 bp_9 rfl ?_
    refine y_icmp_ge (q := 78) 112 dX5_odds_75 rfl rfl (fun h75 => ?_) (fun h75 => ?_)
    · exact hE
    · exact absurd (nI_le (a := 9) (b := 9) (Nat.le_refl _) (by omega)) h75
  | succ m ih =>
    intro i x7 x9 x11 hi e_x7 e_x9 e_x11
    refine y_iload (q := 73) dX5_odds_71 rfl rfl ?_
    refine y_bipush (q := 75) dX5_odds_73 bp_9 rfl ?_
    refine y_icmp_ge (q := 78) 112 dX5_odds_75 rfl rfl (fun h75 => ?_) (fun h75 => ?_)
    · exact absurd h75 (by rw [e_x11]; exact nI_ge (b := 9) (by omega) (by omega))
    · refine y_lload (q := 80) dX5_odds_78 rfl rfl ?_
      refine y_iload (q := 82) dX5_odds_80 rfl rfl ?_
      refine y_iconst (q := 83) dX5_odds_82 ic_m1 rfl ?_
      refine y_ixor (q := 84) dX5_odds_83 rfl ?_
      refine y_iload (q := 86) dX5_odds_84 rfl rfl ?_
      refine y_iconst (q := 87) dX5_odds_86 ic_m1 rfl ?_
      refine y_ixor (q := 88) dX5_odds_87 rfl ?_
      refine y_iload (q := 90) dX5_odds_88 rfl rfl ?_
      refine y_iload_n (q := 91) dX5_odds_90 rfl rfl rfl ?_
      refine y_cS (q := 94) (c_X5_twelfths _ _ _ _ _) lk_X5_266 rfl rfl rfl rfl dX5_odds_91 rfl ?_
      refine y_i2l (q := 95) dX5_odds_94 rfl ?_
      refine y_lmul (q := 96) dX5_odds_95 rfl ?_
      refine y_lstore_7 (q := 98) dX5_odds_96 rfl rfl rfl ?_
      refine y_lload (q := 100) dX5_odds_98 rfl rfl ?_
      refine y_ldc2_w (q := 103) dX5_odds_100 ck_X5_269 rfl ?_
      refine y_lmul (q := 104) dX5_odds_103 rfl ?_
      refine y_lstore_9 (q := 106) dX5_odds_104 rfl rfl rfl ?_
      refine y_iinc_11 (q := 109) dX5_odds_106 rfl ic_1 rfl rfl ?_
      refine y_goto 71 dX5_odds_109 rfl ?_
      exact ih (i + 1) _ _ _ (by omega) (by rw [e_x7, e_x11]; rfl) (by rw [e_x9]; rfl) (by first | rw [e_x11, nI_1] | rw [nI_1])
theorem c_X5_odds_none (σ : zSt) (i s p : Int32) (hp : ¬ 0 ≤ fI σ 2 3 2) : Mf 4 mi_X5_odds [zr 0 0, zi i, zi s, zi p] σ (some (zi (-4))) σ := by
  refine Mt_of (ls := [some (zr 0 0), some (zi i), some (zi s), some (zi p), none, none, none, none, none, none, none, none]) (by decide +kernel) rfl rfl ?_
  refine y_aload_n (q := 1) dX5_odds_0 rfl rfl rfl ?_
  refine y_iload_n (q := 2) dX5_odds_1 rfl rfl rfl ?_
  refine y_cV (q := 5) (c_X5_refusalOfSet_none _ _ (by first | assumption | decide | omega)) lk_X5_233 zok0 (by decide) rfl rfl rfl rfl rfl dX5_odds_2 rfl ?_
  refine y_istore_4 (q := 7) dX5_odds_5 rfl rfl rfl ?_
  refine y_iload (q := 9) dX5_odds_7 rfl rfl ?_
  refine y_if_eq (q := 12) 15 dX5_odds_9 rfl rfl (fun h9 => ?_) (fun h9 => ?_)
  · exact absurd h9 (by decide)
  · refine y_iload (q := 14) dX5_odds_12 rfl rfl ?_
    exact y_iret dX5_odds_14 rfl (by exact ⟨rfl, rfl⟩)
theorem c_X5_odds_bad1 (σ : zSt) (i s p : Int32) (hp : 0 ≤ fI σ 2 3 2) (hs : s < 0 ∨ ¬ s ≤ 511) : Mf 4 mi_X5_odds [zr 0 0, zi i, zi s, zi p] σ (some (zi (-1))) σ := by
  refine Mt_of (ls := [some (zr 0 0), some (zi i), some (zi s), some (zi p), none, none, none, none, none, none, none, none]) (by decide +kernel) rfl rfl ?_
  refine y_aload_n (q := 1) dX5_odds_0 rfl rfl rfl ?_
  refine y_iload_n (q := 2) dX5_odds_1 rfl rfl rfl ?_
  refine y_cV (q := 5) (c_X5_refusalOfSet_bad _ _ (by first | assumption | decide | omega) (by first | assumption | decide | omega)) lk_X5_233 zok0 (by decide) rfl rfl rfl rfl rfl dX5_odds_2 rfl ?_
  refine y_istore_4 (q := 7) dX5_odds_5 rfl rfl rfl ?_
  refine y_iload (q := 9) dX5_odds_7 rfl rfl ?_
  refine y_if_eq (q := 12) 15 dX5_odds_9 rfl rfl (fun h9 => ?_) (fun h9 => ?_)
  · exact absurd h9 (by decide)
  · refine y_iload (q := 14) dX5_odds_12 rfl rfl ?_
    exact y_iret dX5_odds_14 rfl (by exact ⟨rfl, rfl⟩)
theorem c_X5_odds_bad2 (σ : zSt) (i s p : Int32) (hp : 0 ≤ fI σ 2 3 2) (hs : ¬ (s < 0 ∨ ¬ s ≤ 511)) (hb : ¬ (x_lamp σ i ∧ ¬ (p < 0 ∨ ¬ p ≤ 12))) : Mf 4 mi_X5_odds [zr 0 0, zi i, zi s, zi p] σ (some (zi (-1))) σ := by
  refine Mt_of (ls := [some (zr 0 0), some (zi i), some (zi s), some (zi p), none, none, none, none, none, none, none, none]) (by decide +kernel) rfl rfl ?_
  refine y_aload_n (q := 1) dX5_odds_0 rfl rfl rfl ?_
  refine y_iload_n (q := 2) dX5_odds_1 rfl rfl rfl ?_
  refine y_cV (q := 5) (c_X5_refusalOfSet_ok _ _ (by first | assumption | decide | omega) (by first | assumption | decide | omega)) lk_X5_233 zok0 (by decide) rfl rfl rfl rfl rfl dX5_odds_2 rfl ?_
  refine y_istore_4 (q := 7) dX5_odds_5 rfl rfl rfl ?_
  refine y_iload (q := 9) dX5_odds_7 rfl rfl ?_
  refine y_if_eq (q := 12) 15 dX5_odds_9 rfl rfl (fun h9 => ?_) (fun h9 => ?_)
  · refine y_aload_n (q := 16) dX5_odds_15 rfl rfl rfl ?_
    refine y_iload_n (q := 17) dX5_odds_16 rfl rfl rfl ?_
    refine y_cV (q := 20) (c_X5_isLamp _ _) lk_X5_146 zok0 (by decide) rfl rfl rfl rfl rfl dX5_odds_17 rfl ?_
    refine y_if_eqB (q := 23) 33 dX5_odds_20 rfl rfl (fun h20 => ?_) (fun h20 => ?_)
    · refine y_iconst (q := 34) dX5_odds_33 ic_m1 rfl ?_
      exact y_iret dX5_odds_34 rfl (by exact ⟨rfl, rfl⟩)
    · refine y_iload_n (q := 24) dX5_odds_23 rfl rfl rfl ?_
      refine y_if_lt (q := 27) 33 dX5_odds_24 rfl rfl (fun h24 => ?_) (fun h24 => ?_)
      · refine y_iconst (q := 34) dX5_odds_33 ic_m1 rfl ?_
        exact y_iret dX5_odds_34 rfl (by exact ⟨rfl, rfl⟩)
      · refine y_iload_n (q := 28) dX5_odds_27 rfl rfl rfl ?_
        refine y_bipush (q := 30) dX5_odds_28 bp_12 rfl ?_
        refine y_icmp_le (q := 33) 35 dX5_odds_30 rfl rfl (fun h30 => ?_) (fun h30 => ?_)
        · exact absurd ⟨h20, by rintro (h | h); exact h24 h; exact h h30⟩ hb
        · refine y_iconst (q := 34) dX5_odds_33 ic_m1 rfl ?_
          exact y_iret dX5_odds_34 rfl (by exact ⟨rfl, rfl⟩)
  · exact absurd rfl h9
theorem c_X5_odds_ok (σ : zSt) (i s p : Int32) (hl : x_lamp σ i) (hs : ¬ (s < 0 ∨ ¬ s ≤ 511)) (hq : ¬ (p < 0 ∨ ¬ p ≤ 12)) (hg : 0 < x_cd 200 (x_odP (zcom (x_sb σ i ^^^ s)) (zcom (kx_show σ 0 (p_state σ 3) ^^^ s)) p 9) (x_odW 9)) : Mf 4 mi_X5_odds [zr 0 0, zi i, zi s, zi p] σ (some (zi 1)) (x_parts σ (x_odP (zcom (x_sb σ i ^^^ s)) (zcom (kx_show σ 0 (p_state σ 3) ^^^ s)) p 9) (x_odW 9)) := by
  refine Mt_of (ls := [some (zr 0 0), some (zi i), some (zi s), some (zi p), none, none, none, none, none, none, none, none]) (by decide +kernel) rfl rfl ?_
  refine y_aload_n (q := 1) dX5_odds_0 rfl rfl rfl ?_
  refine y_iload_n (q := 2) dX5_odds_1 rfl rfl rfl ?_
  refine y_cV (q := 5) (c_X5_refusalOfSet_ok _ _ hl.1 hs) lk_X5_233 zok0 (by decide) rfl rfl rfl rfl rfl dX5_odds_2 rfl ?_
  refine y_istore_4 (q := 7) dX5_odds_5 rfl rfl rfl ?_
  refine y_iload (q := 9) dX5_odds_7 rfl rfl ?_
  refine y_if_eq (q := 12) 15 dX5_odds_9 rfl rfl (fun h9 => ?_) (fun h9 => ?_)
  · refine y_aload_n (q := 16) dX5_odds_15 rfl rfl rfl ?_
    refine y_iload_n (q := 17) dX5_odds_16 rfl rfl rfl ?_
    refine y_cV (q := 20) (c_X5_isLamp _ _) lk_X5_146 zok0 (by decide) rfl rfl rfl rfl rfl dX5_odds_17 rfl ?_
    refine y_if_eqB (q := 23) 33 dX5_odds_20 rfl rfl (fun h20 => ?_) (fun h20 => ?_)
    · exact absurd hl h20
    · refine y_iload_n (q := 24) dX5_odds_23 rfl rfl rfl ?_
      refine y_if_lt (q := 27) 33 dX5_odds_24 rfl rfl (fun h24 => ?_) (fun h24 => ?_)
      · exact absurd (Or.inl h24) hq
      · refine y_iload_n (q := 28) dX5_odds_27 rfl rfl rfl ?_
        refine y_bipush (q := 30) dX5_odds_28 bp_12 rfl ?_
        refine y_icmp_le (q := 33) 35 dX5_odds_30 rfl rfl (fun h30 => ?_) (fun h30 => ?_)
        · refine y_aload_n (q := 36) dX5_odds_35 rfl rfl rfl ?_
          refine y_iload_n (q := 37) dX5_odds_36 rfl rfl rfl ?_
          refine y_cV (q := 40) (c_X5_showingBehind _ _) lk_X5_230 zok0 (by decide) rfl rfl rfl rfl rfl dX5_odds_37 rfl ?_
          refine y_iload_n (q := 41) dX5_odds_40 rfl rfl rfl ?_
          refine y_ixor (q := 42) dX5_odds_41 rfl ?_
          refine y_istore_5 (q := 44) dX5_odds_42 rfl rfl rfl ?_
          refine y_aload_n (q := 45) dX5_odds_44 rfl rfl rfl ?_
          refine y_get (q := 48) fk_X5_32 zok0 (gv_0_4 _ _) dX5_odds_45 rfl ?_
          refine y_aload_n (q := 49) dX5_odds_48 rfl rfl rfl ?_
          refine y_get (q := 52) fk_X5_25 zok0 (gv_0_3 _ _) dX5_odds_49 rfl ?_
          refine y_cV (q := 55) (c_X1_state _ _ (by first | assumption | decide | omega)) lk_X5_160 (by decide) (by decide) rfl rfl rfl rfl rfl dX5_odds_52 rfl ?_
          refine y_cV (q := 58) (c_X0_showing _ _ _ (by first | assumption | decide | omega)) lk_X5_184 (by decide) (by decide) rfl rfl rfl rfl rfl dX5_odds_55 rfl ?_
          refine y_iload_n (q := 59) dX5_odds_58 rfl rfl rfl ?_
          refine y_ixor (q := 60) dX5_odds_59 rfl ?_
          refine y_istore_6 (q := 62) dX5_odds_60 rfl rfl rfl ?_
          refine y_lconst (q := 63) dX5_odds_62 lc_1 rfl ?_
          refine y_lstore_7 (q := 65) dX5_odds_63 rfl rfl rfl ?_
          refine y_lconst (q := 66) dX5_odds_65 lc_1 rfl ?_
          refine y_lstore_9 (q := 68) dX5_odds_66 rfl rfl rfl ?_
          refine y_iconst (q := 69) dX5_odds_68 ic_0 rfl ?_
          refine y_istore_11 (q := 71) dX5_odds_69 rfl rfl rfl ?_
          refine lp_X5_odds σ i s p _ (x_sb σ i ^^^ s) (kx_show σ 0 (p_state σ 3) ^^^ s) ?_ 9 0 _ _ _ (by omega) rfl rfl rfl
          refine y_aload_n (q := 113) dX5_odds_112 rfl rfl rfl ?_
          refine y_lload (q := 115) dX5_odds_113 rfl rfl ?_
          refine y_lload (q := 117) dX5_odds_115 rfl rfl ?_
          refine y_cV0 (q := 120) (c_X5_tellParts _ _ _ hg) lk_X5_246 zok0 (by decide) rfl rfl rfl rfl rfl dX5_odds_117 rfl ?_
          refine y_iconst (q := 121) dX5_odds_120 ic_1 rfl ?_
          exact y_iret dX5_odds_121 rfl (by exact ⟨rfl, rfl⟩)
        · exact absurd (Or.inr h30) hq
  · exact absurd rfl h9
theorem lp_X5_mid {Q : zQ} (σ : zSt) (ii p u v : Int32) (hE : zY mi_X5_mid 4 Q 89 [some (zr 0 0), some (zi ii), some (zi p), some (zi u), some (zi v), some (zl (x_miP u v p (9))), none, some (zi (nI (9)))] [] σ) : ∀ (m i : Nat) (x5 : Int64) (x7 : Int32), i + m = 9 → x5 = x_miP u v p i → x7 = nI i → zY mi_X5_mid 4 Q 61 [some (zr 0 0), some (zi ii), some (zi p), some (zi u), some (zi v), some (zl x5), none, some (zi x7)] [] σ := by
  intro m
  induction m with
  | zero =>
    intro i x5 x7 hi e_x5 e_x7
    obtain rfl : i = 9 := by omega
    subst e_x5
    subst e_x7
    refine y_iload (q := 63) dX5_mid_61 rfl rfl ?_
    refine y_bipush (q := 65) dX5_mid_63 bp_9 rfl ?_
    refine y_icmp_ge (q := 68) 89 dX5_mid_65 rfl rfl (fun h65 => ?_) (fun h65 => ?_)
    · exact hE
    · exact absurd (nI_le (a := 9) (b := 9) (Nat.le_refl _) (by omega)) h65
  | succ m ih =>
    intro i x5 x7 hi e_x5 e_x7
    refine y_iload (q := 63) dX5_mid_61 rfl rfl ?_
    refine y_bipush (q := 65) dX5_mid_63 bp_9 rfl ?_
    refine y_icmp_ge (q := 68) 89 dX5_mid_65 rfl rfl (fun h65 => ?_) (fun h65 => ?_)
    · exact absurd h65 (by rw [e_x7]; exact nI_ge (b := 9) (by omega) (by omega))
    · refine y_lload (q := 70) dX5_mid_68 rfl rfl ?_
      refine y_iload_n (q := 71) dX5_mid_70 rfl rfl rfl ?_
      refine y_iload (q := 73) dX5_mid_71 rfl rfl ?_
      refine y_iload (q := 75) dX5_mid_73 rfl rfl ?_
      refine y_iload_n (q := 76) dX5_mid_75 rfl rfl rfl ?_
      refine y_cS (q := 79) (c_X5_twelfths _ _ _ _ _) lk_X5_266 rfl rfl rfl rfl dX5_mid_76 rfl ?_
      refine y_i2l (q := 80) dX5_mid_79 rfl ?_
      refine y_ladd (q := 81) dX5_mid_80 rfl ?_
      refine y_lstore_5 (q := 83) dX5_mid_81 rfl rfl rfl ?_
      refine y_iinc_7 (q := 86) dX5_mid_83 rfl ic_1 rfl rfl ?_
      refine y_goto 61 dX5_mid_86 rfl ?_
      exact ih (i + 1) _ _ (by omega) (by rw [e_x5, e_x7]; rfl) (by first | rw [e_x7, nI_1] | rw [nI_1])
theorem c_X5_mid_none (σ : zSt) (i p : Int32) (hp : ¬ 0 ≤ fI σ 2 3 2) : Mf 4 mi_X5_mid [zr 0 0, zi i, zi p] σ (some (zi (-4))) σ := by
  refine Mt_of (ls := [some (zr 0 0), some (zi i), some (zi p), none, none, none, none, none]) (by decide +kernel) rfl rfl ?_
  refine y_aload_n (q := 1) dX5_mid_0 rfl rfl rfl ?_
  refine y_get (q := 4) fk_X5_25 zok0 (gv_0_3 _ _) dX5_mid_1 rfl ?_
  refine y_cV (q := 7) (c_X1_isThere _ _ (by first | assumption | decide | omega)) lk_X5_187 (by decide) (by decide) rfl rfl rfl rfl rfl dX5_mid_4 rfl ?_
  refine y_if_neB (q := 10) 13 dX5_mid_7 rfl rfl (fun h7 => ?_) (fun h7 => ?_)
  · exact absurd h7 hp
  · refine y_bipush (q := 12) dX5_mid_10 bp_m4 rfl ?_
    exact y_iret dX5_mid_12 rfl (by exact ⟨rfl, rfl⟩)
theorem c_X5_mid_bad (σ : zSt) (i p : Int32) (hp : 0 ≤ fI σ 2 3 2) (hb : ¬ (x_lamp σ i ∧ ¬ (p < 0 ∨ ¬ p ≤ 12))) : Mf 4 mi_X5_mid [zr 0 0, zi i, zi p] σ (some (zi (-1))) σ := by
  refine Mt_of (ls := [some (zr 0 0), some (zi i), some (zi p), none, none, none, none, none]) (by decide +kernel) rfl rfl ?_
  refine y_aload_n (q := 1) dX5_mid_0 rfl rfl rfl ?_
  refine y_get (q := 4) fk_X5_25 zok0 (gv_0_3 _ _) dX5_mid_1 rfl ?_
  refine y_cV (q := 7) (c_X1_isThere _ _ (by first | assumption | decide | omega)) lk_X5_187 (by decide) (by decide) rfl rfl rfl rfl rfl dX5_mid_4 rfl ?_
  refine y_if_neB (q := 10) 13 dX5_mid_7 rfl rfl (fun h7 => ?_) (fun h7 => ?_)
  · refine y_aload_n (q := 14) dX5_mid_13 rfl rfl rfl ?_
    refine y_iload_n (q := 15) dX5_mid_14 rfl rfl rfl ?_
    refine y_cV (q := 18) (c_X5_isLamp _ _) lk_X5_146 zok0 (by decide) rfl rfl rfl rfl rfl dX5_mid_15 rfl ?_
    refine y_if_eqB (q := 21) 31 dX5_mid_18 rfl rfl (fun h18 => ?_) (fun h18 => ?_)
    · refine y_iconst (q := 32) dX5_mid_31 ic_m1 rfl ?_
      exact y_iret dX5_mid_32 rfl (by exact ⟨rfl, rfl⟩)
    · refine y_iload_n (q := 22) dX5_mid_21 rfl rfl rfl ?_
      refine y_if_lt (q := 25) 31 dX5_mid_22 rfl rfl (fun h22 => ?_) (fun h22 => ?_)
      · refine y_iconst (q := 32) dX5_mid_31 ic_m1 rfl ?_
        exact y_iret dX5_mid_32 rfl (by exact ⟨rfl, rfl⟩)
      · refine y_iload_n (q := 26) dX5_mid_25 rfl rfl rfl ?_
        refine y_bipush (q := 28) dX5_mid_26 bp_12 rfl ?_
        refine y_icmp_le (q := 31) 33 dX5_mid_28 rfl rfl (fun h28 => ?_) (fun h28 => ?_)
        · exact absurd ⟨h18, by rintro (h | h); exact h22 h; exact h h28⟩ hb
        · refine y_iconst (q := 32) dX5_mid_31 ic_m1 rfl ?_
          exact y_iret dX5_mid_32 rfl (by exact ⟨rfl, rfl⟩)
  · exact absurd hp h7
theorem c_X5_mid_ok (σ : zSt) (i p : Int32) (hl : x_lamp σ i) (hq : ¬ (p < 0 ∨ ¬ p ≤ 12)) (hg : 0 < x_cd 200 (x_miP (x_sb σ i) (kx_show σ 0 (p_state σ 3)) p 9) 12) : Mf 4 mi_X5_mid [zr 0 0, zi i, zi p] σ (some (zi 1)) (x_parts σ (x_miP (x_sb σ i) (kx_show σ 0 (p_state σ 3)) p 9) 12) := by
  refine Mt_of (ls := [some (zr 0 0), some (zi i), some (zi p), none, none, none, none, none]) (by decide +kernel) rfl rfl ?_
  refine y_aload_n (q := 1) dX5_mid_0 rfl rfl rfl ?_
  refine y_get (q := 4) fk_X5_25 zok0 (gv_0_3 _ _) dX5_mid_1 rfl ?_
  refine y_cV (q := 7) (c_X1_isThere _ _ (by first | assumption | decide | omega)) lk_X5_187 (by decide) (by decide) rfl rfl rfl rfl rfl dX5_mid_4 rfl ?_
  refine y_if_neB (q := 10) 13 dX5_mid_7 rfl rfl (fun h7 => ?_) (fun h7 => ?_)
  · refine y_aload_n (q := 14) dX5_mid_13 rfl rfl rfl ?_
    refine y_iload_n (q := 15) dX5_mid_14 rfl rfl rfl ?_
    refine y_cV (q := 18) (c_X5_isLamp _ _) lk_X5_146 zok0 (by decide) rfl rfl rfl rfl rfl dX5_mid_15 rfl ?_
    refine y_if_eqB (q := 21) 31 dX5_mid_18 rfl rfl (fun h18 => ?_) (fun h18 => ?_)
    · exact absurd hl h18
    · refine y_iload_n (q := 22) dX5_mid_21 rfl rfl rfl ?_
      refine y_if_lt (q := 25) 31 dX5_mid_22 rfl rfl (fun h22 => ?_) (fun h22 => ?_)
      · exact absurd (Or.inl h22) hq
      · refine y_iload_n (q := 26) dX5_mid_25 rfl rfl rfl ?_
        refine y_bipush (q := 28) dX5_mid_26 bp_12 rfl ?_
        refine y_icmp_le (q := 31) 33 dX5_mid_28 rfl rfl (fun h28 => ?_) (fun h28 => ?_)
        · refine y_aload_n (q := 34) dX5_mid_33 rfl rfl rfl ?_
          refine y_iload_n (q := 35) dX5_mid_34 rfl rfl rfl ?_
          refine y_cV (q := 38) (c_X5_showingBehind _ _) lk_X5_230 zok0 (by decide) rfl rfl rfl rfl rfl dX5_mid_35 rfl ?_
          refine y_istore_n3 (q := 39) dX5_mid_38 rfl rfl rfl ?_
          refine y_aload_n (q := 40) dX5_mid_39 rfl rfl rfl ?_
          refine y_get (q := 43) fk_X5_32 zok0 (gv_0_4 _ _) dX5_mid_40 rfl ?_
          refine y_aload_n (q := 44) dX5_mid_43 rfl rfl rfl ?_
          refine y_get (q := 47) fk_X5_25 zok0 (gv_0_3 _ _) dX5_mid_44 rfl ?_
          refine y_cV (q := 50) (c_X1_state _ _ (by first | assumption | decide | omega)) lk_X5_160 (by decide) (by decide) rfl rfl rfl rfl rfl dX5_mid_47 rfl ?_
          refine y_cV (q := 53) (c_X0_showing _ _ _ (by first | assumption | decide | omega)) lk_X5_184 (by decide) (by decide) rfl rfl rfl rfl rfl dX5_mid_50 rfl ?_
          refine y_istore_4 (q := 55) dX5_mid_53 rfl rfl rfl ?_
          refine y_lconst (q := 56) dX5_mid_55 lc_0 rfl ?_
          refine y_lstore_5 (q := 58) dX5_mid_56 rfl rfl rfl ?_
          refine y_iconst (q := 59) dX5_mid_58 ic_0 rfl ?_
          refine y_istore_7 (q := 61) dX5_mid_59 rfl rfl rfl ?_
          refine lp_X5_mid σ i p (x_sb σ i) (kx_show σ 0 (p_state σ 3)) ?_ 9 0 _ _ (by omega) rfl rfl
          refine y_aload_n (q := 90) dX5_mid_89 rfl rfl rfl ?_
          refine y_lload (q := 92) dX5_mid_90 rfl rfl ?_
          refine y_ldc2_w (q := 95) dX5_mid_92 ck_X5_269 rfl ?_
          refine y_cV0 (q := 98) (c_X5_tellParts _ _ _ hg) lk_X5_246 zok0 (by decide) rfl rfl rfl rfl rfl dX5_mid_95 rfl ?_
          refine y_iconst (q := 99) dX5_mid_98 ic_1 rfl ?_
          exact y_iret dX5_mid_99 rfl (by exact ⟨rfl, rfl⟩)
        · exact absurd (Or.inr h28) hq
  · exact absurd hl.1 h7
def x_lot1 (σ : zSt) (n : Nat) (i b : Int32) : zSt := if b < 6 then x_press1 σ n i else if b = 6 then x_set1 σ n i (if x_hst σ i (st_of (p_state σ 3) i + 1) then st_of (p_state σ 3) i + 1 else 0) else x_crack1 σ n i
theorem x_lot1_n (σ : zSt) (n : Nat) (i b : Int32) : fI (x_lot1 σ n i b) 2 3 2 = nI (n + 1) := by
  unfold x_lot1
  split
  · exact fI_same _ _ _ _ _
  · split
    · exact fI_same _ _ _ _ _
    · exact fI_same _ _ _ _ _
def x_lotL (seed : Int32) : Nat → Int64
  | 0 => seed.toInt64
  | k + 1 => zlrem (x_lotL seed k * 48271) 2147483647
def x_lots (σ : zSt) (n : Nat) (seed : Int32) : Nat → zSt
  | 0 => σ
  | k + 1 => x_lot1 (x_lots σ n seed k) (n + k) (zlrem (x_lotL seed (k + 1)) 9).toInt32 (zlrem (x_lotL seed (k + 1) / 16) 8).toInt32
theorem x_lots_n (σ : zSt) (n : Nat) (seed : Int32) (hs : fI σ 2 3 2 = nI n) : ∀ k, fI (x_lots σ n seed k) 2 3 2 = nI (n + k)
  | 0 => hs
  | k + 1 => x_lot1_n _ _ _ _
theorem c_X5_doByLot (σ : zSt) (n : Nat) (i b : Int32) (hs : fI σ 2 3 2 = nI n) (hn : n < 40) : Mf 4 mi_X5_doByLot [zr 0 0, zi i, zi b] σ none (x_lot1 σ n i b) := by
  refine Mt_of (ls := [some (zr 0 0), some (zi i), some (zi b), none]) (by decide +kernel) rfl rfl ?_
  refine y_iload_n (q := 1) dX5_doByLot_0 rfl rfl rfl ?_
  refine y_bipush (q := 3) dX5_doByLot_1 bp_6 rfl ?_
  refine y_icmp_ge (q := 6) 14 dX5_doByLot_3 rfl rfl (fun h3 => ?_) (fun h3 => ?_)
  · refine y_iload_n (q := 15) dX5_doByLot_14 rfl rfl rfl ?_
    refine y_bipush (q := 17) dX5_doByLot_15 bp_6 rfl ?_
    refine y_icmp_ne (q := 20) 58 dX5_doByLot_17 rfl rfl (fun h17 => ?_) (fun h17 => ?_)
    · refine y_aload_n (q := 59) dX5_doByLot_58 rfl rfl rfl ?_
      refine y_iload_n (q := 60) dX5_doByLot_59 rfl rfl rfl ?_
      refine y_cV0 (q := 63) (c_X5_doCrack _ n _ hs hn) lk_X5_200 zok0 (by decide) rfl rfl rfl rfl rfl dX5_doByLot_60 rfl ?_
      exact y_vret dX5_doByLot_63 rfl (by refine ⟨rfl, ?_⟩; first | (rw [x_lot1, if_pos (Int32.not_le.mp h3)]; done) | (rw [x_lot1, if_neg (Int32.not_lt.mpr h3), if_neg h17]; done) | (rw [x_lot1, if_neg (Int32.not_lt.mpr h3), if_pos h17, if_pos h42]; done) | (rw [x_lot1, if_neg (Int32.not_lt.mpr h3), if_pos h17, if_neg h42]; done))
    · refine y_aload_n (q := 21) dX5_doByLot_20 rfl rfl rfl ?_
      refine y_get (q := 24) fk_X5_25 zok0 (gv_0_3 _ _) dX5_doByLot_21 rfl ?_
      refine y_cV (q := 27) (c_X1_state _ _ (by first | assumption | decide | omega)) lk_X5_160 (by decide) (by decide) rfl rfl rfl rfl rfl dX5_doByLot_24 rfl ?_
      refine y_iload_n (q := 28) dX5_doByLot_27 rfl rfl rfl ?_
      refine y_cS (q := 31) (c_X4_of _ _ _) lk_X5_162 rfl rfl rfl rfl dX5_doByLot_28 rfl ?_
      refine y_istore_n3 (q := 32) dX5_doByLot_31 rfl rfl rfl ?_
      refine y_aload_n (q := 33) dX5_doByLot_32 rfl rfl rfl ?_
      refine y_iload_n (q := 34) dX5_doByLot_33 rfl rfl rfl ?_
      refine y_aload_n (q := 35) dX5_doByLot_34 rfl rfl rfl ?_
      refine y_iload_n (q := 36) dX5_doByLot_35 rfl rfl rfl ?_
      refine y_iload_n (q := 37) dX5_doByLot_36 rfl rfl rfl ?_
      refine y_iconst (q := 38) dX5_doByLot_37 ic_1 rfl ?_
      refine y_iadd (q := 39) dX5_doByLot_38 rfl ?_
      refine y_cV (q := 42) (c_X5_hasStep _ _ _) lk_X5_194 zok0 (by decide) rfl rfl rfl rfl rfl dX5_doByLot_39 rfl ?_
      refine y_if_eqB (q := 45) 51 dX5_doByLot_42 rfl rfl (fun h42 => ?_) (fun h42 => ?_)
      · refine y_iconst (q := 52) dX5_doByLot_51 ic_0 rfl ?_
        refine y_cV0 (q := 55) (c_X5_doSet _ n _ _ hs hn) lk_X5_197 zok0 (by decide) rfl rfl rfl rfl rfl dX5_doByLot_52 rfl ?_
        refine y_goto 63 dX5_doByLot_55 rfl ?_
        exact y_vret dX5_doByLot_63 rfl (by refine ⟨rfl, ?_⟩; first | (rw [x_lot1, if_pos (Int32.not_le.mp h3)]; done) | (rw [x_lot1, if_neg (Int32.not_lt.mpr h3), if_neg h17]; done) | (rw [x_lot1, if_neg (Int32.not_lt.mpr h3), if_pos h17, if_pos h42]; done) | (rw [x_lot1, if_neg (Int32.not_lt.mpr h3), if_pos h17, if_neg h42]; done))
      · refine y_iload_n (q := 46) dX5_doByLot_45 rfl rfl rfl ?_
        refine y_iconst (q := 47) dX5_doByLot_46 ic_1 rfl ?_
        refine y_iadd (q := 48) dX5_doByLot_47 rfl ?_
        refine y_goto 52 dX5_doByLot_48 rfl ?_
        refine y_cV0 (q := 55) (c_X5_doSet _ n _ _ hs hn) lk_X5_197 zok0 (by decide) rfl rfl rfl rfl rfl dX5_doByLot_52 rfl ?_
        refine y_goto 63 dX5_doByLot_55 rfl ?_
        exact y_vret dX5_doByLot_63 rfl (by refine ⟨rfl, ?_⟩; first | (rw [x_lot1, if_pos (Int32.not_le.mp h3)]; done) | (rw [x_lot1, if_neg (Int32.not_lt.mpr h3), if_neg h17]; done) | (rw [x_lot1, if_neg (Int32.not_lt.mpr h3), if_pos h17, if_pos h42]; done) | (rw [x_lot1, if_neg (Int32.not_lt.mpr h3), if_pos h17, if_neg h42]; done))
  · refine y_aload_n (q := 7) dX5_doByLot_6 rfl rfl rfl ?_
    refine y_iload_n (q := 8) dX5_doByLot_7 rfl rfl rfl ?_
    refine y_cV0 (q := 11) (c_X5_doPress _ n _ hs hn) lk_X5_191 zok0 (by decide) rfl rfl rfl rfl rfl dX5_doByLot_8 rfl ?_
    refine y_goto 63 dX5_doByLot_11 rfl ?_
    exact y_vret dX5_doByLot_63 rfl (by refine ⟨rfl, ?_⟩; first | (rw [x_lot1, if_pos (Int32.not_le.mp h3)]; done) | (rw [x_lot1, if_neg (Int32.not_lt.mpr h3), if_neg h17]; done) | (rw [x_lot1, if_neg (Int32.not_lt.mpr h3), if_pos h17, if_pos h42]; done) | (rw [x_lot1, if_neg (Int32.not_lt.mpr h3), if_pos h17, if_neg h42]; done))
theorem lp_X5_lots {Q : zQ} (σ : zSt) (n N : Nat) (seed : Int32) (hs : fI σ 2 3 2 = nI n) (hN : n + N ≤ 40) (hE : zY mi_X5_lots 5 Q 102 [some (zr 0 0), some (zi (nI N)), some (zi seed), some (zl (x_lotL seed (N))), none, some (zi (nI (N)))] [] (x_lots σ n seed (N))) : ∀ (m i : Nat) (x3 : Int64) (x5 : Int32) (τ : zSt), i + m = N → x3 = x_lotL seed i → x5 = nI i → τ = x_lots σ n seed i → zY mi_X5_lots 5 Q 60 [some (zr 0 0), some (zi (nI N)), some (zi seed), some (zl x3), none, some (zi x5)] [] τ := by
  intro m
  induction m with
  | zero =>
    intro i x3 x5 τ hi e_x3 e_x5 e_τ
    obtain rfl : i = N := by omega
    subst e_x3
    subst e_x5
    subst e_τ
    refine y_iload (q := 62) dX5_lots_60 rfl rfl ?_
    refine y_iload_n (q := 63) dX5_lots_62 rfl rfl rfl ?_
    refine y_icmp_ge (q := 66) 102 dX5_lots_63 rfl rfl (fun h63 => ?_) (fun h63 => ?_)
    · exact hE
    · exact absurd (nI_le (Nat.le_refl _) (by omega)) h63
  | succ m ih =>
    intro i x3 x5 τ hi e_x3 e_x5 e_τ
    refine y_iload (q := 62) dX5_lots_60 rfl rfl ?_
    refine y_iload_n (q := 63) dX5_lots_62 rfl rfl rfl ?_
    refine y_icmp_ge (q := 66) 102 dX5_lots_63 rfl rfl (fun h63 => ?_) (fun h63 => ?_)
    · exact absurd h63 (by rw [e_x5]; exact nI_ge (b := N) (by omega) (by omega))
    · refine y_lload_n (q := 67) dX5_lots_66 rfl rfl rfl ?_
      refine y_ldc2_w (q := 70) dX5_lots_67 ck_X5_273 rfl ?_
      refine y_lmul (q := 71) dX5_lots_70 rfl ?_
      refine y_ldc2_w (q := 74) dX5_lots_71 ck_X5_271 rfl ?_
      refine y_lrem (q := 75) dX5_lots_74 (by decide) rfl ?_
      refine y_lstore_n3 (q := 76) dX5_lots_75 rfl rfl rfl ?_
      refine y_aload_n (q := 77) dX5_lots_76 rfl rfl rfl ?_
      refine y_lload_n (q := 78) dX5_lots_77 rfl rfl rfl ?_
      refine y_ldc2_w (q := 81) dX5_lots_78 ck_X5_275 rfl ?_
      refine y_lrem (q := 82) dX5_lots_81 (by decide) rfl ?_
      refine y_l2i (q := 83) dX5_lots_82 rfl ?_
      refine y_lload_n (q := 84) dX5_lots_83 rfl rfl rfl ?_
      refine y_ldc2_w (q := 87) dX5_lots_84 ck_X5_277 rfl ?_
      refine y_ldiv (q := 88) dX5_lots_87 (by decide) rfl ?_
      refine y_ldc2_w (q := 91) dX5_lots_88 ck_X5_279 rfl ?_
      refine y_lrem (q := 92) dX5_lots_91 (by decide) rfl ?_
      refine y_l2i (q := 93) dX5_lots_92 rfl ?_
      refine y_cV0 (q := 96) (c_X5_doByLot _ (n + i) _ _ (by rw [e_τ]; exact x_lots_n σ n seed hs i) (by omega)) lk_X5_281 zok0 (by decide) rfl rfl rfl rfl rfl dX5_lots_93 rfl ?_
      refine y_iinc_5 (q := 99) dX5_lots_96 rfl ic_1 rfl rfl ?_
      refine y_goto 60 dX5_lots_99 rfl ?_
      exact ih (i + 1) _ _ _ (by omega) (by rw [e_x3]; rfl) (by first | rw [e_x5, nI_1] | rw [nI_1]) (by rw [e_τ, e_x3]; rfl)
theorem c_X5_lots_none (σ : zSt) (n seed : Int32) (hp : ¬ 0 ≤ fI σ 2 3 2) : Mf 5 mi_X5_lots [zr 0 0, zi n, zi seed] σ (some (zi (-4))) σ := by
  refine Mt_of (ls := [some (zr 0 0), some (zi n), some (zi seed), none, none, none]) (by decide +kernel) rfl rfl ?_
  refine y_aload_n (q := 1) dX5_lots_0 rfl rfl rfl ?_
  refine y_get (q := 4) fk_X5_25 zok0 (gv_0_3 _ _) dX5_lots_1 rfl ?_
  refine y_cV (q := 7) (c_X1_isThere _ _ (by first | assumption | decide | omega)) lk_X5_187 (by decide) (by decide) rfl rfl rfl rfl rfl dX5_lots_4 rfl ?_
  refine y_if_neB (q := 10) 13 dX5_lots_7 rfl rfl (fun h7 => ?_) (fun h7 => ?_)
  · exact absurd h7 hp
  · refine y_bipush (q := 12) dX5_lots_10 bp_m4 rfl ?_
    exact y_iret dX5_lots_12 rfl (by exact ⟨rfl, rfl⟩)
theorem c_X5_lots_bad (σ : zSt) (n seed : Int32) (hp : 0 ≤ fI σ 2 3 2) (hb : n < 1 ∨ 20 < n ∨ seed < 1 ∨ ¬ lg_cmp seed.toInt64 2147483647 < 0) : Mf 5 mi_X5_lots [zr 0 0, zi n, zi seed] σ (some (zi (-1))) σ := by
  refine Mt_of (ls := [some (zr 0 0), some (zi n), some (zi seed), none, none, none]) (by decide +kernel) rfl rfl ?_
  refine y_aload_n (q := 1) dX5_lots_0 rfl rfl rfl ?_
  refine y_get (q := 4) fk_X5_25 zok0 (gv_0_3 _ _) dX5_lots_1 rfl ?_
  refine y_cV (q := 7) (c_X1_isThere _ _ (by first | assumption | decide | omega)) lk_X5_187 (by decide) (by decide) rfl rfl rfl rfl rfl dX5_lots_4 rfl ?_
  refine y_if_neB (q := 10) 13 dX5_lots_7 rfl rfl (fun h7 => ?_) (fun h7 => ?_)
  · refine y_iload_n (q := 14) dX5_lots_13 rfl rfl rfl ?_
    refine y_iconst (q := 15) dX5_lots_14 ic_1 rfl ?_
    refine y_icmp_lt (q := 18) 38 dX5_lots_15 rfl rfl (fun h15 => ?_) (fun h15 => ?_)
    · refine y_iconst (q := 39) dX5_lots_38 ic_m1 rfl ?_
      exact y_iret dX5_lots_39 rfl (by exact ⟨rfl, rfl⟩)
    · refine y_iload_n (q := 19) dX5_lots_18 rfl rfl rfl ?_
      refine y_bipush (q := 21) dX5_lots_19 bp_20 rfl ?_
      refine y_icmp_gt (q := 24) 38 dX5_lots_21 rfl rfl (fun h21 => ?_) (fun h21 => ?_)
      · refine y_iconst (q := 39) dX5_lots_38 ic_m1 rfl ?_
        exact y_iret dX5_lots_39 rfl (by exact ⟨rfl, rfl⟩)
      · refine y_iload_n (q := 25) dX5_lots_24 rfl rfl rfl ?_
        refine y_iconst (q := 26) dX5_lots_25 ic_1 rfl ?_
        refine y_icmp_lt (q := 29) 38 dX5_lots_26 rfl rfl (fun h26 => ?_) (fun h26 => ?_)
        · refine y_iconst (q := 39) dX5_lots_38 ic_m1 rfl ?_
          exact y_iret dX5_lots_39 rfl (by exact ⟨rfl, rfl⟩)
        · refine y_iload_n (q := 30) dX5_lots_29 rfl rfl rfl ?_
          refine y_i2l (q := 31) dX5_lots_30 rfl ?_
          refine y_ldc2_w (q := 34) dX5_lots_31 ck_X5_271 rfl ?_
          refine y_lcmp (q := 35) dX5_lots_34 rfl ?_
          refine y_if_lt (q := 38) 40 dX5_lots_35 rfl rfl (fun h35 => ?_) (fun h35 => ?_)
          · exact absurd hb (by rintro (h | h | h | h); exact h15 h; exact h21 h; exact h26 h; exact h h35)
          · refine y_iconst (q := 39) dX5_lots_38 ic_m1 rfl ?_
            exact y_iret dX5_lots_39 rfl (by exact ⟨rfl, rfl⟩)
  · exact absurd hp h7
theorem c_X5_lots_full (σ : zSt) (n seed : Int32) (hp : 0 ≤ fI σ 2 3 2) (hb : ¬ (n < 1 ∨ 20 < n ∨ seed < 1 ∨ ¬ lg_cmp seed.toInt64 2147483647 < 0)) (hf : ¬ n ≤ p_room σ 3) : Mf 5 mi_X5_lots [zr 0 0, zi n, zi seed] σ (some (zi (-2))) σ := by
  refine Mt_of (ls := [some (zr 0 0), some (zi n), some (zi seed), none, none, none]) (by decide +kernel) rfl rfl ?_
  refine y_aload_n (q := 1) dX5_lots_0 rfl rfl rfl ?_
  refine y_get (q := 4) fk_X5_25 zok0 (gv_0_3 _ _) dX5_lots_1 rfl ?_
  refine y_cV (q := 7) (c_X1_isThere _ _ (by first | assumption | decide | omega)) lk_X5_187 (by decide) (by decide) rfl rfl rfl rfl rfl dX5_lots_4 rfl ?_
  refine y_if_neB (q := 10) 13 dX5_lots_7 rfl rfl (fun h7 => ?_) (fun h7 => ?_)
  · refine y_iload_n (q := 14) dX5_lots_13 rfl rfl rfl ?_
    refine y_iconst (q := 15) dX5_lots_14 ic_1 rfl ?_
    refine y_icmp_lt (q := 18) 38 dX5_lots_15 rfl rfl (fun h15 => ?_) (fun h15 => ?_)
    · exact absurd (Or.inl h15) hb
    · refine y_iload_n (q := 19) dX5_lots_18 rfl rfl rfl ?_
      refine y_bipush (q := 21) dX5_lots_19 bp_20 rfl ?_
      refine y_icmp_gt (q := 24) 38 dX5_lots_21 rfl rfl (fun h21 => ?_) (fun h21 => ?_)
      · exact absurd (Or.inr (Or.inl h21)) hb
      · refine y_iload_n (q := 25) dX5_lots_24 rfl rfl rfl ?_
        refine y_iconst (q := 26) dX5_lots_25 ic_1 rfl ?_
        refine y_icmp_lt (q := 29) 38 dX5_lots_26 rfl rfl (fun h26 => ?_) (fun h26 => ?_)
        · exact absurd (Or.inr (Or.inr (Or.inl h26))) hb
        · refine y_iload_n (q := 30) dX5_lots_29 rfl rfl rfl ?_
          refine y_i2l (q := 31) dX5_lots_30 rfl ?_
          refine y_ldc2_w (q := 34) dX5_lots_31 ck_X5_271 rfl ?_
          refine y_lcmp (q := 35) dX5_lots_34 rfl ?_
          refine y_if_lt (q := 38) 40 dX5_lots_35 rfl rfl (fun h35 => ?_) (fun h35 => ?_)
          · refine y_aload_n (q := 41) dX5_lots_40 rfl rfl rfl ?_
            refine y_get (q := 44) fk_X5_25 zok0 (gv_0_3 _ _) dX5_lots_41 rfl ?_
            refine y_cV (q := 47) (c_X1_room _ _ (by first | assumption | decide | omega)) lk_X5_188 (by decide) (by decide) rfl rfl rfl rfl rfl dX5_lots_44 rfl ?_
            refine y_iload_n (q := 48) dX5_lots_47 rfl rfl rfl ?_
            refine y_icmp_ge (q := 51) 54 dX5_lots_48 rfl rfl (fun h48 => ?_) (fun h48 => ?_)
            · exact absurd h48 hf
            · refine y_bipush (q := 53) dX5_lots_51 bp_m2 rfl ?_
              exact y_iret dX5_lots_53 rfl (by exact ⟨rfl, rfl⟩)
          · exact absurd (Or.inr (Or.inr (Or.inr h35))) hb
  · exact absurd hp h7
theorem c_X5_lots_ok (σ : zSt) (n N : Nat) (seed : Int32) (hs : fI σ 2 3 2 = nI n) (hN : n + N ≤ 40) (hb : ¬ (nI N < 1 ∨ 20 < nI N ∨ seed < 1 ∨ ¬ lg_cmp seed.toInt64 2147483647 < 0)) : Mf 5 mi_X5_lots [zr 0 0, zi (nI N), zi seed] σ (some (zi (kx_show (x_lots σ n seed N) 0 (p_state (x_lots σ n seed N) 3)))) (x_lots σ n seed N) := by
  have hp := there_of hs (by omega)
  have hf : nI N ≤ p_room σ 3 := by
    rw [p_room, hs, if_neg (nI_pos (by omega)), show (40 : Int32) - nI n = nI (40 - n) from pk_sub (a := 40) (by omega)]
    exact nI_le (by omega) (by omega)
  refine Mt_of (ls := [some (zr 0 0), some (zi (nI N)), some (zi seed), none, none, none]) (by decide +kernel) rfl rfl ?_
  refine y_aload_n (q := 1) dX5_lots_0 rfl rfl rfl ?_
  refine y_get (q := 4) fk_X5_25 zok0 (gv_0_3 _ _) dX5_lots_1 rfl ?_
  refine y_cV (q := 7) (c_X1_isThere _ _ (by first | assumption | decide | omega)) lk_X5_187 (by decide) (by decide) rfl rfl rfl rfl rfl dX5_lots_4 rfl ?_
  refine y_if_neB (q := 10) 13 dX5_lots_7 rfl rfl (fun h7 => ?_) (fun h7 => ?_)
  · refine y_iload_n (q := 14) dX5_lots_13 rfl rfl rfl ?_
    refine y_iconst (q := 15) dX5_lots_14 ic_1 rfl ?_
    refine y_icmp_lt (q := 18) 38 dX5_lots_15 rfl rfl (fun h15 => ?_) (fun h15 => ?_)
    · exact absurd (Or.inl h15) hb
    · refine y_iload_n (q := 19) dX5_lots_18 rfl rfl rfl ?_
      refine y_bipush (q := 21) dX5_lots_19 bp_20 rfl ?_
      refine y_icmp_gt (q := 24) 38 dX5_lots_21 rfl rfl (fun h21 => ?_) (fun h21 => ?_)
      · exact absurd (Or.inr (Or.inl h21)) hb
      · refine y_iload_n (q := 25) dX5_lots_24 rfl rfl rfl ?_
        refine y_iconst (q := 26) dX5_lots_25 ic_1 rfl ?_
        refine y_icmp_lt (q := 29) 38 dX5_lots_26 rfl rfl (fun h26 => ?_) (fun h26 => ?_)
        · exact absurd (Or.inr (Or.inr (Or.inl h26))) hb
        · refine y_iload_n (q := 30) dX5_lots_29 rfl rfl rfl ?_
          refine y_i2l (q := 31) dX5_lots_30 rfl ?_
          refine y_ldc2_w (q := 34) dX5_lots_31 ck_X5_271 rfl ?_
          refine y_lcmp (q := 35) dX5_lots_34 rfl ?_
          refine y_if_lt (q := 38) 40 dX5_lots_35 rfl rfl (fun h35 => ?_) (fun h35 => ?_)
          · refine y_aload_n (q := 41) dX5_lots_40 rfl rfl rfl ?_
            refine y_get (q := 44) fk_X5_25 zok0 (gv_0_3 _ _) dX5_lots_41 rfl ?_
            refine y_cV (q := 47) (c_X1_room _ _ (by first | assumption | decide | omega)) lk_X5_188 (by decide) (by decide) rfl rfl rfl rfl rfl dX5_lots_44 rfl ?_
            refine y_iload_n (q := 48) dX5_lots_47 rfl rfl rfl ?_
            refine y_icmp_ge (q := 51) 54 dX5_lots_48 rfl rfl (fun h48 => ?_) (fun h48 => ?_)
            · refine y_iload_n (q := 55) dX5_lots_54 rfl rfl rfl ?_
              refine y_i2l (q := 56) dX5_lots_55 rfl ?_
              refine y_lstore_n3 (q := 57) dX5_lots_56 rfl rfl rfl ?_
              refine y_iconst (q := 58) dX5_lots_57 ic_0 rfl ?_
              refine y_istore_5 (q := 60) dX5_lots_58 rfl rfl rfl ?_
              refine lp_X5_lots σ n N seed hs hN ?_ N 0 _ _ _ (by omega) rfl rfl rfl
              refine y_aload_n (q := 103) dX5_lots_102 rfl rfl rfl ?_
              refine y_get (q := 106) fk_X5_32 zok0 (gv_0_4 _ _) dX5_lots_103 rfl ?_
              refine y_aload_n (q := 107) dX5_lots_106 rfl rfl rfl ?_
              refine y_get (q := 110) fk_X5_25 zok0 (gv_0_3 _ _) dX5_lots_107 rfl ?_
              refine y_cV (q := 113) (c_X1_state _ _ (by decide)) lk_X5_160 (by decide) (by decide) rfl rfl rfl rfl rfl dX5_lots_110 rfl ?_
              refine y_cV (q := 116) (c_X0_showing _ _ _ (by decide)) lk_X5_184 (by decide) (by decide) rfl rfl rfl rfl rfl dX5_lots_113 rfl ?_
              exact y_iret dX5_lots_116 rfl (by exact ⟨rfl, rfl⟩)
            · exact absurd hf h48
          · exact absurd (Or.inr (Or.inr (Or.inr h35))) hb
  · exact absurd hp h7
