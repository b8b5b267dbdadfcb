/-! ===== the reference: digest ===== -/
def m_d2 (σ : zSt) (n : Nat) (h : Int64) : Nat → Int64
  | 0 => h
  | i + 1 => r_mix (m_fact σ n i) (m_d2 σ n h i) 6
def m_d4 (σ : zSt) (a b L : Nat) (h : Int64) : Nat → Int64
  | 0 => h
  | r + 1 => r_mix (fun k => fA σ b (L * r + k)) (31 * m_d4 σ a b L h r + (fA σ a r).toInt64) (fA σ a r).toNatClampNeg
abbrev mr_ok (x : Int32) (L : Nat) : Prop := x = -1 ∨ ∃ w, w ≤ L ∧ x = nI w
abbrev m_cok (σ : zSt) (n : Nat) : Prop := (fI σ 5 0 10 = 9 ∧ fI σ 5 0 14 = nI n ∧ n ≤ 40) ∨ (n = 0 ∧ m_emp σ)
theorem c_X6_count (σ : zSt) (n w : Nat) (h : m_cok σ n) (hw : w < 11) : Mf 3 mi_X6_count [zr 5 0, zi (nI w)] σ (some (zi (m_ct σ n w))) σ := by
  rcases h with h | ⟨rfl, h⟩
  · exact c_X6_count_ok σ n w h.1 h.2.1 h.2.2 hw
  · exact c_X6_count_no σ w h hw
def m_dgA (σ : zSt) (n : Nat) : Int64 := if fI σ 5 0 10 = 9 then m_d2 σ n (r_mix (m_ct σ n) 17 11) 9 else r_mix (m_ct σ n) 17 11
def m_dig (σ : zSt) (n : Nat) : Int64 := m_d4 σ 24 33 60 (m_d4 σ 22 23 40 (r_mix (fA σ 30) (m_dgA σ n) 3) 6) 4
theorem lp_X6_dig1 {Q : zQ} (σ : zSt) (n : Nat) (hc : m_cok σ n) (hE : ∀ (a4 : Option zV), zY mi_X6_digest 5 Q 31 [some (zr 5 0), some (zl (r_mix (m_ct σ n) 17 (11))), none, some (zi (nI (11))), a4] [] σ) : ∀ (m i : Nat) (x1 : Int64) (x3 : Int32) (a4 : Option zV), i + m = 11 → x1 = r_mix (m_ct σ n) 17 i → x3 = nI i → zY mi_X6_digest 5 Q 6 [some (zr 5 0), some (zl x1), none, some (zi x3), a4] [] σ := by
  intro m
  induction m with
  | zero =>
    intro i x1 x3 a4 hi e_x1 e_x3
    obtain rfl : i = 11 := by omega
    subst e_x1
    subst e_x3
    refine y_iload_n (q := 7) dX6_digest_6 rfl rfl rfl ?_
    refine y_bipush (q := 9) dX6_digest_7 bp_10 rfl ?_
    refine y_icmp_gt (q := 12) 31 dX6_digest_9 rfl rfl (fun h9 => ?_) (fun h9 => ?_)
    · first | exact hE _ | exact absurd h9 (by rw [e_x3]; exact nI_nlt (a := 10) (by omega) (by decide))
    · exact absurd (by decide) h9
  | succ m ih =>
    intro i x1 x3 a4 hi e_x1 e_x3
    refine y_iload_n (q := 7) dX6_digest_6 rfl rfl rfl ?_
    refine y_bipush (q := 9) dX6_digest_7 bp_10 rfl ?_
    refine y_icmp_gt (q := 12) 31 dX6_digest_9 rfl rfl (fun h9 => ?_) (fun h9 => ?_)
    · first | exact hE _ | exact absurd h9 (by rw [e_x3]; exact nI_nlt (a := 10) (by omega) (by decide))
    · subst e_x3
      refine y_ldc2_w (q := 15) dX6_digest_12 ck_X6_222 rfl ?_
      refine y_lload_n (q := 16) dX6_digest_15 rfl rfl rfl ?_
      refine y_lmul (q := 17) dX6_digest_16 rfl ?_
      refine y_aload_n (q := 18) dX6_digest_17 rfl rfl rfl ?_
      refine y_iload_n (q := 19) dX6_digest_18 rfl rfl rfl ?_
      refine y_cV (q := 22) (c_X6_count _ n i hc (by omega)) lk_X6_224 zok5 (by decide) rfl rfl rfl rfl rfl dX6_digest_19 rfl ?_
      refine y_i2l (q := 23) dX6_digest_22 rfl ?_
      refine y_ladd (q := 24) dX6_digest_23 rfl ?_
      refine y_lstore_n1 (q := 25) dX6_digest_24 rfl rfl rfl ?_
      refine y_iinc_3 (q := 28) dX6_digest_25 rfl ic_1 rfl rfl ?_
      refine y_goto 6 dX6_digest_28 rfl ?_
      exact ih (i + 1) _ _ _ (by omega) (by rw [e_x1]; rfl) (by rw [nI_1])
theorem lp_X6_dig2i {Q : zQ} (σ : zSt) (n ii : Nat) (h : Int64) (hL : fI σ 5 0 10 = 9) (hD : fI σ 5 0 14 = nI n) (hn : n ≤ 40) (hi9 : ii < 9) (hE : zY mi_X6_digest 5 Q 71 [some (zr 5 0), some (zl (r_mix (m_fact σ n ii) h (6))), none, some (zi (nI ii)), some (zi (nI (6)))] [] σ) : ∀ (m i : Nat) (x1 : Int64) (x4 : Int32), i + m = 6 → x1 = r_mix (m_fact σ n ii) h i → x4 = nI i → zY mi_X6_digest 5 Q 44 [some (zr 5 0), some (zl x1), none, some (zi (nI ii)), some (zi x4)] [] σ := by
  intro m
  induction m with
  | zero =>
    intro i x1 x4 hi e_x1 e_x4
    obtain rfl : i = 6 := by omega
    subst e_x1
    subst e_x4
    refine y_iload (q := 46) dX6_digest_44 rfl rfl ?_
    refine y_iconst (q := 47) dX6_digest_46 ic_5 rfl ?_
    refine y_icmp_gt (q := 50) 71 dX6_digest_47 rfl rfl (fun h47 => ?_) (fun h47 => ?_)
    · first | exact hE | exact absurd h47 (by rw [e_x4]; exact nI_nlt (a := 5) (by omega) (by decide))
    · exact absurd (by decide) h47
  | succ m ih =>
    intro i x1 x4 hi e_x1 e_x4
    refine y_iload (q := 46) dX6_digest_44 rfl rfl ?_
    refine y_iconst (q := 47) dX6_digest_46 ic_5 rfl ?_
    refine y_icmp_gt (q := 50) 71 dX6_digest_47 rfl rfl (fun h47 => ?_) (fun h47 => ?_)
    · first | exact hE | exact absurd h47 (by rw [e_x4]; exact nI_nlt (a := 5) (by omega) (by decide))
    · subst e_x4
      refine y_ldc2_w (q := 53) dX6_digest_50 ck_X6_222 rfl ?_
      refine y_lload_n (q := 54) dX6_digest_53 rfl rfl rfl ?_
      refine y_lmul (q := 55) dX6_digest_54 rfl ?_
      refine y_aload_n (q := 56) dX6_digest_55 rfl rfl rfl ?_
      refine y_iload_n (q := 57) dX6_digest_56 rfl rfl rfl ?_
      refine y_iload (q := 59) dX6_digest_57 rfl rfl ?_
      refine y_cV (q := 62) (c_X6_factOf _ n ii i hL hD hn hi9 (by omega)) lk_X6_131 zok5 (by decide) rfl rfl rfl rfl rfl dX6_digest_59 rfl ?_
      refine y_i2l (q := 63) dX6_digest_62 rfl ?_
      refine y_ladd (q := 64) dX6_digest_63 rfl ?_
      refine y_lstore_n1 (q := 65) dX6_digest_64 rfl rfl rfl ?_
      refine y_iinc_4 (q := 68) dX6_digest_65 rfl ic_1 rfl rfl ?_
      refine y_goto 44 dX6_digest_68 rfl ?_
      exact ih (i + 1) _ _ (by omega) (by rw [e_x1]; rfl) (by rw [nI_1])
theorem lp_X6_dig2 {Q : zQ} (σ : zSt) (n : Nat) (h : Int64) (hL : fI σ 5 0 10 = 9) (hD : fI σ 5 0 14 = nI n) (hn : n ≤ 40) (hE : ∀ (a4 : Option zV), zY mi_X6_digest 5 Q 77 [some (zr 5 0), some (zl (m_d2 σ n h (9))), none, some (zi (nI (9))), a4] [] σ) : ∀ (m i : Nat) (x1 : Int64) (x3 : Int32) (a4 : Option zV), i + m = 9 → x1 = m_d2 σ n h i → x3 = nI i → zY mi_X6_digest 5 Q 33 [some (zr 5 0), some (zl x1), none, some (zi x3), a4] [] σ := by
  intro m
  induction m with
  | zero =>
    intro i x1 x3 a4 hi e_x1 e_x3
    obtain rfl : i = 9 := by omega
    subst e_x1
    subst e_x3
    refine y_iload_n (q := 34) dX6_digest_33 rfl rfl rfl ?_
    refine y_aload_n (q := 35) dX6_digest_34 rfl rfl rfl ?_
    refine y_get (q := 38) fk_X6_94 zok5 (gv_5_10 _ _) dX6_digest_35 rfl ?_
    rw [hL]
    refine y_icmp_ge (q := 41) 77 dX6_digest_38 rfl rfl (fun h38 => ?_) (fun h38 => ?_)
    · exact hE _
    · exact absurd (nI_le (a := 9) (b := 9) (Nat.le_refl _) (by omega)) h38
  | succ m ih =>
    intro i x1 x3 a4 hi e_x1 e_x3
    refine y_iload_n (q := 34) dX6_digest_33 rfl rfl rfl ?_
    refine y_aload_n (q := 35) dX6_digest_34 rfl rfl rfl ?_
    refine y_get (q := 38) fk_X6_94 zok5 (gv_5_10 _ _) dX6_digest_35 rfl ?_
    rw [hL]
    refine y_icmp_ge (q := 41) 77 dX6_digest_38 rfl rfl (fun h38 => ?_) (fun h38 => ?_)
    · exact absurd h38 (by rw [e_x3]; exact nI_ge (b := 9) (by omega) (by omega))
    · subst e_x3
      subst e_x1
      refine y_iconst (q := 42) dX6_digest_41 ic_0 rfl ?_
      refine y_istore_4 (q := 44) dX6_digest_42 rfl rfl rfl ?_
      refine lp_X6_dig2i σ n i _ hL hD hn (by omega) ?_ 6 0 _ _ (by omega) rfl rfl
      refine y_iinc_3 (q := 74) dX6_digest_71 rfl ic_1 rfl rfl ?_
      refine y_goto 33 dX6_digest_74 rfl ?_
      exact ih (i + 1) _ _ _ (by omega) rfl (by rw [nI_1])
theorem lp_X6_dig3 {Q : zQ} (σ : zSt) (h : Int64) (hE : ∀ (a4 : Option zV), zY mi_X6_digest 5 Q 104 [some (zr 5 0), some (zl (r_mix (fA σ 30) h (3))), none, some (zi (nI (3))), a4] [] σ) : ∀ (m i : Nat) (x1 : Int64) (x3 : Int32) (a4 : Option zV), i + m = 3 → x1 = r_mix (fA σ 30) h i → x3 = nI i → zY mi_X6_digest 5 Q 79 [some (zr 5 0), some (zl x1), none, some (zi x3), a4] [] σ := by
  intro m
  induction m with
  | zero =>
    intro i x1 x3 a4 hi e_x1 e_x3
    obtain rfl : i = 3 := by omega
    subst e_x1
    subst e_x3
    refine y_iload_n (q := 80) dX6_digest_79 rfl rfl rfl ?_
    refine y_iconst (q := 81) dX6_digest_80 ic_3 rfl ?_
    refine y_icmp_ge (q := 84) 104 dX6_digest_81 rfl rfl (fun h81 => ?_) (fun h81 => ?_)
    · exact hE _
    · exact absurd (nI_le (a := 3) (b := 3) (Nat.le_refl _) (by omega)) h81
  | succ m ih =>
    intro i x1 x3 a4 hi e_x1 e_x3
    refine y_iload_n (q := 80) dX6_digest_79 rfl rfl rfl ?_
    refine y_iconst (q := 81) dX6_digest_80 ic_3 rfl ?_
    refine y_icmp_ge (q := 84) 104 dX6_digest_81 rfl rfl (fun h81 => ?_) (fun h81 => ?_)
    · exact absurd h81 (by rw [e_x3]; exact nI_ge (b := 3) (by omega) (by omega))
    · subst e_x3
      refine y_ldc2_w (q := 87) dX6_digest_84 ck_X6_222 rfl ?_
      refine y_lload_n (q := 88) dX6_digest_87 rfl rfl rfl ?_
      refine y_lmul (q := 89) dX6_digest_88 rfl ?_
      refine y_aload_n (q := 90) dX6_digest_89 rfl rfl rfl ?_
      refine y_get (q := 93) fk_X6_45 zok5 (gv_5_16 _ _) dX6_digest_90 rfl ?_
      refine y_iload_n (q := 94) dX6_digest_93 rfl rfl rfl ?_
      refine y_iald (q := 95) (by first | decide | assumption | omega) (zvinN (n := 3) (by omega) (by decide)) dX6_digest_94 rfl ?_
      rw [nI_clamp (by omega)]
      refine y_i2l (q := 96) dX6_digest_95 rfl ?_
      refine y_ladd (q := 97) dX6_digest_96 rfl ?_
      refine y_lstore_n1 (q := 98) dX6_digest_97 rfl rfl rfl ?_
      refine y_iinc_3 (q := 101) dX6_digest_98 rfl ic_1 rfl rfl ?_
      refine y_goto 79 dX6_digest_101 rfl ?_
      exact ih (i + 1) _ _ _ (by omega) (by rw [e_x1]; rfl) (by rw [nI_1])
theorem lp_X6_dig4i {Q : zQ} (σ : zSt) (j w : Nat) (h : Int64) (hj : j < 6) (hw : fA σ 22 j = nI w) (hw4 : w ≤ 40) (hE : zY mi_X6_digest 5 Q 166 [some (zr 5 0), some (zl (r_mix (fun k => fA σ 23 (40 * j + k)) h (w))), none, some (zi (nI j)), some (zi (nI (w)))] [] σ) : ∀ (m i : Nat) (x1 : Int64) (x4 : Int32), i + m = w → x1 = r_mix (fun k => fA σ 23 (40 * j + k)) h i → x4 = nI i → zY mi_X6_digest 5 Q 129 [some (zr 5 0), some (zl x1), none, some (zi (nI j)), some (zi x4)] [] σ := by
  intro m
  induction m with
  | zero =>
    intro i x1 x4 hi e_x1 e_x4
    obtain rfl : i = w := by omega
    subst e_x1
    subst e_x4
    refine y_iload (q := 131) dX6_digest_129 rfl rfl ?_
    refine y_aload_n (q := 132) dX6_digest_131 rfl rfl rfl ?_
    refine y_get (q := 135) fk_X6_17 zok5 (gv_5_5 _ _) dX6_digest_132 rfl ?_
    refine y_iload_n (q := 136) dX6_digest_135 rfl rfl rfl ?_
    refine y_iald (q := 137) (by first | decide | assumption | omega) (zvinN (n := 6) (by omega) (by decide)) dX6_digest_136 rfl ?_
    rw [nI_clamp (by omega), hw]
    refine y_icmp_ge (q := 140) 166 dX6_digest_137 rfl rfl (fun h137 => ?_) (fun h137 => ?_)
    · exact hE
    · exact absurd (nI_le (Nat.le_refl _) (by omega)) h137
  | succ m ih =>
    intro i x1 x4 hi e_x1 e_x4
    refine y_iload (q := 131) dX6_digest_129 rfl rfl ?_
    refine y_aload_n (q := 132) dX6_digest_131 rfl rfl rfl ?_
    refine y_get (q := 135) fk_X6_17 zok5 (gv_5_5 _ _) dX6_digest_132 rfl ?_
    refine y_iload_n (q := 136) dX6_digest_135 rfl rfl rfl ?_
    refine y_iald (q := 137) (by first | decide | assumption | omega) (zvinN (n := 6) (by omega) (by decide)) dX6_digest_136 rfl ?_
    rw [nI_clamp (by omega), hw]
    refine y_icmp_ge (q := 140) 166 dX6_digest_137 rfl rfl (fun h137 => ?_) (fun h137 => ?_)
    · exact absurd h137 (by rw [e_x4]; exact nI_ge (b := w) (by omega) (by omega))
    · subst e_x4
      refine y_ldc2_w (q := 143) dX6_digest_140 ck_X6_222 rfl ?_
      refine y_lload_n (q := 144) dX6_digest_143 rfl rfl rfl ?_
      refine y_lmul (q := 145) dX6_digest_144 rfl ?_
      refine y_aload_n (q := 146) dX6_digest_145 rfl rfl rfl ?_
      refine y_get (q := 149) fk_X6_20 zok5 (gv_5_6 _ _) dX6_digest_146 rfl ?_
      refine y_bipush (q := 151) dX6_digest_149 bp_40 rfl ?_
      refine y_iload_n (q := 152) dX6_digest_151 rfl rfl rfl ?_
      refine y_imul (q := 153) dX6_digest_152 rfl ?_
      refine y_iload (q := 155) dX6_digest_153 rfl rfl ?_
      refine y_iadd (q := 156) dX6_digest_155 rfl ?_
      rw [ix40]
      refine y_iald (q := 157) (by first | decide | assumption | omega) (zvinN (n := 240) (by omega) (by decide)) dX6_digest_156 rfl ?_
      rw [nI_clamp (by omega)]
      refine y_i2l (q := 158) dX6_digest_157 rfl ?_
      refine y_ladd (q := 159) dX6_digest_158 rfl ?_
      refine y_lstore_n1 (q := 160) dX6_digest_159 rfl rfl rfl ?_
      refine y_iinc_4 (q := 163) dX6_digest_160 rfl ic_1 rfl rfl ?_
      refine y_goto 129 dX6_digest_163 rfl ?_
      exact ih (i + 1) _ _ (by omega) (by rw [e_x1]; rfl) (by rw [nI_1])
theorem lp_X6_dig4 {Q : zQ} (σ : zSt) (h : Int64) (ho : ∀ j, j < 6 → mr_ok (fA σ 22 j) 40) (hE : ∀ (a4 : Option zV), zY mi_X6_digest 5 Q 172 [some (zr 5 0), some (zl (m_d4 σ 22 23 40 h (6))), none, some (zi (nI (6))), a4] [] σ) : ∀ (m i : Nat) (x1 : Int64) (x3 : Int32) (a4 : Option zV), i + m = 6 → x1 = m_d4 σ 22 23 40 h i → x3 = nI i → zY mi_X6_digest 5 Q 106 [some (zr 5 0), some (zl x1), none, some (zi x3), a4] [] σ := by
  intro m
  induction m with
  | zero =>
    intro i x1 x3 a4 hi e_x1 e_x3
    obtain rfl : i = 6 := by omega
    subst e_x1
    subst e_x3
    refine y_iload_n (q := 107) dX6_digest_106 rfl rfl rfl ?_
    refine y_bipush (q := 109) dX6_digest_107 bp_6 rfl ?_
    refine y_icmp_ge (q := 112) 172 dX6_digest_109 rfl rfl (fun h109 => ?_) (fun h109 => ?_)
    · exact hE _
    · exact absurd (nI_le (a := 6) (b := 6) (Nat.le_refl _) (by omega)) h109
  | succ m ih =>
    intro i x1 x3 a4 hi e_x1 e_x3
    refine y_iload_n (q := 107) dX6_digest_106 rfl rfl rfl ?_
    refine y_bipush (q := 109) dX6_digest_107 bp_6 rfl ?_
    refine y_icmp_ge (q := 112) 172 dX6_digest_109 rfl rfl (fun h109 => ?_) (fun h109 => ?_)
    · exact absurd h109 (by rw [e_x3]; exact nI_ge (b := 6) (by omega) (by omega))
    · subst e_x3
      subst e_x1
      refine y_ldc2_w (q := 115) dX6_digest_112 ck_X6_222 rfl ?_
      refine y_lload_n (q := 116) dX6_digest_115 rfl rfl rfl ?_
      refine y_lmul (q := 117) dX6_digest_116 rfl ?_
      refine y_aload_n (q := 118) dX6_digest_117 rfl rfl rfl ?_
      refine y_get (q := 121) fk_X6_17 zok5 (gv_5_5 _ _) dX6_digest_118 rfl ?_
      refine y_iload_n (q := 122) dX6_digest_121 rfl rfl rfl ?_
      refine y_iald (q := 123) (by first | decide | assumption | omega) (zvinN (n := 6) (by omega) (by decide)) dX6_digest_122 rfl ?_
      rw [nI_clamp (by omega)]
      refine y_i2l (q := 124) dX6_digest_123 rfl ?_
      refine y_ladd (q := 125) dX6_digest_124 rfl ?_
      refine y_lstore_n1 (q := 126) dX6_digest_125 rfl rfl rfl ?_
      refine y_iconst (q := 127) dX6_digest_126 ic_0 rfl ?_
      refine y_istore_4 (q := 129) dX6_digest_127 rfl rfl rfl ?_
      rcases ho i (by omega) with hw | ⟨w, hw4, hw⟩
      · refine y_iload (q := 131) dX6_digest_129 rfl rfl ?_
        refine y_aload_n (q := 132) dX6_digest_131 rfl rfl rfl ?_
        refine y_get (q := 135) fk_X6_17 zok5 (gv_5_5 _ _) dX6_digest_132 rfl ?_
        refine y_iload_n (q := 136) dX6_digest_135 rfl rfl rfl ?_
        refine y_iald (q := 137) (by first | decide | assumption | omega) (zvinN (n := 6) (by omega) (by decide)) dX6_digest_136 rfl ?_
        rw [nI_clamp (by omega), hw]
        refine y_icmp_ge (q := 140) 166 dX6_digest_137 rfl rfl (fun h137 => ?_) (fun h137 => ?_)
        · refine y_iinc_3 (q := 169) dX6_digest_166 rfl ic_1 rfl rfl ?_
          refine y_goto 106 dX6_digest_169 rfl ?_
          exact ih (i + 1) _ _ _ (by omega) (by rw [m_d4, hw]; rfl) (by rw [nI_1])
        · exact absurd (by decide) h137
      · refine lp_X6_dig4i σ i w _ (by omega) hw hw4 ?_ w 0 _ _ (by omega) rfl rfl
        refine y_iinc_3 (q := 169) dX6_digest_166 rfl ic_1 rfl rfl ?_
        refine y_goto 106 dX6_digest_169 rfl ?_
        exact ih (i + 1) _ _ _ (by omega) (by rw [m_d4, hw, nI_clamp (by omega)]) (by rw [nI_1])
theorem lp_X6_dig5i {Q : zQ} (σ : zSt) (j w : Nat) (h : Int64) (hj : j < 4) (hw : fA σ 24 j = nI w) (hw4 : w ≤ 60) (hE : zY mi_X6_digest 5 Q 233 [some (zr 5 0), some (zl (r_mix (fun k => fA σ 33 (60 * j + k)) h (w))), none, some (zi (nI j)), some (zi (nI (w)))] [] σ) : ∀ (m i : Nat) (x1 : Int64) (x4 : Int32), i + m = w → x1 = r_mix (fun k => fA σ 33 (60 * j + k)) h i → x4 = nI i → zY mi_X6_digest 5 Q 196 [some (zr 5 0), some (zl x1), none, some (zi (nI j)), some (zi x4)] [] σ := by
  intro m
  induction m with
  | zero =>
    intro i x1 x4 hi e_x1 e_x4
    obtain rfl : i = w := by omega
    subst e_x1
    subst e_x4
    refine y_iload (q := 198) dX6_digest_196 rfl rfl ?_
    refine y_aload_n (q := 199) dX6_digest_198 rfl rfl rfl ?_
    refine y_get (q := 202) fk_X6_23 zok5 (gv_5_7 _ _) dX6_digest_199 rfl ?_
    refine y_iload_n (q := 203) dX6_digest_202 rfl rfl rfl ?_
    refine y_iald (q := 204) (by first | decide | assumption | omega) (zvinN (n := 4) (by omega) (by decide)) dX6_digest_203 rfl ?_
    rw [nI_clamp (by omega), hw]
    refine y_icmp_ge (q := 207) 233 dX6_digest_204 rfl rfl (fun h204 => ?_) (fun h204 => ?_)
    · exact hE
    · exact absurd (nI_le (Nat.le_refl _) (by omega)) h204
  | succ m ih =>
    intro i x1 x4 hi e_x1 e_x4
    refine y_iload (q := 198) dX6_digest_196 rfl rfl ?_
    refine y_aload_n (q := 199) dX6_digest_198 rfl rfl rfl ?_
    refine y_get (q := 202) fk_X6_23 zok5 (gv_5_7 _ _) dX6_digest_199 rfl ?_
    refine y_iload_n (q := 203) dX6_digest_202 rfl rfl rfl ?_
    refine y_iald (q := 204) (by first | decide | assumption | omega) (zvinN (n := 4) (by omega) (by decide)) dX6_digest_203 rfl ?_
    rw [nI_clamp (by omega), hw]
    refine y_icmp_ge (q := 207) 233 dX6_digest_204 rfl rfl (fun h204 => ?_) (fun h204 => ?_)
    · exact absurd h204 (by rw [e_x4]; exact nI_ge (b := w) (by omega) (by omega))
    · subst e_x4
      refine y_ldc2_w (q := 210) dX6_digest_207 ck_X6_222 rfl ?_
      refine y_lload_n (q := 211) dX6_digest_210 rfl rfl rfl ?_
      refine y_lmul (q := 212) dX6_digest_211 rfl ?_
      refine y_aload_n (q := 213) dX6_digest_212 rfl rfl rfl ?_
      refine y_get (q := 216) fk_X6_26 zok5 (gv_5_8 _ _) dX6_digest_213 rfl ?_
      refine y_bipush (q := 218) dX6_digest_216 bp_60 rfl ?_
      refine y_iload_n (q := 219) dX6_digest_218 rfl rfl rfl ?_
      refine y_imul (q := 220) dX6_digest_219 rfl ?_
      refine y_iload (q := 222) dX6_digest_220 rfl rfl ?_
      refine y_iadd (q := 223) dX6_digest_222 rfl ?_
      rw [ix60]
      refine y_bald (q := 224) (zvinN (n := 240) (by omega) (by decide)) dX6_digest_223 rfl ?_
      rw [nI_clamp (by omega)]
      refine y_i2l (q := 225) dX6_digest_224 rfl ?_
      refine y_ladd (q := 226) dX6_digest_225 rfl ?_
      refine y_lstore_n1 (q := 227) dX6_digest_226 rfl rfl rfl ?_
      refine y_iinc_4 (q := 230) dX6_digest_227 rfl ic_1 rfl rfl ?_
      refine y_goto 196 dX6_digest_230 rfl ?_
      exact ih (i + 1) _ _ (by omega) (by rw [e_x1]; rfl) (by rw [nI_1])
theorem lp_X6_dig5 {Q : zQ} (σ : zSt) (h : Int64) (ho : ∀ j, j < 4 → mr_ok (fA σ 24 j) 60) (hE : ∀ (a4 : Option zV), zY mi_X6_digest 5 Q 239 [some (zr 5 0), some (zl (m_d4 σ 24 33 60 h (4))), none, some (zi (nI (4))), a4] [] σ) : ∀ (m i : Nat) (x1 : Int64) (x3 : Int32) (a4 : Option zV), i + m = 4 → x1 = m_d4 σ 24 33 60 h i → x3 = nI i → zY mi_X6_digest 5 Q 174 [some (zr 5 0), some (zl x1), none, some (zi x3), a4] [] σ := by
  intro m
  induction m with
  | zero =>
    intro i x1 x3 a4 hi e_x1 e_x3
    obtain rfl : i = 4 := by omega
    subst e_x1
    subst e_x3
    refine y_iload_n (q := 175) dX6_digest_174 rfl rfl rfl ?_
    refine y_iconst (q := 176) dX6_digest_175 ic_4 rfl ?_
    refine y_icmp_ge (q := 179) 239 dX6_digest_176 rfl rfl (fun h176 => ?_) (fun h176 => ?_)
    · exact hE _
    · exact absurd (nI_le (a := 4) (b := 4) (Nat.le_refl _) (by omega)) h176
  | succ m ih =>
    intro i x1 x3 a4 hi e_x1 e_x3
    refine y_iload_n (q := 175) dX6_digest_174 rfl rfl rfl ?_
    refine y_iconst (q := 176) dX6_digest_175 ic_4 rfl ?_
    refine y_icmp_ge (q := 179) 239 dX6_digest_176 rfl rfl (fun h176 => ?_) (fun h176 => ?_)
    · exact absurd h176 (by rw [e_x3]; exact nI_ge (b := 4) (by omega) (by omega))
    · subst e_x3
      subst e_x1
      refine y_ldc2_w (q := 182) dX6_digest_179 ck_X6_222 rfl ?_
      refine y_lload_n (q := 183) dX6_digest_182 rfl rfl rfl ?_
      refine y_lmul (q := 184) dX6_digest_183 rfl ?_
      refine y_aload_n (q := 185) dX6_digest_184 rfl rfl rfl ?_
      refine y_get (q := 188) fk_X6_23 zok5 (gv_5_7 _ _) dX6_digest_185 rfl ?_
      refine y_iload_n (q := 189) dX6_digest_188 rfl rfl rfl ?_
      refine y_iald (q := 190) (by first | decide | assumption | omega) (zvinN (n := 4) (by omega) (by decide)) dX6_digest_189 rfl ?_
      rw [nI_clamp (by omega)]
      refine y_i2l (q := 191) dX6_digest_190 rfl ?_
      refine y_ladd (q := 192) dX6_digest_191 rfl ?_
      refine y_lstore_n1 (q := 193) dX6_digest_192 rfl rfl rfl ?_
      refine y_iconst (q := 194) dX6_digest_193 ic_0 rfl ?_
      refine y_istore_4 (q := 196) dX6_digest_194 rfl rfl rfl ?_
      rcases ho i (by omega) with hw | ⟨w, hw4, hw⟩
      · refine y_iload (q := 198) dX6_digest_196 rfl rfl ?_
        refine y_aload_n (q := 199) dX6_digest_198 rfl rfl rfl ?_
        refine y_get (q := 202) fk_X6_23 zok5 (gv_5_7 _ _) dX6_digest_199 rfl ?_
        refine y_iload_n (q := 203) dX6_digest_202 rfl rfl rfl ?_
        refine y_iald (q := 204) (by first | decide | assumption | omega) (zvinN (n := 4) (by omega) (by decide)) dX6_digest_203 rfl ?_
        rw [nI_clamp (by omega), hw]
        refine y_icmp_ge (q := 207) 233 dX6_digest_204 rfl rfl (fun h204 => ?_) (fun h204 => ?_)
        · refine y_iinc_3 (q := 236) dX6_digest_233 rfl ic_1 rfl rfl ?_
          refine y_goto 174 dX6_digest_236 rfl ?_
          exact ih (i + 1) _ _ _ (by omega) (by rw [m_d4, hw]; rfl) (by rw [nI_1])
        · exact absurd (by decide) h204
      · refine lp_X6_dig5i σ i w _ (by omega) hw hw4 ?_ w 0 _ _ (by omega) rfl rfl
        refine y_iinc_3 (q := 236) dX6_digest_233 rfl ic_1 rfl rfl ?_
        refine y_goto 174 dX6_digest_236 rfl ?_
        exact ih (i + 1) _ _ _ (by omega) (by rw [m_d4, hw, nI_clamp (by omega)]) (by rw [nI_1])
theorem c_X6_digest (σ : zSt) (n : Nat) (hc : m_cok σ n) (ho : ∀ j, j < 6 → mr_ok (fA σ 22 j) 40) (ht : ∀ j, j < 4 → mr_ok (fA σ 24 j) 60) : Mf 5 mi_X6_digest [zr 5 0] σ (some (zl (m_dig σ n))) σ := by
  refine Mt_of (ls := [some (zr 5 0), none, none, none, none]) (by decide +kernel) rfl rfl ?_
  refine y_ldc2_w (q := 3) dX6_digest_0 ck_X6_220 rfl ?_
  refine y_lstore_n1 (q := 4) dX6_digest_3 rfl rfl rfl ?_
  refine y_iconst (q := 5) dX6_digest_4 ic_0 rfl ?_
  refine y_istore_n3 (q := 6) dX6_digest_5 rfl rfl rfl ?_
  refine lp_X6_dig1 σ n hc (fun a4 => ?_) 11 0 _ _ _ (by omega) rfl rfl
  refine y_iconst (q := 32) dX6_digest_31 ic_0 rfl ?_
  refine y_istore_n3 (q := 33) dX6_digest_32 rfl rfl rfl ?_
  rcases hc with ⟨hL, hD, hn⟩ | ⟨rfl, hL, _⟩
  · refine lp_X6_dig2 σ n _ hL hD hn (fun a4 => ?_) 9 0 _ _ _ (by omega) rfl rfl
    refine y_iconst (q := 78) dX6_digest_77 ic_0 rfl ?_
    refine y_istore_n3 (q := 79) dX6_digest_78 rfl rfl rfl ?_
    refine lp_X6_dig3 σ _ (fun a4 => ?_) 3 0 _ _ _ (by omega) rfl rfl
    refine y_iconst (q := 105) dX6_digest_104 ic_0 rfl ?_
    refine y_istore_n3 (q := 106) dX6_digest_105 rfl rfl rfl ?_
    refine lp_X6_dig4 σ _ ho (fun a4 => ?_) 6 0 _ _ _ (by omega) rfl rfl
    refine y_iconst (q := 173) dX6_digest_172 ic_0 rfl ?_
    refine y_istore_n3 (q := 174) dX6_digest_173 rfl rfl rfl ?_
    refine lp_X6_dig5 σ _ ht (fun a4 => ?_) 4 0 _ _ _ (by omega) rfl rfl
    refine y_lload_n (q := 240) dX6_digest_239 rfl rfl rfl ?_
    exact y_lret dX6_digest_240 rfl (by exact ⟨by rw [m_dig, m_dgA, if_pos hL]; rfl, rfl⟩)
  · refine y_iload_n (q := 34) dX6_digest_33 rfl rfl rfl ?_
    refine y_aload_n (q := 35) dX6_digest_34 rfl rfl rfl ?_
    refine y_get (q := 38) fk_X6_94 zok5 (gv_5_10 _ _) dX6_digest_35 rfl ?_
    rw [hL]
    refine y_icmp_ge (q := 41) 77 dX6_digest_38 rfl rfl (fun h38 => ?_) (fun h38 => ?_)
    · refine y_iconst (q := 78) dX6_digest_77 ic_0 rfl ?_
      refine y_istore_n3 (q := 79) dX6_digest_78 rfl rfl rfl ?_
      refine lp_X6_dig3 σ _ (fun a4 => ?_) 3 0 _ _ _ (by omega) rfl rfl
      refine y_iconst (q := 105) dX6_digest_104 ic_0 rfl ?_
      refine y_istore_n3 (q := 106) dX6_digest_105 rfl rfl rfl ?_
      refine lp_X6_dig4 σ _ ho (fun a4 => ?_) 6 0 _ _ _ (by omega) rfl rfl
      refine y_iconst (q := 173) dX6_digest_172 ic_0 rfl ?_
      refine y_istore_n3 (q := 174) dX6_digest_173 rfl rfl rfl ?_
      refine lp_X6_dig5 σ _ ht (fun a4 => ?_) 4 0 _ _ _ (by omega) rfl rfl
      refine y_lload_n (q := 240) dX6_digest_239 rfl rfl rfl ?_
      exact y_lret dX6_digest_240 rfl (by exact ⟨by rw [m_dig, m_dgA, if_neg (by rw [hL]; decide)]; rfl, rfl⟩)
    · exact absurd (by decide) h38
