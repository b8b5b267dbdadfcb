/-! ===== the reference: what is told ===== -/
def m_cnt (f : Nat → Int32) : Nat → Int32
  | 0 => 0
  | i + 1 => if f i < 0 then m_cnt f i else m_cnt f i + 1
def m_sm (f : Nat → Int32) : Nat → Int32
  | 0 => 0
  | i + 1 => m_sm f i + f i
theorem m_cnt_min {f : Nat → Int32} {i N : Nat} : m_cnt f (min (i + 1) N) = if i < N then (if f i < 0 then m_cnt f (min i N) else m_cnt f (min i N) + 1) else m_cnt f (min i N) := by
  by_cases h : i < N
  · rw [if_pos h, show min (i + 1) N = i + 1 by omega, show min i N = i by omega, m_cnt]
  · rw [if_neg h, show min (i + 1) N = N by omega, show min i N = N by omega]
theorem c_X6_asked (σ : zSt) : Mf 0 mi_X6_asked [zr 5 0] σ (some (zi (fI σ 5 0 2))) σ := by
  refine Mt_of (ls := [some (zr 5 0)]) (by decide +kernel) rfl rfl ?_
  refine y_aload_n (q := 1) dX6_asked_0 rfl rfl rfl ?_
  refine y_get (q := 4) fk_X6_58 zok5 (gv_5_2 _ _) dX6_asked_1 rfl ?_
  exact y_iret dX6_asked_4 rfl (by exact ⟨rfl, rfl⟩)
theorem c_X6_upper (σ : zSt) : Mf 0 mi_X6_upper [zr 5 0] σ (some (zl (fL σ 5 0 3))) σ := by
  refine Mt_of (ls := [some (zr 5 0)]) (by decide +kernel) rfl rfl ?_
  refine y_aload_n (q := 1) dX6_upper_0 rfl rfl rfl ?_
  refine y_get (q := 4) fk_X6_61 zok5 (gv_5_3 _ _) dX6_upper_1 rfl ?_
  exact y_lret dX6_upper_4 rfl (by exact ⟨rfl, rfl⟩)
theorem c_X6_lower (σ : zSt) : Mf 0 mi_X6_lower [zr 5 0] σ (some (zl (fL σ 5 0 4))) σ := by
  refine Mt_of (ls := [some (zr 5 0)]) (by decide +kernel) rfl rfl ?_
  refine y_aload_n (q := 1) dX6_lower_0 rfl rfl rfl ?_
  refine y_get (q := 4) fk_X6_13 zok5 (gv_5_4 _ _) dX6_lower_1 rfl ?_
  exact y_lret dX6_lower_4 rfl (by exact ⟨rfl, rfl⟩)
theorem c_X6_finding (σ : zSt) : Mf 0 mi_X6_finding [zr 5 0] σ (some (zi (fI σ 5 0 0))) σ := by
  refine Mt_of (ls := [some (zr 5 0)]) (by decide +kernel) rfl rfl ?_
  refine y_aload_n (q := 1) dX6_finding_0 rfl rfl rfl ?_
  refine y_get (q := 4) fk_X6_54 zok5 (gv_5_0 _ _) dX6_finding_1 rfl ?_
  exact y_iret dX6_finding_4 rfl (by exact ⟨rfl, rfl⟩)
theorem c_X6_findings_bad (σ : zSt) (f : Int32) (hf : ¬ m_in f 1 5) : Mf 1 mi_X6_findings [zr 5 0, zi f] σ (some (zi (-1))) σ := by
  refine Mt_of (ls := [some (zr 5 0), some (zi f)]) (by decide +kernel) rfl rfl ?_
  refine y_iload_n (q := 1) dX6_findings_0 rfl rfl rfl ?_
  refine y_iconst (q := 2) dX6_findings_1 ic_1 rfl ?_
  refine y_iconst (q := 3) dX6_findings_2 ic_5 rfl ?_
  refine y_cS (q := 6) (c_X6_in_0 _ _ _ _ hf) lk_X6_64 rfl rfl rfl rfl dX6_findings_3 rfl ?_
  refine y_if_eq (q := 9) 18 dX6_findings_6 rfl rfl (fun h6 => ?_) (fun h => absurd (by decide) h)
  refine y_iconst (q := 19) dX6_findings_18 ic_m1 rfl ?_
  exact y_iret dX6_findings_19 rfl (by exact ⟨rfl, rfl⟩)
theorem c_X6_findings_ok (σ : zSt) (f : Nat) (hf : 1 ≤ f ∧ f ≤ 5) : Mf 1 mi_X6_findings [zr 5 0, zi (nI f)] σ (some (zi (fA σ 21 f))) σ := by
  refine Mt_of (ls := [some (zr 5 0), some (zi (nI f))]) (by decide +kernel) rfl rfl ?_
  refine y_iload_n (q := 1) dX6_findings_0 rfl rfl rfl ?_
  refine y_iconst (q := 2) dX6_findings_1 ic_1 rfl ?_
  refine y_iconst (q := 3) dX6_findings_2 ic_5 rfl ?_
  refine y_cS (q := 6) (c_X6_in_1 _ _ _ _ ⟨nI_nlt (b := 1) (by omega) (by omega), nI_nlt (a := 5) (by omega) (by decide)⟩) lk_X6_64 rfl rfl rfl rfl dX6_findings_3 rfl ?_
  refine y_if_eq (q := 9) 18 dX6_findings_6 rfl rfl (fun h => absurd h (by decide)) (fun h6 => ?_)
  refine y_aload_n (q := 10) dX6_findings_9 rfl rfl rfl ?_
  refine y_get (q := 13) fk_X6_7 zok5 (gv_5_1 _ _) dX6_findings_10 rfl ?_
  refine y_iload_n (q := 14) dX6_findings_13 rfl rfl rfl ?_
  refine y_iald (q := 15) (by first | decide | assumption | omega) (zvinN (n := 6) (by omega) (by decide)) dX6_findings_14 rfl ?_
  refine y_goto 19 dX6_findings_15 rfl ?_
  exact y_iret dX6_findings_19 rfl (by exact ⟨by rw [nI_clamp (by omega)], rfl⟩)
theorem lp_X6_ta8 {Q : zQ} (σ : zSt) (hE : zY mi_X6_thereAre 1 Q 113 [some (zr 5 0), some (zi 8), some (zi (m_cnt (fA σ 22) (min (6) 6))), some (zi (nI (6)))] [] σ) : ∀ (m i : Nat) (x2 : Int32) (x3 : Int32), i + m = 6 → x2 = m_cnt (fA σ 22) (min i 6) → x3 = nI i → zY mi_X6_thereAre 1 Q 4 [some (zr 5 0), some (zi 8), some (zi x2), some (zi x3)] [] σ := by
  intro m
  induction m with
  | zero =>
    intro i x2 x3 hi e_x2 e_x3
    obtain rfl : i = 6 := by omega
    subst e_x2
    subst e_x3
    refine y_iload_n (q := 5) dX6_thereAre_4 rfl rfl rfl ?_
    refine y_bipush (q := 7) dX6_thereAre_5 bp_6 rfl ?_
    refine y_icmp_ge (q := 10) 113 dX6_thereAre_7 rfl rfl (fun h7 => ?_) (fun h7 => ?_)
    · exact hE
    · exact absurd (nI_le (a := 6) (b := 6) (Nat.le_refl _) (by omega)) h7
  | succ m ih =>
    intro i x2 x3 hi e_x2 e_x3
    refine y_iload_n (q := 5) dX6_thereAre_4 rfl rfl rfl ?_
    refine y_bipush (q := 7) dX6_thereAre_5 bp_6 rfl ?_
    refine y_icmp_ge (q := 10) 113 dX6_thereAre_7 rfl rfl (fun h7 => ?_) (fun h7 => ?_)
    · exact absurd h7 (by rw [e_x3]; exact nI_ge (b := 6) (by omega) (by omega))
    · subst e_x3
      subst e_x2
      refine y_iload_n (q := 11) dX6_thereAre_10 rfl rfl rfl ?_
      refine y_iload_n (q := 12) dX6_thereAre_11 rfl rfl rfl ?_
      refine y_bipush (q := 14) dX6_thereAre_12 bp_8 rfl ?_
      refine y_icmp_ne (q := 17) 30 dX6_thereAre_14 rfl rfl (fun h14 => ?_) (fun h14 => ?_)
      · exact absurd rfl h14
      · refine y_aload_n (q := 18) dX6_thereAre_17 rfl rfl rfl ?_
        refine y_get (q := 21) fk_X6_17 zok5 (gv_5_5 _ _) dX6_thereAre_18 rfl ?_
        refine y_iload_n (q := 22) dX6_thereAre_21 rfl rfl rfl ?_
        refine y_iald (q := 23) (by first | decide | assumption | omega) (zvinN (n := 6) (by omega) (by decide)) dX6_thereAre_22 rfl ?_
        rw [nI_clamp (by omega)]
        refine y_if_lt (q := 26) 30 dX6_thereAre_23 rfl rfl (fun h23 => ?_) (fun h23 => ?_)
        · refine y_iconst (q := 31) dX6_thereAre_30 ic_0 rfl ?_
          refine y_iadd (q := 32) dX6_thereAre_31 rfl ?_
          refine y_istore_n2 (q := 33) dX6_thereAre_32 rfl rfl rfl ?_
          refine y_iload_n (q := 34) dX6_thereAre_33 rfl rfl rfl ?_
          refine y_iload_n (q := 35) dX6_thereAre_34 rfl rfl rfl ?_
          refine y_bipush (q := 37) dX6_thereAre_35 bp_9 rfl ?_
          refine y_icmp_ne (q := 40) 67 dX6_thereAre_37 rfl rfl (fun h37 => ?_) (fun h37 => ?_)
          · refine y_iconst (q := 68) dX6_thereAre_67 ic_0 rfl ?_
            refine y_iadd (q := 69) dX6_thereAre_68 rfl ?_
            refine y_istore_n2 (q := 70) dX6_thereAre_69 rfl rfl rfl ?_
            refine y_iload_n (q := 71) dX6_thereAre_70 rfl rfl rfl ?_
            refine y_iload_n (q := 72) dX6_thereAre_71 rfl rfl rfl ?_
            refine y_bipush (q := 74) dX6_thereAre_72 bp_10 rfl ?_
            refine y_icmp_ne (q := 77) 104 dX6_thereAre_74 rfl rfl (fun h74 => ?_) (fun h74 => ?_)
            · refine y_iconst (q := 105) dX6_thereAre_104 ic_0 rfl ?_
              refine y_iadd (q := 106) dX6_thereAre_105 rfl ?_
              refine y_istore_n2 (q := 107) dX6_thereAre_106 rfl rfl rfl ?_
              refine y_iinc_3 (q := 110) dX6_thereAre_107 rfl ic_1 rfl rfl ?_
              refine y_goto 4 dX6_thereAre_110 rfl ?_
              exact ih (i + 1) _ _ (by omega) (by rw [m_cnt_min]; simp only [Int32.add_zero]; first | (rw [if_pos (by omega : i < 6), if_pos h23]; done) | (rw [if_pos (by omega : i < 6), if_neg h23]; done)) (by first | rw [e_x3, nI_1] | rw [nI_1])
            · exact absurd h74 (by decide)
          · exact absurd h37 (by decide)
        · refine y_iconst (q := 27) dX6_thereAre_26 ic_1 rfl ?_
          refine y_goto 31 dX6_thereAre_27 rfl ?_
          refine y_iadd (q := 32) dX6_thereAre_31 rfl ?_
          refine y_istore_n2 (q := 33) dX6_thereAre_32 rfl rfl rfl ?_
          refine y_iload_n (q := 34) dX6_thereAre_33 rfl rfl rfl ?_
          refine y_iload_n (q := 35) dX6_thereAre_34 rfl rfl rfl ?_
          refine y_bipush (q := 37) dX6_thereAre_35 bp_9 rfl ?_
          refine y_icmp_ne (q := 40) 67 dX6_thereAre_37 rfl rfl (fun h37 => ?_) (fun h37 => ?_)
          · refine y_iconst (q := 68) dX6_thereAre_67 ic_0 rfl ?_
            refine y_iadd (q := 69) dX6_thereAre_68 rfl ?_
            refine y_istore_n2 (q := 70) dX6_thereAre_69 rfl rfl rfl ?_
            refine y_iload_n (q := 71) dX6_thereAre_70 rfl rfl rfl ?_
            refine y_iload_n (q := 72) dX6_thereAre_71 rfl rfl rfl ?_
            refine y_bipush (q := 74) dX6_thereAre_72 bp_10 rfl ?_
            refine y_icmp_ne (q := 77) 104 dX6_thereAre_74 rfl rfl (fun h74 => ?_) (fun h74 => ?_)
            · refine y_iconst (q := 105) dX6_thereAre_104 ic_0 rfl ?_
              refine y_iadd (q := 106) dX6_thereAre_105 rfl ?_
              refine y_istore_n2 (q := 107) dX6_thereAre_106 rfl rfl rfl ?_
              refine y_iinc_3 (q := 110) dX6_thereAre_107 rfl ic_1 rfl rfl ?_
              refine y_goto 4 dX6_thereAre_110 rfl ?_
              exact ih (i + 1) _ _ (by omega) (by rw [m_cnt_min]; simp only [Int32.add_zero]; first | (rw [if_pos (by omega : i < 6), if_pos h23]; done) | (rw [if_pos (by omega : i < 6), if_neg h23]; done)) (by first | rw [e_x3, nI_1] | rw [nI_1])
            · exact absurd h74 (by decide)
          · exact absurd h37 (by decide)
theorem c_X6_thereAre8 (σ : zSt) : Mf 1 mi_X6_thereAre [zr 5 0, zi 8] σ (some (zi (m_cnt (fA σ 22) 6))) σ := by
  refine Mt_of (ls := [some (zr 5 0), some (zi 8), none, none]) (by decide +kernel) rfl rfl ?_
  refine y_iconst (q := 1) dX6_thereAre_0 ic_0 rfl ?_
  refine y_istore_n2 (q := 2) dX6_thereAre_1 rfl rfl rfl ?_
  refine y_iconst (q := 3) dX6_thereAre_2 ic_0 rfl ?_
  refine y_istore_n3 (q := 4) dX6_thereAre_3 rfl rfl rfl ?_
  refine lp_X6_ta8 σ ?_ 6 0 _ _ (by omega) rfl rfl
  refine y_iload_n (q := 114) dX6_thereAre_113 rfl rfl rfl ?_
  exact y_iret dX6_thereAre_114 rfl (by exact ⟨rfl, rfl⟩)
theorem lp_X6_ta9 {Q : zQ} (σ : zSt) (hE : zY mi_X6_thereAre 1 Q 113 [some (zr 5 0), some (zi 9), some (zi (m_cnt (fA σ 24) (min (6) 4))), some (zi (nI (6)))] [] σ) : ∀ (m i : Nat) (x2 : Int32) (x3 : Int32), i + m = 6 → x2 = m_cnt (fA σ 24) (min i 4) → x3 = nI i → zY mi_X6_thereAre 1 Q 4 [some (zr 5 0), some (zi 9), some (zi x2), some (zi x3)] [] σ := by
  intro m
  induction m with
  | zero =>
    intro i x2 x3 hi e_x2 e_x3
    obtain rfl : i = 6 := by omega
    subst e_x2
    subst e_x3
    refine y_iload_n (q := 5) dX6_thereAre_4 rfl rfl rfl ?_
    refine y_bipush (q := 7) dX6_thereAre_5 bp_6 rfl ?_
    refine y_icmp_ge (q := 10) 113 dX6_thereAre_7 rfl rfl (fun h7 => ?_) (fun h7 => ?_)
    · exact hE
    · exact absurd (nI_le (a := 6) (b := 6) (Nat.le_refl _) (by omega)) h7
  | succ m ih =>
    intro i x2 x3 hi e_x2 e_x3
    refine y_iload_n (q := 5) dX6_thereAre_4 rfl rfl rfl ?_
    refine y_bipush (q := 7) dX6_thereAre_5 bp_6 rfl ?_
    refine y_icmp_ge (q := 10) 113 dX6_thereAre_7 rfl rfl (fun h7 => ?_) (fun h7 => ?_)
    · exact absurd h7 (by rw [e_x3]; exact nI_ge (b := 6) (by omega) (by omega))
    · subst e_x3
      subst e_x2
      refine y_iload_n (q := 11) dX6_thereAre_10 rfl rfl rfl ?_
      refine y_iload_n (q := 12) dX6_thereAre_11 rfl rfl rfl ?_
      refine y_bipush (q := 14) dX6_thereAre_12 bp_8 rfl ?_
      refine y_icmp_ne (q := 17) 30 dX6_thereAre_14 rfl rfl (fun h14 => ?_) (fun h14 => ?_)
      · refine y_iconst (q := 31) dX6_thereAre_30 ic_0 rfl ?_
        refine y_iadd (q := 32) dX6_thereAre_31 rfl ?_
        refine y_istore_n2 (q := 33) dX6_thereAre_32 rfl rfl rfl ?_
        refine y_iload_n (q := 34) dX6_thereAre_33 rfl rfl rfl ?_
        refine y_iload_n (q := 35) dX6_thereAre_34 rfl rfl rfl ?_
        refine y_bipush (q := 37) dX6_thereAre_35 bp_9 rfl ?_
        refine y_icmp_ne (q := 40) 67 dX6_thereAre_37 rfl rfl (fun h37 => ?_) (fun h37 => ?_)
        · exact absurd rfl h37
        · refine y_iload_n (q := 41) dX6_thereAre_40 rfl rfl rfl ?_
          refine y_iconst (q := 42) dX6_thereAre_41 ic_4 rfl ?_
          refine y_icmp_ge (q := 45) 67 dX6_thereAre_42 rfl rfl (fun h42 => ?_) (fun h42 => ?_)
          · refine y_iconst (q := 68) dX6_thereAre_67 ic_0 rfl ?_
            refine y_iadd (q := 69) dX6_thereAre_68 rfl ?_
            refine y_istore_n2 (q := 70) dX6_thereAre_69 rfl rfl rfl ?_
            refine y_iload_n (q := 71) dX6_thereAre_70 rfl rfl rfl ?_
            refine y_iload_n (q := 72) dX6_thereAre_71 rfl rfl rfl ?_
            refine y_bipush (q := 74) dX6_thereAre_72 bp_10 rfl ?_
            refine y_icmp_ne (q := 77) 104 dX6_thereAre_74 rfl rfl (fun h74 => ?_) (fun h74 => ?_)
            · refine y_iconst (q := 105) dX6_thereAre_104 ic_0 rfl ?_
              refine y_iadd (q := 106) dX6_thereAre_105 rfl ?_
              refine y_istore_n2 (q := 107) dX6_thereAre_106 rfl rfl rfl ?_
              refine y_iinc_3 (q := 110) dX6_thereAre_107 rfl ic_1 rfl rfl ?_
              refine y_goto 4 dX6_thereAre_110 rfl ?_
              exact ih (i + 1) _ _ (by omega) (by rw [m_cnt_min]; simp only [Int32.add_zero]; first | (rw [if_pos (Nat.lt_of_not_le fun z => h42 (nI_le (a := 4) z (by omega))), if_pos h60]; done) | (rw [if_pos (Nat.lt_of_not_le fun z => h42 (nI_le (a := 4) z (by omega))), if_neg h60]; done) | (rw [if_neg (fun z => absurd h42 (nI_ge (b := 4) z (by omega)))]; done)) (by first | rw [e_x3, nI_1] | rw [nI_1])
            · exact absurd h74 (by decide)
          · refine y_aload_n (q := 46) dX6_thereAre_45 rfl rfl rfl ?_
            refine y_get (q := 49) fk_X6_23 zok5 (gv_5_7 _ _) dX6_thereAre_46 rfl ?_
            refine y_iload_n (q := 50) dX6_thereAre_49 rfl rfl rfl ?_
            refine y_iconst (q := 51) dX6_thereAre_50 ic_4 rfl ?_
            refine y_icmp_ge (q := 54) 58 dX6_thereAre_51 rfl rfl (fun h51 => ?_) (fun h51 => ?_)
            · exact absurd h51 h42
            · refine y_iload_n (q := 55) dX6_thereAre_54 rfl rfl rfl ?_
              refine y_goto 59 dX6_thereAre_55 rfl ?_
              refine y_iald (q := 60) (by first | decide | assumption | omega) (zvinN (n := 4) (Nat.lt_of_not_le fun z => h42 (nI_le (a := 4) z (by omega))) (by decide)) dX6_thereAre_59 rfl ?_
              rw [nI_clamp (by omega)]
              refine y_if_lt (q := 63) 67 dX6_thereAre_60 rfl rfl (fun h60 => ?_) (fun h60 => ?_)
              · refine y_iconst (q := 68) dX6_thereAre_67 ic_0 rfl ?_
                refine y_iadd (q := 69) dX6_thereAre_68 rfl ?_
                refine y_istore_n2 (q := 70) dX6_thereAre_69 rfl rfl rfl ?_
                refine y_iload_n (q := 71) dX6_thereAre_70 rfl rfl rfl ?_
                refine y_iload_n (q := 72) dX6_thereAre_71 rfl rfl rfl ?_
                refine y_bipush (q := 74) dX6_thereAre_72 bp_10 rfl ?_
                refine y_icmp_ne (q := 77) 104 dX6_thereAre_74 rfl rfl (fun h74 => ?_) (fun h74 => ?_)
                · refine y_iconst (q := 105) dX6_thereAre_104 ic_0 rfl ?_
                  refine y_iadd (q := 106) dX6_thereAre_105 rfl ?_
                  refine y_istore_n2 (q := 107) dX6_thereAre_106 rfl rfl rfl ?_
                  refine y_iinc_3 (q := 110) dX6_thereAre_107 rfl ic_1 rfl rfl ?_
                  refine y_goto 4 dX6_thereAre_110 rfl ?_
                  exact ih (i + 1) _ _ (by omega) (by rw [m_cnt_min]; simp only [Int32.add_zero]; first | (rw [if_pos (Nat.lt_of_not_le fun z => h42 (nI_le (a := 4) z (by omega))), if_pos h60]; done) | (rw [if_pos (Nat.lt_of_not_le fun z => h42 (nI_le (a := 4) z (by omega))), if_neg h60]; done) | (rw [if_neg (fun z => absurd h42 (nI_ge (b := 4) z (by omega)))]; done)) (by first | rw [e_x3, nI_1] | rw [nI_1])
                · exact absurd h74 (by decide)
              · refine y_iconst (q := 64) dX6_thereAre_63 ic_1 rfl ?_
                refine y_goto 68 dX6_thereAre_64 rfl ?_
                refine y_iadd (q := 69) dX6_thereAre_68 rfl ?_
                refine y_istore_n2 (q := 70) dX6_thereAre_69 rfl rfl rfl ?_
                refine y_iload_n (q := 71) dX6_thereAre_70 rfl rfl rfl ?_
                refine y_iload_n (q := 72) dX6_thereAre_71 rfl rfl rfl ?_
                refine y_bipush (q := 74) dX6_thereAre_72 bp_10 rfl ?_
                refine y_icmp_ne (q := 77) 104 dX6_thereAre_74 rfl rfl (fun h74 => ?_) (fun h74 => ?_)
                · refine y_iconst (q := 105) dX6_thereAre_104 ic_0 rfl ?_
                  refine y_iadd (q := 106) dX6_thereAre_105 rfl ?_
                  refine y_istore_n2 (q := 107) dX6_thereAre_106 rfl rfl rfl ?_
                  refine y_iinc_3 (q := 110) dX6_thereAre_107 rfl ic_1 rfl rfl ?_
                  refine y_goto 4 dX6_thereAre_110 rfl ?_
                  exact ih (i + 1) _ _ (by omega) (by rw [m_cnt_min]; simp only [Int32.add_zero]; first | (rw [if_pos (Nat.lt_of_not_le fun z => h42 (nI_le (a := 4) z (by omega))), if_pos h60]; done) | (rw [if_pos (Nat.lt_of_not_le fun z => h42 (nI_le (a := 4) z (by omega))), if_neg h60]; done) | (rw [if_neg (fun z => absurd h42 (nI_ge (b := 4) z (by omega)))]; done)) (by first | rw [e_x3, nI_1] | rw [nI_1])
                · exact absurd h74 (by decide)
      · exact absurd h14 (by decide)
theorem c_X6_thereAre9 (σ : zSt) : Mf 1 mi_X6_thereAre [zr 5 0, zi 9] σ (some (zi (m_cnt (fA σ 24) 4))) σ := by
  refine Mt_of (ls := [some (zr 5 0), some (zi 9), none, none]) (by decide +kernel) rfl rfl ?_
  refine y_iconst (q := 1) dX6_thereAre_0 ic_0 rfl ?_
  refine y_istore_n2 (q := 2) dX6_thereAre_1 rfl rfl rfl ?_
  refine y_iconst (q := 3) dX6_thereAre_2 ic_0 rfl ?_
  refine y_istore_n3 (q := 4) dX6_thereAre_3 rfl rfl rfl ?_
  refine lp_X6_ta9 σ ?_ 6 0 _ _ (by omega) rfl rfl
  refine y_iload_n (q := 114) dX6_thereAre_113 rfl rfl rfl ?_
  exact y_iret dX6_thereAre_114 rfl (by exact ⟨rfl, rfl⟩)
theorem lp_X6_ta10 {Q : zQ} (σ : zSt) (hE : zY mi_X6_thereAre 1 Q 113 [some (zr 5 0), some (zi 10), some (zi (m_cnt (fA σ 30) (min (6) 3))), some (zi (nI (6)))] [] σ) : ∀ (m i : Nat) (x2 : Int32) (x3 : Int32), i + m = 6 → x2 = m_cnt (fA σ 30) (min i 3) → x3 = nI i → zY mi_X6_thereAre 1 Q 4 [some (zr 5 0), some (zi 10), some (zi x2), some (zi x3)] [] σ := by
  intro m
  induction m with
  | zero =>
    intro i x2 x3 hi e_x2 e_x3
    obtain rfl : i = 6 := by omega
    subst e_x2
    subst e_x3
    refine y_iload_n (q := 5) dX6_thereAre_4 rfl rfl rfl ?_
    refine y_bipush (q := 7) dX6_thereAre_5 bp_6 rfl ?_
    refine y_icmp_ge (q := 10) 113 dX6_thereAre_7 rfl rfl (fun h7 => ?_) (fun h7 => ?_)
    · exact hE
    · exact absurd (nI_le (a := 6) (b := 6) (Nat.le_refl _) (by omega)) h7
  | succ m ih =>
    intro i x2 x3 hi e_x2 e_x3
    refine y_iload_n (q := 5) dX6_thereAre_4 rfl rfl rfl ?_
    refine y_bipush (q := 7) dX6_thereAre_5 bp_6 rfl ?_
    refine y_icmp_ge (q := 10) 113 dX6_thereAre_7 rfl rfl (fun h7 => ?_) (fun h7 => ?_)
    · exact absurd h7 (by rw [e_x3]; exact nI_ge (b := 6) (by omega) (by omega))
    · subst e_x3
      subst e_x2
      refine y_iload_n (q := 11) dX6_thereAre_10 rfl rfl rfl ?_
      refine y_iload_n (q := 12) dX6_thereAre_11 rfl rfl rfl ?_
      refine y_bipush (q := 14) dX6_thereAre_12 bp_8 rfl ?_
      refine y_icmp_ne (q := 17) 30 dX6_thereAre_14 rfl rfl (fun h14 => ?_) (fun h14 => ?_)
      · refine y_iconst (q := 31) dX6_thereAre_30 ic_0 rfl ?_
        refine y_iadd (q := 32) dX6_thereAre_31 rfl ?_
        refine y_istore_n2 (q := 33) dX6_thereAre_32 rfl rfl rfl ?_
        refine y_iload_n (q := 34) dX6_thereAre_33 rfl rfl rfl ?_
        refine y_iload_n (q := 35) dX6_thereAre_34 rfl rfl rfl ?_
        refine y_bipush (q := 37) dX6_thereAre_35 bp_9 rfl ?_
        refine y_icmp_ne (q := 40) 67 dX6_thereAre_37 rfl rfl (fun h37 => ?_) (fun h37 => ?_)
        · refine y_iconst (q := 68) dX6_thereAre_67 ic_0 rfl ?_
          refine y_iadd (q := 69) dX6_thereAre_68 rfl ?_
          refine y_istore_n2 (q := 70) dX6_thereAre_69 rfl rfl rfl ?_
          refine y_iload_n (q := 71) dX6_thereAre_70 rfl rfl rfl ?_
          refine y_iload_n (q := 72) dX6_thereAre_71 rfl rfl rfl ?_
          refine y_bipush (q := 74) dX6_thereAre_72 bp_10 rfl ?_
          refine y_icmp_ne (q := 77) 104 dX6_thereAre_74 rfl rfl (fun h74 => ?_) (fun h74 => ?_)
          · exact absurd rfl h74
          · refine y_iload_n (q := 78) dX6_thereAre_77 rfl rfl rfl ?_
            refine y_iconst (q := 79) dX6_thereAre_78 ic_3 rfl ?_
            refine y_icmp_ge (q := 82) 104 dX6_thereAre_79 rfl rfl (fun h79 => ?_) (fun h79 => ?_)
            · refine y_iconst (q := 105) dX6_thereAre_104 ic_0 rfl ?_
              refine y_iadd (q := 106) dX6_thereAre_105 rfl ?_
              refine y_istore_n2 (q := 107) dX6_thereAre_106 rfl rfl rfl ?_
              refine y_iinc_3 (q := 110) dX6_thereAre_107 rfl ic_1 rfl rfl ?_
              refine y_goto 4 dX6_thereAre_110 rfl ?_
              exact ih (i + 1) _ _ (by omega) (by rw [m_cnt_min]; simp only [Int32.add_zero]; first | (rw [if_pos (Nat.lt_of_not_le fun z => h79 (nI_le (a := 3) z (by omega))), if_pos h97]; done) | (rw [if_pos (Nat.lt_of_not_le fun z => h79 (nI_le (a := 3) z (by omega))), if_neg h97]; done) | (rw [if_neg (fun z => absurd h79 (nI_ge (b := 3) z (by omega)))]; done)) (by first | rw [e_x3, nI_1] | rw [nI_1])
            · refine y_aload_n (q := 83) dX6_thereAre_82 rfl rfl rfl ?_
              refine y_get (q := 86) fk_X6_45 zok5 (gv_5_16 _ _) dX6_thereAre_83 rfl ?_
              refine y_iload_n (q := 87) dX6_thereAre_86 rfl rfl rfl ?_
              refine y_iconst (q := 88) dX6_thereAre_87 ic_3 rfl ?_
              refine y_icmp_ge (q := 91) 95 dX6_thereAre_88 rfl rfl (fun h88 => ?_) (fun h88 => ?_)
              · exact absurd h88 h79
              · refine y_iload_n (q := 92) dX6_thereAre_91 rfl rfl rfl ?_
                refine y_goto 96 dX6_thereAre_92 rfl ?_
                refine y_iald (q := 97) (by first | decide | assumption | omega) (zvinN (n := 3) (Nat.lt_of_not_le fun z => h79 (nI_le (a := 3) z (by omega))) (by decide)) dX6_thereAre_96 rfl ?_
                rw [nI_clamp (by omega)]
                refine y_if_lt (q := 100) 104 dX6_thereAre_97 rfl rfl (fun h97 => ?_) (fun h97 => ?_)
                · refine y_iconst (q := 105) dX6_thereAre_104 ic_0 rfl ?_
                  refine y_iadd (q := 106) dX6_thereAre_105 rfl ?_
                  refine y_istore_n2 (q := 107) dX6_thereAre_106 rfl rfl rfl ?_
                  refine y_iinc_3 (q := 110) dX6_thereAre_107 rfl ic_1 rfl rfl ?_
                  refine y_goto 4 dX6_thereAre_110 rfl ?_
                  exact ih (i + 1) _ _ (by omega) (by rw [m_cnt_min]; simp only [Int32.add_zero]; first | (rw [if_pos (Nat.lt_of_not_le fun z => h79 (nI_le (a := 3) z (by omega))), if_pos h97]; done) | (rw [if_pos (Nat.lt_of_not_le fun z => h79 (nI_le (a := 3) z (by omega))), if_neg h97]; done) | (rw [if_neg (fun z => absurd h79 (nI_ge (b := 3) z (by omega)))]; done)) (by first | rw [e_x3, nI_1] | rw [nI_1])
                · refine y_iconst (q := 101) dX6_thereAre_100 ic_1 rfl ?_
                  refine y_goto 105 dX6_thereAre_101 rfl ?_
                  refine y_iadd (q := 106) dX6_thereAre_105 rfl ?_
                  refine y_istore_n2 (q := 107) dX6_thereAre_106 rfl rfl rfl ?_
                  refine y_iinc_3 (q := 110) dX6_thereAre_107 rfl ic_1 rfl rfl ?_
                  refine y_goto 4 dX6_thereAre_110 rfl ?_
                  exact ih (i + 1) _ _ (by omega) (by rw [m_cnt_min]; simp only [Int32.add_zero]; first | (rw [if_pos (Nat.lt_of_not_le fun z => h79 (nI_le (a := 3) z (by omega))), if_pos h97]; done) | (rw [if_pos (Nat.lt_of_not_le fun z => h79 (nI_le (a := 3) z (by omega))), if_neg h97]; done) | (rw [if_neg (fun z => absurd h79 (nI_ge (b := 3) z (by omega)))]; done)) (by first | rw [e_x3, nI_1] | rw [nI_1])
        · exact absurd h37 (by decide)
      · exact absurd h14 (by decide)
theorem c_X6_thereAre10 (σ : zSt) : Mf 1 mi_X6_thereAre [zr 5 0, zi 10] σ (some (zi (m_cnt (fA σ 30) 3))) σ := by
  refine Mt_of (ls := [some (zr 5 0), some (zi 10), none, none]) (by decide +kernel) rfl rfl ?_
  refine y_iconst (q := 1) dX6_thereAre_0 ic_0 rfl ?_
  refine y_istore_n2 (q := 2) dX6_thereAre_1 rfl rfl rfl ?_
  refine y_iconst (q := 3) dX6_thereAre_2 ic_0 rfl ?_
  refine y_istore_n3 (q := 4) dX6_thereAre_3 rfl rfl rfl ?_
  refine lp_X6_ta10 σ ?_ 6 0 _ _ (by omega) rfl rfl
  refine y_iload_n (q := 114) dX6_thereAre_113 rfl rfl rfl ?_
  exact y_iret dX6_thereAre_114 rfl (by exact ⟨rfl, rfl⟩)
def m_so (σ : zSt) (n w : Nat) (i : Nat) : Int32 := match w with
  | 5 => fA σ 28 (11 * n + i)
  | 6 => if fA σ 26 i = 1 ∨ fA σ 26 i = 4 then 1 else 0
  | _ => if fA σ 26 i = 3 ∨ fA σ 26 i = 5 then 1 else 0
theorem lp_X6_so5 {Q : zQ} (σ : zSt) (n : Nat) (hL : fI σ 5 0 10 = 9) (hD : fI σ 5 0 14 = nI n) (hn : n ≤ 40) (hE : zY mi_X6_sumOf 1 Q 85 [some (zr 5 0), some (zi 5), some (zi (m_sm (m_so σ n 5) (9))), some (zi (nI (9)))] [] σ) : ∀ (m i : Nat) (x2 : Int32) (x3 : Int32), i + m = 9 → x2 = m_sm (m_so σ n 5) i → x3 = nI i → zY mi_X6_sumOf 1 Q 4 [some (zr 5 0), some (zi 5), some (zi x2), some (zi x3)] [] σ := by
  intro m
  induction m with
  | zero =>
    intro i x2 x3 hi e_x2 e_x3
    obtain rfl : i = 9 := by omega
    subst e_x2
    subst e_x3
    refine y_iload_n (q := 5) dX6_sumOf_4 rfl rfl rfl ?_
    refine y_aload_n (q := 6) dX6_sumOf_5 rfl rfl rfl ?_
    refine y_get (q := 9) fk_X6_94 zok5 (gv_5_10 _ _) dX6_sumOf_6 rfl ?_
    rw [hL]
    refine y_icmp_ge (q := 12) 85 dX6_sumOf_9 rfl rfl (fun h9 => ?_) (fun h9 => ?_)
    · exact hE
    · exact absurd (nI_le (a := 9) (b := 9) (Nat.le_refl _) (by omega)) h9
  | succ m ih =>
    intro i x2 x3 hi e_x2 e_x3
    refine y_iload_n (q := 5) dX6_sumOf_4 rfl rfl rfl ?_
    refine y_aload_n (q := 6) dX6_sumOf_5 rfl rfl rfl ?_
    refine y_get (q := 9) fk_X6_94 zok5 (gv_5_10 _ _) dX6_sumOf_6 rfl ?_
    rw [hL]
    refine y_icmp_ge (q := 12) 85 dX6_sumOf_9 rfl rfl (fun h9 => ?_) (fun h9 => ?_)
    · exact absurd h9 (by rw [e_x3]; exact nI_ge (b := 9) (by omega) (by omega))
    · subst e_x3
      subst e_x2
      refine y_iload_n (q := 13) dX6_sumOf_12 rfl rfl rfl ?_
      refine y_iload_n (q := 14) dX6_sumOf_13 rfl rfl rfl ?_
      refine y_iconst (q := 15) dX6_sumOf_14 ic_5 rfl ?_
      refine y_icmp_ne (q := 18) 26 dX6_sumOf_15 rfl rfl (fun h15 => ?_) (fun h15 => ?_)
      · exact absurd rfl h15
      · refine y_aload_n (q := 19) dX6_sumOf_18 rfl rfl rfl ?_
        refine y_iload_n (q := 20) dX6_sumOf_19 rfl rfl rfl ?_
        refine y_cV (q := 23) (c_X6_now _ n i hD hn (by omega)) lk_X6_118 zok5 (by decide) rfl rfl rfl rfl rfl dX6_sumOf_20 rfl ?_
        refine y_goto 77 dX6_sumOf_23 rfl ?_
        refine y_iadd (q := 78) dX6_sumOf_77 rfl ?_
        refine y_istore_n2 (q := 79) dX6_sumOf_78 rfl rfl rfl ?_
        refine y_iinc_3 (q := 82) dX6_sumOf_79 rfl ic_1 rfl rfl ?_
        refine y_goto 4 dX6_sumOf_82 rfl ?_
        exact ih (i + 1) _ _ (by omega) rfl (by first | rw [e_x3, nI_1] | rw [nI_1])
theorem c_X6_sumOf5 (σ : zSt) (n : Nat) (hL : fI σ 5 0 10 = 9) (hD : fI σ 5 0 14 = nI n) (hn : n ≤ 40) : Mf 1 mi_X6_sumOf [zr 5 0, zi 5] σ (some (zi (m_sm (m_so σ n 5) 9))) σ := by
  refine Mt_of (ls := [some (zr 5 0), some (zi 5), none, none]) (by decide +kernel) rfl rfl ?_
  refine y_iconst (q := 1) dX6_sumOf_0 ic_0 rfl ?_
  refine y_istore_n2 (q := 2) dX6_sumOf_1 rfl rfl rfl ?_
  refine y_iconst (q := 3) dX6_sumOf_2 ic_0 rfl ?_
  refine y_istore_n3 (q := 4) dX6_sumOf_3 rfl rfl rfl ?_
  refine lp_X6_so5 σ n hL hD hn ?_ 9 0 _ _ (by omega) rfl rfl
  refine y_iload_n (q := 86) dX6_sumOf_85 rfl rfl rfl ?_
  exact y_iret dX6_sumOf_86 rfl (by exact ⟨rfl, rfl⟩)
theorem lp_X6_so6 {Q : zQ} (σ : zSt) (n : Nat) (hL : fI σ 5 0 10 = 9) (hD : fI σ 5 0 14 = nI n) (hn : n ≤ 40) (hE : zY mi_X6_sumOf 1 Q 85 [some (zr 5 0), some (zi 6), some (zi (m_sm (m_so σ n 6) (9))), some (zi (nI (9)))] [] σ) : ∀ (m i : Nat) (x2 : Int32) (x3 : Int32), i + m = 9 → x2 = m_sm (m_so σ n 6) i → x3 = nI i → zY mi_X6_sumOf 1 Q 4 [some (zr 5 0), some (zi 6), some (zi x2), some (zi x3)] [] σ := by
  intro m
  induction m with
  | zero =>
    intro i x2 x3 hi e_x2 e_x3
    obtain rfl : i = 9 := by omega
    subst e_x2
    subst e_x3
    refine y_iload_n (q := 5) dX6_sumOf_4 rfl rfl rfl ?_
    refine y_aload_n (q := 6) dX6_sumOf_5 rfl rfl rfl ?_
    refine y_get (q := 9) fk_X6_94 zok5 (gv_5_10 _ _) dX6_sumOf_6 rfl ?_
    rw [hL]
    refine y_icmp_ge (q := 12) 85 dX6_sumOf_9 rfl rfl (fun h9 => ?_) (fun h9 => ?_)
    · exact hE
    · exact absurd (nI_le (a := 9) (b := 9) (Nat.le_refl _) (by omega)) h9
  | succ m ih =>
    intro i x2 x3 hi e_x2 e_x3
    refine y_iload_n (q := 5) dX6_sumOf_4 rfl rfl rfl ?_
    refine y_aload_n (q := 6) dX6_sumOf_5 rfl rfl rfl ?_
    refine y_get (q := 9) fk_X6_94 zok5 (gv_5_10 _ _) dX6_sumOf_6 rfl ?_
    rw [hL]
    refine y_icmp_ge (q := 12) 85 dX6_sumOf_9 rfl rfl (fun h9 => ?_) (fun h9 => ?_)
    · exact absurd h9 (by rw [e_x3]; exact nI_ge (b := 9) (by omega) (by omega))
    · subst e_x3
      subst e_x2
      refine y_iload_n (q := 13) dX6_sumOf_12 rfl rfl rfl ?_
      refine y_iload_n (q := 14) dX6_sumOf_13 rfl rfl rfl ?_
      refine y_iconst (q := 15) dX6_sumOf_14 ic_5 rfl ?_
      refine y_icmp_ne (q := 18) 26 dX6_sumOf_15 rfl rfl (fun h15 => ?_) (fun h15 => ?_)
      · refine y_iload_n (q := 27) dX6_sumOf_26 rfl rfl rfl ?_
        refine y_bipush (q := 29) dX6_sumOf_27 bp_6 rfl ?_
        refine y_icmp_ne (q := 32) 52 dX6_sumOf_29 rfl rfl (fun h29 => ?_) (fun h29 => ?_)
        · exact absurd rfl h29
        · refine y_aload_n (q := 33) dX6_sumOf_32 rfl rfl rfl ?_
          refine y_get (q := 36) fk_X6_33 zok5 (gv_5_11 _ _) dX6_sumOf_33 rfl ?_
          refine y_iload_n (q := 37) dX6_sumOf_36 rfl rfl rfl ?_
          refine y_iald (q := 38) (by first | decide | assumption | omega) (zvinN (n := 18) (by omega) (by decide)) dX6_sumOf_37 rfl ?_
          rw [nI_clamp (by omega)]
          refine y_cS (q := 41) (c_X6_isThree _ _) lk_X6_82 rfl rfl rfl rfl dX6_sumOf_38 rfl ?_
          refine y_if_eqB (q := 44) 48 dX6_sumOf_41 rfl rfl (fun h41 => ?_) (fun h41 => ?_)
          · refine y_iconst (q := 49) dX6_sumOf_48 ic_0 rfl ?_
            refine y_goto 77 dX6_sumOf_49 rfl ?_
            refine y_iadd (q := 78) dX6_sumOf_77 rfl ?_
            refine y_istore_n2 (q := 79) dX6_sumOf_78 rfl rfl rfl ?_
            refine y_iinc_3 (q := 82) dX6_sumOf_79 rfl ic_1 rfl rfl ?_
            refine y_goto 4 dX6_sumOf_82 rfl ?_
            exact ih (i + 1) _ _ (by omega) (by rw [m_sm]; congr 1; first | exact (if_pos h41).symm | exact (if_neg h41).symm) (by first | rw [e_x3, nI_1] | rw [nI_1])
          · refine y_iconst (q := 45) dX6_sumOf_44 ic_1 rfl ?_
            refine y_goto 77 dX6_sumOf_45 rfl ?_
            refine y_iadd (q := 78) dX6_sumOf_77 rfl ?_
            refine y_istore_n2 (q := 79) dX6_sumOf_78 rfl rfl rfl ?_
            refine y_iinc_3 (q := 82) dX6_sumOf_79 rfl ic_1 rfl rfl ?_
            refine y_goto 4 dX6_sumOf_82 rfl ?_
            exact ih (i + 1) _ _ (by omega) (by rw [m_sm]; congr 1; first | exact (if_pos h41).symm | exact (if_neg h41).symm) (by first | rw [e_x3, nI_1] | rw [nI_1])
      · exact absurd h15 (by decide)
theorem c_X6_sumOf6 (σ : zSt) (n : Nat) (hL : fI σ 5 0 10 = 9) (hD : fI σ 5 0 14 = nI n) (hn : n ≤ 40) : Mf 1 mi_X6_sumOf [zr 5 0, zi 6] σ (some (zi (m_sm (m_so σ n 6) 9))) σ := by
  refine Mt_of (ls := [some (zr 5 0), some (zi 6), none, none]) (by decide +kernel) rfl rfl ?_
  refine y_iconst (q := 1) dX6_sumOf_0 ic_0 rfl ?_
  refine y_istore_n2 (q := 2) dX6_sumOf_1 rfl rfl rfl ?_
  refine y_iconst (q := 3) dX6_sumOf_2 ic_0 rfl ?_
  refine y_istore_n3 (q := 4) dX6_sumOf_3 rfl rfl rfl ?_
  refine lp_X6_so6 σ n hL hD hn ?_ 9 0 _ _ (by omega) rfl rfl
  refine y_iload_n (q := 86) dX6_sumOf_85 rfl rfl rfl ?_
  exact y_iret dX6_sumOf_86 rfl (by exact ⟨rfl, rfl⟩)
theorem lp_X6_so7 {Q : zQ} (σ : zSt) (n : Nat) (hL : fI σ 5 0 10 = 9) (hD : fI σ 5 0 14 = nI n) (hn : n ≤ 40) (hE : zY mi_X6_sumOf 1 Q 85 [some (zr 5 0), some (zi 7), some (zi (m_sm (m_so σ n 7) (9))), some (zi (nI (9)))] [] σ) : ∀ (m i : Nat) (x2 : Int32) (x3 : Int32), i + m = 9 → x2 = m_sm (m_so σ n 7) i → x3 = nI i → zY mi_X6_sumOf 1 Q 4 [some (zr 5 0), some (zi 7), some (zi x2), some (zi x3)] [] σ := by
  intro m
  induction m with
  | zero =>
    intro i x2 x3 hi e_x2 e_x3
    obtain rfl : i = 9 := by omega
    subst e_x2
    subst e_x3
    refine y_iload_n (q := 5) dX6_sumOf_4 rfl rfl rfl ?_
    refine y_aload_n (q := 6) dX6_sumOf_5 rfl rfl rfl ?_
    refine y_get (q := 9) fk_X6_94 zok5 (gv_5_10 _ _) dX6_sumOf_6 rfl ?_
    rw [hL]
    refine y_icmp_ge (q := 12) 85 dX6_sumOf_9 rfl rfl (fun h9 => ?_) (fun h9 => ?_)
    · exact hE
    · exact absurd (nI_le (a := 9) (b := 9) (Nat.le_refl _) (by omega)) h9
  | succ m ih =>
    intro i x2 x3 hi e_x2 e_x3
    refine y_iload_n (q := 5) dX6_sumOf_4 rfl rfl rfl ?_
    refine y_aload_n (q := 6) dX6_sumOf_5 rfl rfl rfl ?_
    refine y_get (q := 9) fk_X6_94 zok5 (gv_5_10 _ _) dX6_sumOf_6 rfl ?_
    rw [hL]
    refine y_icmp_ge (q := 12) 85 dX6_sumOf_9 rfl rfl (fun h9 => ?_) (fun h9 => ?_)
    · exact absurd h9 (by rw [e_x3]; exact nI_ge (b := 9) (by omega) (by omega))
    · subst e_x3
      subst e_x2
      refine y_iload_n (q := 13) dX6_sumOf_12 rfl rfl rfl ?_
      refine y_iload_n (q := 14) dX6_sumOf_13 rfl rfl rfl ?_
      refine y_iconst (q := 15) dX6_sumOf_14 ic_5 rfl ?_
      refine y_icmp_ne (q := 18) 26 dX6_sumOf_15 rfl rfl (fun h15 => ?_) (fun h15 => ?_)
      · refine y_iload_n (q := 27) dX6_sumOf_26 rfl rfl rfl ?_
        refine y_bipush (q := 29) dX6_sumOf_27 bp_6 rfl ?_
        refine y_icmp_ne (q := 32) 52 dX6_sumOf_29 rfl rfl (fun h29 => ?_) (fun h29 => ?_)
        · refine y_aload_n (q := 53) dX6_sumOf_52 rfl rfl rfl ?_
          refine y_get (q := 56) fk_X6_33 zok5 (gv_5_11 _ _) dX6_sumOf_53 rfl ?_
          refine y_iload_n (q := 57) dX6_sumOf_56 rfl rfl rfl ?_
          refine y_iald (q := 58) (by first | decide | assumption | omega) (zvinN (n := 18) (by omega) (by decide)) dX6_sumOf_57 rfl ?_
          rw [nI_clamp (by omega)]
          refine y_iconst (q := 59) dX6_sumOf_58 ic_3 rfl ?_
          refine y_icmp_eq (q := 62) 72 dX6_sumOf_59 rfl rfl (fun h59 => ?_) (fun h59 => ?_)
          · refine y_iconst (q := 73) dX6_sumOf_72 ic_1 rfl ?_
            refine y_goto 77 dX6_sumOf_73 rfl ?_
            refine y_iadd (q := 78) dX6_sumOf_77 rfl ?_
            refine y_istore_n2 (q := 79) dX6_sumOf_78 rfl rfl rfl ?_
            refine y_iinc_3 (q := 82) dX6_sumOf_79 rfl ic_1 rfl rfl ?_
            refine y_goto 4 dX6_sumOf_82 rfl ?_
            exact ih (i + 1) _ _ (by omega) (by rw [m_sm]; congr 1; first | exact (if_pos (Or.inl h59)).symm | exact (if_pos (Or.inr h69)).symm | exact (if_neg (fun z => z.elim h59 h69)).symm) (by first | rw [e_x3, nI_1] | rw [nI_1])
          · refine y_aload_n (q := 63) dX6_sumOf_62 rfl rfl rfl ?_
            refine y_get (q := 66) fk_X6_33 zok5 (gv_5_11 _ _) dX6_sumOf_63 rfl ?_
            refine y_iload_n (q := 67) dX6_sumOf_66 rfl rfl rfl ?_
            refine y_iald (q := 68) (by first | decide | assumption | omega) (zvinN (n := 18) (by omega) (by decide)) dX6_sumOf_67 rfl ?_
            rw [nI_clamp (by omega)]
            refine y_iconst (q := 69) dX6_sumOf_68 ic_5 rfl ?_
            refine y_icmp_ne (q := 72) 76 dX6_sumOf_69 rfl rfl (fun h69 => ?_) (fun h69 => ?_)
            · refine y_iconst (q := 77) dX6_sumOf_76 ic_0 rfl ?_
              refine y_iadd (q := 78) dX6_sumOf_77 rfl ?_
              refine y_istore_n2 (q := 79) dX6_sumOf_78 rfl rfl rfl ?_
              refine y_iinc_3 (q := 82) dX6_sumOf_79 rfl ic_1 rfl rfl ?_
              refine y_goto 4 dX6_sumOf_82 rfl ?_
              exact ih (i + 1) _ _ (by omega) (by rw [m_sm]; congr 1; first | exact (if_pos (Or.inl h59)).symm | exact (if_pos (Or.inr h69)).symm | exact (if_neg (fun z => z.elim h59 h69)).symm) (by first | rw [e_x3, nI_1] | rw [nI_1])
            · refine y_iconst (q := 73) dX6_sumOf_72 ic_1 rfl ?_
              refine y_goto 77 dX6_sumOf_73 rfl ?_
              refine y_iadd (q := 78) dX6_sumOf_77 rfl ?_
              refine y_istore_n2 (q := 79) dX6_sumOf_78 rfl rfl rfl ?_
              refine y_iinc_3 (q := 82) dX6_sumOf_79 rfl ic_1 rfl rfl ?_
              refine y_goto 4 dX6_sumOf_82 rfl ?_
              exact ih (i + 1) _ _ (by omega) (by rw [m_sm]; congr 1; first | exact (if_pos (Or.inl h59)).symm | exact (if_pos (Or.inr h69)).symm | exact (if_neg (fun z => z.elim h59 h69)).symm) (by first | rw [e_x3, nI_1] | rw [nI_1])
        · exact absurd h29 (by decide)
      · exact absurd h15 (by decide)
theorem c_X6_sumOf7 (σ : zSt) (n : Nat) (hL : fI σ 5 0 10 = 9) (hD : fI σ 5 0 14 = nI n) (hn : n ≤ 40) : Mf 1 mi_X6_sumOf [zr 5 0, zi 7] σ (some (zi (m_sm (m_so σ n 7) 9))) σ := by
  refine Mt_of (ls := [some (zr 5 0), some (zi 7), none, none]) (by decide +kernel) rfl rfl ?_
  refine y_iconst (q := 1) dX6_sumOf_0 ic_0 rfl ?_
  refine y_istore_n2 (q := 2) dX6_sumOf_1 rfl rfl rfl ?_
  refine y_iconst (q := 3) dX6_sumOf_2 ic_0 rfl ?_
  refine y_istore_n3 (q := 4) dX6_sumOf_3 rfl rfl rfl ?_
  refine lp_X6_so7 σ n hL hD hn ?_ 9 0 _ _ (by omega) rfl rfl
  refine y_iload_n (q := 86) dX6_sumOf_85 rfl rfl rfl ?_
  exact y_iret dX6_sumOf_86 rfl (by exact ⟨rfl, rfl⟩)
theorem c_X6_sumOf_no (σ : zSt) (w : Int32) (hL : fI σ 5 0 10 = 0) : Mf 1 mi_X6_sumOf [zr 5 0, zi w] σ (some (zi 0)) σ := by
  refine Mt_of (ls := [some (zr 5 0), some (zi w), none, none]) (by decide +kernel) rfl rfl ?_
  refine y_iconst (q := 1) dX6_sumOf_0 ic_0 rfl ?_
  refine y_istore_n2 (q := 2) dX6_sumOf_1 rfl rfl rfl ?_
  refine y_iconst (q := 3) dX6_sumOf_2 ic_0 rfl ?_
  refine y_istore_n3 (q := 4) dX6_sumOf_3 rfl rfl rfl ?_
  refine y_iload_n (q := 5) dX6_sumOf_4 rfl rfl rfl ?_
  refine y_aload_n (q := 6) dX6_sumOf_5 rfl rfl rfl ?_
  refine y_get (q := 9) fk_X6_94 zok5 (gv_5_10 _ _) dX6_sumOf_6 rfl ?_
  rw [hL]
  refine y_icmp_ge (q := 12) 85 dX6_sumOf_9 rfl rfl (fun h9 => ?_) (fun h9 => ?_)
  · refine y_iload_n (q := 86) dX6_sumOf_85 rfl rfl rfl ?_
    exact y_iret dX6_sumOf_86 rfl (by exact ⟨rfl, rfl⟩)
  · exact absurd (by decide) h9
def m_cw (σ : zSt) (n w : Nat) : Int32 := match w with
  | 0 => 9
  | 1 => fA σ 28 (11 * n + 9)
  | 2 => nI n
  | 3 => m_sh (fA σ 26) (fA σ 28) (11 * n) 9
  | 4 => fA σ 28 (11 * n + 10)
  | 5 => m_sm (m_so σ n 5) 9
  | 6 => m_sm (m_so σ n 6) 9
  | _ => m_sm (m_so σ n 7) 9
def m_ct (σ : zSt) (n w : Nat) : Int32 := match w with
  | 8 => m_cnt (fA σ 22) 6
  | 9 => m_cnt (fA σ 24) 4
  | 10 => m_cnt (fA σ 30) 3
  | w => if fI σ 5 0 10 = 9 then m_cw σ n w else 0
abbrev m_emp (σ : zSt) : Prop := fI σ 5 0 10 = 0 ∧ fI σ 5 0 14 = 0 ∧ fA σ 28 9 = 0 ∧ fA σ 28 10 = 0
theorem c_X6_count_ok (σ : zSt) (n w : Nat) (hL : fI σ 5 0 10 = 9) (hD : fI σ 5 0 14 = nI n) (hn : n ≤ 40) (hw : w < 11) : Mf 3 mi_X6_count [zr 5 0, zi (nI w)] σ (some (zi (m_ct σ n w))) σ := by
  rcases w with _ | _ | _ | _ | _ | _ | _ | _ | _ | _ | _ | w
  · refine Mt_of (ls := [some (zr 5 0), some (zi (nI 0))]) (by decide +kernel) rfl rfl ?_
    refine y_iload_n (q := 1) dX6_count_0 rfl rfl rfl ?_
    refine y_tableIn (off := 59) 60 dX6_count_1 (by decide +kernel) (by decide +kernel) (by decide +kernel) rfl ?_
    refine y_aload_n (q := 61) dX6_count_60 rfl rfl rfl ?_
    refine y_get (q := 64) fk_X6_94 zok5 (gv_5_10 _ _) dX6_count_61 rfl ?_
    exact y_iret dX6_count_64 rfl (by exact ⟨by simp only [m_ct, m_cw, hL, hD, if_pos], rfl⟩)
  · refine Mt_of (ls := [some (zr 5 0), some (zi (nI 1))]) (by decide +kernel) rfl rfl ?_
    refine y_iload_n (q := 1) dX6_count_0 rfl rfl rfl ?_
    refine y_tableIn (off := 64) 65 dX6_count_1 (by decide +kernel) (by decide +kernel) (by decide +kernel) rfl ?_
    refine y_aload_n (q := 66) dX6_count_65 rfl rfl rfl ?_
    refine y_bipush (q := 68) dX6_count_66 bp_9 rfl ?_
    refine y_cV (q := 71) (c_X6_now _ n 9 hD hn (by decide)) lk_X6_118 zok5 (by decide) rfl rfl rfl rfl rfl dX6_count_68 rfl ?_
    exact y_iret dX6_count_71 rfl (by exact ⟨by simp only [m_ct, m_cw, hL, hD, if_pos], rfl⟩)
  · refine Mt_of (ls := [some (zr 5 0), some (zi (nI 2))]) (by decide +kernel) rfl rfl ?_
    refine y_iload_n (q := 1) dX6_count_0 rfl rfl rfl ?_
    refine y_tableIn (off := 71) 72 dX6_count_1 (by decide +kernel) (by decide +kernel) (by decide +kernel) rfl ?_
    refine y_aload_n (q := 73) dX6_count_72 rfl rfl rfl ?_
    refine y_get (q := 76) fk_X6_97 zok5 (gv_5_14 _ _) dX6_count_73 rfl ?_
    exact y_iret dX6_count_76 rfl (by exact ⟨by simp only [m_ct, m_cw, hL, hD, if_pos], rfl⟩)
  · refine Mt_of (ls := [some (zr 5 0), some (zi (nI 3))]) (by decide +kernel) rfl rfl ?_
    refine y_iload_n (q := 1) dX6_count_0 rfl rfl rfl ?_
    refine y_tableIn (off := 76) 77 dX6_count_1 (by decide +kernel) (by decide +kernel) (by decide +kernel) rfl ?_
    refine y_aload_n (q := 78) dX6_count_77 rfl rfl rfl ?_
    refine y_cV (q := 81) (c_X6_shown _ n hD hn hL) lk_X6_121 zok5 (by decide) rfl rfl rfl rfl rfl dX6_count_78 rfl ?_
    exact y_iret dX6_count_81 rfl (by exact ⟨by simp only [m_ct, m_cw, hL, hD, if_pos], rfl⟩)
  · refine Mt_of (ls := [some (zr 5 0), some (zi (nI 4))]) (by decide +kernel) rfl rfl ?_
    refine y_iload_n (q := 1) dX6_count_0 rfl rfl rfl ?_
    refine y_tableIn (off := 81) 82 dX6_count_1 (by decide +kernel) (by decide +kernel) (by decide +kernel) rfl ?_
    refine y_aload_n (q := 83) dX6_count_82 rfl rfl rfl ?_
    refine y_bipush (q := 85) dX6_count_83 bp_10 rfl ?_
    refine y_cV (q := 88) (c_X6_now _ n 10 hD hn (by decide)) lk_X6_118 zok5 (by decide) rfl rfl rfl rfl rfl dX6_count_85 rfl ?_
    exact y_iret dX6_count_88 rfl (by exact ⟨by simp only [m_ct, m_cw, hL, hD, if_pos], rfl⟩)
  · refine Mt_of (ls := [some (zr 5 0), some (zi (nI 5))]) (by decide +kernel) rfl rfl ?_
    refine y_iload_n (q := 1) dX6_count_0 rfl rfl rfl ?_
    refine y_tableIn (off := 88) 89 dX6_count_1 (by decide +kernel) (by decide +kernel) (by decide +kernel) rfl ?_
    refine y_aload_n (q := 90) dX6_count_89 rfl rfl rfl ?_
    refine y_iload_n (q := 91) dX6_count_90 rfl rfl rfl ?_
    refine y_cV (q := 94) (c_X6_sumOf5 _ n hL hD hn) lk_X6_214 zok5 (by decide) rfl rfl rfl rfl rfl dX6_count_91 rfl ?_
    exact y_iret dX6_count_94 rfl (by exact ⟨by simp only [m_ct, m_cw, hL, hD, if_pos], rfl⟩)
  · refine Mt_of (ls := [some (zr 5 0), some (zi (nI 6))]) (by decide +kernel) rfl rfl ?_
    refine y_iload_n (q := 1) dX6_count_0 rfl rfl rfl ?_
    refine y_tableIn (off := 88) 89 dX6_count_1 (by decide +kernel) (by decide +kernel) (by decide +kernel) rfl ?_
    refine y_aload_n (q := 90) dX6_count_89 rfl rfl rfl ?_
    refine y_iload_n (q := 91) dX6_count_90 rfl rfl rfl ?_
    refine y_cV (q := 94) (c_X6_sumOf6 _ n hL hD hn) lk_X6_214 zok5 (by decide) rfl rfl rfl rfl rfl dX6_count_91 rfl ?_
    exact y_iret dX6_count_94 rfl (by exact ⟨by simp only [m_ct, m_cw, hL, hD, if_pos], rfl⟩)
  · refine Mt_of (ls := [some (zr 5 0), some (zi (nI 7))]) (by decide +kernel) rfl rfl ?_
    refine y_iload_n (q := 1) dX6_count_0 rfl rfl rfl ?_
    refine y_tableIn (off := 88) 89 dX6_count_1 (by decide +kernel) (by decide +kernel) (by decide +kernel) rfl ?_
    refine y_aload_n (q := 90) dX6_count_89 rfl rfl rfl ?_
    refine y_iload_n (q := 91) dX6_count_90 rfl rfl rfl ?_
    refine y_cV (q := 94) (c_X6_sumOf7 _ n hL hD hn) lk_X6_214 zok5 (by decide) rfl rfl rfl rfl rfl dX6_count_91 rfl ?_
    exact y_iret dX6_count_94 rfl (by exact ⟨by simp only [m_ct, m_cw, hL, hD, if_pos], rfl⟩)
  · refine Mt_of (ls := [some (zr 5 0), some (zi (nI 8))]) (by decide +kernel) rfl rfl ?_
    refine y_iload_n (q := 1) dX6_count_0 rfl rfl rfl ?_
    refine y_tableIn (off := 94) 95 dX6_count_1 (by decide +kernel) (by decide +kernel) (by decide +kernel) rfl ?_
    refine y_aload_n (q := 96) dX6_count_95 rfl rfl rfl ?_
    refine y_iload_n (q := 97) dX6_count_96 rfl rfl rfl ?_
    refine y_cV (q := 100) (c_X6_thereAre8 _) lk_X6_217 zok5 (by decide) rfl rfl rfl rfl rfl dX6_count_97 rfl ?_
    exact y_iret dX6_count_100 rfl (by exact ⟨rfl, rfl⟩)
  · refine Mt_of (ls := [some (zr 5 0), some (zi (nI 9))]) (by decide +kernel) rfl rfl ?_
    refine y_iload_n (q := 1) dX6_count_0 rfl rfl rfl ?_
    refine y_tableIn (off := 94) 95 dX6_count_1 (by decide +kernel) (by decide +kernel) (by decide +kernel) rfl ?_
    refine y_aload_n (q := 96) dX6_count_95 rfl rfl rfl ?_
    refine y_iload_n (q := 97) dX6_count_96 rfl rfl rfl ?_
    refine y_cV (q := 100) (c_X6_thereAre9 _) lk_X6_217 zok5 (by decide) rfl rfl rfl rfl rfl dX6_count_97 rfl ?_
    exact y_iret dX6_count_100 rfl (by exact ⟨rfl, rfl⟩)
  · refine Mt_of (ls := [some (zr 5 0), some (zi (nI 10))]) (by decide +kernel) rfl rfl ?_
    refine y_iload_n (q := 1) dX6_count_0 rfl rfl rfl ?_
    refine y_tableIn (off := 94) 95 dX6_count_1 (by decide +kernel) (by decide +kernel) (by decide +kernel) rfl ?_
    refine y_aload_n (q := 96) dX6_count_95 rfl rfl rfl ?_
    refine y_iload_n (q := 97) dX6_count_96 rfl rfl rfl ?_
    refine y_cV (q := 100) (c_X6_thereAre10 _) lk_X6_217 zok5 (by decide) rfl rfl rfl rfl rfl dX6_count_97 rfl ?_
    exact y_iret dX6_count_100 rfl (by exact ⟨rfl, rfl⟩)
  · omega
theorem c_X6_count_no (σ : zSt) (w : Nat) (hE : m_emp σ) (hw : w < 11) : Mf 3 mi_X6_count [zr 5 0, zi (nI w)] σ (some (zi (m_ct σ 0 w))) σ := by
  obtain ⟨hL, hD, h9, hX⟩ := hE
  have e0 : ∀ x y : Int32, (if (0 : Int32) = 9 then x else y) = y := fun x y => if_neg (by decide)
  rcases w with _ | _ | _ | _ | _ | _ | _ | _ | _ | _ | _ | w
  · refine Mt_of (ls := [some (zr 5 0), some (zi (nI 0))]) (by decide +kernel) rfl rfl ?_
    refine y_iload_n (q := 1) dX6_count_0 rfl rfl rfl ?_
    refine y_tableIn (off := 59) 60 dX6_count_1 (by decide +kernel) (by decide +kernel) (by decide +kernel) rfl ?_
    refine y_aload_n (q := 61) dX6_count_60 rfl rfl rfl ?_
    refine y_get (q := 64) fk_X6_94 zok5 (gv_5_10 _ _) dX6_count_61 rfl ?_
    exact y_iret dX6_count_64 rfl (by exact ⟨by simp only [m_ct, e0, hL, hD, h9, hX, Nat.mul_zero, Nat.zero_add], rfl⟩)
  · refine Mt_of (ls := [some (zr 5 0), some (zi (nI 1))]) (by decide +kernel) rfl rfl ?_
    refine y_iload_n (q := 1) dX6_count_0 rfl rfl rfl ?_
    refine y_tableIn (off := 64) 65 dX6_count_1 (by decide +kernel) (by decide +kernel) (by decide +kernel) rfl ?_
    refine y_aload_n (q := 66) dX6_count_65 rfl rfl rfl ?_
    refine y_bipush (q := 68) dX6_count_66 bp_9 rfl ?_
    refine y_cV (q := 71) (c_X6_now _ 0 9 hD (by decide) (by decide)) lk_X6_118 zok5 (by decide) rfl rfl rfl rfl rfl dX6_count_68 rfl ?_
    exact y_iret dX6_count_71 rfl (by exact ⟨by simp only [m_ct, e0, hL, hD, h9, hX, Nat.mul_zero, Nat.zero_add], rfl⟩)
  · refine Mt_of (ls := [some (zr 5 0), some (zi (nI 2))]) (by decide +kernel) rfl rfl ?_
    refine y_iload_n (q := 1) dX6_count_0 rfl rfl rfl ?_
    refine y_tableIn (off := 71) 72 dX6_count_1 (by decide +kernel) (by decide +kernel) (by decide +kernel) rfl ?_
    refine y_aload_n (q := 73) dX6_count_72 rfl rfl rfl ?_
    refine y_get (q := 76) fk_X6_97 zok5 (gv_5_14 _ _) dX6_count_73 rfl ?_
    exact y_iret dX6_count_76 rfl (by exact ⟨by simp only [m_ct, e0, hL, hD, h9, hX, Nat.mul_zero, Nat.zero_add], rfl⟩)
  · refine Mt_of (ls := [some (zr 5 0), some (zi (nI 3))]) (by decide +kernel) rfl rfl ?_
    refine y_iload_n (q := 1) dX6_count_0 rfl rfl rfl ?_
    refine y_tableIn (off := 76) 77 dX6_count_1 (by decide +kernel) (by decide +kernel) (by decide +kernel) rfl ?_
    refine y_aload_n (q := 78) dX6_count_77 rfl rfl rfl ?_
    refine y_cV (q := 81) (c_X6_shown_no _ hL) lk_X6_121 zok5 (by decide) rfl rfl rfl rfl rfl dX6_count_78 rfl ?_
    exact y_iret dX6_count_81 rfl (by exact ⟨by simp only [m_ct, e0, hL, hD, h9, hX, Nat.mul_zero, Nat.zero_add], rfl⟩)
  · refine Mt_of (ls := [some (zr 5 0), some (zi (nI 4))]) (by decide +kernel) rfl rfl ?_
    refine y_iload_n (q := 1) dX6_count_0 rfl rfl rfl ?_
    refine y_tableIn (off := 81) 82 dX6_count_1 (by decide +kernel) (by decide +kernel) (by decide +kernel) rfl ?_
    refine y_aload_n (q := 83) dX6_count_82 rfl rfl rfl ?_
    refine y_bipush (q := 85) dX6_count_83 bp_10 rfl ?_
    refine y_cV (q := 88) (c_X6_now _ 0 10 hD (by decide) (by decide)) lk_X6_118 zok5 (by decide) rfl rfl rfl rfl rfl dX6_count_85 rfl ?_
    exact y_iret dX6_count_88 rfl (by exact ⟨by simp only [m_ct, e0, hL, hD, h9, hX, Nat.mul_zero, Nat.zero_add], rfl⟩)
  · refine Mt_of (ls := [some (zr 5 0), some (zi (nI 5))]) (by decide +kernel) rfl rfl ?_
    refine y_iload_n (q := 1) dX6_count_0 rfl rfl rfl ?_
    refine y_tableIn (off := 88) 89 dX6_count_1 (by decide +kernel) (by decide +kernel) (by decide +kernel) rfl ?_
    refine y_aload_n (q := 90) dX6_count_89 rfl rfl rfl ?_
    refine y_iload_n (q := 91) dX6_count_90 rfl rfl rfl ?_
    refine y_cV (q := 94) (c_X6_sumOf_no _ _ hL) lk_X6_214 zok5 (by decide) rfl rfl rfl rfl rfl dX6_count_91 rfl ?_
    exact y_iret dX6_count_94 rfl (by exact ⟨by simp only [m_ct, e0, hL, hD, h9, hX, Nat.mul_zero, Nat.zero_add], rfl⟩)
  · refine Mt_of (ls := [some (zr 5 0), some (zi (nI 6))]) (by decide +kernel) rfl rfl ?_
    refine y_iload_n (q := 1) dX6_count_0 rfl rfl rfl ?_
    refine y_tableIn (off := 88) 89 dX6_count_1 (by decide +kernel) (by decide +kernel) (by decide +kernel) rfl ?_
    refine y_aload_n (q := 90) dX6_count_89 rfl rfl rfl ?_
    refine y_iload_n (q := 91) dX6_count_90 rfl rfl rfl ?_
    refine y_cV (q := 94) (c_X6_sumOf_no _ _ hL) lk_X6_214 zok5 (by decide) rfl rfl rfl rfl rfl dX6_count_91 rfl ?_
    exact y_iret dX6_count_94 rfl (by exact ⟨by simp only [m_ct, e0, hL, hD, h9, hX, Nat.mul_zero, Nat.zero_add], rfl⟩)
  · refine Mt_of (ls := [some (zr 5 0), some (zi (nI 7))]) (by decide +kernel) rfl rfl ?_
    refine y_iload_n (q := 1) dX6_count_0 rfl rfl rfl ?_
    refine y_tableIn (off := 88) 89 dX6_count_1 (by decide +kernel) (by decide +kernel) (by decide +kernel) rfl ?_
    refine y_aload_n (q := 90) dX6_count_89 rfl rfl rfl ?_
    refine y_iload_n (q := 91) dX6_count_90 rfl rfl rfl ?_
    refine y_cV (q := 94) (c_X6_sumOf_no _ _ hL) lk_X6_214 zok5 (by decide) rfl rfl rfl rfl rfl dX6_count_91 rfl ?_
    exact y_iret dX6_count_94 rfl (by exact ⟨by simp only [m_ct, e0, hL, hD, h9, hX, Nat.mul_zero, Nat.zero_add], rfl⟩)
  · refine Mt_of (ls := [some (zr 5 0), some (zi (nI 8))]) (by decide +kernel) rfl rfl ?_
    refine y_iload_n (q := 1) dX6_count_0 rfl rfl rfl ?_
    refine y_tableIn (off := 94) 95 dX6_count_1 (by decide +kernel) (by decide +kernel) (by decide +kernel) rfl ?_
    refine y_aload_n (q := 96) dX6_count_95 rfl rfl rfl ?_
    refine y_iload_n (q := 97) dX6_count_96 rfl rfl rfl ?_
    refine y_cV (q := 100) (c_X6_thereAre8 _) lk_X6_217 zok5 (by decide) rfl rfl rfl rfl rfl dX6_count_97 rfl ?_
    exact y_iret dX6_count_100 rfl (by exact ⟨rfl, rfl⟩)
  · refine Mt_of (ls := [some (zr 5 0), some (zi (nI 9))]) (by decide +kernel) rfl rfl ?_
    refine y_iload_n (q := 1) dX6_count_0 rfl rfl rfl ?_
    refine y_tableIn (off := 94) 95 dX6_count_1 (by decide +kernel) (by decide +kernel) (by decide +kernel) rfl ?_
    refine y_aload_n (q := 96) dX6_count_95 rfl rfl rfl ?_
    refine y_iload_n (q := 97) dX6_count_96 rfl rfl rfl ?_
    refine y_cV (q := 100) (c_X6_thereAre9 _) lk_X6_217 zok5 (by decide) rfl rfl rfl rfl rfl dX6_count_97 rfl ?_
    exact y_iret dX6_count_100 rfl (by exact ⟨rfl, rfl⟩)
  · refine Mt_of (ls := [some (zr 5 0), some (zi (nI 10))]) (by decide +kernel) rfl rfl ?_
    refine y_iload_n (q := 1) dX6_count_0 rfl rfl rfl ?_
    refine y_tableIn (off := 94) 95 dX6_count_1 (by decide +kernel) (by decide +kernel) (by decide +kernel) rfl ?_
    refine y_aload_n (q := 96) dX6_count_95 rfl rfl rfl ?_
    refine y_iload_n (q := 97) dX6_count_96 rfl rfl rfl ?_
    refine y_cV (q := 100) (c_X6_thereAre10 _) lk_X6_217 zok5 (by decide) rfl rfl rfl rfl rfl dX6_count_97 rfl ?_
    exact y_iret dX6_count_100 rfl (by exact ⟨rfl, rfl⟩)
  · omega
theorem c_X6_count_bad (σ : zSt) (w : Int32) (hw : w.toInt < 0 ∨ 10 < w.toInt) : Mf 3 mi_X6_count [zr 5 0, zi w] σ (some (zi (-1))) σ := by
  refine Mt_of (ls := [some (zr 5 0), some (zi w)]) (by decide +kernel) rfl rfl ?_
  refine y_iload_n (q := 1) dX6_count_0 rfl rfl rfl ?_
  refine y_tableOut 101 dX6_count_1 hw rfl ?_
  refine y_iconst (q := 102) dX6_count_101 ic_m1 rfl ?_
  exact y_iret dX6_count_102 rfl (by exact ⟨rfl, rfl⟩)
