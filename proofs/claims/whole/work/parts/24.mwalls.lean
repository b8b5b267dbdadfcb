/-! ===== the reference: walls, deeds ===== -/
theorem c_X6_fault_bad (σ : zSt) (r : Int32) (hr : r < 0 ∨ 4 ≤ r) : Mf 3 mi_X6_fault [zr 5 0, zi r] σ (some (zi (-1))) σ := by
  refine Mt_of (ls := [some (zr 5 0), some (zi r)]) (by decide +kernel) rfl rfl ?_
  refine y_iload_n (q := 1) dX6_fault_0 rfl rfl rfl ?_
  refine y_cS (q := 4) (c_X6_isText_0 _ _ (m_outN (n := 3) hr (by decide))) lk_X6_79 rfl rfl rfl rfl dX6_fault_1 rfl ?_
  refine y_if_ne (q := 7) 9 dX6_fault_4 rfl rfl (fun h => absurd h (by decide)) (fun h4 => ?_)
  refine y_iconst (q := 8) dX6_fault_7 ic_m1 rfl ?_
  exact y_iret dX6_fault_8 rfl (by exact ⟨rfl, rfl⟩)
theorem c_X6_fault_mis (σ : zSt) (j : Nat) (hj : j < 4) (hw : fA σ 24 j = -1) : Mf 3 mi_X6_fault [zr 5 0, zi (nI j)] σ (some (zi (-3))) (m_fnd σ 1) := by
  refine Mt_of (ls := [some (zr 5 0), some (zi (nI j))]) (by decide +kernel) rfl rfl ?_
  refine y_iload_n (q := 1) dX6_fault_0 rfl rfl rfl ?_
  refine y_cS (q := 4) (c_X6_isText_1 _ _ (m_inN (n := 3) (by omega) (by decide))) lk_X6_79 rfl rfl rfl rfl dX6_fault_1 rfl ?_
  refine y_if_ne (q := 7) 9 dX6_fault_4 rfl rfl (fun h4 => ?_) (fun h => absurd h (by decide))
  refine y_aload_n (q := 10) dX6_fault_9 rfl rfl rfl ?_
  refine y_get (q := 13) fk_X6_23 zok5 (gv_5_7 _ _) dX6_fault_10 rfl ?_
  refine y_iload_n (q := 14) dX6_fault_13 rfl rfl rfl ?_
  refine y_iald (q := 15) (by first | decide | assumption | omega) (zvinN (n := 4) (by omega) (by decide)) dX6_fault_14 rfl ?_
  rw [nI_clamp (by omega), hw]
  refine y_if_ge (q := 18) 26 dX6_fault_15 rfl rfl (fun h15 => ?_) (fun h15 => ?_)
  · exact absurd h15 (by decide)
  · refine y_aload_n (q := 19) dX6_fault_18 rfl rfl rfl ?_
    refine y_iconst (q := 20) dX6_fault_19 ic_1 rfl ?_
    refine y_cV (q := 23) (c_X6_find _ 1 (by decide)) lk_X6_72 zok5 (by decide) rfl rfl rfl rfl rfl dX6_fault_20 rfl ?_
    refine y_goto 31 dX6_fault_23 rfl ?_
    exact y_iret dX6_fault_31 rfl (by exact ⟨rfl, rfl⟩)
theorem c_X6_wall_bad (σ : zSt) (r : Int32) (hr : r < 0 ∨ 4 ≤ r) : Mf 3 mi_X6_wall [zr 5 0, zi r] σ (some (zi (-1))) σ := by
  refine Mt_of (ls := [some (zr 5 0), some (zi r), none]) (by decide +kernel) rfl rfl ?_
  refine y_iload_n (q := 1) dX6_wall_0 rfl rfl rfl ?_
  refine y_cS (q := 4) (c_X6_isText_0 _ _ (m_outN (n := 3) hr (by decide))) lk_X6_79 rfl rfl rfl rfl dX6_wall_1 rfl ?_
  refine y_if_ne (q := 7) 9 dX6_wall_4 rfl rfl (fun h => absurd h (by decide)) (fun h4 => ?_)
  refine y_iconst (q := 8) dX6_wall_7 ic_m1 rfl ?_
  exact y_iret dX6_wall_8 rfl (by exact ⟨rfl, rfl⟩)
theorem c_X6_wall_mis (σ : zSt) (j : Nat) (hj : j < 4) (hw : fA σ 24 j = -1) : Mf 3 mi_X6_wall [zr 5 0, zi (nI j)] σ (some (zi (-3))) (m_fnd σ 1) := by
  refine Mt_of (ls := [some (zr 5 0), some (zi (nI j)), none]) (by decide +kernel) rfl rfl ?_
  refine y_iload_n (q := 1) dX6_wall_0 rfl rfl rfl ?_
  refine y_cS (q := 4) (c_X6_isText_1 _ _ (m_inN (n := 3) (by omega) (by decide))) lk_X6_79 rfl rfl rfl rfl dX6_wall_1 rfl ?_
  refine y_if_ne (q := 7) 9 dX6_wall_4 rfl rfl (fun h4 => ?_) (fun h => absurd h (by decide))
  refine y_aload_n (q := 10) dX6_wall_9 rfl rfl rfl ?_
  refine y_get (q := 13) fk_X6_23 zok5 (gv_5_7 _ _) dX6_wall_10 rfl ?_
  refine y_iload_n (q := 14) dX6_wall_13 rfl rfl rfl ?_
  refine y_iald (q := 15) (by first | decide | assumption | omega) (zvinN (n := 4) (by omega) (by decide)) dX6_wall_14 rfl ?_
  rw [nI_clamp (by omega), hw]
  refine y_if_ge (q := 18) 24 dX6_wall_15 rfl rfl (fun h15 => ?_) (fun h15 => ?_)
  · exact absurd h15 (by decide)
  · refine y_aload_n (q := 19) dX6_wall_18 rfl rfl rfl ?_
    refine y_iconst (q := 20) dX6_wall_19 ic_1 rfl ?_
    refine y_cV (q := 23) (c_X6_find _ 1 (by decide)) lk_X6_72 zok5 (by decide) rfl rfl rfl rfl rfl dX6_wall_20 rfl ?_
    exact y_iret dX6_wall_23 rfl (by exact ⟨rfl, rfl⟩)
theorem c_X6_fault_ok (σ : zSt) (j n : Nat) (hj : j < 4) (hw : fA σ 24 j = nI n) (hn : n ≤ 60) : Mf 3 mi_X6_fault [zr 5 0, zi (nI j)] σ (some (zi (m_rd j n (n + 1) 0 0 σ).1)) (m_rd j n (n + 1) 0 0 σ).2 := by
  refine Mt_of (ls := [some (zr 5 0), some (zi (nI j))]) (by decide +kernel) rfl rfl ?_
  refine y_iload_n (q := 1) dX6_fault_0 rfl rfl rfl ?_
  refine y_cS (q := 4) (c_X6_isText_1 _ _ (m_inN (n := 3) (by omega) (by decide))) lk_X6_79 rfl rfl rfl rfl dX6_fault_1 rfl ?_
  refine y_if_ne (q := 7) 9 dX6_fault_4 rfl rfl (fun h4 => ?_) (fun h => absurd h (by decide))
  refine y_aload_n (q := 10) dX6_fault_9 rfl rfl rfl ?_
  refine y_get (q := 13) fk_X6_23 zok5 (gv_5_7 _ _) dX6_fault_10 rfl ?_
  refine y_iload_n (q := 14) dX6_fault_13 rfl rfl rfl ?_
  refine y_iald (q := 15) (by first | decide | assumption | omega) (zvinN (n := 4) (by omega) (by decide)) dX6_fault_14 rfl ?_
  rw [nI_clamp (by omega), hw]
  refine y_if_ge (q := 18) 26 dX6_fault_15 rfl rfl (fun h15 => ?_) (fun h15 => ?_)
  · refine y_aload_n (q := 27) dX6_fault_26 rfl rfl rfl ?_
    refine y_iload_n (q := 28) dX6_fault_27 rfl rfl rfl ?_
    refine y_cV (q := 31) (c_X6_read _ _ n hj hw hn) lk_X6_91 zok5 (by decide) rfl rfl rfl rfl rfl dX6_fault_28 rfl ?_
    exact y_iret dX6_fault_31 rfl (by exact ⟨rfl, rfl⟩)
  · exact absurd (nI_pos' (by omega)) h15
theorem c_X6_wall_flt (σ : zSt) (j n : Nat) (hj : j < 4) (hw : fA σ 24 j = nI n) (hn : n ≤ 60) (hf : ¬ (m_rd j n (n + 1) 0 0 σ).1 = -9) : Mf 3 mi_X6_wall [zr 5 0, zi (nI j)] σ (some (zi (-4))) (m_rd j n (n + 1) 0 0 σ).2 := by
  refine Mt_of (ls := [some (zr 5 0), some (zi (nI j)), none]) (by decide +kernel) rfl rfl ?_
  refine y_iload_n (q := 1) dX6_wall_0 rfl rfl rfl ?_
  refine y_cS (q := 4) (c_X6_isText_1 _ _ (m_inN (n := 3) (by omega) (by decide))) lk_X6_79 rfl rfl rfl rfl dX6_wall_1 rfl ?_
  refine y_if_ne (q := 7) 9 dX6_wall_4 rfl rfl (fun h4 => ?_) (fun h => absurd h (by decide))
  refine y_aload_n (q := 10) dX6_wall_9 rfl rfl rfl ?_
  refine y_get (q := 13) fk_X6_23 zok5 (gv_5_7 _ _) dX6_wall_10 rfl ?_
  refine y_iload_n (q := 14) dX6_wall_13 rfl rfl rfl ?_
  refine y_iald (q := 15) (by first | decide | assumption | omega) (zvinN (n := 4) (by omega) (by decide)) dX6_wall_14 rfl ?_
  rw [nI_clamp (by omega), hw]
  refine y_if_ge (q := 18) 24 dX6_wall_15 rfl rfl (fun h15 => ?_) (fun h15 => ?_)
  · refine y_aload_n (q := 25) dX6_wall_24 rfl rfl rfl ?_
    refine y_iload_n (q := 26) dX6_wall_25 rfl rfl rfl ?_
    refine y_cV (q := 29) (c_X6_read _ _ n hj hw hn) lk_X6_91 zok5 (by decide) rfl rfl rfl rfl rfl dX6_wall_26 rfl ?_
    refine y_bipush (q := 31) dX6_wall_29 bp_m9 rfl ?_
    refine y_icmp_eq (q := 34) 37 dX6_wall_31 rfl rfl (fun h31 => ?_) (fun h31 => ?_)
    · exact absurd h31 hf
    · refine y_bipush (q := 36) dX6_wall_34 bp_m4 rfl ?_
      exact y_iret dX6_wall_36 rfl (by exact ⟨rfl, rfl⟩)
  · exact absurd (nI_pos' (by omega)) h15
def m_w1 (σ : zSt) (i : Nat) : zSt := sA (sA σ 26 (m_cp (fA σ 26) (fA σ 26) 0 9 i)) 28 (m_cp (fA σ 28) (fA σ 27) 0 9 i)
theorem m_w1_0 (σ : zSt) : m_w1 σ 0 = σ := by rw [m_w1, m_cp_0, m_cp_0, sA_self, sA_self]
theorem m_w1_up (σ : zSt) (i : Nat) (hi : i < 9) : sA (sA (m_w1 σ i) 26 (upd (fA (m_w1 σ i) 26) i (fA (m_w1 σ i) 26 (9 + i)))) 28 (upd (fA (m_w1 σ i) 28) i (fA σ 27 (9 + i))) = m_w1 σ (i + 1) := by
  have e1 : fA (m_w1 σ i) 26 = m_cp (fA σ 26) (fA σ 26) 0 9 i := by rw [m_w1, fA_ne _ _ (by decide), fA_same]
  have e2 : fA (m_w1 σ i) 28 = m_cp (fA σ 28) (fA σ 27) 0 9 i := by rw [m_w1, fA_same]
  have e3 : m_cp (fA σ 26) (fA σ 26) 0 9 i (9 + i) = fA σ 26 (9 + i) := by unfold m_cp; rw [if_neg (by omega)]
  have u1 := m_cp_up (fA σ 26) (fA σ 26) 0 9 i
  have u2 := m_cp_up (fA σ 28) (fA σ 27) 0 9 i
  rw [Nat.zero_add] at u1 u2
  rw [e1, e2, e3, u1, u2]
  unfold m_w1
  rw [sA_com _ _ _ (by decide), sA_sA, sA_com _ _ _ (by decide), sA_sA]
def m_w2 (σ : zSt) (i : Nat) : zSt := sA σ 30 (zfill (fA σ 30) 0 i (-1))
def m_wall (σ : zSt) : zSt := m_w2 (sA (m_w1 (sI (sI σ 5 0 10 9) 5 0 14 0) 9) 28 (upd (upd (fA (m_w1 (sI (sI σ 5 0 10 9) 5 0 14 0) 9) 28) 9 0) 10 0)) 3
theorem lp_X6_wall1 {Q : zQ} (σ : zSt) (r : Int32) (hE : zY mi_X6_wall 3 Q 92 [some (zr 5 0), some (zi r), some (zi (nI (9)))] [] (m_w1 σ (9))) : ∀ (m i : Nat) (x2 : Int32) (τ : zSt), i + m = 9 → x2 = nI i → τ = m_w1 σ i → zY mi_X6_wall 3 Q 50 [some (zr 5 0), some (zi r), some (zi x2)] [] τ := by
  intro m
  induction m with
  | zero =>
    intro i x2 τ hi e_x2 e_τ
    obtain rfl : i = 9 := by omega
    subst e_x2
    subst e_τ
    refine y_iload_n (q := 51) dX6_wall_50 rfl rfl rfl ?_
    refine y_bipush (q := 53) dX6_wall_51 bp_9 rfl ?_
    refine y_icmp_ge (q := 56) 92 dX6_wall_53 rfl rfl (fun h53 => ?_) (fun h53 => ?_)
    · exact hE
    · exact absurd (nI_le (a := 9) (b := 9) (Nat.le_refl _) (by omega)) h53
  | succ m ih =>
    intro i x2 τ hi e_x2 e_τ
    refine y_iload_n (q := 51) dX6_wall_50 rfl rfl rfl ?_
    refine y_bipush (q := 53) dX6_wall_51 bp_9 rfl ?_
    refine y_icmp_ge (q := 56) 92 dX6_wall_53 rfl rfl (fun h53 => ?_) (fun h53 => ?_)
    · exact absurd h53 (by rw [e_x2]; exact nI_ge (b := 9) (by omega) (by omega))
    · subst e_x2
      subst e_τ
      refine y_aload_n (q := 57) dX6_wall_56 rfl rfl rfl ?_
      refine y_get (q := 60) fk_X6_33 zok5 (gv_5_11 _ _) dX6_wall_57 rfl ?_
      refine y_iload_n (q := 61) dX6_wall_60 rfl rfl rfl ?_
      refine y_aload_n (q := 62) dX6_wall_61 rfl rfl rfl ?_
      refine y_get (q := 65) fk_X6_33 zok5 (gv_5_11 _ _) dX6_wall_62 rfl ?_
      refine y_bipush (q := 67) dX6_wall_65 bp_9 rfl ?_
      refine y_iload_n (q := 68) dX6_wall_67 rfl rfl rfl ?_
      refine y_iadd (q := 69) dX6_wall_68 rfl ?_
      rw [nI9]
      refine y_iald (q := 70) (by first | decide | assumption | omega) (zvinN (n := 18) (by omega) (by decide)) dX6_wall_69 rfl ?_
      rw [nI_clamp (by omega)]
      refine y_iast (q := 71) (by first | decide | assumption | omega) (zvinN (n := 18) (by omega) (by decide)) dX6_wall_70 rfl ?_
      rw [nI_clamp (by omega)]
      refine y_aload_n (q := 72) dX6_wall_71 rfl rfl rfl ?_
      refine y_get (q := 75) fk_X6_39 zok5 (gv_5_13 _ _) dX6_wall_72 rfl ?_
      refine y_iload_n (q := 76) dX6_wall_75 rfl rfl rfl ?_
      refine y_aload_n (q := 77) dX6_wall_76 rfl rfl rfl ?_
      refine y_get (q := 80) fk_X6_36 zok5 (gv_5_12 _ _) dX6_wall_77 rfl ?_
      refine y_bipush (q := 82) dX6_wall_80 bp_9 rfl ?_
      refine y_iload_n (q := 83) dX6_wall_82 rfl rfl rfl ?_
      refine y_iadd (q := 84) dX6_wall_83 rfl ?_
      rw [nI9]
      refine y_iald (q := 85) (by first | decide | assumption | omega) (zvinN (n := 18) (by omega) (by decide)) dX6_wall_84 rfl ?_
      rw [nI_clamp (by omega), fA_ne _ _ (by decide), show fA (m_w1 σ i) 27 = fA σ 27 from by rw [m_w1, fA_ne _ _ (by decide), fA_ne _ _ (by decide)]]
      refine y_iast (q := 86) (by first | decide | assumption | omega) (zvinN (n := 451) (by omega) (by decide)) dX6_wall_85 rfl ?_
      rw [nI_clamp (by omega), fA_ne (b := 28) _ _ (by decide), m_w1_up _ _ (by omega)]
      refine y_iinc_2 (q := 89) dX6_wall_86 rfl ic_1 rfl rfl ?_
      refine y_goto 50 dX6_wall_89 rfl ?_
      exact ih (i + 1) _ _ (by omega) (by rw [nI_1]) rfl
theorem lp_X6_wall2 {Q : zQ} (σ : zSt) (r : Int32) (hE : zY mi_X6_wall 3 Q 128 [some (zr 5 0), some (zi r), some (zi (nI (3)))] [] (m_w2 σ (3))) : ∀ (m i : Nat) (x2 : Int32) (τ : zSt), i + m = 3 → x2 = nI i → τ = m_w2 σ i → zY mi_X6_wall 3 Q 110 [some (zr 5 0), some (zi r), some (zi x2)] [] τ := by
  intro m
  induction m with
  | zero =>
    intro i x2 τ hi e_x2 e_τ
    obtain rfl : i = 3 := by omega
    subst e_x2
    subst e_τ
    refine y_iload_n (q := 111) dX6_wall_110 rfl rfl rfl ?_
    refine y_iconst (q := 112) dX6_wall_111 ic_3 rfl ?_
    refine y_icmp_ge (q := 115) 128 dX6_wall_112 rfl rfl (fun h112 => ?_) (fun h112 => ?_)
    · exact hE
    · exact absurd (nI_le (a := 3) (b := 3) (Nat.le_refl _) (by omega)) h112
  | succ m ih =>
    intro i x2 τ hi e_x2 e_τ
    refine y_iload_n (q := 111) dX6_wall_110 rfl rfl rfl ?_
    refine y_iconst (q := 112) dX6_wall_111 ic_3 rfl ?_
    refine y_icmp_ge (q := 115) 128 dX6_wall_112 rfl rfl (fun h112 => ?_) (fun h112 => ?_)
    · exact absurd h112 (by rw [e_x2]; exact nI_ge (b := 3) (by omega) (by omega))
    · subst e_x2
      subst e_τ
      refine y_aload_n (q := 116) dX6_wall_115 rfl rfl rfl ?_
      refine y_get (q := 119) fk_X6_45 zok5 (gv_5_16 _ _) dX6_wall_116 rfl ?_
      refine y_iload_n (q := 120) dX6_wall_119 rfl rfl rfl ?_
      refine y_iconst (q := 121) dX6_wall_120 ic_m1 rfl ?_
      refine y_iast (q := 122) (by first | decide | assumption | omega) (zvinN (n := 3) (by omega) (by decide)) dX6_wall_121 rfl ?_
      rw [nI_clamp (by omega), m_w2, fA_same, sA_sA, zfill_grow (by omega)]
      refine y_iinc_2 (q := 125) dX6_wall_122 rfl ic_1 rfl rfl ?_
      refine y_goto 110 dX6_wall_125 rfl ?_
      exact ih (i + 1) _ _ (by omega) (by rw [nI_1]) rfl
theorem c_X6_wall_ok (σ : zSt) (j n : Nat) (hj : j < 4) (hw : fA σ 24 j = nI n) (hn : n ≤ 60) (hf : (m_rd j n (n + 1) 0 0 σ).1 = -9) : Mf 3 mi_X6_wall [zr 5 0, zi (nI j)] σ (some (zi 9)) (m_wall (m_rd j n (n + 1) 0 0 σ).2) := by
  refine Mt_of (ls := [some (zr 5 0), some (zi (nI j)), none]) (by decide +kernel) rfl rfl ?_
  refine y_iload_n (q := 1) dX6_wall_0 rfl rfl rfl ?_
  refine y_cS (q := 4) (c_X6_isText_1 _ _ (m_inN (n := 3) (by omega) (by decide))) lk_X6_79 rfl rfl rfl rfl dX6_wall_1 rfl ?_
  refine y_if_ne (q := 7) 9 dX6_wall_4 rfl rfl (fun h4 => ?_) (fun h => absurd h (by decide))
  refine y_aload_n (q := 10) dX6_wall_9 rfl rfl rfl ?_
  refine y_get (q := 13) fk_X6_23 zok5 (gv_5_7 _ _) dX6_wall_10 rfl ?_
  refine y_iload_n (q := 14) dX6_wall_13 rfl rfl rfl ?_
  refine y_iald (q := 15) (by first | decide | assumption | omega) (zvinN (n := 4) (by omega) (by decide)) dX6_wall_14 rfl ?_
  rw [nI_clamp (by omega), hw]
  refine y_if_ge (q := 18) 24 dX6_wall_15 rfl rfl (fun h15 => ?_) (fun h15 => ?_)
  · refine y_aload_n (q := 25) dX6_wall_24 rfl rfl rfl ?_
    refine y_iload_n (q := 26) dX6_wall_25 rfl rfl rfl ?_
    refine y_cV (q := 29) (c_X6_read _ _ n hj hw hn) lk_X6_91 zok5 (by decide) rfl rfl rfl rfl rfl dX6_wall_26 rfl ?_
    refine y_bipush (q := 31) dX6_wall_29 bp_m9 rfl ?_
    refine y_icmp_eq (q := 34) 37 dX6_wall_31 rfl rfl (fun h31 => ?_) (fun h31 => ?_)
    · refine y_aload_n (q := 38) dX6_wall_37 rfl rfl rfl ?_
      refine y_bipush (q := 40) dX6_wall_38 bp_9 rfl ?_
      refine y_putI (q := 43) fk_X6_94 (by decide) zok5 dX6_wall_40 rfl ?_
      refine y_aload_n (q := 44) dX6_wall_43 rfl rfl rfl ?_
      refine y_iconst (q := 45) dX6_wall_44 ic_0 rfl ?_
      refine y_putI (q := 48) fk_X6_97 (by decide) zok5 dX6_wall_45 rfl ?_
      refine y_iconst (q := 49) dX6_wall_48 ic_0 rfl ?_
      refine y_istore_n2 (q := 50) dX6_wall_49 rfl rfl rfl ?_
      refine lp_X6_wall1 _ _ ?_ 9 0 _ _ (by omega) rfl (m_w1_0 _).symm
      refine y_aload_n (q := 93) dX6_wall_92 rfl rfl rfl ?_
      refine y_get (q := 96) fk_X6_39 zok5 (gv_5_13 _ _) dX6_wall_93 rfl ?_
      refine y_bipush (q := 98) dX6_wall_96 bp_9 rfl ?_
      refine y_iconst (q := 99) dX6_wall_98 ic_0 rfl ?_
      refine y_iast (q := 100) (by first | decide | assumption | omega) (zvinN (k := 9) (n := 451) (by omega) (by decide)) dX6_wall_99 rfl ?_
      rw [show (9 : Int32).toNatClampNeg = 9 from by decide]
      refine y_aload_n (q := 101) dX6_wall_100 rfl rfl rfl ?_
      refine y_get (q := 104) fk_X6_39 zok5 (gv_5_13 _ _) dX6_wall_101 rfl ?_
      refine y_bipush (q := 106) dX6_wall_104 bp_10 rfl ?_
      refine y_iconst (q := 107) dX6_wall_106 ic_0 rfl ?_
      refine y_iast (q := 108) (by first | decide | assumption | omega) (zvinN (k := 10) (n := 451) (by omega) (by decide)) dX6_wall_107 rfl ?_
      rw [show (10 : Int32).toNatClampNeg = 10 from by decide, fA_same, sA_sA]
      refine y_iconst (q := 109) dX6_wall_108 ic_0 rfl ?_
      refine y_istore_n2 (q := 110) dX6_wall_109 rfl rfl rfl ?_
      refine lp_X6_wall2 _ _ ?_ 3 0 _ _ (by omega) rfl (by rw [m_w2, zfill_end, sA_self])
      refine y_bipush (q := 130) dX6_wall_128 bp_9 rfl ?_
      exact y_iret dX6_wall_130 rfl (by exact ⟨rfl, rfl⟩)
    · exact absurd hf h31
  · exact absurd (nI_pos' (by omega)) h15
def m_fact (σ : zSt) (n k w : Nat) : Int32 := match w with
  | 0 => fA σ 26 k
  | 1 => fA σ 28 (11 * n + k)
  | 2 => b2i (m_bit (m_sh (fA σ 26) (fA σ 28) (11 * n) 9) (nI k) = 1)
  | 3 => b2i (m_bit (fA σ 28 (11 * n + 10)) (nI k) = 1)
  | 4 => m_tb (nI k) 9
  | _ => m_aft (fA σ 26 k) (fA σ 28 (11 * n + k)) 1 (fA σ 28 (11 * n + 9))
theorem lamp_in {σ : zSt} {k : Nat} (hL : fI σ 5 0 10 = 9) (hk : k < 9) : m_in (nI k) 0 (fI σ 5 0 10 - 1) := by
  rw [hL]
  exact m_inN (n := 8) (by omega) (by decide)
theorem lamp_out {σ : zSt} {i : Int32} (hL : fI σ 5 0 10 = 9) (hi : i < 0 ∨ 9 ≤ i) : ¬ m_in i 0 (fI σ 5 0 10 - 1) := by
  rw [hL]
  exact m_outN (n := 8) hi (by decide)
theorem lamp_none {σ : zSt} {i : Int32} (hL : fI σ 5 0 10 = 0) : ¬ m_in i 0 (fI σ 5 0 10 - 1) := by
  rw [hL]
  rintro ⟨h1, h2⟩
  rw [i32lt, i32z] at h1
  rw [i32lt, show ((0 : Int32) - 1).toInt = -1 from by decide] at h2
  omega
theorem c_X6_factOf (σ : zSt) (n k w : Nat) (hL : fI σ 5 0 10 = 9) (hD : fI σ 5 0 14 = nI n) (hn : n ≤ 40) (hk : k < 9) (hw : w < 6) : Mf 3 mi_X6_factOf [zr 5 0, zi (nI k), zi (nI w)] σ (some (zi (m_fact σ n k w))) σ := by
  rcases w with _ | _ | _ | _ | _ | _ | w
  · refine Mt_of (ls := [some (zr 5 0), some (zi (nI k)), some (zi (nI 0))]) (by decide +kernel) rfl rfl ?_
    refine y_iload_n (q := 1) dX6_factOf_0 rfl rfl rfl ?_
    refine y_tableIn (off := 35) 36 dX6_factOf_1 (by decide +kernel) (by decide +kernel) (by decide +kernel) rfl ?_
    refine y_aload_n (q := 37) dX6_factOf_36 rfl rfl rfl ?_
    refine y_get (q := 40) fk_X6_33 zok5 (gv_5_11 _ _) dX6_factOf_37 rfl ?_
    refine y_iload_n (q := 41) dX6_factOf_40 rfl rfl rfl ?_
    refine y_iald (q := 42) (by first | decide | assumption | omega) (zvinN (n := 18) (by omega) (by decide)) dX6_factOf_41 rfl ?_
    rw [nI_clamp (by omega)]
    exact y_iret dX6_factOf_42 rfl (by first | exact ⟨rfl, rfl⟩ | (refine ⟨?_, rfl⟩; first | (rw [m_fact, b2i_t h57]; done) | (rw [m_fact, b2i_f h57]; done) | (rw [m_fact, b2i_t h76]; done) | (rw [m_fact, b2i_f h76]; done)))
  · refine Mt_of (ls := [some (zr 5 0), some (zi (nI k)), some (zi (nI 1))]) (by decide +kernel) rfl rfl ?_
    refine y_iload_n (q := 1) dX6_factOf_0 rfl rfl rfl ?_
    refine y_tableIn (off := 42) 43 dX6_factOf_1 (by decide +kernel) (by decide +kernel) (by decide +kernel) rfl ?_
    refine y_aload_n (q := 44) dX6_factOf_43 rfl rfl rfl ?_
    refine y_iload_n (q := 45) dX6_factOf_44 rfl rfl rfl ?_
    refine y_cV (q := 48) (c_X6_now _ n k hD hn (by omega)) lk_X6_118 zok5 (by decide) rfl rfl rfl rfl rfl dX6_factOf_45 rfl ?_
    exact y_iret dX6_factOf_48 rfl (by first | exact ⟨rfl, rfl⟩ | (refine ⟨?_, rfl⟩; first | (rw [m_fact, b2i_t h57]; done) | (rw [m_fact, b2i_f h57]; done) | (rw [m_fact, b2i_t h76]; done) | (rw [m_fact, b2i_f h76]; done)))
  · refine Mt_of (ls := [some (zr 5 0), some (zi (nI k)), some (zi (nI 2))]) (by decide +kernel) rfl rfl ?_
    refine y_iload_n (q := 1) dX6_factOf_0 rfl rfl rfl ?_
    refine y_tableIn (off := 48) 49 dX6_factOf_1 (by decide +kernel) (by decide +kernel) (by decide +kernel) rfl ?_
    refine y_aload_n (q := 50) dX6_factOf_49 rfl rfl rfl ?_
    refine y_cV (q := 53) (c_X6_shown _ n hD hn hL) lk_X6_121 zok5 (by decide) rfl rfl rfl rfl rfl dX6_factOf_50 rfl ?_
    refine y_iload_n (q := 54) dX6_factOf_53 rfl rfl rfl ?_
    refine y_cS (q := 57) (c_X6_has _ _ _) lk_X6_104 rfl rfl rfl rfl dX6_factOf_54 rfl ?_
    refine y_if_eqB (q := 60) 64 dX6_factOf_57 rfl rfl (fun h57 => ?_) (fun h57 => ?_)
    · refine y_iconst (q := 65) dX6_factOf_64 ic_0 rfl ?_
      exact y_iret dX6_factOf_65 rfl (by first | exact ⟨rfl, rfl⟩ | (refine ⟨?_, rfl⟩; first | (rw [m_fact, b2i_t h57]; done) | (rw [m_fact, b2i_f h57]; done) | (rw [m_fact, b2i_t h76]; done) | (rw [m_fact, b2i_f h76]; done)))
    · refine y_iconst (q := 61) dX6_factOf_60 ic_1 rfl ?_
      refine y_goto 65 dX6_factOf_61 rfl ?_
      exact y_iret dX6_factOf_65 rfl (by first | exact ⟨rfl, rfl⟩ | (refine ⟨?_, rfl⟩; first | (rw [m_fact, b2i_t h57]; done) | (rw [m_fact, b2i_f h57]; done) | (rw [m_fact, b2i_t h76]; done) | (rw [m_fact, b2i_f h76]; done)))
  · refine Mt_of (ls := [some (zr 5 0), some (zi (nI k)), some (zi (nI 3))]) (by decide +kernel) rfl rfl ?_
    refine y_iload_n (q := 1) dX6_factOf_0 rfl rfl rfl ?_
    refine y_tableIn (off := 65) 66 dX6_factOf_1 (by decide +kernel) (by decide +kernel) (by decide +kernel) rfl ?_
    refine y_aload_n (q := 67) dX6_factOf_66 rfl rfl rfl ?_
    refine y_bipush (q := 69) dX6_factOf_67 bp_10 rfl ?_
    refine y_cV (q := 72) (c_X6_now _ n 10 hD hn (by omega)) lk_X6_118 zok5 (by decide) rfl rfl rfl rfl rfl dX6_factOf_69 rfl ?_
    refine y_iload_n (q := 73) dX6_factOf_72 rfl rfl rfl ?_
    refine y_cS (q := 76) (c_X6_has _ _ _) lk_X6_104 rfl rfl rfl rfl dX6_factOf_73 rfl ?_
    refine y_if_eqB (q := 79) 83 dX6_factOf_76 rfl rfl (fun h76 => ?_) (fun h76 => ?_)
    · refine y_iconst (q := 84) dX6_factOf_83 ic_0 rfl ?_
      exact y_iret dX6_factOf_84 rfl (by first | exact ⟨rfl, rfl⟩ | (refine ⟨?_, rfl⟩; first | (rw [m_fact, b2i_t h57]; done) | (rw [m_fact, b2i_f h57]; done) | (rw [m_fact, b2i_t h76]; done) | (rw [m_fact, b2i_f h76]; done)))
    · refine y_iconst (q := 80) dX6_factOf_79 ic_1 rfl ?_
      refine y_goto 84 dX6_factOf_80 rfl ?_
      exact y_iret dX6_factOf_84 rfl (by first | exact ⟨rfl, rfl⟩ | (refine ⟨?_, rfl⟩; first | (rw [m_fact, b2i_t h57]; done) | (rw [m_fact, b2i_f h57]; done) | (rw [m_fact, b2i_t h76]; done) | (rw [m_fact, b2i_f h76]; done)))
  · refine Mt_of (ls := [some (zr 5 0), some (zi (nI k)), some (zi (nI 4))]) (by decide +kernel) rfl rfl ?_
    refine y_iload_n (q := 1) dX6_factOf_0 rfl rfl rfl ?_
    refine y_tableIn (off := 84) 85 dX6_factOf_1 (by decide +kernel) (by decide +kernel) (by decide +kernel) rfl ?_
    refine y_iload_n (q := 86) dX6_factOf_85 rfl rfl rfl ?_
    refine y_cS (q := 89) (c_X6_touchedBy _ _) lk_X6_125 rfl rfl rfl rfl dX6_factOf_86 rfl ?_
    exact y_iret dX6_factOf_89 rfl (by first | exact ⟨rfl, rfl⟩ | (refine ⟨?_, rfl⟩; first | (rw [m_fact, b2i_t h57]; done) | (rw [m_fact, b2i_f h57]; done) | (rw [m_fact, b2i_t h76]; done) | (rw [m_fact, b2i_f h76]; done)))
  · refine Mt_of (ls := [some (zr 5 0), some (zi (nI k)), some (zi (nI 5))]) (by decide +kernel) rfl rfl ?_
    refine y_iload_n (q := 1) dX6_factOf_0 rfl rfl rfl ?_
    refine y_tableOut 90 dX6_factOf_1 (by decide +kernel) rfl ?_
    refine y_aload_n (q := 91) dX6_factOf_90 rfl rfl rfl ?_
    refine y_get (q := 94) fk_X6_33 zok5 (gv_5_11 _ _) dX6_factOf_91 rfl ?_
    refine y_iload_n (q := 95) dX6_factOf_94 rfl rfl rfl ?_
    refine y_iald (q := 96) (by first | decide | assumption | omega) (zvinN (n := 18) (by omega) (by decide)) dX6_factOf_95 rfl ?_
    rw [nI_clamp (by omega)]
    refine y_aload_n (q := 97) dX6_factOf_96 rfl rfl rfl ?_
    refine y_iload_n (q := 98) dX6_factOf_97 rfl rfl rfl ?_
    refine y_cV (q := 101) (c_X6_now _ n k hD hn (by omega)) lk_X6_118 zok5 (by decide) rfl rfl rfl rfl rfl dX6_factOf_98 rfl ?_
    refine y_iconst (q := 102) dX6_factOf_101 ic_1 rfl ?_
    refine y_aload_n (q := 103) dX6_factOf_102 rfl rfl rfl ?_
    refine y_bipush (q := 105) dX6_factOf_103 bp_9 rfl ?_
    refine y_cV (q := 108) (c_X6_now _ n 9 hD hn (by omega)) lk_X6_118 zok5 (by decide) rfl rfl rfl rfl rfl dX6_factOf_105 rfl ?_
    refine y_cS (q := 111) (c_X6_after _ _ _ _ _) lk_X6_114 rfl rfl rfl rfl dX6_factOf_108 rfl ?_
    exact y_iret dX6_factOf_111 rfl (by first | exact ⟨rfl, rfl⟩ | (refine ⟨?_, rfl⟩; first | (rw [m_fact, b2i_t h57]; done) | (rw [m_fact, b2i_f h57]; done) | (rw [m_fact, b2i_t h76]; done) | (rw [m_fact, b2i_f h76]; done)))
  · omega
theorem c_X6_lamp_bad1 (σ : zSt) (i w : Int32) (hi : ¬ m_in i 0 (fI σ 5 0 10 - 1)) : Mf 4 mi_X6_lamp [zr 5 0, zi i, zi w] σ (some (zi (-1))) σ := by
  refine Mt_of (ls := [some (zr 5 0), some (zi i), some (zi w)]) (by decide +kernel) rfl rfl ?_
  refine y_aload_n (q := 1) dX6_lamp_0 rfl rfl rfl ?_
  refine y_iload_n (q := 2) dX6_lamp_1 rfl rfl rfl ?_
  refine y_cV (q := 5) (c_X6_isLamp_0 _ _ hi) lk_X6_128 zok5 (by decide) rfl rfl rfl rfl rfl dX6_lamp_2 rfl ?_
  refine y_if_eq (q := 8) 30 dX6_lamp_5 rfl rfl (fun h5 => ?_) (fun h => absurd (by decide) h)
  refine y_iconst (q := 31) dX6_lamp_30 ic_m1 rfl ?_
  exact y_iret dX6_lamp_31 rfl (by exact ⟨rfl, rfl⟩)
theorem c_X6_lamp_bad2 (σ : zSt) (i w : Int32) (hi : m_in i 0 (fI σ 5 0 10 - 1)) (hw : ¬ m_in w 0 5) : Mf 4 mi_X6_lamp [zr 5 0, zi i, zi w] σ (some (zi (-1))) σ := by
  refine Mt_of (ls := [some (zr 5 0), some (zi i), some (zi w)]) (by decide +kernel) rfl rfl ?_
  refine y_aload_n (q := 1) dX6_lamp_0 rfl rfl rfl ?_
  refine y_iload_n (q := 2) dX6_lamp_1 rfl rfl rfl ?_
  refine y_cV (q := 5) (c_X6_isLamp_1 _ _ hi) lk_X6_128 zok5 (by decide) rfl rfl rfl rfl rfl dX6_lamp_2 rfl ?_
  refine y_if_eq (q := 8) 30 dX6_lamp_5 rfl rfl (fun h => absurd h (by decide)) (fun h5 => ?_)
  refine y_iload_n (q := 9) dX6_lamp_8 rfl rfl rfl ?_
  refine y_iconst (q := 10) dX6_lamp_9 ic_0 rfl ?_
  refine y_iconst (q := 11) dX6_lamp_10 ic_5 rfl ?_
  refine y_cS (q := 14) (c_X6_in_0 _ _ _ _ hw) lk_X6_64 rfl rfl rfl rfl dX6_lamp_11 rfl ?_
  refine y_if_eq (q := 17) 30 dX6_lamp_14 rfl rfl (fun h14 => ?_) (fun h => absurd (by decide) h)
  refine y_iconst (q := 31) dX6_lamp_30 ic_m1 rfl ?_
  exact y_iret dX6_lamp_31 rfl (by exact ⟨rfl, rfl⟩)
theorem c_X6_lamp_ok (σ : zSt) (n k w : Nat) (hL : fI σ 5 0 10 = 9) (hD : fI σ 5 0 14 = nI n) (hn : n ≤ 40) (hk : k < 9) (hw : w < 6) : Mf 4 mi_X6_lamp [zr 5 0, zi (nI k), zi (nI w)] σ (some (zi 1)) (sI σ 5 0 2 (m_fact σ n k w)) := by
  refine Mt_of (ls := [some (zr 5 0), some (zi (nI k)), some (zi (nI w))]) (by decide +kernel) rfl rfl ?_
  refine y_aload_n (q := 1) dX6_lamp_0 rfl rfl rfl ?_
  refine y_iload_n (q := 2) dX6_lamp_1 rfl rfl rfl ?_
  refine y_cV (q := 5) (c_X6_isLamp_1 _ _ (lamp_in hL hk)) lk_X6_128 zok5 (by decide) rfl rfl rfl rfl rfl dX6_lamp_2 rfl ?_
  refine y_if_eq (q := 8) 30 dX6_lamp_5 rfl rfl (fun h => absurd h (by decide)) (fun h5 => ?_)
  refine y_iload_n (q := 9) dX6_lamp_8 rfl rfl rfl ?_
  refine y_iconst (q := 10) dX6_lamp_9 ic_0 rfl ?_
  refine y_iconst (q := 11) dX6_lamp_10 ic_5 rfl ?_
  refine y_cS (q := 14) (c_X6_in_1 _ _ _ _ (m_inN (n := 5) (by omega) (by decide))) lk_X6_64 rfl rfl rfl rfl dX6_lamp_11 rfl ?_
  refine y_if_eq (q := 17) 30 dX6_lamp_14 rfl rfl (fun h => absurd h (by decide)) (fun h14 => ?_)
  refine y_aload_n (q := 18) dX6_lamp_17 rfl rfl rfl ?_
  refine y_aload_n (q := 19) dX6_lamp_18 rfl rfl rfl ?_
  refine y_iload_n (q := 20) dX6_lamp_19 rfl rfl rfl ?_
  refine y_iload_n (q := 21) dX6_lamp_20 rfl rfl rfl ?_
  refine y_cV (q := 24) (c_X6_factOf _ n k w hL hD hn hk hw) lk_X6_131 zok5 (by decide) rfl rfl rfl rfl rfl dX6_lamp_21 rfl ?_
  refine y_cV (q := 27) (c_X6_told _ _) lk_X6_76 zok5 (by decide) rfl rfl rfl rfl rfl dX6_lamp_24 rfl ?_
  refine y_goto 31 dX6_lamp_27 rfl ?_
  exact y_iret dX6_lamp_31 rfl (by exact ⟨rfl, rfl⟩)
def m_mk2 (σ : zSt) (n : Nat) : Nat → Int32
  | 0 => 0
  | j + 1 => if fA σ 26 j = 2 ∧ fA σ 28 (11 * n + j) = 0 then m_mk2 σ n j + 1 else m_mk2 σ n j + 0
def m_mark (σ : zSt) (n k w : Nat) : Int32 := match w with
  | 1 => zrem (3 - fA σ 28 (11 * n + k)) 3
  | 2 => m_mk2 σ n 9
  | 3 => m_bits (m_tb (nI k) 9) 9 - 1
  | 4 => zrem (fA σ 28 (11 * n + 9)) 2
  | _ => m_bits (m_sh (fA σ 26) (fA σ 28) (11 * n) 9 &&& zcom (zshl 1 (nI k))) 9
abbrev m_isA (s w : Int32) : Prop := s = w ∨ (w = 1 ∧ s = 4) ∨ (w = 3 ∧ s = 5)
theorem c_X6_mark_bad1 (σ : zSt) (i w : Int32) (hi : ¬ m_in i 0 (fI σ 5 0 10 - 1)) : Mf 3 mi_X6_mark [zr 5 0, zi i, zi w] σ (some (zi (-1))) σ := by
  refine Mt_of (ls := [some (zr 5 0), some (zi i), some (zi w), none, none]) (by decide +kernel) rfl rfl ?_
  refine y_aload_n (q := 1) dX6_mark_0 rfl rfl rfl ?_
  refine y_iload_n (q := 2) dX6_mark_1 rfl rfl rfl ?_
  refine y_cV (q := 5) (c_X6_isLamp_0 _ _ hi) lk_X6_128 zok5 (by decide) rfl rfl rfl rfl rfl dX6_mark_2 rfl ?_
  refine y_if_eq (q := 8) 17 dX6_mark_5 rfl rfl (fun h5 => ?_) (fun h => absurd (by decide) h)
  refine y_iconst (q := 18) dX6_mark_17 ic_m1 rfl ?_
  exact y_iret dX6_mark_18 rfl (by exact ⟨rfl, rfl⟩)
theorem c_X6_mark_bad2 (σ : zSt) (i w : Int32) (hi : m_in i 0 (fI σ 5 0 10 - 1)) (hw : ¬ m_in w 1 5) : Mf 3 mi_X6_mark [zr 5 0, zi i, zi w] σ (some (zi (-1))) σ := by
  refine Mt_of (ls := [some (zr 5 0), some (zi i), some (zi w), none, none]) (by decide +kernel) rfl rfl ?_
  refine y_aload_n (q := 1) dX6_mark_0 rfl rfl rfl ?_
  refine y_iload_n (q := 2) dX6_mark_1 rfl rfl rfl ?_
  refine y_cV (q := 5) (c_X6_isLamp_1 _ _ hi) lk_X6_128 zok5 (by decide) rfl rfl rfl rfl rfl dX6_mark_2 rfl ?_
  refine y_if_eq (q := 8) 17 dX6_mark_5 rfl rfl (fun h => absurd h (by decide)) (fun h5 => ?_)
  refine y_iload_n (q := 9) dX6_mark_8 rfl rfl rfl ?_
  refine y_iconst (q := 10) dX6_mark_9 ic_1 rfl ?_
  refine y_iconst (q := 11) dX6_mark_10 ic_5 rfl ?_
  refine y_cS (q := 14) (c_X6_in_0 _ _ _ _ hw) lk_X6_64 rfl rfl rfl rfl dX6_mark_11 rfl ?_
  refine y_if_ne (q := 17) 19 dX6_mark_14 rfl rfl (fun h => absurd h (by decide)) (fun h14 => ?_)
  refine y_iconst (q := 18) dX6_mark_17 ic_m1 rfl ?_
  exact y_iret dX6_mark_18 rfl (by exact ⟨rfl, rfl⟩)
theorem c_X6_mark_unl (σ : zSt) (k : Nat) (w : Int32) (hL : fI σ 5 0 10 = 9) (hk : k < 9) (hw : m_in w 1 5) (hu : ¬ m_isA (fA σ 26 k) w) : Mf 3 mi_X6_mark [zr 5 0, zi (nI k), zi w] σ (some (zi (-3))) (m_fnd σ 3) := by
  refine Mt_of (ls := [some (zr 5 0), some (zi (nI k)), some (zi w), none, none]) (by decide +kernel) rfl rfl ?_
  refine y_aload_n (q := 1) dX6_mark_0 rfl rfl rfl ?_
  refine y_iload_n (q := 2) dX6_mark_1 rfl rfl rfl ?_
  refine y_cV (q := 5) (c_X6_isLamp_1 _ _ (lamp_in hL hk)) lk_X6_128 zok5 (by decide) rfl rfl rfl rfl rfl dX6_mark_2 rfl ?_
  refine y_if_eq (q := 8) 17 dX6_mark_5 rfl rfl (fun h => absurd h (by decide)) (fun h5 => ?_)
  refine y_iload_n (q := 9) dX6_mark_8 rfl rfl rfl ?_
  refine y_iconst (q := 10) dX6_mark_9 ic_1 rfl ?_
  refine y_iconst (q := 11) dX6_mark_10 ic_5 rfl ?_
  refine y_cS (q := 14) (c_X6_in_1 _ _ _ _ hw) lk_X6_64 rfl rfl rfl rfl dX6_mark_11 rfl ?_
  refine y_if_ne (q := 17) 19 dX6_mark_14 rfl rfl (fun h14 => ?_) (fun h => absurd h (by decide))
  refine y_aload_n (q := 20) dX6_mark_19 rfl rfl rfl ?_
  refine y_get (q := 23) fk_X6_33 zok5 (gv_5_11 _ _) dX6_mark_20 rfl ?_
  refine y_iload_n (q := 24) dX6_mark_23 rfl rfl rfl ?_
  refine y_iald (q := 25) (by first | decide | assumption | omega) (zvinN (n := 18) (by omega) (by decide)) dX6_mark_24 rfl ?_
  rw [nI_clamp (by omega)]
  refine y_iload_n (q := 26) dX6_mark_25 rfl rfl rfl ?_
  refine y_icmp_eq (q := 29) 65 dX6_mark_26 rfl rfl (fun h26 => ?_) (fun h26 => ?_)
  · exact absurd (Or.inl h26) hu
  · refine y_iload_n (q := 30) dX6_mark_29 rfl rfl rfl ?_
    refine y_iconst (q := 31) dX6_mark_30 ic_1 rfl ?_
    refine y_icmp_ne (q := 34) 44 dX6_mark_31 rfl rfl (fun h31 => ?_) (fun h31 => ?_)
    · refine y_iload_n (q := 45) dX6_mark_44 rfl rfl rfl ?_
      refine y_iconst (q := 46) dX6_mark_45 ic_3 rfl ?_
      refine y_icmp_ne (q := 49) 59 dX6_mark_46 rfl rfl (fun h46 => ?_) (fun h46 => ?_)
      · refine y_aload_n (q := 60) dX6_mark_59 rfl rfl rfl ?_
        refine y_iconst (q := 61) dX6_mark_60 ic_3 rfl ?_
        refine y_cV (q := 64) (c_X6_find _ 3 (by decide)) lk_X6_72 zok5 (by decide) rfl rfl rfl rfl rfl dX6_mark_61 rfl ?_
        exact y_iret dX6_mark_64 rfl (by exact ⟨rfl, rfl⟩)
      · refine y_aload_n (q := 50) dX6_mark_49 rfl rfl rfl ?_
        refine y_get (q := 53) fk_X6_33 zok5 (gv_5_11 _ _) dX6_mark_50 rfl ?_
        refine y_iload_n (q := 54) dX6_mark_53 rfl rfl rfl ?_
        refine y_iald (q := 55) (by first | decide | assumption | omega) (zvinN (n := 18) (by omega) (by decide)) dX6_mark_54 rfl ?_
        rw [nI_clamp (by omega)]
        refine y_iconst (q := 56) dX6_mark_55 ic_5 rfl ?_
        refine y_icmp_eq (q := 59) 65 dX6_mark_56 rfl rfl (fun h56 => ?_) (fun h56 => ?_)
        · exact absurd (Or.inr (Or.inr ⟨h46, h56⟩)) hu
        · refine y_aload_n (q := 60) dX6_mark_59 rfl rfl rfl ?_
          refine y_iconst (q := 61) dX6_mark_60 ic_3 rfl ?_
          refine y_cV (q := 64) (c_X6_find _ 3 (by decide)) lk_X6_72 zok5 (by decide) rfl rfl rfl rfl rfl dX6_mark_61 rfl ?_
          exact y_iret dX6_mark_64 rfl (by exact ⟨rfl, rfl⟩)
    · refine y_aload_n (q := 35) dX6_mark_34 rfl rfl rfl ?_
      refine y_get (q := 38) fk_X6_33 zok5 (gv_5_11 _ _) dX6_mark_35 rfl ?_
      refine y_iload_n (q := 39) dX6_mark_38 rfl rfl rfl ?_
      refine y_iald (q := 40) (by first | decide | assumption | omega) (zvinN (n := 18) (by omega) (by decide)) dX6_mark_39 rfl ?_
      rw [nI_clamp (by omega)]
      refine y_iconst (q := 41) dX6_mark_40 ic_4 rfl ?_
      refine y_icmp_eq (q := 44) 65 dX6_mark_41 rfl rfl (fun h41 => ?_) (fun h41 => ?_)
      · exact absurd (Or.inr (Or.inl ⟨h31, h41⟩)) hu
      · refine y_iload_n (q := 45) dX6_mark_44 rfl rfl rfl ?_
        refine y_iconst (q := 46) dX6_mark_45 ic_3 rfl ?_
        refine y_icmp_ne (q := 49) 59 dX6_mark_46 rfl rfl (fun h46 => ?_) (fun h46 => ?_)
        · refine y_aload_n (q := 60) dX6_mark_59 rfl rfl rfl ?_
          refine y_iconst (q := 61) dX6_mark_60 ic_3 rfl ?_
          refine y_cV (q := 64) (c_X6_find _ 3 (by decide)) lk_X6_72 zok5 (by decide) rfl rfl rfl rfl rfl dX6_mark_61 rfl ?_
          exact y_iret dX6_mark_64 rfl (by exact ⟨rfl, rfl⟩)
        · refine y_aload_n (q := 50) dX6_mark_49 rfl rfl rfl ?_
          refine y_get (q := 53) fk_X6_33 zok5 (gv_5_11 _ _) dX6_mark_50 rfl ?_
          refine y_iload_n (q := 54) dX6_mark_53 rfl rfl rfl ?_
          refine y_iald (q := 55) (by first | decide | assumption | omega) (zvinN (n := 18) (by omega) (by decide)) dX6_mark_54 rfl ?_
          rw [nI_clamp (by omega)]
          refine y_iconst (q := 56) dX6_mark_55 ic_5 rfl ?_
          refine y_icmp_eq (q := 59) 65 dX6_mark_56 rfl rfl (fun h56 => ?_) (fun h56 => ?_)
          · exact absurd (Or.inr (Or.inr ⟨h46, h56⟩)) hu
          · refine y_aload_n (q := 60) dX6_mark_59 rfl rfl rfl ?_
            refine y_iconst (q := 61) dX6_mark_60 ic_3 rfl ?_
            refine y_cV (q := 64) (c_X6_find _ 3 (by decide)) lk_X6_72 zok5 (by decide) rfl rfl rfl rfl rfl dX6_mark_61 rfl ?_
            exact y_iret dX6_mark_64 rfl (by exact ⟨rfl, rfl⟩)
theorem lp_X6_mark2 {Q : zQ} (σ : zSt) (n : Nat) (r w : Int32) (hL : fI σ 5 0 10 = 9) (hD : fI σ 5 0 14 = nI n) (hn : n ≤ 40) (hE : zY mi_X6_mark 3 Q 154 [some (zr 5 0), some (zi r), some (zi w), some (zi (m_mk2 σ n (9))), some (zi (nI (9)))] [] σ) : ∀ (m i : Nat) (x3 : Int32) (x4 : Int32), i + m = 9 → x3 = m_mk2 σ n i → x4 = nI i → zY mi_X6_mark 3 Q 113 [some (zr 5 0), some (zi r), some (zi w), some (zi x3), some (zi x4)] [] σ := by
  intro m
  induction m with
  | zero =>
    intro i x3 x4 hi e_x3 e_x4
    obtain rfl : i = 9 := by omega
    subst e_x3
    subst e_x4
    refine y_iload (q := 115) dX6_mark_113 rfl rfl ?_
    refine y_bipush (q := 117) dX6_mark_115 bp_9 rfl ?_
    refine y_icmp_ge (q := 120) 154 dX6_mark_117 rfl rfl (fun h117 => ?_) (fun h117 => ?_)
    · exact hE
    · exact absurd (nI_le (a := 9) (b := 9) (Nat.le_refl _) (by omega)) h117
  | succ m ih =>
    intro i x3 x4 hi e_x3 e_x4
    refine y_iload (q := 115) dX6_mark_113 rfl rfl ?_
    refine y_bipush (q := 117) dX6_mark_115 bp_9 rfl ?_
    refine y_icmp_ge (q := 120) 154 dX6_mark_117 rfl rfl (fun h117 => ?_) (fun h117 => ?_)
    · exact absurd h117 (by rw [e_x4]; exact nI_ge (b := 9) (by omega) (by omega))
    · subst e_x4
      refine y_iload_n (q := 121) dX6_mark_120 rfl rfl rfl ?_
      refine y_aload_n (q := 122) dX6_mark_121 rfl rfl rfl ?_
      refine y_get (q := 125) fk_X6_33 zok5 (gv_5_11 _ _) dX6_mark_122 rfl ?_
      refine y_iload (q := 127) dX6_mark_125 rfl rfl ?_
      refine y_iald (q := 128) (by first | decide | assumption | omega) (zvinN (n := 18) (by omega) (by decide)) dX6_mark_127 rfl ?_
      rw [nI_clamp (by omega)]
      refine y_iconst (q := 129) dX6_mark_128 ic_2 rfl ?_
      refine y_icmp_ne (q := 132) 145 dX6_mark_129 rfl rfl (fun h129 => ?_) (fun h129 => ?_)
      · refine y_iconst (q := 146) dX6_mark_145 ic_0 rfl ?_
        refine y_iadd (q := 147) dX6_mark_146 rfl ?_
        refine y_istore_n3 (q := 148) dX6_mark_147 rfl rfl rfl ?_
        refine y_iinc_4 (q := 151) dX6_mark_148 rfl ic_1 rfl rfl ?_
        refine y_goto 113 dX6_mark_151 rfl ?_
        exact ih (i + 1) _ _ (by omega) (by subst e_x3; first | (rw [m_mk2, if_pos ⟨h129, h138⟩]; done) | (rw [m_mk2, if_neg (fun z => h138 z.2)]; done) | (rw [m_mk2, if_neg (fun z => h129 z.1)]; done)) (by rw [nI_1])
      · refine y_aload_n (q := 133) dX6_mark_132 rfl rfl rfl ?_
        refine y_iload (q := 135) dX6_mark_133 rfl rfl ?_
        refine y_cV (q := 138) (c_X6_now _ n i hD hn (by omega)) lk_X6_118 zok5 (by decide) rfl rfl rfl rfl rfl dX6_mark_135 rfl ?_
        refine y_if_ne (q := 141) 145 dX6_mark_138 rfl rfl (fun h138 => ?_) (fun h138 => ?_)
        · refine y_iconst (q := 146) dX6_mark_145 ic_0 rfl ?_
          refine y_iadd (q := 147) dX6_mark_146 rfl ?_
          refine y_istore_n3 (q := 148) dX6_mark_147 rfl rfl rfl ?_
          refine y_iinc_4 (q := 151) dX6_mark_148 rfl ic_1 rfl rfl ?_
          refine y_goto 113 dX6_mark_151 rfl ?_
          exact ih (i + 1) _ _ (by omega) (by subst e_x3; first | (rw [m_mk2, if_pos ⟨h129, h138⟩]; done) | (rw [m_mk2, if_neg (fun z => h138 z.2)]; done) | (rw [m_mk2, if_neg (fun z => h129 z.1)]; done)) (by rw [nI_1])
        · refine y_iconst (q := 142) dX6_mark_141 ic_1 rfl ?_
          refine y_goto 146 dX6_mark_142 rfl ?_
          refine y_iadd (q := 147) dX6_mark_146 rfl ?_
          refine y_istore_n3 (q := 148) dX6_mark_147 rfl rfl rfl ?_
          refine y_iinc_4 (q := 151) dX6_mark_148 rfl ic_1 rfl rfl ?_
          refine y_goto 113 dX6_mark_151 rfl ?_
          exact ih (i + 1) _ _ (by omega) (by subst e_x3; first | (rw [m_mk2, if_pos ⟨h129, h138⟩]; done) | (rw [m_mk2, if_neg (fun z => h138 z.2)]; done) | (rw [m_mk2, if_neg (fun z => h129 z.1)]; done)) (by rw [nI_1])
theorem c_X6_mark_ok (σ : zSt) (n k w : Nat) (hL : fI σ 5 0 10 = 9) (hD : fI σ 5 0 14 = nI n) (hn : n ≤ 40) (hk : k < 9) (hw0 : 0 < w) (hw : w < 6) (hu : m_isA (fA σ 26 k) (nI w)) : Mf 3 mi_X6_mark [zr 5 0, zi (nI k), zi (nI w)] σ (some (zi (m_mark σ n k w))) σ := by
  rcases w with _ | _ | _ | _ | _ | _ | w
  · omega
  · refine Mt_of (ls := [some (zr 5 0), some (zi (nI k)), some (zi (nI 1)), none, none]) (by decide +kernel) rfl rfl ?_
    refine y_aload_n (q := 1) dX6_mark_0 rfl rfl rfl ?_
    refine y_iload_n (q := 2) dX6_mark_1 rfl rfl rfl ?_
    refine y_cV (q := 5) (c_X6_isLamp_1 _ _ (lamp_in hL hk)) lk_X6_128 zok5 (by decide) rfl rfl rfl rfl rfl dX6_mark_2 rfl ?_
    refine y_if_eq (q := 8) 17 dX6_mark_5 rfl rfl (fun h => absurd h (by decide)) (fun h5 => ?_)
    refine y_iload_n (q := 9) dX6_mark_8 rfl rfl rfl ?_
    refine y_iconst (q := 10) dX6_mark_9 ic_1 rfl ?_
    refine y_iconst (q := 11) dX6_mark_10 ic_5 rfl ?_
    refine y_cS (q := 14) (c_X6_in_1 _ _ _ _ (by decide)) lk_X6_64 rfl rfl rfl rfl dX6_mark_11 rfl ?_
    refine y_if_ne (q := 17) 19 dX6_mark_14 rfl rfl (fun h14 => ?_) (fun h => absurd h (by decide))
    refine y_aload_n (q := 20) dX6_mark_19 rfl rfl rfl ?_
    refine y_get (q := 23) fk_X6_33 zok5 (gv_5_11 _ _) dX6_mark_20 rfl ?_
    refine y_iload_n (q := 24) dX6_mark_23 rfl rfl rfl ?_
    refine y_iald (q := 25) (by first | decide | assumption | omega) (zvinN (n := 18) (by omega) (by decide)) dX6_mark_24 rfl ?_
    rw [nI_clamp (by omega)]
    refine y_iload_n (q := 26) dX6_mark_25 rfl rfl rfl ?_
    refine y_icmp_eq (q := 29) 65 dX6_mark_26 rfl rfl (fun h26 => ?_) (fun h26 => ?_)
    · refine y_iconst (q := 66) dX6_mark_65 ic_0 rfl ?_
      refine y_istore_n3 (q := 67) dX6_mark_66 rfl rfl rfl ?_
      refine y_iload_n (q := 68) dX6_mark_67 rfl rfl rfl ?_
      refine y_tableIn (off := 32) 100 dX6_mark_68 (by decide +kernel) (by decide +kernel) (by decide +kernel) rfl ?_
      refine y_iconst (q := 101) dX6_mark_100 ic_3 rfl ?_
      refine y_aload_n (q := 102) dX6_mark_101 rfl rfl rfl ?_
      refine y_iload_n (q := 103) dX6_mark_102 rfl rfl rfl ?_
      refine y_cV (q := 106) (c_X6_now _ n k hD hn (by omega)) lk_X6_118 zok5 (by decide) rfl rfl rfl rfl rfl dX6_mark_103 rfl ?_
      refine y_isub (q := 107) dX6_mark_106 rfl ?_
      refine y_iconst (q := 108) dX6_mark_107 ic_3 rfl ?_
      refine y_irem (q := 109) dX6_mark_108 (by decide) rfl ?_
      exact y_iret dX6_mark_109 rfl (by exact ⟨rfl, rfl⟩)
    · refine y_iload_n (q := 30) dX6_mark_29 rfl rfl rfl ?_
      refine y_iconst (q := 31) dX6_mark_30 ic_1 rfl ?_
      refine y_icmp_ne (q := 34) 44 dX6_mark_31 rfl rfl (fun h31 => ?_) (fun h31 => ?_)
      · exact absurd rfl h31
      · refine y_aload_n (q := 35) dX6_mark_34 rfl rfl rfl ?_
        refine y_get (q := 38) fk_X6_33 zok5 (gv_5_11 _ _) dX6_mark_35 rfl ?_
        refine y_iload_n (q := 39) dX6_mark_38 rfl rfl rfl ?_
        refine y_iald (q := 40) (by first | decide | assumption | omega) (zvinN (n := 18) (by omega) (by decide)) dX6_mark_39 rfl ?_
        rw [nI_clamp (by omega)]
        refine y_iconst (q := 41) dX6_mark_40 ic_4 rfl ?_
        refine y_icmp_eq (q := 44) 65 dX6_mark_41 rfl rfl (fun h41 => ?_) (fun h41 => ?_)
        · refine y_iconst (q := 66) dX6_mark_65 ic_0 rfl ?_
          refine y_istore_n3 (q := 67) dX6_mark_66 rfl rfl rfl ?_
          refine y_iload_n (q := 68) dX6_mark_67 rfl rfl rfl ?_
          refine y_tableIn (off := 32) 100 dX6_mark_68 (by decide +kernel) (by decide +kernel) (by decide +kernel) rfl ?_
          refine y_iconst (q := 101) dX6_mark_100 ic_3 rfl ?_
          refine y_aload_n (q := 102) dX6_mark_101 rfl rfl rfl ?_
          refine y_iload_n (q := 103) dX6_mark_102 rfl rfl rfl ?_
          refine y_cV (q := 106) (c_X6_now _ n k hD hn (by omega)) lk_X6_118 zok5 (by decide) rfl rfl rfl rfl rfl dX6_mark_103 rfl ?_
          refine y_isub (q := 107) dX6_mark_106 rfl ?_
          refine y_iconst (q := 108) dX6_mark_107 ic_3 rfl ?_
          refine y_irem (q := 109) dX6_mark_108 (by decide) rfl ?_
          exact y_iret dX6_mark_109 rfl (by exact ⟨rfl, rfl⟩)
        · refine y_iload_n (q := 45) dX6_mark_44 rfl rfl rfl ?_
          refine y_iconst (q := 46) dX6_mark_45 ic_3 rfl ?_
          refine y_icmp_ne (q := 49) 59 dX6_mark_46 rfl rfl (fun h46 => ?_) (fun h46 => ?_)
          · exact hu.elim (fun h => absurd h h26) (fun h => h.elim (fun h => absurd h.2 h41) (fun h => absurd h.1 (by decide)))
          · exact absurd h46 (by decide)
  · refine Mt_of (ls := [some (zr 5 0), some (zi (nI k)), some (zi (nI 2)), none, none]) (by decide +kernel) rfl rfl ?_
    refine y_aload_n (q := 1) dX6_mark_0 rfl rfl rfl ?_
    refine y_iload_n (q := 2) dX6_mark_1 rfl rfl rfl ?_
    refine y_cV (q := 5) (c_X6_isLamp_1 _ _ (lamp_in hL hk)) lk_X6_128 zok5 (by decide) rfl rfl rfl rfl rfl dX6_mark_2 rfl ?_
    refine y_if_eq (q := 8) 17 dX6_mark_5 rfl rfl (fun h => absurd h (by decide)) (fun h5 => ?_)
    refine y_iload_n (q := 9) dX6_mark_8 rfl rfl rfl ?_
    refine y_iconst (q := 10) dX6_mark_9 ic_1 rfl ?_
    refine y_iconst (q := 11) dX6_mark_10 ic_5 rfl ?_
    refine y_cS (q := 14) (c_X6_in_1 _ _ _ _ (by decide)) lk_X6_64 rfl rfl rfl rfl dX6_mark_11 rfl ?_
    refine y_if_ne (q := 17) 19 dX6_mark_14 rfl rfl (fun h14 => ?_) (fun h => absurd h (by decide))
    refine y_aload_n (q := 20) dX6_mark_19 rfl rfl rfl ?_
    refine y_get (q := 23) fk_X6_33 zok5 (gv_5_11 _ _) dX6_mark_20 rfl ?_
    refine y_iload_n (q := 24) dX6_mark_23 rfl rfl rfl ?_
    refine y_iald (q := 25) (by first | decide | assumption | omega) (zvinN (n := 18) (by omega) (by decide)) dX6_mark_24 rfl ?_
    rw [nI_clamp (by omega)]
    refine y_iload_n (q := 26) dX6_mark_25 rfl rfl rfl ?_
    refine y_icmp_eq (q := 29) 65 dX6_mark_26 rfl rfl (fun h26 => ?_) (fun h26 => ?_)
    · refine y_iconst (q := 66) dX6_mark_65 ic_0 rfl ?_
      refine y_istore_n3 (q := 67) dX6_mark_66 rfl rfl rfl ?_
      refine y_iload_n (q := 68) dX6_mark_67 rfl rfl rfl ?_
      refine y_tableIn (off := 42) 110 dX6_mark_68 (by decide +kernel) (by decide +kernel) (by decide +kernel) rfl ?_
      refine y_iconst (q := 111) dX6_mark_110 ic_0 rfl ?_
      refine y_istore_4 (q := 113) dX6_mark_111 rfl rfl rfl ?_
      refine lp_X6_mark2 σ n _ _ hL hD hn ?_ 9 0 _ _ (by omega) rfl rfl
      refine y_iload_n (q := 155) dX6_mark_154 rfl rfl rfl ?_
      exact y_iret dX6_mark_155 rfl (by exact ⟨rfl, rfl⟩)
    · refine y_iload_n (q := 30) dX6_mark_29 rfl rfl rfl ?_
      refine y_iconst (q := 31) dX6_mark_30 ic_1 rfl ?_
      refine y_icmp_ne (q := 34) 44 dX6_mark_31 rfl rfl (fun h31 => ?_) (fun h31 => ?_)
      · refine y_iload_n (q := 45) dX6_mark_44 rfl rfl rfl ?_
        refine y_iconst (q := 46) dX6_mark_45 ic_3 rfl ?_
        refine y_icmp_ne (q := 49) 59 dX6_mark_46 rfl rfl (fun h46 => ?_) (fun h46 => ?_)
        · exact hu.elim (fun h => absurd h h26) (fun h => h.elim (fun h => absurd h.1 (by decide)) (fun h => absurd h.1 (by decide)))
        · exact absurd h46 (by decide)
      · exact absurd h31 (by decide)
  · refine Mt_of (ls := [some (zr 5 0), some (zi (nI k)), some (zi (nI 3)), none, none]) (by decide +kernel) rfl rfl ?_
    refine y_aload_n (q := 1) dX6_mark_0 rfl rfl rfl ?_
    refine y_iload_n (q := 2) dX6_mark_1 rfl rfl rfl ?_
    refine y_cV (q := 5) (c_X6_isLamp_1 _ _ (lamp_in hL hk)) lk_X6_128 zok5 (by decide) rfl rfl rfl rfl rfl dX6_mark_2 rfl ?_
    refine y_if_eq (q := 8) 17 dX6_mark_5 rfl rfl (fun h => absurd h (by decide)) (fun h5 => ?_)
    refine y_iload_n (q := 9) dX6_mark_8 rfl rfl rfl ?_
    refine y_iconst (q := 10) dX6_mark_9 ic_1 rfl ?_
    refine y_iconst (q := 11) dX6_mark_10 ic_5 rfl ?_
    refine y_cS (q := 14) (c_X6_in_1 _ _ _ _ (by decide)) lk_X6_64 rfl rfl rfl rfl dX6_mark_11 rfl ?_
    refine y_if_ne (q := 17) 19 dX6_mark_14 rfl rfl (fun h14 => ?_) (fun h => absurd h (by decide))
    refine y_aload_n (q := 20) dX6_mark_19 rfl rfl rfl ?_
    refine y_get (q := 23) fk_X6_33 zok5 (gv_5_11 _ _) dX6_mark_20 rfl ?_
    refine y_iload_n (q := 24) dX6_mark_23 rfl rfl rfl ?_
    refine y_iald (q := 25) (by first | decide | assumption | omega) (zvinN (n := 18) (by omega) (by decide)) dX6_mark_24 rfl ?_
    rw [nI_clamp (by omega)]
    refine y_iload_n (q := 26) dX6_mark_25 rfl rfl rfl ?_
    refine y_icmp_eq (q := 29) 65 dX6_mark_26 rfl rfl (fun h26 => ?_) (fun h26 => ?_)
    · refine y_iconst (q := 66) dX6_mark_65 ic_0 rfl ?_
      refine y_istore_n3 (q := 67) dX6_mark_66 rfl rfl rfl ?_
      refine y_iload_n (q := 68) dX6_mark_67 rfl rfl rfl ?_
      refine y_tableIn (off := 88) 156 dX6_mark_68 (by decide +kernel) (by decide +kernel) (by decide +kernel) rfl ?_
      refine y_iload_n (q := 157) dX6_mark_156 rfl rfl rfl ?_
      refine y_cS (q := 160) (c_X6_touchedBy _ _) lk_X6_125 rfl rfl rfl rfl dX6_mark_157 rfl ?_
      refine y_cS (q := 163) (c_X6_bitsOf _ _) lk_X6_135 rfl rfl rfl rfl dX6_mark_160 rfl ?_
      refine y_iconst (q := 164) dX6_mark_163 ic_1 rfl ?_
      refine y_isub (q := 165) dX6_mark_164 rfl ?_
      exact y_iret dX6_mark_165 rfl (by exact ⟨rfl, rfl⟩)
    · refine y_iload_n (q := 30) dX6_mark_29 rfl rfl rfl ?_
      refine y_iconst (q := 31) dX6_mark_30 ic_1 rfl ?_
      refine y_icmp_ne (q := 34) 44 dX6_mark_31 rfl rfl (fun h31 => ?_) (fun h31 => ?_)
      · refine y_iload_n (q := 45) dX6_mark_44 rfl rfl rfl ?_
        refine y_iconst (q := 46) dX6_mark_45 ic_3 rfl ?_
        refine y_icmp_ne (q := 49) 59 dX6_mark_46 rfl rfl (fun h46 => ?_) (fun h46 => ?_)
        · exact absurd rfl h46
        · refine y_aload_n (q := 50) dX6_mark_49 rfl rfl rfl ?_
          refine y_get (q := 53) fk_X6_33 zok5 (gv_5_11 _ _) dX6_mark_50 rfl ?_
          refine y_iload_n (q := 54) dX6_mark_53 rfl rfl rfl ?_
          refine y_iald (q := 55) (by first | decide | assumption | omega) (zvinN (n := 18) (by omega) (by decide)) dX6_mark_54 rfl ?_
          rw [nI_clamp (by omega)]
          refine y_iconst (q := 56) dX6_mark_55 ic_5 rfl ?_
          refine y_icmp_eq (q := 59) 65 dX6_mark_56 rfl rfl (fun h56 => ?_) (fun h56 => ?_)
          · refine y_iconst (q := 66) dX6_mark_65 ic_0 rfl ?_
            refine y_istore_n3 (q := 67) dX6_mark_66 rfl rfl rfl ?_
            refine y_iload_n (q := 68) dX6_mark_67 rfl rfl rfl ?_
            refine y_tableIn (off := 88) 156 dX6_mark_68 (by decide +kernel) (by decide +kernel) (by decide +kernel) rfl ?_
            refine y_iload_n (q := 157) dX6_mark_156 rfl rfl rfl ?_
            refine y_cS (q := 160) (c_X6_touchedBy _ _) lk_X6_125 rfl rfl rfl rfl dX6_mark_157 rfl ?_
            refine y_cS (q := 163) (c_X6_bitsOf _ _) lk_X6_135 rfl rfl rfl rfl dX6_mark_160 rfl ?_
            refine y_iconst (q := 164) dX6_mark_163 ic_1 rfl ?_
            refine y_isub (q := 165) dX6_mark_164 rfl ?_
            exact y_iret dX6_mark_165 rfl (by exact ⟨rfl, rfl⟩)
          · exact hu.elim (fun h => absurd h h26) (fun h => h.elim (fun h => absurd h.1 (by decide)) (fun h => absurd h.2 h56))
      · exact absurd h31 (by decide)
  · refine Mt_of (ls := [some (zr 5 0), some (zi (nI k)), some (zi (nI 4)), none, none]) (by decide +kernel) rfl rfl ?_
    refine y_aload_n (q := 1) dX6_mark_0 rfl rfl rfl ?_
    refine y_iload_n (q := 2) dX6_mark_1 rfl rfl rfl ?_
    refine y_cV (q := 5) (c_X6_isLamp_1 _ _ (lamp_in hL hk)) lk_X6_128 zok5 (by decide) rfl rfl rfl rfl rfl dX6_mark_2 rfl ?_
    refine y_if_eq (q := 8) 17 dX6_mark_5 rfl rfl (fun h => absurd h (by decide)) (fun h5 => ?_)
    refine y_iload_n (q := 9) dX6_mark_8 rfl rfl rfl ?_
    refine y_iconst (q := 10) dX6_mark_9 ic_1 rfl ?_
    refine y_iconst (q := 11) dX6_mark_10 ic_5 rfl ?_
    refine y_cS (q := 14) (c_X6_in_1 _ _ _ _ (by decide)) lk_X6_64 rfl rfl rfl rfl dX6_mark_11 rfl ?_
    refine y_if_ne (q := 17) 19 dX6_mark_14 rfl rfl (fun h14 => ?_) (fun h => absurd h (by decide))
    refine y_aload_n (q := 20) dX6_mark_19 rfl rfl rfl ?_
    refine y_get (q := 23) fk_X6_33 zok5 (gv_5_11 _ _) dX6_mark_20 rfl ?_
    refine y_iload_n (q := 24) dX6_mark_23 rfl rfl rfl ?_
    refine y_iald (q := 25) (by first | decide | assumption | omega) (zvinN (n := 18) (by omega) (by decide)) dX6_mark_24 rfl ?_
    rw [nI_clamp (by omega)]
    refine y_iload_n (q := 26) dX6_mark_25 rfl rfl rfl ?_
    refine y_icmp_eq (q := 29) 65 dX6_mark_26 rfl rfl (fun h26 => ?_) (fun h26 => ?_)
    · refine y_iconst (q := 66) dX6_mark_65 ic_0 rfl ?_
      refine y_istore_n3 (q := 67) dX6_mark_66 rfl rfl rfl ?_
      refine y_iload_n (q := 68) dX6_mark_67 rfl rfl rfl ?_
      refine y_tableIn (off := 98) 166 dX6_mark_68 (by decide +kernel) (by decide +kernel) (by decide +kernel) rfl ?_
      refine y_aload_n (q := 167) dX6_mark_166 rfl rfl rfl ?_
      refine y_bipush (q := 169) dX6_mark_167 bp_9 rfl ?_
      refine y_cV (q := 172) (c_X6_now _ n 9 hD hn (by omega)) lk_X6_118 zok5 (by decide) rfl rfl rfl rfl rfl dX6_mark_169 rfl ?_
      refine y_iconst (q := 173) dX6_mark_172 ic_2 rfl ?_
      refine y_irem (q := 174) dX6_mark_173 (by decide) rfl ?_
      exact y_iret dX6_mark_174 rfl (by exact ⟨rfl, rfl⟩)
    · refine y_iload_n (q := 30) dX6_mark_29 rfl rfl rfl ?_
      refine y_iconst (q := 31) dX6_mark_30 ic_1 rfl ?_
      refine y_icmp_ne (q := 34) 44 dX6_mark_31 rfl rfl (fun h31 => ?_) (fun h31 => ?_)
      · refine y_iload_n (q := 45) dX6_mark_44 rfl rfl rfl ?_
        refine y_iconst (q := 46) dX6_mark_45 ic_3 rfl ?_
        refine y_icmp_ne (q := 49) 59 dX6_mark_46 rfl rfl (fun h46 => ?_) (fun h46 => ?_)
        · exact hu.elim (fun h => absurd h h26) (fun h => h.elim (fun h => absurd h.1 (by decide)) (fun h => absurd h.1 (by decide)))
        · exact absurd h46 (by decide)
      · exact absurd h31 (by decide)
  · refine Mt_of (ls := [some (zr 5 0), some (zi (nI k)), some (zi (nI 5)), none, none]) (by decide +kernel) rfl rfl ?_
    refine y_aload_n (q := 1) dX6_mark_0 rfl rfl rfl ?_
    refine y_iload_n (q := 2) dX6_mark_1 rfl rfl rfl ?_
    refine y_cV (q := 5) (c_X6_isLamp_1 _ _ (lamp_in hL hk)) lk_X6_128 zok5 (by decide) rfl rfl rfl rfl rfl dX6_mark_2 rfl ?_
    refine y_if_eq (q := 8) 17 dX6_mark_5 rfl rfl (fun h => absurd h (by decide)) (fun h5 => ?_)
    refine y_iload_n (q := 9) dX6_mark_8 rfl rfl rfl ?_
    refine y_iconst (q := 10) dX6_mark_9 ic_1 rfl ?_
    refine y_iconst (q := 11) dX6_mark_10 ic_5 rfl ?_
    refine y_cS (q := 14) (c_X6_in_1 _ _ _ _ (by decide)) lk_X6_64 rfl rfl rfl rfl dX6_mark_11 rfl ?_
    refine y_if_ne (q := 17) 19 dX6_mark_14 rfl rfl (fun h14 => ?_) (fun h => absurd h (by decide))
    refine y_aload_n (q := 20) dX6_mark_19 rfl rfl rfl ?_
    refine y_get (q := 23) fk_X6_33 zok5 (gv_5_11 _ _) dX6_mark_20 rfl ?_
    refine y_iload_n (q := 24) dX6_mark_23 rfl rfl rfl ?_
    refine y_iald (q := 25) (by first | decide | assumption | omega) (zvinN (n := 18) (by omega) (by decide)) dX6_mark_24 rfl ?_
    rw [nI_clamp (by omega)]
    refine y_iload_n (q := 26) dX6_mark_25 rfl rfl rfl ?_
    refine y_icmp_eq (q := 29) 65 dX6_mark_26 rfl rfl (fun h26 => ?_) (fun h26 => ?_)
    · refine y_iconst (q := 66) dX6_mark_65 ic_0 rfl ?_
      refine y_istore_n3 (q := 67) dX6_mark_66 rfl rfl rfl ?_
      refine y_iload_n (q := 68) dX6_mark_67 rfl rfl rfl ?_
      refine y_tableOut 175 dX6_mark_68 (by decide +kernel) rfl ?_
      refine y_aload_n (q := 176) dX6_mark_175 rfl rfl rfl ?_
      refine y_cV (q := 179) (c_X6_shown _ n hD hn hL) lk_X6_121 zok5 (by decide) rfl rfl rfl rfl rfl dX6_mark_176 rfl ?_
      refine y_iconst (q := 180) dX6_mark_179 ic_1 rfl ?_
      refine y_iload_n (q := 181) dX6_mark_180 rfl rfl rfl ?_
      refine y_ishl (q := 182) dX6_mark_181 rfl ?_
      refine y_iconst (q := 183) dX6_mark_182 ic_m1 rfl ?_
      refine y_ixor (q := 184) dX6_mark_183 rfl ?_
      refine y_iand (q := 185) dX6_mark_184 rfl ?_
      refine y_cS (q := 188) (c_X6_bitsOf _ _) lk_X6_135 rfl rfl rfl rfl dX6_mark_185 rfl ?_
      exact y_iret dX6_mark_188 rfl (by exact ⟨rfl, rfl⟩)
    · refine y_iload_n (q := 30) dX6_mark_29 rfl rfl rfl ?_
      refine y_iconst (q := 31) dX6_mark_30 ic_1 rfl ?_
      refine y_icmp_ne (q := 34) 44 dX6_mark_31 rfl rfl (fun h31 => ?_) (fun h31 => ?_)
      · refine y_iload_n (q := 45) dX6_mark_44 rfl rfl rfl ?_
        refine y_iconst (q := 46) dX6_mark_45 ic_3 rfl ?_
        refine y_icmp_ne (q := 49) 59 dX6_mark_46 rfl rfl (fun h46 => ?_) (fun h46 => ?_)
        · exact hu.elim (fun h => absurd h h26) (fun h => h.elim (fun h => absurd h.1 (by decide)) (fun h => absurd h.1 (by decide)))
        · exact absurd h46 (by decide)
      · exact absurd h31 (by decide)
  · omega
def m_press1 (σ : zSt) (n b : Nat) : zSt := sA (m_begin σ n) 28 (m_press (fA σ 26) b 0 (m_mv (fA σ 28) n 11) (11 * (n + 1)))
def m_set1 (σ : zSt) (n k : Nat) (t : Int32) : zSt := sA (m_begin σ n) 28 (upd (m_mv (fA σ 28) n 11) (11 * (n + 1) + k) t)
def m_crack1 (σ : zSt) (n k : Nat) : zSt := sA (m_begin σ n) 28 (upd (m_mv (fA σ 28) n 11) (11 * (n + 1) + 10) (m_flip (m_mv (fA σ 28) n 11 (11 * (n + 1) + 10)) (nI k)))
theorem m_begin_D (σ : zSt) (n : Nat) : fI (m_begin σ n) 5 0 14 = nI (n + 1) := fI_same _ _ _ _ _
theorem m_begin_A (σ : zSt) (n : Nat) : fA (m_begin σ n) 28 = m_mv (fA σ 28) n 11 := by rw [m_begin, fA_sI, fA_same]
theorem m_begin_K (σ : zSt) (n : Nat) : fA (m_begin σ n) 26 = fA σ 26 := by rw [m_begin, fA_sI, fA_ne _ _ (by decide)]
theorem m_begin_L (σ : zSt) (n : Nat) : fI (m_begin σ n) 5 0 10 = fI σ 5 0 10 := rfl
theorem c_X6_press_none (σ : zSt) (i : Int32) (hL : fI σ 5 0 10 = 0) : Mf 3 mi_X6_press [zr 5 0, zi i] σ (some (zi (-4))) σ := by
  refine Mt_of (ls := [some (zr 5 0), some (zi i)]) (by decide +kernel) rfl rfl ?_
  refine y_aload_n (q := 1) dX6_press_0 rfl rfl rfl ?_
  refine y_get (q := 4) fk_X6_94 zok5 (gv_5_10 _ _) dX6_press_1 rfl ?_
  rw [hL]
  refine y_if_ne (q := 7) 10 dX6_press_4 rfl rfl (fun h4 => ?_) (fun h4 => ?_)
  · exact absurd rfl h4
  · refine y_bipush (q := 9) dX6_press_7 bp_m4 rfl ?_
    exact y_iret dX6_press_9 rfl (by exact ⟨rfl, rfl⟩)
theorem c_X6_press_bad (σ : zSt) (i : Int32) (hL : fI σ 5 0 10 = 9) (hi : i < 0 ∨ 9 ≤ i) : Mf 3 mi_X6_press [zr 5 0, zi i] σ (some (zi (-1))) σ := by
  refine Mt_of (ls := [some (zr 5 0), some (zi i)]) (by decide +kernel) rfl rfl ?_
  refine y_aload_n (q := 1) dX6_press_0 rfl rfl rfl ?_
  refine y_get (q := 4) fk_X6_94 zok5 (gv_5_10 _ _) dX6_press_1 rfl ?_
  rw [hL]
  refine y_if_ne (q := 7) 10 dX6_press_4 rfl rfl (fun h4 => ?_) (fun h4 => ?_)
  · refine y_iload_n (q := 11) dX6_press_10 rfl rfl rfl ?_
    refine y_cS (q := 14) (c_X6_isButton_0 _ _ (m_outN (n := 8) hi (by decide))) lk_X6_138 rfl rfl rfl rfl dX6_press_11 rfl ?_
    refine y_if_ne (q := 17) 19 dX6_press_14 rfl rfl (fun h => absurd h (by decide)) (fun h14 => ?_)
    refine y_iconst (q := 18) dX6_press_17 ic_m1 rfl ?_
    exact y_iret dX6_press_18 rfl (by exact ⟨rfl, rfl⟩)
  · exact absurd h4 (by decide)
theorem c_X6_press_full (σ : zSt) (b : Nat) (hb : b < 9) (hL : fI σ 5 0 10 = 9) (hD : fI σ 5 0 14 = nI 40) : Mf 3 mi_X6_press [zr 5 0, zi (nI b)] σ (some (zi (-2))) σ := by
  refine Mt_of (ls := [some (zr 5 0), some (zi (nI b))]) (by decide +kernel) rfl rfl ?_
  refine y_aload_n (q := 1) dX6_press_0 rfl rfl rfl ?_
  refine y_get (q := 4) fk_X6_94 zok5 (gv_5_10 _ _) dX6_press_1 rfl ?_
  rw [hL]
  refine y_if_ne (q := 7) 10 dX6_press_4 rfl rfl (fun h4 => ?_) (fun h4 => ?_)
  · refine y_iload_n (q := 11) dX6_press_10 rfl rfl rfl ?_
    refine y_cS (q := 14) (c_X6_isButton_1 _ _ (m_inN (n := 8) (by omega) (by decide))) lk_X6_138 rfl rfl rfl rfl dX6_press_11 rfl ?_
    refine y_if_ne (q := 17) 19 dX6_press_14 rfl rfl (fun h14 => ?_) (fun h => absurd h (by decide))
    refine y_aload_n (q := 20) dX6_press_19 rfl rfl rfl ?_
    refine y_get (q := 23) fk_X6_97 zok5 (gv_5_14 _ _) dX6_press_20 rfl ?_
    rw [hD]
    refine y_bipush (q := 25) dX6_press_23 bp_40 rfl ?_
    refine y_icmp_ne (q := 28) 31 dX6_press_25 rfl rfl (fun h25 => ?_) (fun h25 => ?_)
    · exact absurd rfl h25
    · refine y_bipush (q := 30) dX6_press_28 bp_m2 rfl ?_
      exact y_iret dX6_press_30 rfl (by exact ⟨rfl, rfl⟩)
  · exact absurd h4 (by decide)
theorem c_X6_press_ok (σ : zSt) (n b : Nat) (hb : b < 9) (hL : fI σ 5 0 10 = 9) (hD : fI σ 5 0 14 = nI n) (hn : n < 40) : Mf 3 mi_X6_press [zr 5 0, zi (nI b)] σ (some (zi (m_sh (fA σ 26) (fA (m_press1 σ n b) 28) (11 * (n + 1)) 9))) (m_press1 σ n b) := by
  refine Mt_of (ls := [some (zr 5 0), some (zi (nI b))]) (by decide +kernel) rfl rfl ?_
  refine y_aload_n (q := 1) dX6_press_0 rfl rfl rfl ?_
  refine y_get (q := 4) fk_X6_94 zok5 (gv_5_10 _ _) dX6_press_1 rfl ?_
  rw [hL]
  refine y_if_ne (q := 7) 10 dX6_press_4 rfl rfl (fun h4 => ?_) (fun h4 => ?_)
  · refine y_iload_n (q := 11) dX6_press_10 rfl rfl rfl ?_
    refine y_cS (q := 14) (c_X6_isButton_1 _ _ (m_inN (n := 8) (by omega) (by decide))) lk_X6_138 rfl rfl rfl rfl dX6_press_11 rfl ?_
    refine y_if_ne (q := 17) 19 dX6_press_14 rfl rfl (fun h14 => ?_) (fun h => absurd h (by decide))
    refine y_aload_n (q := 20) dX6_press_19 rfl rfl rfl ?_
    refine y_get (q := 23) fk_X6_97 zok5 (gv_5_14 _ _) dX6_press_20 rfl ?_
    refine y_bipush (q := 25) dX6_press_23 bp_40 rfl ?_
    refine y_icmp_ne (q := 28) 31 dX6_press_25 rfl rfl (fun h25 => ?_) (fun h25 => ?_)
    · refine y_aload_n (q := 32) dX6_press_31 rfl rfl rfl ?_
      refine y_cV0 (q := 35) (c_X6_begin _ n hD hn) lk_X6_141 zok5 (by decide) rfl rfl rfl rfl rfl dX6_press_32 rfl ?_
      refine y_aload_n (q := 36) dX6_press_35 rfl rfl rfl ?_
      refine y_aload_n (q := 37) dX6_press_36 rfl rfl rfl ?_
      refine y_get (q := 40) fk_X6_39 zok5 (gv_5_13 _ _) dX6_press_37 rfl ?_
      refine y_bipush (q := 42) dX6_press_40 bp_11 rfl ?_
      refine y_aload_n (q := 43) dX6_press_42 rfl rfl rfl ?_
      refine y_get (q := 46) fk_X6_97 zok5 (gv_5_14 _ _) dX6_press_43 rfl ?_
      rw [m_begin_D]
      refine y_imul (q := 47) dX6_press_46 rfl ?_
      rw [ix11a]
      refine y_iload_n (q := 48) dX6_press_47 rfl rfl rfl ?_
      refine y_iconst (q := 49) dX6_press_48 ic_0 rfl ?_
      refine y_cV0 (q := 52) (c_X6_pressOn _ 28 (11 * (n + 1)) b 0 (by decide) (show 11 * (n + 1) + 11 ≤ 451 by omega) hb (by decide)) lk_X6_144 zok5 (by decide) rfl rfl rfl rfl rfl dX6_press_49 rfl ?_
      refine y_aload_n (q := 53) dX6_press_52 rfl rfl rfl ?_
      refine y_cV (q := 56) (c_X6_shown _ (n + 1) (m_begin_D σ n) (by omega) hL) lk_X6_121 zok5 (by decide) rfl rfl rfl rfl rfl dX6_press_53 rfl ?_
      exact y_iret dX6_press_56 rfl (by exact ⟨by rw [fA_ne _ _ (by decide), m_begin_K, m_begin_A]; rfl, by rw [m_begin_K, m_begin_A]; rfl⟩)
    · exact absurd h25 (by rw [hD]; intro h; exact absurd ((nI_eq (b := 40) (by omega) (by omega)).mp h) (by omega))
  · exact absurd h4 (by decide)
theorem c_X6_set_bad1 (σ : zSt) (i t : Int32) (hi : ¬ m_in i 0 (fI σ 5 0 10 - 1)) : Mf 3 mi_X6_set [zr 5 0, zi i, zi t] σ (some (zi (-1))) σ := by
  refine Mt_of (ls := [some (zr 5 0), some (zi i), some (zi t), none]) (by decide +kernel) rfl rfl ?_
  refine y_aload_n (q := 1) dX6_set_0 rfl rfl rfl ?_
  refine y_iload_n (q := 2) dX6_set_1 rfl rfl rfl ?_
  refine y_cV (q := 5) (c_X6_isLamp_0 _ _ hi) lk_X6_128 zok5 (by decide) rfl rfl rfl rfl rfl dX6_set_2 rfl ?_
  refine y_if_eq (q := 8) 27 dX6_set_5 rfl rfl (fun h5 => ?_) (fun h => absurd (by decide) h)
  refine y_iconst (q := 28) dX6_set_27 ic_m1 rfl ?_
  exact y_iret dX6_set_28 rfl (by exact ⟨rfl, rfl⟩)
theorem c_X6_set_bad2 (σ : zSt) (k : Nat) (t : Int32) (hL : fI σ 5 0 10 = 9) (hk : k < 9) (ht : ¬ m_in t 0 (m_steps (fA σ 26 k) - 1)) : Mf 3 mi_X6_set [zr 5 0, zi (nI k), zi t] σ (some (zi (-1))) σ := by
  refine Mt_of (ls := [some (zr 5 0), some (zi (nI k)), some (zi t), none]) (by decide +kernel) rfl rfl ?_
  refine y_aload_n (q := 1) dX6_set_0 rfl rfl rfl ?_
  refine y_iload_n (q := 2) dX6_set_1 rfl rfl rfl ?_
  refine y_cV (q := 5) (c_X6_isLamp_1 _ _ (lamp_in hL hk)) lk_X6_128 zok5 (by decide) rfl rfl rfl rfl rfl dX6_set_2 rfl ?_
  refine y_if_eq (q := 8) 27 dX6_set_5 rfl rfl (fun h => absurd h (by decide)) (fun h5 => ?_)
  refine y_iload_n (q := 9) dX6_set_8 rfl rfl rfl ?_
  refine y_iconst (q := 10) dX6_set_9 ic_0 rfl ?_
  refine y_aload_n (q := 11) dX6_set_10 rfl rfl rfl ?_
  refine y_get (q := 14) fk_X6_33 zok5 (gv_5_11 _ _) dX6_set_11 rfl ?_
  refine y_iload_n (q := 15) dX6_set_14 rfl rfl rfl ?_
  refine y_iald (q := 16) (by first | decide | assumption | omega) (zvinN (n := 18) (by omega) (by decide)) dX6_set_15 rfl ?_
  rw [nI_clamp (by omega)]
  refine y_cS (q := 19) (c_X6_stepsOf _ _) lk_X6_88 rfl rfl rfl rfl dX6_set_16 rfl ?_
  refine y_iconst (q := 20) dX6_set_19 ic_1 rfl ?_
  refine y_isub (q := 21) dX6_set_20 rfl ?_
  refine y_cS (q := 24) (c_X6_in_0 _ _ _ _ ht) lk_X6_64 rfl rfl rfl rfl dX6_set_21 rfl ?_
  refine y_if_ne (q := 27) 29 dX6_set_24 rfl rfl (fun h => absurd h (by decide)) (fun h24 => ?_)
  refine y_iconst (q := 28) dX6_set_27 ic_m1 rfl ?_
  exact y_iret dX6_set_28 rfl (by exact ⟨rfl, rfl⟩)
theorem c_X6_set_is (σ : zSt) (n k : Nat) (t : Int32) (hL : fI σ 5 0 10 = 9) (hD : fI σ 5 0 14 = nI n) (hn : n ≤ 40) (hk : k < 9) (ht : m_in t 0 (m_steps (fA σ 26 k) - 1)) (he : fA σ 28 (11 * n + k) = t) : Mf 3 mi_X6_set [zr 5 0, zi (nI k), zi t] σ (some (zi (-4))) σ := by
  refine Mt_of (ls := [some (zr 5 0), some (zi (nI k)), some (zi t), none]) (by decide +kernel) rfl rfl ?_
  refine y_aload_n (q := 1) dX6_set_0 rfl rfl rfl ?_
  refine y_iload_n (q := 2) dX6_set_1 rfl rfl rfl ?_
  refine y_cV (q := 5) (c_X6_isLamp_1 _ _ (lamp_in hL hk)) lk_X6_128 zok5 (by decide) rfl rfl rfl rfl rfl dX6_set_2 rfl ?_
  refine y_if_eq (q := 8) 27 dX6_set_5 rfl rfl (fun h => absurd h (by decide)) (fun h5 => ?_)
  refine y_iload_n (q := 9) dX6_set_8 rfl rfl rfl ?_
  refine y_iconst (q := 10) dX6_set_9 ic_0 rfl ?_
  refine y_aload_n (q := 11) dX6_set_10 rfl rfl rfl ?_
  refine y_get (q := 14) fk_X6_33 zok5 (gv_5_11 _ _) dX6_set_11 rfl ?_
  refine y_iload_n (q := 15) dX6_set_14 rfl rfl rfl ?_
  refine y_iald (q := 16) (by first | decide | assumption | omega) (zvinN (n := 18) (by omega) (by decide)) dX6_set_15 rfl ?_
  rw [nI_clamp (by omega)]
  refine y_cS (q := 19) (c_X6_stepsOf _ _) lk_X6_88 rfl rfl rfl rfl dX6_set_16 rfl ?_
  refine y_iconst (q := 20) dX6_set_19 ic_1 rfl ?_
  refine y_isub (q := 21) dX6_set_20 rfl ?_
  refine y_cS (q := 24) (c_X6_in_1 _ _ _ _ ht) lk_X6_64 rfl rfl rfl rfl dX6_set_21 rfl ?_
  refine y_if_ne (q := 27) 29 dX6_set_24 rfl rfl (fun h24 => ?_) (fun h => absurd h (by decide))
  refine y_aload_n (q := 30) dX6_set_29 rfl rfl rfl ?_
  refine y_iload_n (q := 31) dX6_set_30 rfl rfl rfl ?_
  refine y_cV (q := 34) (c_X6_now _ n k hD hn (by omega)) lk_X6_118 zok5 (by decide) rfl rfl rfl rfl rfl dX6_set_31 rfl ?_
  refine y_istore_n3 (q := 35) dX6_set_34 rfl rfl rfl ?_
  refine y_iload_n (q := 36) dX6_set_35 rfl rfl rfl ?_
  refine y_iload_n (q := 37) dX6_set_36 rfl rfl rfl ?_
  refine y_icmp_ne (q := 40) 43 dX6_set_37 rfl rfl (fun h37 => ?_) (fun h37 => ?_)
  · exact absurd he h37
  · refine y_bipush (q := 42) dX6_set_40 bp_m4 rfl ?_
    exact y_iret dX6_set_42 rfl (by exact ⟨rfl, rfl⟩)
theorem c_X6_set_full (σ : zSt) (k : Nat) (t : Int32) (hL : fI σ 5 0 10 = 9) (hD : fI σ 5 0 14 = nI 40) (hk : k < 9) (ht : m_in t 0 (m_steps (fA σ 26 k) - 1)) (he : ¬ fA σ 28 (11 * 40 + k) = t) : Mf 3 mi_X6_set [zr 5 0, zi (nI k), zi t] σ (some (zi (-2))) σ := by
  refine Mt_of (ls := [some (zr 5 0), some (zi (nI k)), some (zi t), none]) (by decide +kernel) rfl rfl ?_
  refine y_aload_n (q := 1) dX6_set_0 rfl rfl rfl ?_
  refine y_iload_n (q := 2) dX6_set_1 rfl rfl rfl ?_
  refine y_cV (q := 5) (c_X6_isLamp_1 _ _ (lamp_in hL hk)) lk_X6_128 zok5 (by decide) rfl rfl rfl rfl rfl dX6_set_2 rfl ?_
  refine y_if_eq (q := 8) 27 dX6_set_5 rfl rfl (fun h => absurd h (by decide)) (fun h5 => ?_)
  refine y_iload_n (q := 9) dX6_set_8 rfl rfl rfl ?_
  refine y_iconst (q := 10) dX6_set_9 ic_0 rfl ?_
  refine y_aload_n (q := 11) dX6_set_10 rfl rfl rfl ?_
  refine y_get (q := 14) fk_X6_33 zok5 (gv_5_11 _ _) dX6_set_11 rfl ?_
  refine y_iload_n (q := 15) dX6_set_14 rfl rfl rfl ?_
  refine y_iald (q := 16) (by first | decide | assumption | omega) (zvinN (n := 18) (by omega) (by decide)) dX6_set_15 rfl ?_
  rw [nI_clamp (by omega)]
  refine y_cS (q := 19) (c_X6_stepsOf _ _) lk_X6_88 rfl rfl rfl rfl dX6_set_16 rfl ?_
  refine y_iconst (q := 20) dX6_set_19 ic_1 rfl ?_
  refine y_isub (q := 21) dX6_set_20 rfl ?_
  refine y_cS (q := 24) (c_X6_in_1 _ _ _ _ ht) lk_X6_64 rfl rfl rfl rfl dX6_set_21 rfl ?_
  refine y_if_ne (q := 27) 29 dX6_set_24 rfl rfl (fun h24 => ?_) (fun h => absurd h (by decide))
  refine y_aload_n (q := 30) dX6_set_29 rfl rfl rfl ?_
  refine y_iload_n (q := 31) dX6_set_30 rfl rfl rfl ?_
  refine y_cV (q := 34) (c_X6_now _ 40 k hD (by decide) (by omega)) lk_X6_118 zok5 (by decide) rfl rfl rfl rfl rfl dX6_set_31 rfl ?_
  refine y_istore_n3 (q := 35) dX6_set_34 rfl rfl rfl ?_
  refine y_iload_n (q := 36) dX6_set_35 rfl rfl rfl ?_
  refine y_iload_n (q := 37) dX6_set_36 rfl rfl rfl ?_
  refine y_icmp_ne (q := 40) 43 dX6_set_37 rfl rfl (fun h37 => ?_) (fun h37 => ?_)
  · refine y_aload_n (q := 44) dX6_set_43 rfl rfl rfl ?_
    refine y_get (q := 47) fk_X6_97 zok5 (gv_5_14 _ _) dX6_set_44 rfl ?_
    rw [hD]
    refine y_bipush (q := 49) dX6_set_47 bp_40 rfl ?_
    refine y_icmp_ne (q := 52) 55 dX6_set_49 rfl rfl (fun h49 => ?_) (fun h49 => ?_)
    · exact absurd rfl h49
    · refine y_bipush (q := 54) dX6_set_52 bp_m2 rfl ?_
      exact y_iret dX6_set_54 rfl (by exact ⟨rfl, rfl⟩)
  · exact absurd h37 he
theorem c_X6_set_ok (σ : zSt) (n k : Nat) (t : Int32) (hL : fI σ 5 0 10 = 9) (hD : fI σ 5 0 14 = nI n) (hn : n < 40) (hk : k < 9) (ht : m_in t 0 (m_steps (fA σ 26 k) - 1)) (he : ¬ fA σ 28 (11 * n + k) = t) : Mf 3 mi_X6_set [zr 5 0, zi (nI k), zi t] σ (some (zi (fA σ 28 (11 * n + k)))) (m_set1 σ n k t) := by
  refine Mt_of (ls := [some (zr 5 0), some (zi (nI k)), some (zi t), none]) (by decide +kernel) rfl rfl ?_
  refine y_aload_n (q := 1) dX6_set_0 rfl rfl rfl ?_
  refine y_iload_n (q := 2) dX6_set_1 rfl rfl rfl ?_
  refine y_cV (q := 5) (c_X6_isLamp_1 _ _ (lamp_in hL hk)) lk_X6_128 zok5 (by decide) rfl rfl rfl rfl rfl dX6_set_2 rfl ?_
  refine y_if_eq (q := 8) 27 dX6_set_5 rfl rfl (fun h => absurd h (by decide)) (fun h5 => ?_)
  refine y_iload_n (q := 9) dX6_set_8 rfl rfl rfl ?_
  refine y_iconst (q := 10) dX6_set_9 ic_0 rfl ?_
  refine y_aload_n (q := 11) dX6_set_10 rfl rfl rfl ?_
  refine y_get (q := 14) fk_X6_33 zok5 (gv_5_11 _ _) dX6_set_11 rfl ?_
  refine y_iload_n (q := 15) dX6_set_14 rfl rfl rfl ?_
  refine y_iald (q := 16) (by first | decide | assumption | omega) (zvinN (n := 18) (by omega) (by decide)) dX6_set_15 rfl ?_
  rw [nI_clamp (by omega)]
  refine y_cS (q := 19) (c_X6_stepsOf _ _) lk_X6_88 rfl rfl rfl rfl dX6_set_16 rfl ?_
  refine y_iconst (q := 20) dX6_set_19 ic_1 rfl ?_
  refine y_isub (q := 21) dX6_set_20 rfl ?_
  refine y_cS (q := 24) (c_X6_in_1 _ _ _ _ ht) lk_X6_64 rfl rfl rfl rfl dX6_set_21 rfl ?_
  refine y_if_ne (q := 27) 29 dX6_set_24 rfl rfl (fun h24 => ?_) (fun h => absurd h (by decide))
  refine y_aload_n (q := 30) dX6_set_29 rfl rfl rfl ?_
  refine y_iload_n (q := 31) dX6_set_30 rfl rfl rfl ?_
  refine y_cV (q := 34) (c_X6_now _ n k hD (by omega) (by omega)) lk_X6_118 zok5 (by decide) rfl rfl rfl rfl rfl dX6_set_31 rfl ?_
  refine y_istore_n3 (q := 35) dX6_set_34 rfl rfl rfl ?_
  refine y_iload_n (q := 36) dX6_set_35 rfl rfl rfl ?_
  refine y_iload_n (q := 37) dX6_set_36 rfl rfl rfl ?_
  refine y_icmp_ne (q := 40) 43 dX6_set_37 rfl rfl (fun h37 => ?_) (fun h37 => ?_)
  · refine y_aload_n (q := 44) dX6_set_43 rfl rfl rfl ?_
    refine y_get (q := 47) fk_X6_97 zok5 (gv_5_14 _ _) dX6_set_44 rfl ?_
    refine y_bipush (q := 49) dX6_set_47 bp_40 rfl ?_
    refine y_icmp_ne (q := 52) 55 dX6_set_49 rfl rfl (fun h49 => ?_) (fun h49 => ?_)
    · refine y_aload_n (q := 56) dX6_set_55 rfl rfl rfl ?_
      refine y_cV0 (q := 59) (c_X6_begin _ n hD hn) lk_X6_141 zok5 (by decide) rfl rfl rfl rfl rfl dX6_set_56 rfl ?_
      refine y_aload_n (q := 60) dX6_set_59 rfl rfl rfl ?_
      refine y_get (q := 63) fk_X6_39 zok5 (gv_5_13 _ _) dX6_set_60 rfl ?_
      refine y_bipush (q := 65) dX6_set_63 bp_11 rfl ?_
      refine y_aload_n (q := 66) dX6_set_65 rfl rfl rfl ?_
      refine y_get (q := 69) fk_X6_97 zok5 (gv_5_14 _ _) dX6_set_66 rfl ?_
      rw [m_begin_D]
      refine y_imul (q := 70) dX6_set_69 rfl ?_
      refine y_iload_n (q := 71) dX6_set_70 rfl rfl rfl ?_
      refine y_iadd (q := 72) dX6_set_71 rfl ?_
      rw [ix11]
      refine y_iload_n (q := 73) dX6_set_72 rfl rfl rfl ?_
      refine y_iast (q := 74) (by first | decide | assumption | omega) (zvinN (n := 451) (by omega) (by decide)) dX6_set_73 rfl ?_
      refine y_iload_n (q := 75) dX6_set_74 rfl rfl rfl ?_
      exact y_iret dX6_set_75 rfl (by exact ⟨rfl, by rw [nI_clamp (by omega), m_begin_A]; rfl⟩)
    · exact absurd h49 (by rw [hD]; intro h; exact absurd ((nI_eq (b := 40) (by omega) (by omega)).mp h) (by omega))
  · exact absurd h37 he
theorem c_X6_crack_bad (σ : zSt) (i : Int32) (hi : ¬ m_in i 0 (fI σ 5 0 10 - 1)) : Mf 3 mi_X6_crack [zr 5 0, zi i] σ (some (zi (-1))) σ := by
  refine Mt_of (ls := [some (zr 5 0), some (zi i)]) (by decide +kernel) rfl rfl ?_
  refine y_aload_n (q := 1) dX6_crack_0 rfl rfl rfl ?_
  refine y_iload_n (q := 2) dX6_crack_1 rfl rfl rfl ?_
  refine y_cV (q := 5) (c_X6_isLamp_0 _ _ hi) lk_X6_128 zok5 (by decide) rfl rfl rfl rfl rfl dX6_crack_2 rfl ?_
  refine y_if_ne (q := 8) 10 dX6_crack_5 rfl rfl (fun h => absurd h (by decide)) (fun h5 => ?_)
  refine y_iconst (q := 9) dX6_crack_8 ic_m1 rfl ?_
  exact y_iret dX6_crack_9 rfl (by exact ⟨rfl, rfl⟩)
theorem c_X6_crack_full (σ : zSt) (k : Nat) (hk : k < 9) (hL : fI σ 5 0 10 = 9) (hD : fI σ 5 0 14 = nI 40) : Mf 3 mi_X6_crack [zr 5 0, zi (nI k)] σ (some (zi (-2))) σ := by
  refine Mt_of (ls := [some (zr 5 0), some (zi (nI k))]) (by decide +kernel) rfl rfl ?_
  refine y_aload_n (q := 1) dX6_crack_0 rfl rfl rfl ?_
  refine y_iload_n (q := 2) dX6_crack_1 rfl rfl rfl ?_
  refine y_cV (q := 5) (c_X6_isLamp_1 _ _ (lamp_in hL hk)) lk_X6_128 zok5 (by decide) rfl rfl rfl rfl rfl dX6_crack_2 rfl ?_
  refine y_if_ne (q := 8) 10 dX6_crack_5 rfl rfl (fun h5 => ?_) (fun h => absurd h (by decide))
  refine y_aload_n (q := 11) dX6_crack_10 rfl rfl rfl ?_
  refine y_get (q := 14) fk_X6_97 zok5 (gv_5_14 _ _) dX6_crack_11 rfl ?_
  rw [hD]
  refine y_bipush (q := 16) dX6_crack_14 bp_40 rfl ?_
  refine y_icmp_ne (q := 19) 22 dX6_crack_16 rfl rfl (fun h16 => ?_) (fun h16 => ?_)
  · exact absurd rfl h16
  · refine y_bipush (q := 21) dX6_crack_19 bp_m2 rfl ?_
    exact y_iret dX6_crack_21 rfl (by exact ⟨rfl, rfl⟩)
theorem c_X6_crack_ok (σ : zSt) (n k : Nat) (hk : k < 9) (hL : fI σ 5 0 10 = 9) (hD : fI σ 5 0 14 = nI n) (hn : n < 40) : Mf 3 mi_X6_crack [zr 5 0, zi (nI k)] σ (some (zi (b2i (m_bit (fA (m_crack1 σ n k) 28 (11 * (n + 1) + 10)) (nI k) = 1)))) (m_crack1 σ n k) := by
  refine Mt_of (ls := [some (zr 5 0), some (zi (nI k))]) (by decide +kernel) rfl rfl ?_
  refine y_aload_n (q := 1) dX6_crack_0 rfl rfl rfl ?_
  refine y_iload_n (q := 2) dX6_crack_1 rfl rfl rfl ?_
  refine y_cV (q := 5) (c_X6_isLamp_1 _ _ (lamp_in hL hk)) lk_X6_128 zok5 (by decide) rfl rfl rfl rfl rfl dX6_crack_2 rfl ?_
  refine y_if_ne (q := 8) 10 dX6_crack_5 rfl rfl (fun h5 => ?_) (fun h => absurd h (by decide))
  refine y_aload_n (q := 11) dX6_crack_10 rfl rfl rfl ?_
  refine y_get (q := 14) fk_X6_97 zok5 (gv_5_14 _ _) dX6_crack_11 rfl ?_
  refine y_bipush (q := 16) dX6_crack_14 bp_40 rfl ?_
  refine y_icmp_ne (q := 19) 22 dX6_crack_16 rfl rfl (fun h16 => ?_) (fun h16 => ?_)
  · refine y_aload_n (q := 23) dX6_crack_22 rfl rfl rfl ?_
    refine y_cV0 (q := 26) (c_X6_begin _ n hD hn) lk_X6_141 zok5 (by decide) rfl rfl rfl rfl rfl dX6_crack_23 rfl ?_
    refine y_aload_n (q := 27) dX6_crack_26 rfl rfl rfl ?_
    refine y_get (q := 30) fk_X6_39 zok5 (gv_5_13 _ _) dX6_crack_27 rfl ?_
    refine y_bipush (q := 32) dX6_crack_30 bp_11 rfl ?_
    refine y_aload_n (q := 33) dX6_crack_32 rfl rfl rfl ?_
    refine y_get (q := 36) fk_X6_97 zok5 (gv_5_14 _ _) dX6_crack_33 rfl ?_
    rw [m_begin_D]
    refine y_imul (q := 37) dX6_crack_36 rfl ?_
    refine y_bipush (q := 39) dX6_crack_37 bp_10 rfl ?_
    refine y_iadd (q := 40) dX6_crack_39 rfl ?_
    rw [show (10 : Int32) = nI 10 from rfl, ix11]
    refine y_aload_n (q := 41) dX6_crack_40 rfl rfl rfl ?_
    refine y_bipush (q := 43) dX6_crack_41 bp_10 rfl ?_
    refine y_cV (q := 46) (c_X6_now _ (n + 1) 10 (m_begin_D σ n) (by omega) (by decide)) lk_X6_118 zok5 (by decide) rfl rfl rfl rfl rfl dX6_crack_43 rfl ?_
    refine y_iload_n (q := 47) dX6_crack_46 rfl rfl rfl ?_
    refine y_cS (q := 50) (c_X6_flipped _ _ _) lk_X6_148 rfl rfl rfl rfl dX6_crack_47 rfl ?_
    refine y_iast (q := 51) (by first | decide | assumption | omega) (zvinN (n := 451) (by omega) (by decide)) dX6_crack_50 rfl ?_
    refine y_state (σ' := m_crack1 σ n k) (by rw [nI_clamp (by omega), m_begin_A]; rfl) ?_
    refine y_aload_n (q := 52) dX6_crack_51 rfl rfl rfl ?_
    refine y_bipush (q := 54) dX6_crack_52 bp_10 rfl ?_
    refine y_cV (q := 57) (c_X6_now (m_crack1 σ n k) (n + 1) 10 (m_begin_D σ n) (by omega) (by decide)) lk_X6_118 zok5 (by decide) rfl rfl rfl rfl rfl dX6_crack_54 rfl ?_
    refine y_iload_n (q := 58) dX6_crack_57 rfl rfl rfl ?_
    refine y_cS (q := 61) (c_X6_has _ _ _) lk_X6_104 rfl rfl rfl rfl dX6_crack_58 rfl ?_
    refine y_if_eqB (q := 64) 68 dX6_crack_61 rfl rfl (fun h61 => ?_) (fun h61 => ?_)
    · refine y_iconst (q := 69) dX6_crack_68 ic_0 rfl ?_
      exact y_iret dX6_crack_69 rfl (by refine ⟨?_, rfl⟩; first | (rw [b2i_t h61]; done) | (rw [b2i_f h61]; done))
    · refine y_iconst (q := 65) dX6_crack_64 ic_1 rfl ?_
      refine y_goto 69 dX6_crack_65 rfl ?_
      exact y_iret dX6_crack_69 rfl (by refine ⟨?_, rfl⟩; first | (rw [b2i_t h61]; done) | (rw [b2i_f h61]; done))
  · exact absurd h16 (by rw [hD]; intro h; exact absurd ((nI_eq (b := 40) (by omega) (by omega)).mp h) (by omega))
theorem c_X6_undo_bad (σ : zSt) (x : Int32) (hx : ¬ m_in x 0 (fI σ 5 0 14)) : Mf 1 mi_X6_undo [zr 5 0, zi x] σ (some (zi (-1))) σ := by
  refine Mt_of (ls := [some (zr 5 0), some (zi x), none]) (by decide +kernel) rfl rfl ?_
  refine y_iload_n (q := 1) dX6_undo_0 rfl rfl rfl ?_
  refine y_iconst (q := 2) dX6_undo_1 ic_0 rfl ?_
  refine y_aload_n (q := 3) dX6_undo_2 rfl rfl rfl ?_
  refine y_get (q := 6) fk_X6_97 zok5 (gv_5_14 _ _) dX6_undo_3 rfl ?_
  refine y_cS (q := 9) (c_X6_in_0 _ _ _ _ hx) lk_X6_64 rfl rfl rfl rfl dX6_undo_6 rfl ?_
  refine y_if_ne (q := 12) 14 dX6_undo_9 rfl rfl (fun h => absurd h (by decide)) (fun h9 => ?_)
  refine y_iconst (q := 13) dX6_undo_12 ic_m1 rfl ?_
  exact y_iret dX6_undo_13 rfl (by exact ⟨rfl, rfl⟩)
theorem c_X6_undo_ok (σ : zSt) (x : Int32) (hx : m_in x 0 (fI σ 5 0 14)) : Mf 1 mi_X6_undo [zr 5 0, zi x] σ (some (zi (fI σ 5 0 14 - x))) (sI σ 5 0 14 x) := by
  refine Mt_of (ls := [some (zr 5 0), some (zi x), none]) (by decide +kernel) rfl rfl ?_
  refine y_iload_n (q := 1) dX6_undo_0 rfl rfl rfl ?_
  refine y_iconst (q := 2) dX6_undo_1 ic_0 rfl ?_
  refine y_aload_n (q := 3) dX6_undo_2 rfl rfl rfl ?_
  refine y_get (q := 6) fk_X6_97 zok5 (gv_5_14 _ _) dX6_undo_3 rfl ?_
  refine y_cS (q := 9) (c_X6_in_1 _ _ _ _ hx) lk_X6_64 rfl rfl rfl rfl dX6_undo_6 rfl ?_
  refine y_if_ne (q := 12) 14 dX6_undo_9 rfl rfl (fun h9 => ?_) (fun h => absurd h (by decide))
  refine y_aload_n (q := 15) dX6_undo_14 rfl rfl rfl ?_
  refine y_get (q := 18) fk_X6_97 zok5 (gv_5_14 _ _) dX6_undo_15 rfl ?_
  refine y_iload_n (q := 19) dX6_undo_18 rfl rfl rfl ?_
  refine y_isub (q := 20) dX6_undo_19 rfl ?_
  refine y_istore_n2 (q := 21) dX6_undo_20 rfl rfl rfl ?_
  refine y_aload_n (q := 22) dX6_undo_21 rfl rfl rfl ?_
  refine y_iload_n (q := 23) dX6_undo_22 rfl rfl rfl ?_
  refine y_putI (q := 26) fk_X6_97 (by decide) zok5 dX6_undo_23 rfl ?_
  refine y_iload_n (q := 27) dX6_undo_26 rfl rfl rfl ?_
  exact y_iret dX6_undo_27 rfl (by exact ⟨rfl, rfl⟩)
theorem ix451 (k i : Nat) : (451 : Int32) * nI k + nI i = nI (451 * k + i) := by rw [show (451 : Int32) * nI k = nI (451 * k) from pk_mul 451 k, nI_add]
def m_keep (σ : zSt) (k n : Nat) : zSt := sA (sA σ 29 (m_cp (fA σ 29) (fA σ 28) (451 * k) 0 451)) 30 (upd (fA σ 30) k (nI n))
def m_on (σ : zSt) (k n : Nat) : zSt := sI (sA σ 28 (m_cp (fA σ 28) (fA σ 29) 0 (451 * k) 451)) 5 0 14 (nI n)
theorem c_X6_keep_bad (σ : zSt) (x : Int32) (hk : x < 0 ∨ 3 ≤ x) : Mf 1 mi_X6_keep [zr 5 0, zi x] σ (some (zi (-1))) σ := by
  refine Mt_of (ls := [some (zr 5 0), some (zi x), none]) (by decide +kernel) rfl rfl ?_
  refine y_iload_n (q := 1) dX6_keep_0 rfl rfl rfl ?_
  refine y_iconst (q := 2) dX6_keep_1 ic_0 rfl ?_
  refine y_iconst (q := 3) dX6_keep_2 ic_2 rfl ?_
  refine y_cS (q := 6) (c_X6_in_0 _ _ _ _ (m_outN (n := 2) hk (by decide))) lk_X6_64 rfl rfl rfl rfl dX6_keep_3 rfl ?_
  refine y_if_ne (q := 9) 11 dX6_keep_6 rfl rfl (fun h => absurd h (by decide)) (fun h6 => ?_)
  refine y_iconst (q := 10) dX6_keep_9 ic_m1 rfl ?_
  exact y_iret dX6_keep_10 rfl (by exact ⟨rfl, rfl⟩)
theorem c_X6_on_bad (σ : zSt) (x : Int32) (hk : x < 0 ∨ 3 ≤ x) : Mf 1 mi_X6_on [zr 5 0, zi x] σ (some (zi (-1))) σ := by
  refine Mt_of (ls := [some (zr 5 0), some (zi x), none]) (by decide +kernel) rfl rfl ?_
  refine y_iload_n (q := 1) dX6_on_0 rfl rfl rfl ?_
  refine y_iconst (q := 2) dX6_on_1 ic_0 rfl ?_
  refine y_iconst (q := 3) dX6_on_2 ic_2 rfl ?_
  refine y_cS (q := 6) (c_X6_in_0 _ _ _ _ (m_outN (n := 2) hk (by decide))) lk_X6_64 rfl rfl rfl rfl dX6_on_3 rfl ?_
  refine y_if_ne (q := 9) 11 dX6_on_6 rfl rfl (fun h => absurd h (by decide)) (fun h6 => ?_)
  refine y_iconst (q := 10) dX6_on_9 ic_m1 rfl ?_
  exact y_iret dX6_on_10 rfl (by exact ⟨rfl, rfl⟩)
theorem c_X6_keep_none (σ : zSt) (k : Nat) (hk : k < 3) (hL : fI σ 5 0 10 = 0) : Mf 1 mi_X6_keep [zr 5 0, zi (nI k)] σ (some (zi (-4))) σ := by
  refine Mt_of (ls := [some (zr 5 0), some (zi (nI k)), none]) (by decide +kernel) rfl rfl ?_
  refine y_iload_n (q := 1) dX6_keep_0 rfl rfl rfl ?_
  refine y_iconst (q := 2) dX6_keep_1 ic_0 rfl ?_
  refine y_iconst (q := 3) dX6_keep_2 ic_2 rfl ?_
  refine y_cS (q := 6) (c_X6_in_1 _ _ _ _ (m_inN (n := 2) (by omega) (by decide))) lk_X6_64 rfl rfl rfl rfl dX6_keep_3 rfl ?_
  refine y_if_ne (q := 9) 11 dX6_keep_6 rfl rfl (fun h6 => ?_) (fun h => absurd h (by decide))
  refine y_aload_n (q := 12) dX6_keep_11 rfl rfl rfl ?_
  refine y_get (q := 15) fk_X6_94 zok5 (gv_5_10 _ _) dX6_keep_12 rfl ?_
  rw [hL]
  refine y_if_ne (q := 18) 21 dX6_keep_15 rfl rfl (fun h15 => ?_) (fun h15 => ?_)
  · exact absurd rfl h15
  · refine y_bipush (q := 20) dX6_keep_18 bp_m4 rfl ?_
    exact y_iret dX6_keep_20 rfl (by exact ⟨rfl, rfl⟩)
theorem lp_X6_keep {Q : zQ} (σ : zSt) (k : Nat) (hk : k < 3) (hE : zY mi_X6_keep 1 Q 54 [some (zr 5 0), some (zi (nI k)), some (zi (nI (451)))] [] (sA σ 29 (m_cp (fA σ 29) (fA σ 28) (451 * k) 0 (451)))) : ∀ (m i : Nat) (x2 : Int32) (τ : zSt), i + m = 451 → x2 = nI i → τ = sA σ 29 (m_cp (fA σ 29) (fA σ 28) (451 * k) 0 i) → zY mi_X6_keep 1 Q 23 [some (zr 5 0), some (zi (nI k)), some (zi x2)] [] τ := by
  intro m
  induction m with
  | zero =>
    intro i x2 τ hi e_x2 e_τ
    obtain rfl : i = 451 := by omega
    subst e_x2
    subst e_τ
    refine y_iload_n (q := 24) dX6_keep_23 rfl rfl rfl ?_
    refine y_sipush (q := 27) dX6_keep_24 sp_451 rfl ?_
    refine y_icmp_ge (q := 30) 54 dX6_keep_27 rfl rfl (fun h27 => ?_) (fun h27 => ?_)
    · exact hE
    · exact absurd (nI_le (a := 451) (b := 451) (Nat.le_refl _) (by omega)) h27
  | succ m ih =>
    intro i x2 τ hi e_x2 e_τ
    refine y_iload_n (q := 24) dX6_keep_23 rfl rfl rfl ?_
    refine y_sipush (q := 27) dX6_keep_24 sp_451 rfl ?_
    refine y_icmp_ge (q := 30) 54 dX6_keep_27 rfl rfl (fun h27 => ?_) (fun h27 => ?_)
    · exact absurd h27 (by rw [e_x2]; exact nI_ge (b := 451) (by omega) (by omega))
    · subst e_x2
      subst e_τ
      refine y_aload_n (q := 31) dX6_keep_30 rfl rfl rfl ?_
      refine y_get (q := 34) fk_X6_42 zok5 (gv_5_15 _ _) dX6_keep_31 rfl ?_
      refine y_sipush (q := 37) dX6_keep_34 sp_451 rfl ?_
      refine y_iload_n (q := 38) dX6_keep_37 rfl rfl rfl ?_
      refine y_imul (q := 39) dX6_keep_38 rfl ?_
      refine y_iload_n (q := 40) dX6_keep_39 rfl rfl rfl ?_
      refine y_iadd (q := 41) dX6_keep_40 rfl ?_
      rw [ix451]
      refine y_aload_n (q := 42) dX6_keep_41 rfl rfl rfl ?_
      refine y_get (q := 45) fk_X6_39 zok5 (gv_5_13 _ _) dX6_keep_42 rfl ?_
      refine y_iload_n (q := 46) dX6_keep_45 rfl rfl rfl ?_
      refine y_iald (q := 47) (by first | decide | assumption | omega) (zvinN (n := 451) (by omega) (by decide)) dX6_keep_46 rfl ?_
      rw [nI_clamp (by omega), fA_ne _ _ (by decide)]
      refine y_iast (q := 48) (by first | decide | assumption | omega) (zvinN (n := 1353) (by omega) (by decide)) dX6_keep_47 rfl ?_
      rw [nI_clamp (by omega), fA_same, sA_sA]
      refine y_iinc_2 (q := 51) dX6_keep_48 rfl ic_1 rfl rfl ?_
      refine y_goto 23 dX6_keep_51 rfl ?_
      exact ih (i + 1) _ _ (by omega) (by rw [nI_1]) (by rw [← m_cp_up, Nat.zero_add])
theorem c_X6_keep_ok (σ : zSt) (k n : Nat) (hk : k < 3) (hL : fI σ 5 0 10 = 9) (hD : fI σ 5 0 14 = nI n) (hn : n ≤ 40) : Mf 1 mi_X6_keep [zr 5 0, zi (nI k)] σ (some (zi (nI n))) (m_keep σ k n) := by
  refine Mt_of (ls := [some (zr 5 0), some (zi (nI k)), none]) (by decide +kernel) rfl rfl ?_
  refine y_iload_n (q := 1) dX6_keep_0 rfl rfl rfl ?_
  refine y_iconst (q := 2) dX6_keep_1 ic_0 rfl ?_
  refine y_iconst (q := 3) dX6_keep_2 ic_2 rfl ?_
  refine y_cS (q := 6) (c_X6_in_1 _ _ _ _ (m_inN (n := 2) (by omega) (by decide))) lk_X6_64 rfl rfl rfl rfl dX6_keep_3 rfl ?_
  refine y_if_ne (q := 9) 11 dX6_keep_6 rfl rfl (fun h6 => ?_) (fun h => absurd h (by decide))
  refine y_aload_n (q := 12) dX6_keep_11 rfl rfl rfl ?_
  refine y_get (q := 15) fk_X6_94 zok5 (gv_5_10 _ _) dX6_keep_12 rfl ?_
  rw [hL]
  refine y_if_ne (q := 18) 21 dX6_keep_15 rfl rfl (fun h15 => ?_) (fun h15 => ?_)
  · refine y_iconst (q := 22) dX6_keep_21 ic_0 rfl ?_
    refine y_istore_n2 (q := 23) dX6_keep_22 rfl rfl rfl ?_
    refine lp_X6_keep σ k hk ?_ 451 0 _ _ (by omega) rfl (by rw [m_cp_0, sA_self])
    refine y_aload_n (q := 55) dX6_keep_54 rfl rfl rfl ?_
    refine y_get (q := 58) fk_X6_45 zok5 (gv_5_16 _ _) dX6_keep_55 rfl ?_
    refine y_iload_n (q := 59) dX6_keep_58 rfl rfl rfl ?_
    refine y_aload_n (q := 60) dX6_keep_59 rfl rfl rfl ?_
    refine y_get (q := 63) fk_X6_97 zok5 (gv_5_14 _ _) dX6_keep_60 rfl ?_
    rw [fI_sA, hD]
    refine y_iast (q := 64) (by first | decide | assumption | omega) (zvinN (n := 3) (by omega) (by decide)) dX6_keep_63 rfl ?_
    rw [nI_clamp (by omega), fA_ne _ _ (by decide)]
    refine y_aload_n (q := 65) dX6_keep_64 rfl rfl rfl ?_
    refine y_get (q := 68) fk_X6_97 zok5 (gv_5_14 _ _) dX6_keep_65 rfl ?_
    exact y_iret dX6_keep_68 rfl (by exact ⟨by rw [fI_sA, fI_sA, hD], rfl⟩)
  · exact absurd h15 (by decide)
theorem c_X6_on_mis (σ : zSt) (k : Nat) (hk : k < 3) (hw : fA σ 30 k = -1) : Mf 1 mi_X6_on [zr 5 0, zi (nI k)] σ (some (zi (-3))) (m_fnd σ 1) := by
  refine Mt_of (ls := [some (zr 5 0), some (zi (nI k)), none]) (by decide +kernel) rfl rfl ?_
  refine y_iload_n (q := 1) dX6_on_0 rfl rfl rfl ?_
  refine y_iconst (q := 2) dX6_on_1 ic_0 rfl ?_
  refine y_iconst (q := 3) dX6_on_2 ic_2 rfl ?_
  refine y_cS (q := 6) (c_X6_in_1 _ _ _ _ (m_inN (n := 2) (by omega) (by decide))) lk_X6_64 rfl rfl rfl rfl dX6_on_3 rfl ?_
  refine y_if_ne (q := 9) 11 dX6_on_6 rfl rfl (fun h6 => ?_) (fun h => absurd h (by decide))
  refine y_aload_n (q := 12) dX6_on_11 rfl rfl rfl ?_
  refine y_get (q := 15) fk_X6_45 zok5 (gv_5_16 _ _) dX6_on_12 rfl ?_
  refine y_iload_n (q := 16) dX6_on_15 rfl rfl rfl ?_
  refine y_iald (q := 17) (by first | decide | assumption | omega) (zvinN (n := 3) (by omega) (by decide)) dX6_on_16 rfl ?_
  rw [nI_clamp (by omega), hw]
  refine y_if_ge (q := 20) 26 dX6_on_17 rfl rfl (fun h17 => ?_) (fun h17 => ?_)
  · exact absurd h17 (by decide)
  · refine y_aload_n (q := 21) dX6_on_20 rfl rfl rfl ?_
    refine y_iconst (q := 22) dX6_on_21 ic_1 rfl ?_
    refine y_cV (q := 25) (c_X6_find _ 1 (by decide)) lk_X6_72 zok5 (by decide) rfl rfl rfl rfl rfl dX6_on_22 rfl ?_
    exact y_iret dX6_on_25 rfl (by exact ⟨rfl, rfl⟩)
theorem lp_X6_on {Q : zQ} (σ : zSt) (k : Nat) (hk : k < 3) (hE : zY mi_X6_on 1 Q 59 [some (zr 5 0), some (zi (nI k)), some (zi (nI (451)))] [] (sA σ 28 (m_cp (fA σ 28) (fA σ 29) 0 (451 * k) (451)))) : ∀ (m i : Nat) (x2 : Int32) (τ : zSt), i + m = 451 → x2 = nI i → τ = sA σ 28 (m_cp (fA σ 28) (fA σ 29) 0 (451 * k) i) → zY mi_X6_on 1 Q 28 [some (zr 5 0), some (zi (nI k)), some (zi x2)] [] τ := by
  intro m
  induction m with
  | zero =>
    intro i x2 τ hi e_x2 e_τ
    obtain rfl : i = 451 := by omega
    subst e_x2
    subst e_τ
    refine y_iload_n (q := 29) dX6_on_28 rfl rfl rfl ?_
    refine y_sipush (q := 32) dX6_on_29 sp_451 rfl ?_
    refine y_icmp_ge (q := 35) 59 dX6_on_32 rfl rfl (fun h32 => ?_) (fun h32 => ?_)
    · exact hE
    · exact absurd (nI_le (a := 451) (b := 451) (Nat.le_refl _) (by omega)) h32
  | succ m ih =>
    intro i x2 τ hi e_x2 e_τ
    refine y_iload_n (q := 29) dX6_on_28 rfl rfl rfl ?_
    refine y_sipush (q := 32) dX6_on_29 sp_451 rfl ?_
    refine y_icmp_ge (q := 35) 59 dX6_on_32 rfl rfl (fun h32 => ?_) (fun h32 => ?_)
    · exact absurd h32 (by rw [e_x2]; exact nI_ge (b := 451) (by omega) (by omega))
    · subst e_x2
      subst e_τ
      refine y_aload_n (q := 36) dX6_on_35 rfl rfl rfl ?_
      refine y_get (q := 39) fk_X6_39 zok5 (gv_5_13 _ _) dX6_on_36 rfl ?_
      refine y_iload_n (q := 40) dX6_on_39 rfl rfl rfl ?_
      refine y_aload_n (q := 41) dX6_on_40 rfl rfl rfl ?_
      refine y_get (q := 44) fk_X6_42 zok5 (gv_5_15 _ _) dX6_on_41 rfl ?_
      refine y_sipush (q := 47) dX6_on_44 sp_451 rfl ?_
      refine y_iload_n (q := 48) dX6_on_47 rfl rfl rfl ?_
      refine y_imul (q := 49) dX6_on_48 rfl ?_
      refine y_iload_n (q := 50) dX6_on_49 rfl rfl rfl ?_
      refine y_iadd (q := 51) dX6_on_50 rfl ?_
      rw [ix451]
      refine y_iald (q := 52) (by first | decide | assumption | omega) (zvinN (n := 1353) (by omega) (by decide)) dX6_on_51 rfl ?_
      rw [nI_clamp (by omega), fA_ne _ _ (by decide)]
      refine y_iast (q := 53) (by first | decide | assumption | omega) (zvinN (n := 451) (by omega) (by decide)) dX6_on_52 rfl ?_
      rw [nI_clamp (by omega), fA_same, sA_sA]
      refine y_iinc_2 (q := 56) dX6_on_53 rfl ic_1 rfl rfl ?_
      refine y_goto 28 dX6_on_56 rfl ?_
      exact ih (i + 1) _ _ (by omega) (by rw [nI_1]) (by rw [← m_cp_up, Nat.zero_add])
theorem c_X6_on_ok (σ : zSt) (k n : Nat) (hk : k < 3) (hw : fA σ 30 k = nI n) (hn : n ≤ 40) : Mf 1 mi_X6_on [zr 5 0, zi (nI k)] σ (some (zi (nI n))) (m_on σ k n) := by
  refine Mt_of (ls := [some (zr 5 0), some (zi (nI k)), none]) (by decide +kernel) rfl rfl ?_
  refine y_iload_n (q := 1) dX6_on_0 rfl rfl rfl ?_
  refine y_iconst (q := 2) dX6_on_1 ic_0 rfl ?_
  refine y_iconst (q := 3) dX6_on_2 ic_2 rfl ?_
  refine y_cS (q := 6) (c_X6_in_1 _ _ _ _ (m_inN (n := 2) (by omega) (by decide))) lk_X6_64 rfl rfl rfl rfl dX6_on_3 rfl ?_
  refine y_if_ne (q := 9) 11 dX6_on_6 rfl rfl (fun h6 => ?_) (fun h => absurd h (by decide))
  refine y_aload_n (q := 12) dX6_on_11 rfl rfl rfl ?_
  refine y_get (q := 15) fk_X6_45 zok5 (gv_5_16 _ _) dX6_on_12 rfl ?_
  refine y_iload_n (q := 16) dX6_on_15 rfl rfl rfl ?_
  refine y_iald (q := 17) (by first | decide | assumption | omega) (zvinN (n := 3) (by omega) (by decide)) dX6_on_16 rfl ?_
  rw [nI_clamp (by omega), hw]
  refine y_if_ge (q := 20) 26 dX6_on_17 rfl rfl (fun h17 => ?_) (fun h17 => ?_)
  · refine y_iconst (q := 27) dX6_on_26 ic_0 rfl ?_
    refine y_istore_n2 (q := 28) dX6_on_27 rfl rfl rfl ?_
    refine lp_X6_on σ k hk ?_ 451 0 _ _ (by omega) rfl (by rw [m_cp_0, sA_self])
    refine y_aload_n (q := 60) dX6_on_59 rfl rfl rfl ?_
    refine y_aload_n (q := 61) dX6_on_60 rfl rfl rfl ?_
    refine y_get (q := 64) fk_X6_45 zok5 (gv_5_16 _ _) dX6_on_61 rfl ?_
    refine y_iload_n (q := 65) dX6_on_64 rfl rfl rfl ?_
    refine y_iald (q := 66) (by first | decide | assumption | omega) (zvinN (n := 3) (by omega) (by decide)) dX6_on_65 rfl ?_
    rw [nI_clamp (by omega), fA_ne _ _ (by decide), hw]
    refine y_putI (q := 69) fk_X6_97 (by decide) zok5 dX6_on_66 rfl ?_
    refine y_aload_n (q := 70) dX6_on_69 rfl rfl rfl ?_
    refine y_get (q := 73) fk_X6_97 zok5 (gv_5_14 _ _) dX6_on_70 rfl ?_
    exact y_iret dX6_on_73 rfl (by exact ⟨by rw [fI_same], rfl⟩)
  · exact absurd (nI_pos' (by omega)) h17
theorem c_X6_touched_bad1 (σ : zSt) (i t o q : Int32) (hi : ¬ m_in i 0 (fI σ 5 0 10 - 1)) : Mf 2 mi_X6_touched [zr 5 0, zi i, zi t, zi o, zi q] σ (some (zi (-1))) σ := by
  refine Mt_of (ls := [some (zr 5 0), some (zi i), some (zi t), some (zi o), some (zi q)]) (by decide +kernel) rfl rfl ?_
  refine y_aload_n (q := 1) dX6_touched_0 rfl rfl rfl ?_
  refine y_iload_n (q := 2) dX6_touched_1 rfl rfl rfl ?_
  refine y_cV (q := 5) (c_X6_isLamp_0 _ _ hi) lk_X6_128 zok5 (by decide) rfl rfl rfl rfl rfl dX6_touched_2 rfl ?_
  refine y_if_eq (q := 8) 48 dX6_touched_5 rfl rfl (fun h5 => ?_) (fun h => absurd (by decide) h)
  refine y_iconst (q := 49) dX6_touched_48 ic_m1 rfl ?_
  exact y_iret dX6_touched_49 rfl (by exact ⟨rfl, rfl⟩)
theorem c_X6_touched_bad2 (σ : zSt) (k : Nat) (t o q : Int32) (hL : fI σ 5 0 10 = 9) (hk : k < 9) (ht : ¬ m_in t 0 (m_steps (fA σ 26 k) - 1)) : Mf 2 mi_X6_touched [zr 5 0, zi (nI k), zi t, zi o, zi q] σ (some (zi (-1))) σ := by
  refine Mt_of (ls := [some (zr 5 0), some (zi (nI k)), some (zi t), some (zi o), some (zi q)]) (by decide +kernel) rfl rfl ?_
  refine y_aload_n (q := 1) dX6_touched_0 rfl rfl rfl ?_
  refine y_iload_n (q := 2) dX6_touched_1 rfl rfl rfl ?_
  refine y_cV (q := 5) (c_X6_isLamp_1 _ _ (lamp_in hL hk)) lk_X6_128 zok5 (by decide) rfl rfl rfl rfl rfl dX6_touched_2 rfl ?_
  refine y_if_eq (q := 8) 48 dX6_touched_5 rfl rfl (fun h => absurd h (by decide)) (fun h5 => ?_)
  refine y_iload_n (q := 9) dX6_touched_8 rfl rfl rfl ?_
  refine y_iconst (q := 10) dX6_touched_9 ic_0 rfl ?_
  refine y_aload_n (q := 11) dX6_touched_10 rfl rfl rfl ?_
  refine y_get (q := 14) fk_X6_33 zok5 (gv_5_11 _ _) dX6_touched_11 rfl ?_
  refine y_iload_n (q := 15) dX6_touched_14 rfl rfl rfl ?_
  refine y_iald (q := 16) (by first | decide | assumption | omega) (zvinN (n := 18) (by omega) (by decide)) dX6_touched_15 rfl ?_
  rw [nI_clamp (by omega)]
  refine y_cS (q := 19) (c_X6_stepsOf _ _) lk_X6_88 rfl rfl rfl rfl dX6_touched_16 rfl ?_
  refine y_iconst (q := 20) dX6_touched_19 ic_1 rfl ?_
  refine y_isub (q := 21) dX6_touched_20 rfl ?_
  refine y_cS (q := 24) (c_X6_in_0 _ _ _ _ ht) lk_X6_64 rfl rfl rfl rfl dX6_touched_21 rfl ?_
  refine y_if_eq (q := 27) 48 dX6_touched_24 rfl rfl (fun h24 => ?_) (fun h => absurd (by decide) h)
  refine y_iconst (q := 49) dX6_touched_48 ic_m1 rfl ?_
  exact y_iret dX6_touched_49 rfl (by exact ⟨rfl, rfl⟩)
theorem c_X6_touched_bad3 (σ : zSt) (k : Nat) (t o q : Int32) (hL : fI σ 5 0 10 = 9) (hk : k < 9) (ht : m_in t 0 (m_steps (fA σ 26 k) - 1)) (ho : ¬ (m_in o 0 1 ∧ m_in q 0 999)) : Mf 2 mi_X6_touched [zr 5 0, zi (nI k), zi t, zi o, zi q] σ (some (zi (-1))) σ := by
  refine Mt_of (ls := [some (zr 5 0), some (zi (nI k)), some (zi t), some (zi o), some (zi q)]) (by decide +kernel) rfl rfl ?_
  refine y_aload_n (q := 1) dX6_touched_0 rfl rfl rfl ?_
  refine y_iload_n (q := 2) dX6_touched_1 rfl rfl rfl ?_
  refine y_cV (q := 5) (c_X6_isLamp_1 _ _ (lamp_in hL hk)) lk_X6_128 zok5 (by decide) rfl rfl rfl rfl rfl dX6_touched_2 rfl ?_
  refine y_if_eq (q := 8) 48 dX6_touched_5 rfl rfl (fun h => absurd h (by decide)) (fun h5 => ?_)
  refine y_iload_n (q := 9) dX6_touched_8 rfl rfl rfl ?_
  refine y_iconst (q := 10) dX6_touched_9 ic_0 rfl ?_
  refine y_aload_n (q := 11) dX6_touched_10 rfl rfl rfl ?_
  refine y_get (q := 14) fk_X6_33 zok5 (gv_5_11 _ _) dX6_touched_11 rfl ?_
  refine y_iload_n (q := 15) dX6_touched_14 rfl rfl rfl ?_
  refine y_iald (q := 16) (by first | decide | assumption | omega) (zvinN (n := 18) (by omega) (by decide)) dX6_touched_15 rfl ?_
  rw [nI_clamp (by omega)]
  refine y_cS (q := 19) (c_X6_stepsOf _ _) lk_X6_88 rfl rfl rfl rfl dX6_touched_16 rfl ?_
  refine y_iconst (q := 20) dX6_touched_19 ic_1 rfl ?_
  refine y_isub (q := 21) dX6_touched_20 rfl ?_
  refine y_cS (q := 24) (c_X6_in_1 _ _ _ _ ht) lk_X6_64 rfl rfl rfl rfl dX6_touched_21 rfl ?_
  refine y_if_eq (q := 27) 48 dX6_touched_24 rfl rfl (fun h => absurd h (by decide)) (fun h24 => ?_)
  refine y_iload_n (q := 28) dX6_touched_27 rfl rfl rfl ?_
  refine y_iconst (q := 29) dX6_touched_28 ic_0 rfl ?_
  refine y_iconst (q := 30) dX6_touched_29 ic_1 rfl ?_
  refine y_cS (q := 33) (c_X6_in _ _ _ _) lk_X6_64 rfl rfl rfl rfl dX6_touched_30 rfl ?_
  refine y_if_eqB (q := 36) 48 dX6_touched_33 rfl rfl (fun h33 => ?_) (fun h33 => ?_)
  · refine y_iconst (q := 49) dX6_touched_48 ic_m1 rfl ?_
    exact y_iret dX6_touched_49 rfl (by exact ⟨rfl, rfl⟩)
  · refine y_iload (q := 38) dX6_touched_36 rfl rfl ?_
    refine y_iconst (q := 39) dX6_touched_38 ic_0 rfl ?_
    refine y_sipush (q := 42) dX6_touched_39 sp_999 rfl ?_
    refine y_cS (q := 45) (c_X6_in _ _ _ _) lk_X6_64 rfl rfl rfl rfl dX6_touched_42 rfl ?_
    refine y_if_neB (q := 48) 50 dX6_touched_45 rfl rfl (fun h45 => ?_) (fun h45 => ?_)
    · exact absurd ⟨h33, h45⟩ ho
    · refine y_iconst (q := 49) dX6_touched_48 ic_m1 rfl ?_
      exact y_iret dX6_touched_49 rfl (by exact ⟨rfl, rfl⟩)
theorem c_X6_touched_ok (σ : zSt) (k : Nat) (t o q : Int32) (hL : fI σ 5 0 10 = 9) (hk : k < 9) (ht : m_in t 0 (m_steps (fA σ 26 k) - 1)) (ho : m_in o 0 1) (hq : m_in q 0 999) : Mf 2 mi_X6_touched [zr 5 0, zi (nI k), zi t, zi o, zi q] σ (some (zi (m_aft (fA σ 26 k) t (if o = 1 then 1 else 0) q))) σ := by
  refine Mt_of (ls := [some (zr 5 0), some (zi (nI k)), some (zi t), some (zi o), some (zi q)]) (by decide +kernel) rfl rfl ?_
  refine y_aload_n (q := 1) dX6_touched_0 rfl rfl rfl ?_
  refine y_iload_n (q := 2) dX6_touched_1 rfl rfl rfl ?_
  refine y_cV (q := 5) (c_X6_isLamp_1 _ _ (lamp_in hL hk)) lk_X6_128 zok5 (by decide) rfl rfl rfl rfl rfl dX6_touched_2 rfl ?_
  refine y_if_eq (q := 8) 48 dX6_touched_5 rfl rfl (fun h => absurd h (by decide)) (fun h5 => ?_)
  refine y_iload_n (q := 9) dX6_touched_8 rfl rfl rfl ?_
  refine y_iconst (q := 10) dX6_touched_9 ic_0 rfl ?_
  refine y_aload_n (q := 11) dX6_touched_10 rfl rfl rfl ?_
  refine y_get (q := 14) fk_X6_33 zok5 (gv_5_11 _ _) dX6_touched_11 rfl ?_
  refine y_iload_n (q := 15) dX6_touched_14 rfl rfl rfl ?_
  refine y_iald (q := 16) (by first | decide | assumption | omega) (zvinN (n := 18) (by omega) (by decide)) dX6_touched_15 rfl ?_
  rw [nI_clamp (by omega)]
  refine y_cS (q := 19) (c_X6_stepsOf _ _) lk_X6_88 rfl rfl rfl rfl dX6_touched_16 rfl ?_
  refine y_iconst (q := 20) dX6_touched_19 ic_1 rfl ?_
  refine y_isub (q := 21) dX6_touched_20 rfl ?_
  refine y_cS (q := 24) (c_X6_in_1 _ _ _ _ ht) lk_X6_64 rfl rfl rfl rfl dX6_touched_21 rfl ?_
  refine y_if_eq (q := 27) 48 dX6_touched_24 rfl rfl (fun h => absurd h (by decide)) (fun h24 => ?_)
  refine y_iload_n (q := 28) dX6_touched_27 rfl rfl rfl ?_
  refine y_iconst (q := 29) dX6_touched_28 ic_0 rfl ?_
  refine y_iconst (q := 30) dX6_touched_29 ic_1 rfl ?_
  refine y_cS (q := 33) (c_X6_in_1 _ _ _ _ ho) lk_X6_64 rfl rfl rfl rfl dX6_touched_30 rfl ?_
  refine y_if_eq (q := 36) 48 dX6_touched_33 rfl rfl (fun h => absurd h (by decide)) (fun h33 => ?_)
  refine y_iload (q := 38) dX6_touched_36 rfl rfl ?_
  refine y_iconst (q := 39) dX6_touched_38 ic_0 rfl ?_
  refine y_sipush (q := 42) dX6_touched_39 sp_999 rfl ?_
  refine y_cS (q := 45) (c_X6_in_1 _ _ _ _ hq) lk_X6_64 rfl rfl rfl rfl dX6_touched_42 rfl ?_
  refine y_if_ne (q := 48) 50 dX6_touched_45 rfl rfl (fun h45 => ?_) (fun h => absurd h (by decide))
  refine y_aload_n (q := 51) dX6_touched_50 rfl rfl rfl ?_
  refine y_get (q := 54) fk_X6_33 zok5 (gv_5_11 _ _) dX6_touched_51 rfl ?_
  refine y_iload_n (q := 55) dX6_touched_54 rfl rfl rfl ?_
  refine y_iald (q := 56) (by first | decide | assumption | omega) (zvinN (n := 18) (by omega) (by decide)) dX6_touched_55 rfl ?_
  rw [nI_clamp (by omega)]
  refine y_iload_n (q := 57) dX6_touched_56 rfl rfl rfl ?_
  refine y_iload_n (q := 58) dX6_touched_57 rfl rfl rfl ?_
  refine y_iconst (q := 59) dX6_touched_58 ic_1 rfl ?_
  refine y_icmp_ne (q := 62) 66 dX6_touched_59 rfl rfl (fun h59 => ?_) (fun h59 => ?_)
  · refine y_iconst (q := 67) dX6_touched_66 ic_0 rfl ?_
    refine y_iload (q := 69) dX6_touched_67 rfl rfl ?_
    refine y_cS (q := 72) (c_X6_after _ _ _ _ _) lk_X6_114 rfl rfl rfl rfl dX6_touched_69 rfl ?_
    exact y_iret dX6_touched_72 rfl (by refine ⟨?_, rfl⟩; first | (rw [if_pos h59]; done) | (rw [if_neg h59]; done))
  · refine y_iconst (q := 63) dX6_touched_62 ic_1 rfl ?_
    refine y_goto 67 dX6_touched_63 rfl ?_
    refine y_iload (q := 69) dX6_touched_67 rfl rfl ?_
    refine y_cS (q := 72) (c_X6_after _ _ _ _ _) lk_X6_114 rfl rfl rfl rfl dX6_touched_69 rfl ?_
    exact y_iret dX6_touched_72 rfl (by refine ⟨?_, rfl⟩; first | (rw [if_pos h59]; done) | (rw [if_neg h59]; done))
